/-! by hand -/
theorem hl_ex {L : Nat} {xs : Nat → Int32} {d : Nat} {Z : Option Value → qm_H → Prop} {h : qm_H} (hH : hk_H h) (hB : hk_B h.2.1) {bs : Int32} {t0 c0 f0 : Int} {lf : Nat} (hbs : 0 ≤ bs.toInt ∧ bs.toInt ≤ 6) (ht0 : 0 ≤ t0) (hc0 : 0 ≤ c0 ∧ c0 ≤ 420) (hlf : c0 ≤ (lf : Int)) (k : ∀ (I : Nat → Nat → Int32) (J : Nat → Nat → Int64) (t f cd op : Int32), (hk_B I) → ((∀ o, [118, 141, 142, 143].contains o = false → ∀ i, I o i = h.2.1 o i)) → ((∀ i, [11, 12, 13, 14, 37, 41].contains i = false → I 118 i = h.2.1 118 i)) → (I 118 11 = t) → (I 118 13 = f) → (I 118 37 = cd) → (I 118 12 = op) → ((t0 ≤ t.toInt ∧ t.toInt ≤ 400 ∧ 0 ≤ f.toInt ∧ (f.toInt = 0 → f0 = 0))) → (((lf : Int) ≤ cd.toInt ∧ cd.toInt ≤ c0 + t.toInt + 1 ∧ (f.toInt = 0 → cd.toInt ≤ c0 + t.toInt))) → ((0 ≤ op.toInt ∧ op.toInt ≤ 7)) → (pa h.2.1 I (lf : Int) (c0 + 420)) → ((f.toInt = 0 → op.toInt = bs.toInt ∧ t0 + 1 ≤ t.toInt ∧ pf_seg (pI I 141) (pI I 142) lf cd.toInt.toNat)) → Z none (h.1, I, J, h.2.2.2)) : ∀ m : Nat, (∀ (I : Nat → Nat → Int32) (J : Nat → Nat → Int64) (t f cd wt op : Int32), (hk_B I) → ((∀ o, [118, 141, 142, 143].contains o = false → ∀ i, I o i = h.2.1 o i)) → ((∀ i, [11, 12, 13, 14, 37, 41].contains i = false → I 118 i = h.2.1 118 i)) → (I 118 11 = t) → (I 118 13 = f) → (I 118 37 = cd) → (I 118 41 = wt) → (I 118 12 = op) → ((t0 ≤ t.toInt ∧ t.toInt ≤ 400 ∧ 0 ≤ f.toInt ∧ (f.toInt = 0 → f0 = 0))) → (((lf : Int) ≤ cd.toInt ∧ 0 ≤ wt.toInt ∧ wt.toInt ≤ 30)) → ((cd.toInt + wt.toInt ≤ c0 + t.toInt + 1 ∧ (f.toInt = 0 → cd.toInt + wt.toInt ≤ c0 + t.toInt))) → ((bs.toInt ≤ op.toInt ∧ op.toInt ≤ 7 ∧ (f.toInt = 0 → op.toInt ≤ 6))) → (ws (pI I 143) wt.toInt.toNat) → ((wo (pI I 143) wt.toInt.toNat : Int) = op.toInt - bs.toInt) → (pa h.2.1 I (lf : Int) (c0 + 420)) → ((f.toInt = 0 → pq I lf 0 cd wt)) → (f.toInt = 0 → 401 - t.toInt ≤ (m : Int)) → ∀ l2 : Value, qm_Ru (some (L, xs)) (d + 6) cd_264 (23, [.ref 118, .int bs, l2], [], (h.1, I, J, h.2.2.2)) Z) ∧ (∀ (I : Nat → Nat → Int32) (J : Nat → Nat → Int64) (t f cd wt op : Int32), (hk_B I) → ((∀ o, [118, 141, 142, 143].contains o = false → ∀ i, I o i = h.2.1 o i)) → ((∀ i, [11, 12, 13, 14, 37, 41].contains i = false → I 118 i = h.2.1 118 i)) → (I 118 11 = t) → (I 118 13 = f) → (I 118 37 = cd) → (I 118 41 = wt) → (I 118 12 = op) → ((t0 ≤ t.toInt ∧ t.toInt ≤ 400 ∧ 0 ≤ f.toInt ∧ (f.toInt = 0 → t0 + 1 ≤ t.toInt) ∧ (f.toInt = 0 → f0 = 0))) → (((lf : Int) ≤ cd.toInt ∧ 0 ≤ wt.toInt ∧ wt.toInt ≤ 30)) → ((cd.toInt + wt.toInt ≤ c0 + t.toInt + 1 ∧ (f.toInt = 0 → cd.toInt + wt.toInt ≤ c0 + t.toInt))) → ((bs.toInt ≤ op.toInt ∧ op.toInt ≤ 7 ∧ (f.toInt = 0 → op.toInt ≤ 6))) → (ws (pI I 143) wt.toInt.toNat) → ((wo (pI I 143) wt.toInt.toNat : Int) = op.toInt - bs.toInt) → (pa h.2.1 I (lf : Int) (c0 + 420)) → ((f.toInt = 0 → pq I lf 1 cd wt)) → (f.toInt = 0 → 401 - t.toInt ≤ (m : Int)) → ∀ l2 : Value, qm_Ru (some (L, xs)) (d + 6) cd_264 (96, [.ref 118, .int bs, l2], [], (h.1, I, J, h.2.2.2)) Z) := by
  intro m
  induction m using Nat.strongRecOn with
  | ind m ih =>
    have k0 : (0 : Int32).toInt = 0 := rfl
    have k1 : (1 : Int32).toInt = 1 := rfl
    have k2 : (2 : Int32).toInt = 2 := rfl
    have k3 : (3 : Int32).toInt = 3 := rfl
    have k6 : (6 : Int32).toInt = 6 := rfl
    refine ⟨?_, ?_⟩
    · intro I J t f cd wt op hBI e e8 q_t q_f q_cd q_wt q_op ht hcd hE hop hW hO hA hP hm l2
      have wl0 := ws_le hW
      have wv0 := wo_le (w := pI I 143) wt.toInt.toNat
      refine qm_Ru.go 2 (c' := (26, [.ref 118, .int bs, l2], [.int 6, .ref 118], (h.1, I, J, h.2.2.2))) rfl ?_
      refine hk_inv (o := 118) (r := []) (as := [.ref 118, .int 6]) rfl rfl (hH.1 118 (17, 105) rfl) rfl rfl rfl rfl ?_
      refine qm_Ru.go 1 (c' := (1, [.ref 118, .int 6], [.ref 118], (h.1, I, J, h.2.2.2))) rfl ?_
      refine hk_geti (v := f) rfl (hH.1 118 (17, 105) rfl) rfl q_f ?_
      refine qm_Ru.go 0 (c' := (4, [.ref 118, .int 6], [.int f], (h.1, I, J, h.2.2.2))) rfl ?_
      refine hk_zne (ix := f.toInt) rfl rfl (fun z1 => ?_) (fun z1 => ?_)
      · refine qm_Ru.go 1 (c' := (25, [.ref 118, .int 6], [.int 0], (h.1, I, J, h.2.2.2))) rfl ?_
        refine qm_Ru.rt (v := (some (.int 0))) (h' := (h.1, I, J, h.2.2.2)) rfl ?_
        refine qm_Ru.go 2 (c' := (85, [.ref 118, .int bs, l2], [.ref 118], (h.1, I, J, h.2.2.2))) rfl ?_
        refine hk_inv (o := 118) (r := []) (as := [.ref 118]) rfl rfl (hH.1 118 (17, 105) rfl) rfl rfl rfl rfl ?_
        refine qm_Ru.go 2 (c' := (2, [.ref 118], [.int 2, .ref 118], (h.1, I, J, h.2.2.2))) rfl ?_
        refine hk_inv (o := 118) (r := []) (as := [.ref 118, .int 2]) rfl rfl (hH.1 118 (17, 105) rfl) rfl rfl rfl rfl ?_
        refine qm_Ru.go 1 (c' := (1, [.ref 118, .int 2], [.ref 118], (h.1, I, J, h.2.2.2))) rfl ?_
        refine hk_geti (v := f) rfl (hH.1 118 (17, 105) rfl) rfl q_f ?_
        refine qm_Ru.go 0 (c' := (4, [.ref 118, .int 2], [.int f], (h.1, I, J, h.2.2.2))) rfl ?_
        refine hk_zne (ix := f.toInt) rfl rfl (fun z2 => ?_) (fun z2 => by exfalso; omega)
        refine qm_Ru.go 1 (c' := (25, [.ref 118, .int 2], [.int 0], (h.1, I, J, h.2.2.2))) rfl ?_
        refine qm_Ru.rt (v := (some (.int 0))) (h' := (h.1, I, J, h.2.2.2)) rfl ?_
        refine qm_Ru.go 2 (c' := (30, [.ref 118], [.ref 118], (h.1, I, J, h.2.2.2))) rfl ?_
        refine hk_geti (v := f) rfl (hH.1 118 (17, 105) rfl) rfl q_f ?_
        refine qm_Ru.go 0 (c' := (33, [.ref 118], [.int f], (h.1, I, J, h.2.2.2))) rfl ?_
        refine hk_zne (ix := f.toInt) rfl rfl (fun z3 => ?_) (fun z3 => by exfalso; omega)
        refine qm_Ru.go 2 (c' := (90, [.ref 118], [.int 1, .ref 118], (h.1, I, J, h.2.2.2))) rfl ?_
        refine hk_inv (o := 118) (r := []) (as := [.ref 118, .int 1]) rfl rfl (hH.1 118 (17, 105) rfl) rfl rfl rfl rfl ?_
        refine qm_Ru.go 1 (c' := (1, [.ref 118, .int 1], [.ref 118], (h.1, I, J, h.2.2.2))) rfl ?_
        refine hk_geti (v := f) rfl (hH.1 118 (17, 105) rfl) rfl q_f ?_
        refine qm_Ru.go 0 (c' := (4, [.ref 118, .int 1], [.int f], (h.1, I, J, h.2.2.2))) rfl ?_
        refine hk_zle (ix := f.toInt) rfl rfl (fun z4 => by exfalso; omega) (fun z4 => ?_)
        refine qm_Ru.go 0 (c' := (7, [.ref 118, .int 1], [], (h.1, I, J, h.2.2.2))) rfl ?_
        refine qm_Ru.rt (v := none) (h' := (h.1, I, J, h.2.2.2)) rfl ?_
        refine qm_Ru.go 0 (c' := (93, [.ref 118], [], (h.1, I, J, h.2.2.2))) rfl ?_
        refine qm_Ru.rt (v := none) (h' := (h.1, I, J, h.2.2.2)) rfl ?_
        refine qm_Ru.go 1 (c' := (89, [.ref 118, .int bs, l2], [.ref 118], (h.1, I, J, h.2.2.2))) rfl ?_
        refine hk_geti (v := f) rfl (hH.1 118 (17, 105) rfl) rfl q_f ?_
        refine qm_Ru.go 0 (c' := (92, [.ref 118, .int bs, l2], [.int f], (h.1, I, J, h.2.2.2))) rfl ?_
        refine hk_zle (ix := f.toInt) rfl rfl (fun z5 => by exfalso; omega) (fun z5 => ?_)
        refine qm_Ru.go 0 (c' := (95, [.ref 118, .int bs, l2], [], (h.1, I, J, h.2.2.2))) rfl ?_
        refine qm_Ru.rt (v := none) (h' := (h.1, I, J, h.2.2.2)) rfl ?_
        have E_w6 : pI (I) 143 = pI I 143 := rfl
        have V_w6 : ws (pI (I) 143) wt.toInt.toNat := by rw [E_w6]; exact hW
        have U_w6 : wo (pI (I) 143) wt.toInt.toNat = wo (pI I 143) wt.toInt.toNat := by rw [E_w6]
        have O_w6 := hO
        have L_w6 := ws_le V_w6
        have P_w6 : Int32.toInt f = 0 → pq (I) lf 1 cd wt := by
          intro z
          obtain ⟨p1, p2⟩ := hP z
          have hlc := p1.1
          refine ⟨?_, ?_⟩
          · rw [show pI (I) 141 = pI I 141 from rfl, show pI (I) 142 = pI I 142 from rfl]
            exact p1
          · rw [show pI (I) 141 = pI I 141 from rfl]
            omega
        exact k (I) (J) t f cd op hBI (fun o ho i => ((e o (hk_ms rfl ho) i).trans rfl)) (fun i hi => ((e8 i (hk_ms rfl hi)).trans rfl)) q_t q_f q_cd q_op (by omega) (by omega) (by omega) (pa_cg hA (fun i => rfl) (fun i => rfl)) (fun z => by exfalso; omega)
      · refine qm_Ru.go 1 (c' := (8, [.ref 118, .int 6], [.ref 118], (h.1, I, J, h.2.2.2))) rfl ?_
        refine hk_getr rfl (hH.1 118 (17, 105) rfl) rfl (hH.2 118 5 (some 121) rfl) ?_
        refine qm_Ru.go 1 (c' := (12, [.ref 118, .int 6], [.ref 118, .ref 121], (h.1, I, J, h.2.2.2))) rfl ?_
        refine hk_geti (v := t) rfl (hH.1 118 (17, 105) rfl) rfl q_t ?_
        refine qm_Ru.go 0 (c' := (15, [.ref 118, .int 6], [.int t, .ref 121], (h.1, I, J, h.2.2.2))) rfl ?_
        obtain ⟨v7, q_v7⟩ : ∃ v, h.2.1 121 (t.toInt.toNat) = v := ⟨_, rfl⟩
        have b_v7 : (0 : Int) ≤ v7.toInt ∧ v7.toInt ≤ 44 := by rw [← q_v7]; exact hB 121 (t.toInt.toNat)
        refine hk_ial (v := v7) rfl (hH.1 121 (0, 403) rfl) (by omega) (by omega) (show (I) 121 (t.toInt.toNat) = _ from ((e 121 rfl (t.toInt.toNat)).trans q_v7)) ?_
        refine qm_Ru.go 1 (c' := (17, [.ref 118, .int 6], [.int 6, .int v7], (h.1, I, J, h.2.2.2))) rfl ?_
        refine hk_cne (ix := v7.toInt) (iy := 6) rfl rfl rfl (fun z8 => ?_) (fun z8 => ?_)
        · refine qm_Ru.go 1 (c' := (25, [.ref 118, .int 6], [.int 0], (h.1, I, J, h.2.2.2))) rfl ?_
          refine qm_Ru.rt (v := (some (.int 0))) (h' := (h.1, I, J, h.2.2.2)) rfl ?_
          refine qm_Ru.go 2 (c' := (85, [.ref 118, .int bs, l2], [.ref 118], (h.1, I, J, h.2.2.2))) rfl ?_
          refine hk_inv (o := 118) (r := []) (as := [.ref 118]) rfl rfl (hH.1 118 (17, 105) rfl) rfl rfl rfl rfl ?_
          refine qm_Ru.go 2 (c' := (2, [.ref 118], [.int 2, .ref 118], (h.1, I, J, h.2.2.2))) rfl ?_
          refine hk_inv (o := 118) (r := []) (as := [.ref 118, .int 2]) rfl rfl (hH.1 118 (17, 105) rfl) rfl rfl rfl rfl ?_
          refine qm_Ru.go 1 (c' := (1, [.ref 118, .int 2], [.ref 118], (h.1, I, J, h.2.2.2))) rfl ?_
          refine hk_geti (v := f) rfl (hH.1 118 (17, 105) rfl) rfl q_f ?_
          refine qm_Ru.go 0 (c' := (4, [.ref 118, .int 2], [.int f], (h.1, I, J, h.2.2.2))) rfl ?_
          refine hk_zne (ix := f.toInt) rfl rfl (fun z9 => by exfalso; omega) (fun z9 => ?_)
          refine qm_Ru.go 1 (c' := (8, [.ref 118, .int 2], [.ref 118], (h.1, I, J, h.2.2.2))) rfl ?_
          refine hk_getr rfl (hH.1 118 (17, 105) rfl) rfl (hH.2 118 5 (some 121) rfl) ?_
          refine qm_Ru.go 1 (c' := (12, [.ref 118, .int 2], [.ref 118, .ref 121], (h.1, I, J, h.2.2.2))) rfl ?_
          refine hk_geti (v := t) rfl (hH.1 118 (17, 105) rfl) rfl q_t ?_
          refine qm_Ru.go 0 (c' := (15, [.ref 118, .int 2], [.int t, .ref 121], (h.1, I, J, h.2.2.2))) rfl ?_
          refine hk_ial (v := v7) rfl (hH.1 121 (0, 403) rfl) (by omega) (by omega) (show (I) 121 (t.toInt.toNat) = _ from ((e 121 rfl (t.toInt.toNat)).trans q_v7)) ?_
          refine qm_Ru.go 1 (c' := (17, [.ref 118, .int 2], [.int 2, .int v7], (h.1, I, J, h.2.2.2))) rfl ?_
          refine hk_cne (ix := v7.toInt) (iy := 2) rfl rfl rfl (fun z10 => ?_) (fun z10 => ?_)
          · refine qm_Ru.go 1 (c' := (25, [.ref 118, .int 2], [.int 0], (h.1, I, J, h.2.2.2))) rfl ?_
            refine qm_Ru.rt (v := (some (.int 0))) (h' := (h.1, I, J, h.2.2.2)) rfl ?_
            refine qm_Ru.go 2 (c' := (30, [.ref 118], [.ref 118], (h.1, I, J, h.2.2.2))) rfl ?_
            refine hk_geti (v := f) rfl (hH.1 118 (17, 105) rfl) rfl q_f ?_
            refine qm_Ru.go 0 (c' := (33, [.ref 118], [.int f], (h.1, I, J, h.2.2.2))) rfl ?_
            refine hk_zne (ix := f.toInt) rfl rfl (fun z11 => by exfalso; omega) (fun z11 => ?_)
            refine qm_Ru.go 1 (c' := (37, [.ref 118], [.ref 118], (h.1, I, J, h.2.2.2))) rfl ?_
            refine hk_getr rfl (hH.1 118 (17, 105) rfl) rfl (hH.2 118 5 (some 121) rfl) ?_
            refine qm_Ru.go 1 (c' := (41, [.ref 118], [.ref 118, .ref 121], (h.1, I, J, h.2.2.2))) rfl ?_
            refine hk_geti (v := t) rfl (hH.1 118 (17, 105) rfl) rfl q_t ?_
            refine qm_Ru.go 0 (c' := (44, [.ref 118], [.int t, .ref 121], (h.1, I, J, h.2.2.2))) rfl ?_
            refine hk_ial (v := v7) rfl (hH.1 121 (0, 403) rfl) (by omega) (by omega) (show (I) 121 (t.toInt.toNat) = _ from ((e 121 rfl (t.toInt.toNat)).trans q_v7)) ?_
            refine qm_Ru.go 1 (c' := (47, [.ref 118], [.int 32, .int v7], (h.1, I, J, h.2.2.2))) rfl ?_
            refine hk_clt (ix := v7.toInt) (iy := 32) rfl rfl rfl (fun z12 => ?_) (fun z12 => ?_)
            · refine qm_Ru.go 2 (c' := (90, [.ref 118], [.int 1, .ref 118], (h.1, I, J, h.2.2.2))) rfl ?_
              refine hk_inv (o := 118) (r := []) (as := [.ref 118, .int 1]) rfl rfl (hH.1 118 (17, 105) rfl) rfl rfl rfl rfl ?_
              refine qm_Ru.go 1 (c' := (1, [.ref 118, .int 1], [.ref 118], (h.1, I, J, h.2.2.2))) rfl ?_
              refine hk_geti (v := f) rfl (hH.1 118 (17, 105) rfl) rfl q_f ?_
              refine qm_Ru.go 0 (c' := (4, [.ref 118, .int 1], [.int f], (h.1, I, J, h.2.2.2))) rfl ?_
              refine hk_zle (ix := f.toInt) rfl rfl (fun z13 => ?_) (fun z13 => by exfalso; omega)
              refine qm_Ru.go 2 (c' := (10, [.ref 118, .int 1], [.int 1, .ref 118], (h.1, I, J, h.2.2.2))) rfl ?_
              refine hk_puti rfl (hH.1 118 (17, 105) rfl) rfl ?_
              refine qm_Ru.go 2 (c' := (15, [.ref 118, .int 1], [.ref 118, .ref 118], (h.1, qm_up I 118 13 1, J, h.2.2.2))) rfl ?_
              refine hk_getr rfl (hH.1 118 (17, 105) rfl) rfl (hH.2 118 6 (some 122) rfl) ?_
              refine qm_Ru.go 1 (c' := (19, [.ref 118, .int 1], [.ref 118, .ref 122, .ref 118], (h.1, qm_up I 118 13 1, J, h.2.2.2))) rfl ?_
              refine hk_geti (v := t) rfl (hH.1 118 (17, 105) rfl) rfl (show (qm_up I 118 13 1) 118 11 = _ from ((hk_neq (by decide)).trans q_t)) ?_
              refine qm_Ru.go 0 (c' := (22, [.ref 118, .int 1], [.int t, .ref 122, .ref 118], (h.1, qm_up I 118 13 1, J, h.2.2.2))) rfl ?_
              obtain ⟨v14, q_v14⟩ : ∃ v, h.2.1 122 (t.toInt.toNat) = v := ⟨_, rfl⟩
              refine hk_ial (v := v14) rfl (hH.1 122 (0, 403) rfl) (by omega) (by omega) (show (qm_up I 118 13 1) 122 (t.toInt.toNat) = _ from ((hk_ot rfl).trans ((e 122 rfl (t.toInt.toNat)).trans q_v14))) ?_
              refine qm_Ru.go 0 (c' := (23, [.ref 118, .int 1], [.int v14, .ref 118], (h.1, qm_up I 118 13 1, J, h.2.2.2))) rfl ?_
              refine hk_puti rfl (hH.1 118 (17, 105) rfl) rfl ?_
              refine qm_Ru.go 0 (c' := (26, [.ref 118, .int 1], [], (h.1, qm_up (qm_up I 118 13 1) 118 14 v14, J, h.2.2.2))) rfl ?_
              refine qm_Ru.rt (v := none) (h' := (h.1, qm_up (qm_up I 118 13 1) 118 14 v14, J, h.2.2.2)) rfl ?_
              refine qm_Ru.go 0 (c' := (93, [.ref 118], [], (h.1, qm_up (qm_up I 118 13 1) 118 14 v14, J, h.2.2.2))) rfl ?_
              refine qm_Ru.rt (v := none) (h' := (h.1, qm_up (qm_up I 118 13 1) 118 14 v14, J, h.2.2.2)) rfl ?_
              refine qm_Ru.go 1 (c' := (89, [.ref 118, .int bs, l2], [.ref 118], (h.1, qm_up (qm_up I 118 13 1) 118 14 v14, J, h.2.2.2))) rfl ?_
              refine hk_geti (v := 1) rfl (hH.1 118 (17, 105) rfl) rfl (show (qm_up (qm_up I 118 13 1) 118 14 v14) 118 13 = _ from ((hk_neq (by decide)).trans (hk_same))) ?_
              refine qm_Ru.go 1 (c' := (95, [.ref 118, .int bs, l2], [], (h.1, qm_up (qm_up I 118 13 1) 118 14 v14, J, h.2.2.2))) rfl ?_
              refine qm_Ru.rt (v := none) (h' := (h.1, qm_up (qm_up I 118 13 1) 118 14 v14, J, h.2.2.2)) rfl ?_
              have E_w15 : pI (qm_up (qm_up I 118 13 1) 118 14 v14) 143 = pI I 143 := ((pI_sk rfl).trans ((pI_sk rfl).trans rfl))
              have V_w15 : ws (pI (qm_up (qm_up I 118 13 1) 118 14 v14) 143) wt.toInt.toNat := by rw [E_w15]; exact hW
              have U_w15 : wo (pI (qm_up (qm_up I 118 13 1) 118 14 v14) 143) wt.toInt.toNat = wo (pI I 143) wt.toInt.toNat := by rw [E_w15]
              have O_w15 := hO
              have L_w15 := ws_le V_w15
              have P_w15 : Int32.toInt 1 = 0 → pq (qm_up (qm_up I 118 13 1) 118 14 v14) lf 1 cd wt := by
                intro z; exact absurd z (by decide)
              exact k (qm_up (qm_up I 118 13 1) 118 14 v14) (J) t 1 cd op (hb_up (o := 118) (k := 14) (x := v14) (hb_up (o := 118) (k := 13) (x := 1) hBI (qa_in_full _)) (qa_in_full _)) (fun o ho i => ((hk_mod ho rfl).trans ((hk_mod ho rfl).trans ((e o (hk_ms rfl ho) i).trans rfl)))) (fun i hi => ((hk_neq (fun z => by subst z; cases hi)).trans ((hk_neq (fun z => by subst z; cases hi)).trans ((e8 i (hk_ms rfl hi)).trans rfl)))) (show (qm_up (qm_up I 118 13 1) 118 14 v14) 118 11 = _ from ((hk_neq (by decide)).trans ((hk_neq (by decide)).trans q_t))) (show (qm_up (qm_up I 118 13 1) 118 14 v14) 118 13 = _ from ((hk_neq (by decide)).trans (hk_same))) (show (qm_up (qm_up I 118 13 1) 118 14 v14) 118 37 = _ from ((hk_neq (by decide)).trans ((hk_neq (by decide)).trans q_cd))) (show (qm_up (qm_up I 118 13 1) 118 14 v14) 118 12 = _ from ((hk_neq (by decide)).trans ((hk_neq (by decide)).trans q_op))) (by omega) (by omega) (by omega) (pa_cg hA (fun i => ((hk_ot rfl).trans ((hk_ot rfl).trans rfl))) (fun i => ((hk_ot rfl).trans ((hk_ot rfl).trans rfl)))) (fun z => absurd z (by decide))
            · refine qm_Ru.go 1 (c' := (51, [.ref 118], [.ref 118], (h.1, I, J, h.2.2.2))) rfl ?_
              refine hk_getr rfl (hH.1 118 (17, 105) rfl) rfl (hH.2 118 5 (some 121) rfl) ?_
              refine qm_Ru.go 1 (c' := (55, [.ref 118], [.ref 118, .ref 121], (h.1, I, J, h.2.2.2))) rfl ?_
              refine hk_geti (v := t) rfl (hH.1 118 (17, 105) rfl) rfl q_t ?_
              refine qm_Ru.go 0 (c' := (58, [.ref 118], [.int t, .ref 121], (h.1, I, J, h.2.2.2))) rfl ?_
              refine hk_ial (v := v7) rfl (hH.1 121 (0, 403) rfl) (by omega) (by omega) (show (I) 121 (t.toInt.toNat) = _ from ((e 121 rfl (t.toInt.toNat)).trans q_v7)) ?_
              refine qm_Ru.go 1 (c' := (61, [.ref 118], [.int 44, .int v7], (h.1, I, J, h.2.2.2))) rfl ?_
              refine hk_cgt (ix := v7.toInt) (iy := 44) rfl rfl rfl (fun z16 => by exfalso; omega) (fun z16 => ?_)
              refine qm_Ru.go 3 (c' := (67, [.ref 118], [.ref 118, .int 1, .ref 118], (h.1, I, J, h.2.2.2))) rfl ?_
              refine hk_getr rfl (hH.1 118 (17, 105) rfl) rfl (hH.2 118 5 (some 121) rfl) ?_
              refine qm_Ru.go 1 (c' := (71, [.ref 118], [.ref 118, .ref 121, .int 1, .ref 118], (h.1, I, J, h.2.2.2))) rfl ?_
              refine hk_geti (v := t) rfl (hH.1 118 (17, 105) rfl) rfl q_t ?_
              refine qm_Ru.go 0 (c' := (74, [.ref 118], [.int t, .ref 121, .int 1, .ref 118], (h.1, I, J, h.2.2.2))) rfl ?_
              refine hk_ial (v := v7) rfl (hH.1 121 (0, 403) rfl) (by omega) (by omega) (show (I) 121 (t.toInt.toNat) = _ from ((e 121 rfl (t.toInt.toNat)).trans q_v7)) ?_
              refine qm_Ru.go 2 (c' := (78, [.ref 118], [.int (v7 - 32), .int 1, .ref 118], (h.1, I, J, h.2.2.2))) rfl ?_
              obtain ⟨v17, q_v17, e_v17⟩ := hk_sub (x := v7) (y := 32) (a := v7.toInt) (b := 32) rfl rfl (by omega) (by omega)
              rw [q_v17]
              refine hk_inv (o := 118) (r := []) (as := [.ref 118, .int 1, .int v17]) rfl rfl (hH.1 118 (17, 105) rfl) rfl rfl rfl rfl ?_
              refine qm_Ru.go 1 (c' := (1, [.ref 118, .int 1, .int v17], [.ref 118], (h.1, I, J, h.2.2.2))) rfl ?_
              refine hk_getr rfl (hH.1 118 (17, 105) rfl) rfl (hH.2 118 38 (some 141) rfl) ?_
              refine qm_Ru.go 1 (c' := (5, [.ref 118, .int 1, .int v17], [.ref 118, .ref 141], (h.1, I, J, h.2.2.2))) rfl ?_
              refine hk_geti (v := cd) rfl (hH.1 118 (17, 105) rfl) rfl q_cd ?_
              refine qm_Ru.go 1 (c' := (9, [.ref 118, .int 1, .int v17], [.int 1, .int cd, .ref 141], (h.1, I, J, h.2.2.2))) rfl ?_
              refine hk_ias rfl (hH.1 141 (0, 840) rfl) (by omega) (by omega) ?_
              refine qm_Ru.go 1 (c' := (11, [.ref 118, .int 1, .int v17], [.ref 118], (h.1, qm_up I 141 (cd.toInt.toNat) 1, J, h.2.2.2))) rfl ?_
              refine hk_getr rfl (hH.1 118 (17, 105) rfl) rfl (hH.2 118 39 (some 142) rfl) ?_
              refine qm_Ru.go 1 (c' := (15, [.ref 118, .int 1, .int v17], [.ref 118, .ref 142], (h.1, qm_up I 141 (cd.toInt.toNat) 1, J, h.2.2.2))) rfl ?_
              refine hk_geti (v := cd) rfl (hH.1 118 (17, 105) rfl) rfl (show (qm_up I 141 (cd.toInt.toNat) 1) 118 37 = _ from ((hk_ot rfl).trans q_cd)) ?_
              refine qm_Ru.go 1 (c' := (19, [.ref 118, .int 1, .int v17], [.int v17, .int cd, .ref 142], (h.1, qm_up I 141 (cd.toInt.toNat) 1, J, h.2.2.2))) rfl ?_
              refine hk_ias rfl (hH.1 142 (0, 840) rfl) (by omega) (by omega) ?_
              refine qm_Ru.go 2 (c' := (22, [.ref 118, .int 1, .int v17], [.ref 118, .ref 118], (h.1, qm_up (qm_up I 141 (cd.toInt.toNat) 1) 142 (cd.toInt.toNat) v17, J, h.2.2.2))) rfl ?_
              refine hk_geti (v := cd) rfl (hH.1 118 (17, 105) rfl) rfl (show (qm_up (qm_up I 141 (cd.toInt.toNat) 1) 142 (cd.toInt.toNat) v17) 118 37 = _ from ((hk_ot rfl).trans ((hk_ot rfl).trans q_cd))) ?_
              refine qm_Ru.go 2 (c' := (27, [.ref 118, .int 1, .int v17], [.int (cd + 1), .ref 118], (h.1, qm_up (qm_up I 141 (cd.toInt.toNat) 1) 142 (cd.toInt.toNat) v17, J, h.2.2.2))) rfl ?_
              obtain ⟨v18, q_v18, e_v18⟩ := hk_add (x := cd) (y := 1) (a := cd.toInt) (b := 1) rfl rfl (by omega) (by omega)
              rw [q_v18]
              refine hk_puti rfl (hH.1 118 (17, 105) rfl) rfl ?_
              refine qm_Ru.go 0 (c' := (30, [.ref 118, .int 1, .int v17], [], (h.1, qm_up (qm_up (qm_up I 141 (cd.toInt.toNat) 1) 142 (cd.toInt.toNat) v17) 118 37 v18, J, h.2.2.2))) rfl ?_
              refine qm_Ru.rt (v := none) (h' := (h.1, qm_up (qm_up (qm_up I 141 (cd.toInt.toNat) 1) 142 (cd.toInt.toNat) v17) 118 37 v18, J, h.2.2.2)) rfl ?_
              refine qm_Ru.go 1 (c' := (82, [.ref 118], [.ref 118], (h.1, qm_up (qm_up (qm_up I 141 (cd.toInt.toNat) 1) 142 (cd.toInt.toNat) v17) 118 37 v18, J, h.2.2.2))) rfl ?_
              refine hk_inv (o := 118) (r := []) (as := [.ref 118]) rfl rfl (hH.1 118 (17, 105) rfl) rfl rfl rfl rfl ?_
              refine qm_Ru.go 1 (c' := (1, [.ref 118], [.ref 118], (h.1, qm_up (qm_up (qm_up I 141 (cd.toInt.toNat) 1) 142 (cd.toInt.toNat) v17) 118 37 v18, J, h.2.2.2))) rfl ?_
              refine hk_geti (v := t) rfl (hH.1 118 (17, 105) rfl) rfl (show (qm_up (qm_up (qm_up I 141 (cd.toInt.toNat) 1) 142 (cd.toInt.toNat) v17) 118 37 v18) 118 11 = _ from ((hk_neq (by decide)).trans ((hk_ot rfl).trans ((hk_ot rfl).trans q_t)))) ?_
              refine qm_Ru.go 1 (c' := (7, [.ref 118], [.int 400, .int t], (h.1, qm_up (qm_up (qm_up I 141 (cd.toInt.toNat) 1) 142 (cd.toInt.toNat) v17) 118 37 v18, J, h.2.2.2))) rfl ?_
              refine hk_cne (ix := t.toInt) (iy := 400) rfl rfl rfl (fun z19 => ?_) (fun z19 => ?_)
              · refine qm_Ru.go 2 (c' := (20, [.ref 118], [.ref 118, .ref 118], (h.1, qm_up (qm_up (qm_up I 141 (cd.toInt.toNat) 1) 142 (cd.toInt.toNat) v17) 118 37 v18, J, h.2.2.2))) rfl ?_
                refine hk_geti (v := t) rfl (hH.1 118 (17, 105) rfl) rfl (show (qm_up (qm_up (qm_up I 141 (cd.toInt.toNat) 1) 142 (cd.toInt.toNat) v17) 118 37 v18) 118 11 = _ from ((hk_neq (by decide)).trans ((hk_ot rfl).trans ((hk_ot rfl).trans q_t)))) ?_
                refine qm_Ru.go 2 (c' := (25, [.ref 118], [.int (t + 1), .ref 118], (h.1, qm_up (qm_up (qm_up I 141 (cd.toInt.toNat) 1) 142 (cd.toInt.toNat) v17) 118 37 v18, J, h.2.2.2))) rfl ?_
                obtain ⟨v20, q_v20, e_v20⟩ := hk_add (x := t) (y := 1) (a := t.toInt) (b := 1) rfl rfl (by omega) (by omega)
                rw [q_v20]
                refine hk_puti rfl (hH.1 118 (17, 105) rfl) rfl ?_
                refine qm_Ru.go 0 (c' := (28, [.ref 118], [], (h.1, qm_up (qm_up (qm_up (qm_up I 141 (cd.toInt.toNat) 1) 142 (cd.toInt.toNat) v17) 118 37 v18) 118 11 v20, J, h.2.2.2))) rfl ?_
                refine qm_Ru.rt (v := none) (h' := (h.1, qm_up (qm_up (qm_up (qm_up I 141 (cd.toInt.toNat) 1) 142 (cd.toInt.toNat) v17) 118 37 v18) 118 11 v20, J, h.2.2.2)) rfl ?_
                refine qm_Ru.go 1 (c' := (93, [.ref 118], [], (h.1, qm_up (qm_up (qm_up (qm_up I 141 (cd.toInt.toNat) 1) 142 (cd.toInt.toNat) v17) 118 37 v18) 118 11 v20, J, h.2.2.2))) rfl ?_
                refine qm_Ru.rt (v := none) (h' := (h.1, qm_up (qm_up (qm_up (qm_up I 141 (cd.toInt.toNat) 1) 142 (cd.toInt.toNat) v17) 118 37 v18) 118 11 v20, J, h.2.2.2)) rfl ?_
                refine qm_Ru.go 1 (c' := (89, [.ref 118, .int bs, l2], [.ref 118], (h.1, qm_up (qm_up (qm_up (qm_up I 141 (cd.toInt.toNat) 1) 142 (cd.toInt.toNat) v17) 118 37 v18) 118 11 v20, J, h.2.2.2))) rfl ?_
                refine hk_geti (v := f) rfl (hH.1 118 (17, 105) rfl) rfl (show (qm_up (qm_up (qm_up (qm_up I 141 (cd.toInt.toNat) 1) 142 (cd.toInt.toNat) v17) 118 37 v18) 118 11 v20) 118 13 = _ from ((hk_neq (by decide)).trans ((hk_neq (by decide)).trans ((hk_ot rfl).trans ((hk_ot rfl).trans q_f))))) ?_
                refine qm_Ru.go 0 (c' := (92, [.ref 118, .int bs, l2], [.int f], (h.1, qm_up (qm_up (qm_up (qm_up I 141 (cd.toInt.toNat) 1) 142 (cd.toInt.toNat) v17) 118 37 v18) 118 11 v20, J, h.2.2.2))) rfl ?_
                refine hk_zle (ix := f.toInt) rfl rfl (fun z21 => ?_) (fun z21 => by exfalso; omega)
                refine qm_Ru.go 0 (c' := (96, [.ref 118, .int bs, l2], [], (h.1, qm_up (qm_up (qm_up (qm_up I 141 (cd.toInt.toNat) 1) 142 (cd.toInt.toNat) v17) 118 37 v18) 118 11 v20, J, h.2.2.2))) rfl ?_
                have E_w22 : pI (qm_up (qm_up (qm_up (qm_up I 141 (cd.toInt.toNat) 1) 142 (cd.toInt.toNat) v17) 118 37 v18) 118 11 v20) 143 = pI I 143 := ((pI_sk rfl).trans ((pI_sk rfl).trans ((pI_sk rfl).trans ((pI_sk rfl).trans rfl))))
                have V_w22 : ws (pI (qm_up (qm_up (qm_up (qm_up I 141 (cd.toInt.toNat) 1) 142 (cd.toInt.toNat) v17) 118 37 v18) 118 11 v20) 143) wt.toInt.toNat := by rw [E_w22]; exact hW
                have U_w22 : wo (pI (qm_up (qm_up (qm_up (qm_up I 141 (cd.toInt.toNat) 1) 142 (cd.toInt.toNat) v17) 118 37 v18) 118 11 v20) 143) wt.toInt.toNat = wo (pI I 143) wt.toInt.toNat := by rw [E_w22]
                have O_w22 := hO
                have L_w22 := ws_le V_w22
                have P_w22 : Int32.toInt f = 0 → pq (qm_up (qm_up (qm_up (qm_up I 141 (cd.toInt.toNat) 1) 142 (cd.toInt.toNat) v17) 118 37 v18) 118 11 v20) lf 1 v18 wt := by
                  intro z
                  obtain ⟨p1, p2⟩ := hP z
                  have hlc := p1.1
                  obtain ⟨g1, g2⟩ := pf_more (k := Int32.toInt 1) (v := Int32.toInt v17) p1 (by omega) (fun y => ⟨by omega, by omega⟩) (fun y => absurd y (by decide))
                  refine ⟨?_, ?_⟩
                  · rw [show pI (qm_up (qm_up (qm_up (qm_up I 141 (cd.toInt.toNat) 1) 142 (cd.toInt.toNat) v17) 118 37 v18) 118 11 v20) 141 = fu_up (pI I 141) cd.toInt.toNat (Int32.toInt 1) from ((pI_sk rfl).trans ((pI_sk rfl).trans ((pI_sk rfl).trans (pI_up.trans rfl)))), show pI (qm_up (qm_up (qm_up (qm_up I 141 (cd.toInt.toNat) 1) 142 (cd.toInt.toNat) v17) 118 37 v18) 118 11 v20) 142 = fu_up (pI I 142) cd.toInt.toNat (Int32.toInt v17) from ((pI_sk rfl).trans ((pI_sk rfl).trans (pI_up.trans (congrArg (fun f => fu_up f cd.toInt.toNat (Int32.toInt v17)) ((pI_sk rfl).trans rfl))))), show v18.toInt.toNat = cd.toInt.toNat + 1 from by omega]
                    exact g1
                  · rw [show pI (qm_up (qm_up (qm_up (qm_up I 141 (cd.toInt.toNat) 1) 142 (cd.toInt.toNat) v17) 118 37 v18) 118 11 v20) 141 = fu_up (pI I 141) cd.toInt.toNat (Int32.toInt 1) from ((pI_sk rfl).trans ((pI_sk rfl).trans ((pI_sk rfl).trans (pI_up.trans rfl)))), show v18.toInt.toNat = cd.toInt.toNat + 1 from by omega, g2, if_pos (by decide), p2]
                    omega
                exact (ih (m - 1) (by omega)).2 (qm_up (qm_up (qm_up (qm_up I 141 (cd.toInt.toNat) 1) 142 (cd.toInt.toNat) v17) 118 37 v18) 118 11 v20) (J) v20 f v18 wt op (hb_up (o := 118) (k := 11) (x := v20) (hb_up (o := 118) (k := 37) (x := v18) (hb_up (o := 142) (k := cd.toInt.toNat) (x := v17) (hb_up (o := 141) (k := cd.toInt.toNat) (x := 1) hBI ⟨(show (0 : Int) ≤ 1 from by decide), (show (1 : Int) ≤ 4 from by decide)⟩) (qa_in_full _)) ⟨by show (0 : Int) ≤ v18.toInt; omega, by show v18.toInt ≤ (840 : Int); omega⟩) ⟨by show (0 : Int) ≤ v20.toInt; omega, by show v20.toInt ≤ (400 : Int); omega⟩) (fun o ho i => ((hk_mod ho rfl).trans ((hk_mod ho rfl).trans ((hk_mod ho rfl).trans ((hk_mod ho rfl).trans ((e o (hk_ms rfl ho) i).trans rfl)))))) (fun i hi => ((hk_neq (fun z => by subst z; cases hi)).trans ((hk_neq (fun z => by subst z; cases hi)).trans ((hk_ot rfl).trans ((hk_ot rfl).trans ((e8 i (hk_ms rfl hi)).trans rfl)))))) (show (qm_up (qm_up (qm_up (qm_up I 141 (cd.toInt.toNat) 1) 142 (cd.toInt.toNat) v17) 118 37 v18) 118 11 v20) 118 11 = _ from (hk_same)) (show (qm_up (qm_up (qm_up (qm_up I 141 (cd.toInt.toNat) 1) 142 (cd.toInt.toNat) v17) 118 37 v18) 118 11 v20) 118 13 = _ from ((hk_neq (by decide)).trans ((hk_neq (by decide)).trans ((hk_ot rfl).trans ((hk_ot rfl).trans q_f))))) (show (qm_up (qm_up (qm_up (qm_up I 141 (cd.toInt.toNat) 1) 142 (cd.toInt.toNat) v17) 118 37 v18) 118 11 v20) 118 37 = _ from ((hk_neq (by decide)).trans (hk_same))) (show (qm_up (qm_up (qm_up (qm_up I 141 (cd.toInt.toNat) 1) 142 (cd.toInt.toNat) v17) 118 37 v18) 118 11 v20) 118 41 = _ from ((hk_neq (by decide)).trans ((hk_neq (by decide)).trans ((hk_ot rfl).trans ((hk_ot rfl).trans q_wt))))) (show (qm_up (qm_up (qm_up (qm_up I 141 (cd.toInt.toNat) 1) 142 (cd.toInt.toNat) v17) 118 37 v18) 118 11 v20) 118 12 = _ from ((hk_neq (by decide)).trans ((hk_neq (by decide)).trans ((hk_ot rfl).trans ((hk_ot rfl).trans q_op)))))  (by omega) (by omega) (by omega) (by omega) V_w22 (by omega) (pa_cg (pa_up (x := 1) (y := v17) (k := cd.toInt.toNat) (pa_cg hA (fun i => rfl) (fun i => rfl)) (by omega)) (fun i => ((hk_ot rfl).trans ((hk_ot rfl).trans rfl))) (fun i => ((hk_ot rfl).trans ((hk_ot rfl).trans rfl)))) P_w22 (by omega) l2
              · refine qm_Ru.go 2 (c' := (12, [.ref 118], [.int 2, .ref 118], (h.1, qm_up (qm_up (qm_up I 141 (cd.toInt.toNat) 1) 142 (cd.toInt.toNat) v17) 118 37 v18, J, h.2.2.2))) rfl ?_
                refine hk_inv (o := 118) (r := []) (as := [.ref 118, .int 2]) rfl rfl (hH.1 118 (17, 105) rfl) rfl rfl rfl rfl ?_
                refine qm_Ru.go 1 (c' := (1, [.ref 118, .int 2], [.ref 118], (h.1, qm_up (qm_up (qm_up I 141 (cd.toInt.toNat) 1) 142 (cd.toInt.toNat) v17) 118 37 v18, J, h.2.2.2))) rfl ?_
                refine hk_geti (v := f) rfl (hH.1 118 (17, 105) rfl) rfl (show (qm_up (qm_up (qm_up I 141 (cd.toInt.toNat) 1) 142 (cd.toInt.toNat) v17) 118 37 v18) 118 13 = _ from ((hk_neq (by decide)).trans ((hk_ot rfl).trans ((hk_ot rfl).trans q_f)))) ?_
                refine qm_Ru.go 0 (c' := (4, [.ref 118, .int 2], [.int f], (h.1, qm_up (qm_up (qm_up I 141 (cd.toInt.toNat) 1) 142 (cd.toInt.toNat) v17) 118 37 v18, J, h.2.2.2))) rfl ?_
                refine hk_zle (ix := f.toInt) rfl rfl (fun z23 => ?_) (fun z23 => by exfalso; omega)
                refine qm_Ru.go 2 (c' := (10, [.ref 118, .int 2], [.int 2, .ref 118], (h.1, qm_up (qm_up (qm_up I 141 (cd.toInt.toNat) 1) 142 (cd.toInt.toNat) v17) 118 37 v18, J, h.2.2.2))) rfl ?_
                refine hk_puti rfl (hH.1 118 (17, 105) rfl) rfl ?_
                refine qm_Ru.go 2 (c' := (15, [.ref 118, .int 2], [.ref 118, .ref 118], (h.1, qm_up (qm_up (qm_up (qm_up I 141 (cd.toInt.toNat) 1) 142 (cd.toInt.toNat) v17) 118 37 v18) 118 13 2, J, h.2.2.2))) rfl ?_
                refine hk_getr rfl (hH.1 118 (17, 105) rfl) rfl (hH.2 118 6 (some 122) rfl) ?_
                refine qm_Ru.go 1 (c' := (19, [.ref 118, .int 2], [.ref 118, .ref 122, .ref 118], (h.1, qm_up (qm_up (qm_up (qm_up I 141 (cd.toInt.toNat) 1) 142 (cd.toInt.toNat) v17) 118 37 v18) 118 13 2, J, h.2.2.2))) rfl ?_
                refine hk_geti (v := t) rfl (hH.1 118 (17, 105) rfl) rfl (show (qm_up (qm_up (qm_up (qm_up I 141 (cd.toInt.toNat) 1) 142 (cd.toInt.toNat) v17) 118 37 v18) 118 13 2) 118 11 = _ from ((hk_neq (by decide)).trans ((hk_neq (by decide)).trans ((hk_ot rfl).trans ((hk_ot rfl).trans q_t))))) ?_
                refine qm_Ru.go 0 (c' := (22, [.ref 118, .int 2], [.int t, .ref 122, .ref 118], (h.1, qm_up (qm_up (qm_up (qm_up I 141 (cd.toInt.toNat) 1) 142 (cd.toInt.toNat) v17) 118 37 v18) 118 13 2, J, h.2.2.2))) rfl ?_
                obtain ⟨v24, q_v24⟩ : ∃ v, h.2.1 122 (t.toInt.toNat) = v := ⟨_, rfl⟩
                refine hk_ial (v := v24) rfl (hH.1 122 (0, 403) rfl) (by omega) (by omega) (show (qm_up (qm_up (qm_up (qm_up I 141 (cd.toInt.toNat) 1) 142 (cd.toInt.toNat) v17) 118 37 v18) 118 13 2) 122 (t.toInt.toNat) = _ from ((hk_ot rfl).trans ((hk_ot rfl).trans ((hk_ot rfl).trans ((hk_ot rfl).trans ((e 122 rfl (t.toInt.toNat)).trans q_v24)))))) ?_
                refine qm_Ru.go 0 (c' := (23, [.ref 118, .int 2], [.int v24, .ref 118], (h.1, qm_up (qm_up (qm_up (qm_up I 141 (cd.toInt.toNat) 1) 142 (cd.toInt.toNat) v17) 118 37 v18) 118 13 2, J, h.2.2.2))) rfl ?_
                refine hk_puti rfl (hH.1 118 (17, 105) rfl) rfl ?_
                refine qm_Ru.go 0 (c' := (26, [.ref 118, .int 2], [], (h.1, qm_up (qm_up (qm_up (qm_up (qm_up I 141 (cd.toInt.toNat) 1) 142 (cd.toInt.toNat) v17) 118 37 v18) 118 13 2) 118 14 v24, J, h.2.2.2))) rfl ?_
                refine qm_Ru.rt (v := none) (h' := (h.1, qm_up (qm_up (qm_up (qm_up (qm_up I 141 (cd.toInt.toNat) 1) 142 (cd.toInt.toNat) v17) 118 37 v18) 118 13 2) 118 14 v24, J, h.2.2.2)) rfl ?_
                refine qm_Ru.go 1 (c' := (28, [.ref 118], [], (h.1, qm_up (qm_up (qm_up (qm_up (qm_up I 141 (cd.toInt.toNat) 1) 142 (cd.toInt.toNat) v17) 118 37 v18) 118 13 2) 118 14 v24, J, h.2.2.2))) rfl ?_
                refine qm_Ru.rt (v := none) (h' := (h.1, qm_up (qm_up (qm_up (qm_up (qm_up I 141 (cd.toInt.toNat) 1) 142 (cd.toInt.toNat) v17) 118 37 v18) 118 13 2) 118 14 v24, J, h.2.2.2)) rfl ?_
                refine qm_Ru.go 1 (c' := (93, [.ref 118], [], (h.1, qm_up (qm_up (qm_up (qm_up (qm_up I 141 (cd.toInt.toNat) 1) 142 (cd.toInt.toNat) v17) 118 37 v18) 118 13 2) 118 14 v24, J, h.2.2.2))) rfl ?_
                refine qm_Ru.rt (v := none) (h' := (h.1, qm_up (qm_up (qm_up (qm_up (qm_up I 141 (cd.toInt.toNat) 1) 142 (cd.toInt.toNat) v17) 118 37 v18) 118 13 2) 118 14 v24, J, h.2.2.2)) rfl ?_
                refine qm_Ru.go 1 (c' := (89, [.ref 118, .int bs, l2], [.ref 118], (h.1, qm_up (qm_up (qm_up (qm_up (qm_up I 141 (cd.toInt.toNat) 1) 142 (cd.toInt.toNat) v17) 118 37 v18) 118 13 2) 118 14 v24, J, h.2.2.2))) rfl ?_
                refine hk_geti (v := 2) rfl (hH.1 118 (17, 105) rfl) rfl (show (qm_up (qm_up (qm_up (qm_up (qm_up I 141 (cd.toInt.toNat) 1) 142 (cd.toInt.toNat) v17) 118 37 v18) 118 13 2) 118 14 v24) 118 13 = _ from ((hk_neq (by decide)).trans (hk_same))) ?_
                refine qm_Ru.go 1 (c' := (95, [.ref 118, .int bs, l2], [], (h.1, qm_up (qm_up (qm_up (qm_up (qm_up I 141 (cd.toInt.toNat) 1) 142 (cd.toInt.toNat) v17) 118 37 v18) 118 13 2) 118 14 v24, J, h.2.2.2))) rfl ?_
                refine qm_Ru.rt (v := none) (h' := (h.1, qm_up (qm_up (qm_up (qm_up (qm_up I 141 (cd.toInt.toNat) 1) 142 (cd.toInt.toNat) v17) 118 37 v18) 118 13 2) 118 14 v24, J, h.2.2.2)) rfl ?_
                have E_w25 : pI (qm_up (qm_up (qm_up (qm_up (qm_up I 141 (cd.toInt.toNat) 1) 142 (cd.toInt.toNat) v17) 118 37 v18) 118 13 2) 118 14 v24) 143 = pI I 143 := ((pI_sk rfl).trans ((pI_sk rfl).trans ((pI_sk rfl).trans ((pI_sk rfl).trans ((pI_sk rfl).trans rfl)))))
                have V_w25 : ws (pI (qm_up (qm_up (qm_up (qm_up (qm_up I 141 (cd.toInt.toNat) 1) 142 (cd.toInt.toNat) v17) 118 37 v18) 118 13 2) 118 14 v24) 143) wt.toInt.toNat := by rw [E_w25]; exact hW
                have U_w25 : wo (pI (qm_up (qm_up (qm_up (qm_up (qm_up I 141 (cd.toInt.toNat) 1) 142 (cd.toInt.toNat) v17) 118 37 v18) 118 13 2) 118 14 v24) 143) wt.toInt.toNat = wo (pI I 143) wt.toInt.toNat := by rw [E_w25]
                have O_w25 := hO
                have L_w25 := ws_le V_w25
                have P_w25 : Int32.toInt 2 = 0 → pq (qm_up (qm_up (qm_up (qm_up (qm_up I 141 (cd.toInt.toNat) 1) 142 (cd.toInt.toNat) v17) 118 37 v18) 118 13 2) 118 14 v24) lf 1 v18 wt := by
                  intro z; exact absurd z (by decide)
                exact k (qm_up (qm_up (qm_up (qm_up (qm_up I 141 (cd.toInt.toNat) 1) 142 (cd.toInt.toNat) v17) 118 37 v18) 118 13 2) 118 14 v24) (J) t 2 v18 op (hb_up (o := 118) (k := 14) (x := v24) (hb_up (o := 118) (k := 13) (x := 2) (hb_up (o := 118) (k := 37) (x := v18) (hb_up (o := 142) (k := cd.toInt.toNat) (x := v17) (hb_up (o := 141) (k := cd.toInt.toNat) (x := 1) hBI ⟨(show (0 : Int) ≤ 1 from by decide), (show (1 : Int) ≤ 4 from by decide)⟩) (qa_in_full _)) ⟨by show (0 : Int) ≤ v18.toInt; omega, by show v18.toInt ≤ (840 : Int); omega⟩) (qa_in_full _)) (qa_in_full _)) (fun o ho i => ((hk_mod ho rfl).trans ((hk_mod ho rfl).trans ((hk_mod ho rfl).trans ((hk_mod ho rfl).trans ((hk_mod ho rfl).trans ((e o (hk_ms rfl ho) i).trans rfl))))))) (fun i hi => ((hk_neq (fun z => by subst z; cases hi)).trans ((hk_neq (fun z => by subst z; cases hi)).trans ((hk_neq (fun z => by subst z; cases hi)).trans ((hk_ot rfl).trans ((hk_ot rfl).trans ((e8 i (hk_ms rfl hi)).trans rfl))))))) (show (qm_up (qm_up (qm_up (qm_up (qm_up I 141 (cd.toInt.toNat) 1) 142 (cd.toInt.toNat) v17) 118 37 v18) 118 13 2) 118 14 v24) 118 11 = _ from ((hk_neq (by decide)).trans ((hk_neq (by decide)).trans ((hk_neq (by decide)).trans ((hk_ot rfl).trans ((hk_ot rfl).trans q_t)))))) (show (qm_up (qm_up (qm_up (qm_up (qm_up I 141 (cd.toInt.toNat) 1) 142 (cd.toInt.toNat) v17) 118 37 v18) 118 13 2) 118 14 v24) 118 13 = _ from ((hk_neq (by decide)).trans (hk_same))) (show (qm_up (qm_up (qm_up (qm_up (qm_up I 141 (cd.toInt.toNat) 1) 142 (cd.toInt.toNat) v17) 118 37 v18) 118 13 2) 118 14 v24) 118 37 = _ from ((hk_neq (by decide)).trans ((hk_neq (by decide)).trans (hk_same)))) (show (qm_up (qm_up (qm_up (qm_up (qm_up I 141 (cd.toInt.toNat) 1) 142 (cd.toInt.toNat) v17) 118 37 v18) 118 13 2) 118 14 v24) 118 12 = _ from ((hk_neq (by decide)).trans ((hk_neq (by decide)).trans ((hk_neq (by decide)).trans ((hk_ot rfl).trans ((hk_ot rfl).trans q_op)))))) (by omega) (by omega) (by omega) (pa_cg (pa_up (x := 1) (y := v17) (k := cd.toInt.toNat) (pa_cg hA (fun i => rfl) (fun i => rfl)) (by omega)) (fun i => ((hk_ot rfl).trans ((hk_ot rfl).trans ((hk_ot rfl).trans rfl)))) (fun i => ((hk_ot rfl).trans ((hk_ot rfl).trans ((hk_ot rfl).trans rfl))))) (fun z => absurd z (by decide))
          · refine qm_Ru.go 2 (c' := (25, [.ref 118, .int 2], [.int 1], (h.1, I, J, h.2.2.2))) rfl ?_
            refine qm_Ru.rt (v := (some (.int 1))) (h' := (h.1, I, J, h.2.2.2)) rfl ?_
            refine qm_Ru.go 4 (c' := (11, [.ref 118], [.ref 118, .int 0, .ref 118], (h.1, I, J, h.2.2.2))) rfl ?_
            refine hk_getr rfl (hH.1 118 (17, 105) rfl) rfl (hH.2 118 7 (some 123) rfl) ?_
            refine qm_Ru.go 1 (c' := (15, [.ref 118], [.ref 118, .ref 123, .int 0, .ref 118], (h.1, I, J, h.2.2.2))) rfl ?_
            refine hk_geti (v := t) rfl (hH.1 118 (17, 105) rfl) rfl q_t ?_
            refine qm_Ru.go 0 (c' := (18, [.ref 118], [.int t, .ref 123, .int 0, .ref 118], (h.1, I, J, h.2.2.2))) rfl ?_
            obtain ⟨v26, q_v26⟩ : ∃ v, h.2.1 123 (t.toInt.toNat) = v := ⟨_, rfl⟩
            refine hk_ial (v := v26) rfl (hH.1 123 (0, 403) rfl) (by omega) (by omega) (show (I) 123 (t.toInt.toNat) = _ from ((e 123 rfl (t.toInt.toNat)).trans q_v26)) ?_
            refine qm_Ru.go 0 (c' := (19, [.ref 118], [.int v26, .int 0, .ref 118], (h.1, I, J, h.2.2.2))) rfl ?_
            refine hk_inv (o := 118) (r := []) (as := [.ref 118, .int 0, .int v26]) rfl rfl (hH.1 118 (17, 105) rfl) rfl rfl rfl rfl ?_
            refine qm_Ru.go 1 (c' := (1, [.ref 118, .int 0, .int v26], [.ref 118], (h.1, I, J, h.2.2.2))) rfl ?_
            refine hk_getr rfl (hH.1 118 (17, 105) rfl) rfl (hH.2 118 38 (some 141) rfl) ?_
            refine qm_Ru.go 1 (c' := (5, [.ref 118, .int 0, .int v26], [.ref 118, .ref 141], (h.1, I, J, h.2.2.2))) rfl ?_
            refine hk_geti (v := cd) rfl (hH.1 118 (17, 105) rfl) rfl q_cd ?_
            refine qm_Ru.go 1 (c' := (9, [.ref 118, .int 0, .int v26], [.int 0, .int cd, .ref 141], (h.1, I, J, h.2.2.2))) rfl ?_
            refine hk_ias rfl (hH.1 141 (0, 840) rfl) (by omega) (by omega) ?_
            refine qm_Ru.go 1 (c' := (11, [.ref 118, .int 0, .int v26], [.ref 118], (h.1, qm_up I 141 (cd.toInt.toNat) 0, J, h.2.2.2))) rfl ?_
            refine hk_getr rfl (hH.1 118 (17, 105) rfl) rfl (hH.2 118 39 (some 142) rfl) ?_
            refine qm_Ru.go 1 (c' := (15, [.ref 118, .int 0, .int v26], [.ref 118, .ref 142], (h.1, qm_up I 141 (cd.toInt.toNat) 0, J, h.2.2.2))) rfl ?_
            refine hk_geti (v := cd) rfl (hH.1 118 (17, 105) rfl) rfl (show (qm_up I 141 (cd.toInt.toNat) 0) 118 37 = _ from ((hk_ot rfl).trans q_cd)) ?_
            refine qm_Ru.go 1 (c' := (19, [.ref 118, .int 0, .int v26], [.int v26, .int cd, .ref 142], (h.1, qm_up I 141 (cd.toInt.toNat) 0, J, h.2.2.2))) rfl ?_
            refine hk_ias rfl (hH.1 142 (0, 840) rfl) (by omega) (by omega) ?_
            refine qm_Ru.go 2 (c' := (22, [.ref 118, .int 0, .int v26], [.ref 118, .ref 118], (h.1, qm_up (qm_up I 141 (cd.toInt.toNat) 0) 142 (cd.toInt.toNat) v26, J, h.2.2.2))) rfl ?_
            refine hk_geti (v := cd) rfl (hH.1 118 (17, 105) rfl) rfl (show (qm_up (qm_up I 141 (cd.toInt.toNat) 0) 142 (cd.toInt.toNat) v26) 118 37 = _ from ((hk_ot rfl).trans ((hk_ot rfl).trans q_cd))) ?_
            refine qm_Ru.go 2 (c' := (27, [.ref 118, .int 0, .int v26], [.int (cd + 1), .ref 118], (h.1, qm_up (qm_up I 141 (cd.toInt.toNat) 0) 142 (cd.toInt.toNat) v26, J, h.2.2.2))) rfl ?_
            obtain ⟨v27, q_v27, e_v27⟩ := hk_add (x := cd) (y := 1) (a := cd.toInt) (b := 1) rfl rfl (by omega) (by omega)
            rw [q_v27]
            refine hk_puti rfl (hH.1 118 (17, 105) rfl) rfl ?_
            refine qm_Ru.go 0 (c' := (30, [.ref 118, .int 0, .int v26], [], (h.1, qm_up (qm_up (qm_up I 141 (cd.toInt.toNat) 0) 142 (cd.toInt.toNat) v26) 118 37 v27, J, h.2.2.2))) rfl ?_
            refine qm_Ru.rt (v := none) (h' := (h.1, qm_up (qm_up (qm_up I 141 (cd.toInt.toNat) 0) 142 (cd.toInt.toNat) v26) 118 37 v27, J, h.2.2.2)) rfl ?_
            refine qm_Ru.go 1 (c' := (23, [.ref 118], [.ref 118], (h.1, qm_up (qm_up (qm_up I 141 (cd.toInt.toNat) 0) 142 (cd.toInt.toNat) v26) 118 37 v27, J, h.2.2.2))) rfl ?_
            refine hk_inv (o := 118) (r := []) (as := [.ref 118]) rfl rfl (hH.1 118 (17, 105) rfl) rfl rfl rfl rfl ?_
            refine qm_Ru.go 1 (c' := (1, [.ref 118], [.ref 118], (h.1, qm_up (qm_up (qm_up I 141 (cd.toInt.toNat) 0) 142 (cd.toInt.toNat) v26) 118 37 v27, J, h.2.2.2))) rfl ?_
            refine hk_geti (v := t) rfl (hH.1 118 (17, 105) rfl) rfl (show (qm_up (qm_up (qm_up I 141 (cd.toInt.toNat) 0) 142 (cd.toInt.toNat) v26) 118 37 v27) 118 11 = _ from ((hk_neq (by decide)).trans ((hk_ot rfl).trans ((hk_ot rfl).trans q_t)))) ?_
            refine qm_Ru.go 1 (c' := (7, [.ref 118], [.int 400, .int t], (h.1, qm_up (qm_up (qm_up I 141 (cd.toInt.toNat) 0) 142 (cd.toInt.toNat) v26) 118 37 v27, J, h.2.2.2))) rfl ?_
            refine hk_cne (ix := t.toInt) (iy := 400) rfl rfl rfl (fun z28 => ?_) (fun z28 => ?_)
            · refine qm_Ru.go 2 (c' := (20, [.ref 118], [.ref 118, .ref 118], (h.1, qm_up (qm_up (qm_up I 141 (cd.toInt.toNat) 0) 142 (cd.toInt.toNat) v26) 118 37 v27, J, h.2.2.2))) rfl ?_
              refine hk_geti (v := t) rfl (hH.1 118 (17, 105) rfl) rfl (show (qm_up (qm_up (qm_up I 141 (cd.toInt.toNat) 0) 142 (cd.toInt.toNat) v26) 118 37 v27) 118 11 = _ from ((hk_neq (by decide)).trans ((hk_ot rfl).trans ((hk_ot rfl).trans q_t)))) ?_
              refine qm_Ru.go 2 (c' := (25, [.ref 118], [.int (t + 1), .ref 118], (h.1, qm_up (qm_up (qm_up I 141 (cd.toInt.toNat) 0) 142 (cd.toInt.toNat) v26) 118 37 v27, J, h.2.2.2))) rfl ?_
              obtain ⟨v29, q_v29, e_v29⟩ := hk_add (x := t) (y := 1) (a := t.toInt) (b := 1) rfl rfl (by omega) (by omega)
              rw [q_v29]
              refine hk_puti rfl (hH.1 118 (17, 105) rfl) rfl ?_
              refine qm_Ru.go 0 (c' := (28, [.ref 118], [], (h.1, qm_up (qm_up (qm_up (qm_up I 141 (cd.toInt.toNat) 0) 142 (cd.toInt.toNat) v26) 118 37 v27) 118 11 v29, J, h.2.2.2))) rfl ?_
              refine qm_Ru.rt (v := none) (h' := (h.1, qm_up (qm_up (qm_up (qm_up I 141 (cd.toInt.toNat) 0) 142 (cd.toInt.toNat) v26) 118 37 v27) 118 11 v29, J, h.2.2.2)) rfl ?_
              refine qm_Ru.go 1 (c' := (93, [.ref 118], [], (h.1, qm_up (qm_up (qm_up (qm_up I 141 (cd.toInt.toNat) 0) 142 (cd.toInt.toNat) v26) 118 37 v27) 118 11 v29, J, h.2.2.2))) rfl ?_
              refine qm_Ru.rt (v := none) (h' := (h.1, qm_up (qm_up (qm_up (qm_up I 141 (cd.toInt.toNat) 0) 142 (cd.toInt.toNat) v26) 118 37 v27) 118 11 v29, J, h.2.2.2)) rfl ?_
              refine qm_Ru.go 1 (c' := (89, [.ref 118, .int bs, l2], [.ref 118], (h.1, qm_up (qm_up (qm_up (qm_up I 141 (cd.toInt.toNat) 0) 142 (cd.toInt.toNat) v26) 118 37 v27) 118 11 v29, J, h.2.2.2))) rfl ?_
              refine hk_geti (v := f) rfl (hH.1 118 (17, 105) rfl) rfl (show (qm_up (qm_up (qm_up (qm_up I 141 (cd.toInt.toNat) 0) 142 (cd.toInt.toNat) v26) 118 37 v27) 118 11 v29) 118 13 = _ from ((hk_neq (by decide)).trans ((hk_neq (by decide)).trans ((hk_ot rfl).trans ((hk_ot rfl).trans q_f))))) ?_
              refine qm_Ru.go 0 (c' := (92, [.ref 118, .int bs, l2], [.int f], (h.1, qm_up (qm_up (qm_up (qm_up I 141 (cd.toInt.toNat) 0) 142 (cd.toInt.toNat) v26) 118 37 v27) 118 11 v29, J, h.2.2.2))) rfl ?_
              refine hk_zle (ix := f.toInt) rfl rfl (fun z30 => ?_) (fun z30 => by exfalso; omega)
              refine qm_Ru.go 0 (c' := (96, [.ref 118, .int bs, l2], [], (h.1, qm_up (qm_up (qm_up (qm_up I 141 (cd.toInt.toNat) 0) 142 (cd.toInt.toNat) v26) 118 37 v27) 118 11 v29, J, h.2.2.2))) rfl ?_
              have E_w31 : pI (qm_up (qm_up (qm_up (qm_up I 141 (cd.toInt.toNat) 0) 142 (cd.toInt.toNat) v26) 118 37 v27) 118 11 v29) 143 = pI I 143 := ((pI_sk rfl).trans ((pI_sk rfl).trans ((pI_sk rfl).trans ((pI_sk rfl).trans rfl))))
              have V_w31 : ws (pI (qm_up (qm_up (qm_up (qm_up I 141 (cd.toInt.toNat) 0) 142 (cd.toInt.toNat) v26) 118 37 v27) 118 11 v29) 143) wt.toInt.toNat := by rw [E_w31]; exact hW
              have U_w31 : wo (pI (qm_up (qm_up (qm_up (qm_up I 141 (cd.toInt.toNat) 0) 142 (cd.toInt.toNat) v26) 118 37 v27) 118 11 v29) 143) wt.toInt.toNat = wo (pI I 143) wt.toInt.toNat := by rw [E_w31]
              have O_w31 := hO
              have L_w31 := ws_le V_w31
              have P_w31 : Int32.toInt f = 0 → pq (qm_up (qm_up (qm_up (qm_up I 141 (cd.toInt.toNat) 0) 142 (cd.toInt.toNat) v26) 118 37 v27) 118 11 v29) lf 1 v27 wt := by
                intro z
                obtain ⟨p1, p2⟩ := hP z
                have hlc := p1.1
                obtain ⟨g1, g2⟩ := pf_more (k := Int32.toInt 0) (v := Int32.toInt v26) p1 (by omega) (fun y => absurd y (by decide)) (fun y => absurd y (by decide))
                refine ⟨?_, ?_⟩
                · rw [show pI (qm_up (qm_up (qm_up (qm_up I 141 (cd.toInt.toNat) 0) 142 (cd.toInt.toNat) v26) 118 37 v27) 118 11 v29) 141 = fu_up (pI I 141) cd.toInt.toNat (Int32.toInt 0) from ((pI_sk rfl).trans ((pI_sk rfl).trans ((pI_sk rfl).trans (pI_up.trans rfl)))), show pI (qm_up (qm_up (qm_up (qm_up I 141 (cd.toInt.toNat) 0) 142 (cd.toInt.toNat) v26) 118 37 v27) 118 11 v29) 142 = fu_up (pI I 142) cd.toInt.toNat (Int32.toInt v26) from ((pI_sk rfl).trans ((pI_sk rfl).trans (pI_up.trans (congrArg (fun f => fu_up f cd.toInt.toNat (Int32.toInt v26)) ((pI_sk rfl).trans rfl))))), show v27.toInt.toNat = cd.toInt.toNat + 1 from by omega]
                  exact g1
                · rw [show pI (qm_up (qm_up (qm_up (qm_up I 141 (cd.toInt.toNat) 0) 142 (cd.toInt.toNat) v26) 118 37 v27) 118 11 v29) 141 = fu_up (pI I 141) cd.toInt.toNat (Int32.toInt 0) from ((pI_sk rfl).trans ((pI_sk rfl).trans ((pI_sk rfl).trans (pI_up.trans rfl)))), show v27.toInt.toNat = cd.toInt.toNat + 1 from by omega, g2, if_pos (by decide), p2]
                  omega
              exact (ih (m - 1) (by omega)).2 (qm_up (qm_up (qm_up (qm_up I 141 (cd.toInt.toNat) 0) 142 (cd.toInt.toNat) v26) 118 37 v27) 118 11 v29) (J) v29 f v27 wt op (hb_up (o := 118) (k := 11) (x := v29) (hb_up (o := 118) (k := 37) (x := v27) (hb_up (o := 142) (k := cd.toInt.toNat) (x := v26) (hb_up (o := 141) (k := cd.toInt.toNat) (x := 0) hBI ⟨(show (0 : Int) ≤ 0 from by decide), (show (0 : Int) ≤ 4 from by decide)⟩) (qa_in_full _)) ⟨by show (0 : Int) ≤ v27.toInt; omega, by show v27.toInt ≤ (840 : Int); omega⟩) ⟨by show (0 : Int) ≤ v29.toInt; omega, by show v29.toInt ≤ (400 : Int); omega⟩) (fun o ho i => ((hk_mod ho rfl).trans ((hk_mod ho rfl).trans ((hk_mod ho rfl).trans ((hk_mod ho rfl).trans ((e o (hk_ms rfl ho) i).trans rfl)))))) (fun i hi => ((hk_neq (fun z => by subst z; cases hi)).trans ((hk_neq (fun z => by subst z; cases hi)).trans ((hk_ot rfl).trans ((hk_ot rfl).trans ((e8 i (hk_ms rfl hi)).trans rfl)))))) (show (qm_up (qm_up (qm_up (qm_up I 141 (cd.toInt.toNat) 0) 142 (cd.toInt.toNat) v26) 118 37 v27) 118 11 v29) 118 11 = _ from (hk_same)) (show (qm_up (qm_up (qm_up (qm_up I 141 (cd.toInt.toNat) 0) 142 (cd.toInt.toNat) v26) 118 37 v27) 118 11 v29) 118 13 = _ from ((hk_neq (by decide)).trans ((hk_neq (by decide)).trans ((hk_ot rfl).trans ((hk_ot rfl).trans q_f))))) (show (qm_up (qm_up (qm_up (qm_up I 141 (cd.toInt.toNat) 0) 142 (cd.toInt.toNat) v26) 118 37 v27) 118 11 v29) 118 37 = _ from ((hk_neq (by decide)).trans (hk_same))) (show (qm_up (qm_up (qm_up (qm_up I 141 (cd.toInt.toNat) 0) 142 (cd.toInt.toNat) v26) 118 37 v27) 118 11 v29) 118 41 = _ from ((hk_neq (by decide)).trans ((hk_neq (by decide)).trans ((hk_ot rfl).trans ((hk_ot rfl).trans q_wt))))) (show (qm_up (qm_up (qm_up (qm_up I 141 (cd.toInt.toNat) 0) 142 (cd.toInt.toNat) v26) 118 37 v27) 118 11 v29) 118 12 = _ from ((hk_neq (by decide)).trans ((hk_neq (by decide)).trans ((hk_ot rfl).trans ((hk_ot rfl).trans q_op)))))  (by omega) (by omega) (by omega) (by omega) V_w31 (by omega) (pa_cg (pa_up (x := 0) (y := v26) (k := cd.toInt.toNat) (pa_cg hA (fun i => rfl) (fun i => rfl)) (by omega)) (fun i => ((hk_ot rfl).trans ((hk_ot rfl).trans rfl))) (fun i => ((hk_ot rfl).trans ((hk_ot rfl).trans rfl)))) P_w31 (by omega) l2
            · refine qm_Ru.go 2 (c' := (12, [.ref 118], [.int 2, .ref 118], (h.1, qm_up (qm_up (qm_up I 141 (cd.toInt.toNat) 0) 142 (cd.toInt.toNat) v26) 118 37 v27, J, h.2.2.2))) rfl ?_
              refine hk_inv (o := 118) (r := []) (as := [.ref 118, .int 2]) rfl rfl (hH.1 118 (17, 105) rfl) rfl rfl rfl rfl ?_
              refine qm_Ru.go 1 (c' := (1, [.ref 118, .int 2], [.ref 118], (h.1, qm_up (qm_up (qm_up I 141 (cd.toInt.toNat) 0) 142 (cd.toInt.toNat) v26) 118 37 v27, J, h.2.2.2))) rfl ?_
              refine hk_geti (v := f) rfl (hH.1 118 (17, 105) rfl) rfl (show (qm_up (qm_up (qm_up I 141 (cd.toInt.toNat) 0) 142 (cd.toInt.toNat) v26) 118 37 v27) 118 13 = _ from ((hk_neq (by decide)).trans ((hk_ot rfl).trans ((hk_ot rfl).trans q_f)))) ?_
              refine qm_Ru.go 0 (c' := (4, [.ref 118, .int 2], [.int f], (h.1, qm_up (qm_up (qm_up I 141 (cd.toInt.toNat) 0) 142 (cd.toInt.toNat) v26) 118 37 v27, J, h.2.2.2))) rfl ?_
              refine hk_zle (ix := f.toInt) rfl rfl (fun z32 => ?_) (fun z32 => by exfalso; omega)
              refine qm_Ru.go 2 (c' := (10, [.ref 118, .int 2], [.int 2, .ref 118], (h.1, qm_up (qm_up (qm_up I 141 (cd.toInt.toNat) 0) 142 (cd.toInt.toNat) v26) 118 37 v27, J, h.2.2.2))) rfl ?_
              refine hk_puti rfl (hH.1 118 (17, 105) rfl) rfl ?_
              refine qm_Ru.go 2 (c' := (15, [.ref 118, .int 2], [.ref 118, .ref 118], (h.1, qm_up (qm_up (qm_up (qm_up I 141 (cd.toInt.toNat) 0) 142 (cd.toInt.toNat) v26) 118 37 v27) 118 13 2, J, h.2.2.2))) rfl ?_
              refine hk_getr rfl (hH.1 118 (17, 105) rfl) rfl (hH.2 118 6 (some 122) rfl) ?_
              refine qm_Ru.go 1 (c' := (19, [.ref 118, .int 2], [.ref 118, .ref 122, .ref 118], (h.1, qm_up (qm_up (qm_up (qm_up I 141 (cd.toInt.toNat) 0) 142 (cd.toInt.toNat) v26) 118 37 v27) 118 13 2, J, h.2.2.2))) rfl ?_
              refine hk_geti (v := t) rfl (hH.1 118 (17, 105) rfl) rfl (show (qm_up (qm_up (qm_up (qm_up I 141 (cd.toInt.toNat) 0) 142 (cd.toInt.toNat) v26) 118 37 v27) 118 13 2) 118 11 = _ from ((hk_neq (by decide)).trans ((hk_neq (by decide)).trans ((hk_ot rfl).trans ((hk_ot rfl).trans q_t))))) ?_
              refine qm_Ru.go 0 (c' := (22, [.ref 118, .int 2], [.int t, .ref 122, .ref 118], (h.1, qm_up (qm_up (qm_up (qm_up I 141 (cd.toInt.toNat) 0) 142 (cd.toInt.toNat) v26) 118 37 v27) 118 13 2, J, h.2.2.2))) rfl ?_
              obtain ⟨v33, q_v33⟩ : ∃ v, h.2.1 122 (t.toInt.toNat) = v := ⟨_, rfl⟩
              refine hk_ial (v := v33) rfl (hH.1 122 (0, 403) rfl) (by omega) (by omega) (show (qm_up (qm_up (qm_up (qm_up I 141 (cd.toInt.toNat) 0) 142 (cd.toInt.toNat) v26) 118 37 v27) 118 13 2) 122 (t.toInt.toNat) = _ from ((hk_ot rfl).trans ((hk_ot rfl).trans ((hk_ot rfl).trans ((hk_ot rfl).trans ((e 122 rfl (t.toInt.toNat)).trans q_v33)))))) ?_
              refine qm_Ru.go 0 (c' := (23, [.ref 118, .int 2], [.int v33, .ref 118], (h.1, qm_up (qm_up (qm_up (qm_up I 141 (cd.toInt.toNat) 0) 142 (cd.toInt.toNat) v26) 118 37 v27) 118 13 2, J, h.2.2.2))) rfl ?_
              refine hk_puti rfl (hH.1 118 (17, 105) rfl) rfl ?_
              refine qm_Ru.go 0 (c' := (26, [.ref 118, .int 2], [], (h.1, qm_up (qm_up (qm_up (qm_up (qm_up I 141 (cd.toInt.toNat) 0) 142 (cd.toInt.toNat) v26) 118 37 v27) 118 13 2) 118 14 v33, J, h.2.2.2))) rfl ?_
              refine qm_Ru.rt (v := none) (h' := (h.1, qm_up (qm_up (qm_up (qm_up (qm_up I 141 (cd.toInt.toNat) 0) 142 (cd.toInt.toNat) v26) 118 37 v27) 118 13 2) 118 14 v33, J, h.2.2.2)) rfl ?_
              refine qm_Ru.go 1 (c' := (28, [.ref 118], [], (h.1, qm_up (qm_up (qm_up (qm_up (qm_up I 141 (cd.toInt.toNat) 0) 142 (cd.toInt.toNat) v26) 118 37 v27) 118 13 2) 118 14 v33, J, h.2.2.2))) rfl ?_
              refine qm_Ru.rt (v := none) (h' := (h.1, qm_up (qm_up (qm_up (qm_up (qm_up I 141 (cd.toInt.toNat) 0) 142 (cd.toInt.toNat) v26) 118 37 v27) 118 13 2) 118 14 v33, J, h.2.2.2)) rfl ?_
              refine qm_Ru.go 1 (c' := (93, [.ref 118], [], (h.1, qm_up (qm_up (qm_up (qm_up (qm_up I 141 (cd.toInt.toNat) 0) 142 (cd.toInt.toNat) v26) 118 37 v27) 118 13 2) 118 14 v33, J, h.2.2.2))) rfl ?_
              refine qm_Ru.rt (v := none) (h' := (h.1, qm_up (qm_up (qm_up (qm_up (qm_up I 141 (cd.toInt.toNat) 0) 142 (cd.toInt.toNat) v26) 118 37 v27) 118 13 2) 118 14 v33, J, h.2.2.2)) rfl ?_
              refine qm_Ru.go 1 (c' := (89, [.ref 118, .int bs, l2], [.ref 118], (h.1, qm_up (qm_up (qm_up (qm_up (qm_up I 141 (cd.toInt.toNat) 0) 142 (cd.toInt.toNat) v26) 118 37 v27) 118 13 2) 118 14 v33, J, h.2.2.2))) rfl ?_
              refine hk_geti (v := 2) rfl (hH.1 118 (17, 105) rfl) rfl (show (qm_up (qm_up (qm_up (qm_up (qm_up I 141 (cd.toInt.toNat) 0) 142 (cd.toInt.toNat) v26) 118 37 v27) 118 13 2) 118 14 v33) 118 13 = _ from ((hk_neq (by decide)).trans (hk_same))) ?_
              refine qm_Ru.go 1 (c' := (95, [.ref 118, .int bs, l2], [], (h.1, qm_up (qm_up (qm_up (qm_up (qm_up I 141 (cd.toInt.toNat) 0) 142 (cd.toInt.toNat) v26) 118 37 v27) 118 13 2) 118 14 v33, J, h.2.2.2))) rfl ?_
              refine qm_Ru.rt (v := none) (h' := (h.1, qm_up (qm_up (qm_up (qm_up (qm_up I 141 (cd.toInt.toNat) 0) 142 (cd.toInt.toNat) v26) 118 37 v27) 118 13 2) 118 14 v33, J, h.2.2.2)) rfl ?_
              have E_w34 : pI (qm_up (qm_up (qm_up (qm_up (qm_up I 141 (cd.toInt.toNat) 0) 142 (cd.toInt.toNat) v26) 118 37 v27) 118 13 2) 118 14 v33) 143 = pI I 143 := ((pI_sk rfl).trans ((pI_sk rfl).trans ((pI_sk rfl).trans ((pI_sk rfl).trans ((pI_sk rfl).trans rfl)))))
              have V_w34 : ws (pI (qm_up (qm_up (qm_up (qm_up (qm_up I 141 (cd.toInt.toNat) 0) 142 (cd.toInt.toNat) v26) 118 37 v27) 118 13 2) 118 14 v33) 143) wt.toInt.toNat := by rw [E_w34]; exact hW
              have U_w34 : wo (pI (qm_up (qm_up (qm_up (qm_up (qm_up I 141 (cd.toInt.toNat) 0) 142 (cd.toInt.toNat) v26) 118 37 v27) 118 13 2) 118 14 v33) 143) wt.toInt.toNat = wo (pI I 143) wt.toInt.toNat := by rw [E_w34]
              have O_w34 := hO
              have L_w34 := ws_le V_w34
              have P_w34 : Int32.toInt 2 = 0 → pq (qm_up (qm_up (qm_up (qm_up (qm_up I 141 (cd.toInt.toNat) 0) 142 (cd.toInt.toNat) v26) 118 37 v27) 118 13 2) 118 14 v33) lf 1 v27 wt := by
                intro z; exact absurd z (by decide)
              exact k (qm_up (qm_up (qm_up (qm_up (qm_up I 141 (cd.toInt.toNat) 0) 142 (cd.toInt.toNat) v26) 118 37 v27) 118 13 2) 118 14 v33) (J) t 2 v27 op (hb_up (o := 118) (k := 14) (x := v33) (hb_up (o := 118) (k := 13) (x := 2) (hb_up (o := 118) (k := 37) (x := v27) (hb_up (o := 142) (k := cd.toInt.toNat) (x := v26) (hb_up (o := 141) (k := cd.toInt.toNat) (x := 0) hBI ⟨(show (0 : Int) ≤ 0 from by decide), (show (0 : Int) ≤ 4 from by decide)⟩) (qa_in_full _)) ⟨by show (0 : Int) ≤ v27.toInt; omega, by show v27.toInt ≤ (840 : Int); omega⟩) (qa_in_full _)) (qa_in_full _)) (fun o ho i => ((hk_mod ho rfl).trans ((hk_mod ho rfl).trans ((hk_mod ho rfl).trans ((hk_mod ho rfl).trans ((hk_mod ho rfl).trans ((e o (hk_ms rfl ho) i).trans rfl))))))) (fun i hi => ((hk_neq (fun z => by subst z; cases hi)).trans ((hk_neq (fun z => by subst z; cases hi)).trans ((hk_neq (fun z => by subst z; cases hi)).trans ((hk_ot rfl).trans ((hk_ot rfl).trans ((e8 i (hk_ms rfl hi)).trans rfl))))))) (show (qm_up (qm_up (qm_up (qm_up (qm_up I 141 (cd.toInt.toNat) 0) 142 (cd.toInt.toNat) v26) 118 37 v27) 118 13 2) 118 14 v33) 118 11 = _ from ((hk_neq (by decide)).trans ((hk_neq (by decide)).trans ((hk_neq (by decide)).trans ((hk_ot rfl).trans ((hk_ot rfl).trans q_t)))))) (show (qm_up (qm_up (qm_up (qm_up (qm_up I 141 (cd.toInt.toNat) 0) 142 (cd.toInt.toNat) v26) 118 37 v27) 118 13 2) 118 14 v33) 118 13 = _ from ((hk_neq (by decide)).trans (hk_same))) (show (qm_up (qm_up (qm_up (qm_up (qm_up I 141 (cd.toInt.toNat) 0) 142 (cd.toInt.toNat) v26) 118 37 v27) 118 13 2) 118 14 v33) 118 37 = _ from ((hk_neq (by decide)).trans ((hk_neq (by decide)).trans (hk_same)))) (show (qm_up (qm_up (qm_up (qm_up (qm_up I 141 (cd.toInt.toNat) 0) 142 (cd.toInt.toNat) v26) 118 37 v27) 118 13 2) 118 14 v33) 118 12 = _ from ((hk_neq (by decide)).trans ((hk_neq (by decide)).trans ((hk_neq (by decide)).trans ((hk_ot rfl).trans ((hk_ot rfl).trans q_op)))))) (by omega) (by omega) (by omega) (pa_cg (pa_up (x := 0) (y := v26) (k := cd.toInt.toNat) (pa_cg hA (fun i => rfl) (fun i => rfl)) (by omega)) (fun i => ((hk_ot rfl).trans ((hk_ot rfl).trans ((hk_ot rfl).trans rfl)))) (fun i => ((hk_ot rfl).trans ((hk_ot rfl).trans ((hk_ot rfl).trans rfl))))) (fun z => absurd z (by decide))
        · refine qm_Ru.go 2 (c' := (25, [.ref 118, .int 6], [.int 1], (h.1, I, J, h.2.2.2))) rfl ?_
          refine qm_Ru.rt (v := (some (.int 1))) (h' := (h.1, I, J, h.2.2.2)) rfl ?_
          refine qm_Ru.go 2 (c' := (33, [.ref 118, .int bs, l2], [.ref 118], (h.1, I, J, h.2.2.2))) rfl ?_
          refine hk_geti (v := op) rfl (hH.1 118 (17, 105) rfl) rfl q_op ?_
          refine qm_Ru.go 1 (c' := (38, [.ref 118, .int bs, l2], [.int 6, .int op], (h.1, I, J, h.2.2.2))) rfl ?_
          refine hk_cne (ix := op.toInt) (iy := 6) rfl rfl rfl (fun z35 => ?_) (fun z35 => ?_)
          · refine qm_Ru.go 2 (c' := (48, [.ref 118, .int bs, l2], [.ref 118, .ref 118], (h.1, I, J, h.2.2.2))) rfl ?_
            refine hk_geti (v := op) rfl (hH.1 118 (17, 105) rfl) rfl q_op ?_
            refine qm_Ru.go 2 (c' := (53, [.ref 118, .int bs, l2], [.int (op + 1), .ref 118], (h.1, I, J, h.2.2.2))) rfl ?_
            obtain ⟨v36, q_v36, e_v36⟩ := hk_add (x := op) (y := 1) (a := op.toInt) (b := 1) rfl rfl (by omega) (by omega)
            rw [q_v36]
            refine hk_puti rfl (hH.1 118 (17, 105) rfl) rfl ?_
            refine qm_Ru.go 1 (c' := (57, [.ref 118, .int bs, l2], [.ref 118], (h.1, qm_up I 118 12 v36, J, h.2.2.2))) rfl ?_
            refine hk_inv (o := 118) (r := []) (as := [.ref 118]) rfl rfl (hH.1 118 (17, 105) rfl) rfl rfl rfl rfl ?_
            refine qm_Ru.go 1 (c' := (1, [.ref 118], [.ref 118], (h.1, qm_up I 118 12 v36, J, h.2.2.2))) rfl ?_
            refine hk_geti (v := t) rfl (hH.1 118 (17, 105) rfl) rfl (show (qm_up I 118 12 v36) 118 11 = _ from ((hk_neq (by decide)).trans q_t)) ?_
            refine qm_Ru.go 1 (c' := (7, [.ref 118], [.int 400, .int t], (h.1, qm_up I 118 12 v36, J, h.2.2.2))) rfl ?_
            refine hk_cne (ix := t.toInt) (iy := 400) rfl rfl rfl (fun z37 => ?_) (fun z37 => ?_)
            · refine qm_Ru.go 2 (c' := (20, [.ref 118], [.ref 118, .ref 118], (h.1, qm_up I 118 12 v36, J, h.2.2.2))) rfl ?_
              refine hk_geti (v := t) rfl (hH.1 118 (17, 105) rfl) rfl (show (qm_up I 118 12 v36) 118 11 = _ from ((hk_neq (by decide)).trans q_t)) ?_
              refine qm_Ru.go 2 (c' := (25, [.ref 118], [.int (t + 1), .ref 118], (h.1, qm_up I 118 12 v36, J, h.2.2.2))) rfl ?_
              obtain ⟨v38, q_v38, e_v38⟩ := hk_add (x := t) (y := 1) (a := t.toInt) (b := 1) rfl rfl (by omega) (by omega)
              rw [q_v38]
              refine hk_puti rfl (hH.1 118 (17, 105) rfl) rfl ?_
              refine qm_Ru.go 0 (c' := (28, [.ref 118], [], (h.1, qm_up (qm_up I 118 12 v36) 118 11 v38, J, h.2.2.2))) rfl ?_
              refine qm_Ru.rt (v := none) (h' := (h.1, qm_up (qm_up I 118 12 v36) 118 11 v38, J, h.2.2.2)) rfl ?_
              refine qm_Ru.go 1 (c' := (61, [.ref 118, .int bs, l2], [.ref 118], (h.1, qm_up (qm_up I 118 12 v36) 118 11 v38, J, h.2.2.2))) rfl ?_
              refine hk_getr rfl (hH.1 118 (17, 105) rfl) rfl (hH.2 118 40 (some 143) rfl) ?_
              refine qm_Ru.go 1 (c' := (65, [.ref 118, .int bs, l2], [.ref 118, .ref 143], (h.1, qm_up (qm_up I 118 12 v36) 118 11 v38, J, h.2.2.2))) rfl ?_
              refine hk_geti (v := wt) rfl (hH.1 118 (17, 105) rfl) rfl (show (qm_up (qm_up I 118 12 v36) 118 11 v38) 118 41 = _ from ((hk_neq (by decide)).trans ((hk_neq (by decide)).trans q_wt))) ?_
              refine qm_Ru.go 1 (c' := (70, [.ref 118, .int bs, l2], [.int 6, .int wt, .ref 143], (h.1, qm_up (qm_up I 118 12 v36) 118 11 v38, J, h.2.2.2))) rfl ?_
              refine hk_ias rfl (hH.1 143 (0, 64) rfl) (by omega) (by omega) ?_
              refine qm_Ru.go 2 (c' := (73, [.ref 118, .int bs, l2], [.ref 118, .ref 118], (h.1, qm_up (qm_up (qm_up I 118 12 v36) 118 11 v38) 143 (wt.toInt.toNat) 6, J, h.2.2.2))) rfl ?_
              refine hk_geti (v := wt) rfl (hH.1 118 (17, 105) rfl) rfl (show (qm_up (qm_up (qm_up I 118 12 v36) 118 11 v38) 143 (wt.toInt.toNat) 6) 118 41 = _ from ((hk_ot rfl).trans ((hk_neq (by decide)).trans ((hk_neq (by decide)).trans q_wt)))) ?_
              refine qm_Ru.go 2 (c' := (78, [.ref 118, .int bs, l2], [.int (wt + 1), .ref 118], (h.1, qm_up (qm_up (qm_up I 118 12 v36) 118 11 v38) 143 (wt.toInt.toNat) 6, J, h.2.2.2))) rfl ?_
              obtain ⟨v39, q_v39, e_v39⟩ := hk_add (x := wt) (y := 1) (a := wt.toInt) (b := 1) rfl rfl (by omega) (by omega)
              rw [q_v39]
              refine hk_puti rfl (hH.1 118 (17, 105) rfl) rfl ?_
              refine qm_Ru.go 1 (c' := (23, [.ref 118, .int bs, l2], [], (h.1, qm_up (qm_up (qm_up (qm_up I 118 12 v36) 118 11 v38) 143 (wt.toInt.toNat) 6) 118 41 v39, J, h.2.2.2))) rfl ?_
              have W_w40 := ws_push (w := pI I 143) (n := wt.toInt.toNat) (x := Int32.toInt 6) hW (Or.inl k6)
              have E_w40 : pI (qm_up (qm_up (qm_up (qm_up I 118 12 v36) 118 11 v38) 143 (wt.toInt.toNat) 6) 118 41 v39) 143 = fu_up (pI I 143) wt.toInt.toNat (Int32.toInt 6) := ((pI_sk rfl).trans (pI_up.trans (congrArg (fun f => fu_up f wt.toInt.toNat (Int32.toInt 6)) ((pI_sk rfl).trans ((pI_sk rfl).trans rfl)))))
              have N_w40 : v39.toInt.toNat = wt.toInt.toNat + 1 := by omega
              have V_w40 : ws (pI (qm_up (qm_up (qm_up (qm_up I 118 12 v36) 118 11 v38) 143 (wt.toInt.toNat) 6) 118 41 v39) 143) v39.toInt.toNat := by rw [E_w40, N_w40]; exact W_w40.1
              have U_w40 : wo (pI (qm_up (qm_up (qm_up (qm_up I 118 12 v36) 118 11 v38) 143 (wt.toInt.toNat) 6) 118 41 v39) 143) v39.toInt.toNat = wo (pI I 143) wt.toInt.toNat + 1 := by rw [E_w40, N_w40, W_w40.2, if_pos k6]
              have O_w40 := hO
              have L_w40 := ws_le V_w40
              have P_w40 : Int32.toInt f = 0 → pq (qm_up (qm_up (qm_up (qm_up I 118 12 v36) 118 11 v38) 143 (wt.toInt.toNat) 6) 118 41 v39) lf 0 cd v39 := by
                intro z
                obtain ⟨p1, p2⟩ := hP z
                have hlc := p1.1
                refine ⟨?_, ?_⟩
                · rw [show pI (qm_up (qm_up (qm_up (qm_up I 118 12 v36) 118 11 v38) 143 (wt.toInt.toNat) 6) 118 41 v39) 141 = pI I 141 from ((pI_sk rfl).trans ((pI_sk rfl).trans ((pI_sk rfl).trans ((pI_sk rfl).trans rfl)))), show pI (qm_up (qm_up (qm_up (qm_up I 118 12 v36) 118 11 v38) 143 (wt.toInt.toNat) 6) 118 41 v39) 142 = pI I 142 from ((pI_sk rfl).trans ((pI_sk rfl).trans ((pI_sk rfl).trans ((pI_sk rfl).trans rfl))))]
                  exact p1
                · rw [show pI (qm_up (qm_up (qm_up (qm_up I 118 12 v36) 118 11 v38) 143 (wt.toInt.toNat) 6) 118 41 v39) 141 = pI I 141 from ((pI_sk rfl).trans ((pI_sk rfl).trans ((pI_sk rfl).trans ((pI_sk rfl).trans rfl))))]
                  omega
              exact (ih (m - 1) (by omega)).1 (qm_up (qm_up (qm_up (qm_up I 118 12 v36) 118 11 v38) 143 (wt.toInt.toNat) 6) 118 41 v39) (J) v38 f cd v39 v36 (hb_up (o := 118) (k := 41) (x := v39) (hb_up (o := 143) (k := wt.toInt.toNat) (x := 6) (hb_up (o := 118) (k := 11) (x := v38) (hb_up (o := 118) (k := 12) (x := v36) hBI ⟨by show (0 : Int) ≤ v36.toInt; omega, by show v36.toInt ≤ (7 : Int); omega⟩) ⟨by show (0 : Int) ≤ v38.toInt; omega, by show v38.toInt ≤ (400 : Int); omega⟩) ⟨(show (0 : Int) ≤ 6 from by decide), (show (6 : Int) ≤ 44 from by decide)⟩) ⟨by show (0 : Int) ≤ v39.toInt; omega, by show v39.toInt ≤ (64 : Int); omega⟩) (fun o ho i => ((hk_mod ho rfl).trans ((hk_mod ho rfl).trans ((hk_mod ho rfl).trans ((hk_mod ho rfl).trans ((e o (hk_ms rfl ho) i).trans rfl)))))) (fun i hi => ((hk_neq (fun z => by subst z; cases hi)).trans ((hk_ot rfl).trans ((hk_neq (fun z => by subst z; cases hi)).trans ((hk_neq (fun z => by subst z; cases hi)).trans ((e8 i (hk_ms rfl hi)).trans rfl)))))) (show (qm_up (qm_up (qm_up (qm_up I 118 12 v36) 118 11 v38) 143 (wt.toInt.toNat) 6) 118 41 v39) 118 11 = _ from ((hk_neq (by decide)).trans ((hk_ot rfl).trans (hk_same)))) (show (qm_up (qm_up (qm_up (qm_up I 118 12 v36) 118 11 v38) 143 (wt.toInt.toNat) 6) 118 41 v39) 118 13 = _ from ((hk_neq (by decide)).trans ((hk_ot rfl).trans ((hk_neq (by decide)).trans ((hk_neq (by decide)).trans q_f))))) (show (qm_up (qm_up (qm_up (qm_up I 118 12 v36) 118 11 v38) 143 (wt.toInt.toNat) 6) 118 41 v39) 118 37 = _ from ((hk_neq (by decide)).trans ((hk_ot rfl).trans ((hk_neq (by decide)).trans ((hk_neq (by decide)).trans q_cd))))) (show (qm_up (qm_up (qm_up (qm_up I 118 12 v36) 118 11 v38) 143 (wt.toInt.toNat) 6) 118 41 v39) 118 41 = _ from (hk_same)) (show (qm_up (qm_up (qm_up (qm_up I 118 12 v36) 118 11 v38) 143 (wt.toInt.toNat) 6) 118 41 v39) 118 12 = _ from ((hk_neq (by decide)).trans ((hk_ot rfl).trans ((hk_neq (by decide)).trans (hk_same)))))  (by omega) (by omega) (by omega) (by omega) V_w40 (by omega) (pa_cg hA (fun i => ((hk_ot rfl).trans ((hk_ot rfl).trans ((hk_ot rfl).trans ((hk_ot rfl).trans rfl))))) (fun i => ((hk_ot rfl).trans ((hk_ot rfl).trans ((hk_ot rfl).trans ((hk_ot rfl).trans rfl)))))) P_w40 (by omega) l2
            · refine qm_Ru.go 2 (c' := (12, [.ref 118], [.int 2, .ref 118], (h.1, qm_up I 118 12 v36, J, h.2.2.2))) rfl ?_
              refine hk_inv (o := 118) (r := []) (as := [.ref 118, .int 2]) rfl rfl (hH.1 118 (17, 105) rfl) rfl rfl rfl rfl ?_
              refine qm_Ru.go 1 (c' := (1, [.ref 118, .int 2], [.ref 118], (h.1, qm_up I 118 12 v36, J, h.2.2.2))) rfl ?_
              refine hk_geti (v := f) rfl (hH.1 118 (17, 105) rfl) rfl (show (qm_up I 118 12 v36) 118 13 = _ from ((hk_neq (by decide)).trans q_f)) ?_
              refine qm_Ru.go 0 (c' := (4, [.ref 118, .int 2], [.int f], (h.1, qm_up I 118 12 v36, J, h.2.2.2))) rfl ?_
              refine hk_zle (ix := f.toInt) rfl rfl (fun z41 => ?_) (fun z41 => by exfalso; omega)
              refine qm_Ru.go 2 (c' := (10, [.ref 118, .int 2], [.int 2, .ref 118], (h.1, qm_up I 118 12 v36, J, h.2.2.2))) rfl ?_
              refine hk_puti rfl (hH.1 118 (17, 105) rfl) rfl ?_
              refine qm_Ru.go 2 (c' := (15, [.ref 118, .int 2], [.ref 118, .ref 118], (h.1, qm_up (qm_up I 118 12 v36) 118 13 2, J, h.2.2.2))) rfl ?_
              refine hk_getr rfl (hH.1 118 (17, 105) rfl) rfl (hH.2 118 6 (some 122) rfl) ?_
              refine qm_Ru.go 1 (c' := (19, [.ref 118, .int 2], [.ref 118, .ref 122, .ref 118], (h.1, qm_up (qm_up I 118 12 v36) 118 13 2, J, h.2.2.2))) rfl ?_
              refine hk_geti (v := t) rfl (hH.1 118 (17, 105) rfl) rfl (show (qm_up (qm_up I 118 12 v36) 118 13 2) 118 11 = _ from ((hk_neq (by decide)).trans ((hk_neq (by decide)).trans q_t))) ?_
              refine qm_Ru.go 0 (c' := (22, [.ref 118, .int 2], [.int t, .ref 122, .ref 118], (h.1, qm_up (qm_up I 118 12 v36) 118 13 2, J, h.2.2.2))) rfl ?_
              obtain ⟨v42, q_v42⟩ : ∃ v, h.2.1 122 (t.toInt.toNat) = v := ⟨_, rfl⟩
              refine hk_ial (v := v42) rfl (hH.1 122 (0, 403) rfl) (by omega) (by omega) (show (qm_up (qm_up I 118 12 v36) 118 13 2) 122 (t.toInt.toNat) = _ from ((hk_ot rfl).trans ((hk_ot rfl).trans ((e 122 rfl (t.toInt.toNat)).trans q_v42)))) ?_
              refine qm_Ru.go 0 (c' := (23, [.ref 118, .int 2], [.int v42, .ref 118], (h.1, qm_up (qm_up I 118 12 v36) 118 13 2, J, h.2.2.2))) rfl ?_
              refine hk_puti rfl (hH.1 118 (17, 105) rfl) rfl ?_
              refine qm_Ru.go 0 (c' := (26, [.ref 118, .int 2], [], (h.1, qm_up (qm_up (qm_up I 118 12 v36) 118 13 2) 118 14 v42, J, h.2.2.2))) rfl ?_
              refine qm_Ru.rt (v := none) (h' := (h.1, qm_up (qm_up (qm_up I 118 12 v36) 118 13 2) 118 14 v42, J, h.2.2.2)) rfl ?_
              refine qm_Ru.go 1 (c' := (28, [.ref 118], [], (h.1, qm_up (qm_up (qm_up I 118 12 v36) 118 13 2) 118 14 v42, J, h.2.2.2))) rfl ?_
              refine qm_Ru.rt (v := none) (h' := (h.1, qm_up (qm_up (qm_up I 118 12 v36) 118 13 2) 118 14 v42, J, h.2.2.2)) rfl ?_
              refine qm_Ru.go 1 (c' := (61, [.ref 118, .int bs, l2], [.ref 118], (h.1, qm_up (qm_up (qm_up I 118 12 v36) 118 13 2) 118 14 v42, J, h.2.2.2))) rfl ?_
              refine hk_getr rfl (hH.1 118 (17, 105) rfl) rfl (hH.2 118 40 (some 143) rfl) ?_
              refine qm_Ru.go 1 (c' := (65, [.ref 118, .int bs, l2], [.ref 118, .ref 143], (h.1, qm_up (qm_up (qm_up I 118 12 v36) 118 13 2) 118 14 v42, J, h.2.2.2))) rfl ?_
              refine hk_geti (v := wt) rfl (hH.1 118 (17, 105) rfl) rfl (show (qm_up (qm_up (qm_up I 118 12 v36) 118 13 2) 118 14 v42) 118 41 = _ from ((hk_neq (by decide)).trans ((hk_neq (by decide)).trans ((hk_neq (by decide)).trans q_wt)))) ?_
              refine qm_Ru.go 1 (c' := (70, [.ref 118, .int bs, l2], [.int 6, .int wt, .ref 143], (h.1, qm_up (qm_up (qm_up I 118 12 v36) 118 13 2) 118 14 v42, J, h.2.2.2))) rfl ?_
              refine hk_ias rfl (hH.1 143 (0, 64) rfl) (by omega) (by omega) ?_
              refine qm_Ru.go 2 (c' := (73, [.ref 118, .int bs, l2], [.ref 118, .ref 118], (h.1, qm_up (qm_up (qm_up (qm_up I 118 12 v36) 118 13 2) 118 14 v42) 143 (wt.toInt.toNat) 6, J, h.2.2.2))) rfl ?_
              refine hk_geti (v := wt) rfl (hH.1 118 (17, 105) rfl) rfl (show (qm_up (qm_up (qm_up (qm_up I 118 12 v36) 118 13 2) 118 14 v42) 143 (wt.toInt.toNat) 6) 118 41 = _ from ((hk_ot rfl).trans ((hk_neq (by decide)).trans ((hk_neq (by decide)).trans ((hk_neq (by decide)).trans q_wt))))) ?_
              refine qm_Ru.go 2 (c' := (78, [.ref 118, .int bs, l2], [.int (wt + 1), .ref 118], (h.1, qm_up (qm_up (qm_up (qm_up I 118 12 v36) 118 13 2) 118 14 v42) 143 (wt.toInt.toNat) 6, J, h.2.2.2))) rfl ?_
              obtain ⟨v43, q_v43, e_v43⟩ := hk_add (x := wt) (y := 1) (a := wt.toInt) (b := 1) rfl rfl (by omega) (by omega)
              rw [q_v43]
              refine hk_puti rfl (hH.1 118 (17, 105) rfl) rfl ?_
              refine qm_Ru.go 1 (c' := (23, [.ref 118, .int bs, l2], [], (h.1, qm_up (qm_up (qm_up (qm_up (qm_up I 118 12 v36) 118 13 2) 118 14 v42) 143 (wt.toInt.toNat) 6) 118 41 v43, J, h.2.2.2))) rfl ?_
              have W_w44 := ws_push (w := pI I 143) (n := wt.toInt.toNat) (x := Int32.toInt 6) hW (Or.inl k6)
              have E_w44 : pI (qm_up (qm_up (qm_up (qm_up (qm_up I 118 12 v36) 118 13 2) 118 14 v42) 143 (wt.toInt.toNat) 6) 118 41 v43) 143 = fu_up (pI I 143) wt.toInt.toNat (Int32.toInt 6) := ((pI_sk rfl).trans (pI_up.trans (congrArg (fun f => fu_up f wt.toInt.toNat (Int32.toInt 6)) ((pI_sk rfl).trans ((pI_sk rfl).trans ((pI_sk rfl).trans rfl))))))
              have N_w44 : v43.toInt.toNat = wt.toInt.toNat + 1 := by omega
              have V_w44 : ws (pI (qm_up (qm_up (qm_up (qm_up (qm_up I 118 12 v36) 118 13 2) 118 14 v42) 143 (wt.toInt.toNat) 6) 118 41 v43) 143) v43.toInt.toNat := by rw [E_w44, N_w44]; exact W_w44.1
              have U_w44 : wo (pI (qm_up (qm_up (qm_up (qm_up (qm_up I 118 12 v36) 118 13 2) 118 14 v42) 143 (wt.toInt.toNat) 6) 118 41 v43) 143) v43.toInt.toNat = wo (pI I 143) wt.toInt.toNat + 1 := by rw [E_w44, N_w44, W_w44.2, if_pos k6]
              have O_w44 := hO
              have L_w44 := ws_le V_w44
              have P_w44 : Int32.toInt 2 = 0 → pq (qm_up (qm_up (qm_up (qm_up (qm_up I 118 12 v36) 118 13 2) 118 14 v42) 143 (wt.toInt.toNat) 6) 118 41 v43) lf 0 cd v43 := by
                intro z; exact absurd z (by decide)
              exact (ih (m - 1) (by omega)).1 (qm_up (qm_up (qm_up (qm_up (qm_up I 118 12 v36) 118 13 2) 118 14 v42) 143 (wt.toInt.toNat) 6) 118 41 v43) (J) t 2 cd v43 v36 (hb_up (o := 118) (k := 41) (x := v43) (hb_up (o := 143) (k := wt.toInt.toNat) (x := 6) (hb_up (o := 118) (k := 14) (x := v42) (hb_up (o := 118) (k := 13) (x := 2) (hb_up (o := 118) (k := 12) (x := v36) hBI ⟨by show (0 : Int) ≤ v36.toInt; omega, by show v36.toInt ≤ (7 : Int); omega⟩) (qa_in_full _)) (qa_in_full _)) ⟨(show (0 : Int) ≤ 6 from by decide), (show (6 : Int) ≤ 44 from by decide)⟩) ⟨by show (0 : Int) ≤ v43.toInt; omega, by show v43.toInt ≤ (64 : Int); omega⟩) (fun o ho i => ((hk_mod ho rfl).trans ((hk_mod ho rfl).trans ((hk_mod ho rfl).trans ((hk_mod ho rfl).trans ((hk_mod ho rfl).trans ((e o (hk_ms rfl ho) i).trans rfl))))))) (fun i hi => ((hk_neq (fun z => by subst z; cases hi)).trans ((hk_ot rfl).trans ((hk_neq (fun z => by subst z; cases hi)).trans ((hk_neq (fun z => by subst z; cases hi)).trans ((hk_neq (fun z => by subst z; cases hi)).trans ((e8 i (hk_ms rfl hi)).trans rfl))))))) (show (qm_up (qm_up (qm_up (qm_up (qm_up I 118 12 v36) 118 13 2) 118 14 v42) 143 (wt.toInt.toNat) 6) 118 41 v43) 118 11 = _ from ((hk_neq (by decide)).trans ((hk_ot rfl).trans ((hk_neq (by decide)).trans ((hk_neq (by decide)).trans ((hk_neq (by decide)).trans q_t)))))) (show (qm_up (qm_up (qm_up (qm_up (qm_up I 118 12 v36) 118 13 2) 118 14 v42) 143 (wt.toInt.toNat) 6) 118 41 v43) 118 13 = _ from ((hk_neq (by decide)).trans ((hk_ot rfl).trans ((hk_neq (by decide)).trans (hk_same))))) (show (qm_up (qm_up (qm_up (qm_up (qm_up I 118 12 v36) 118 13 2) 118 14 v42) 143 (wt.toInt.toNat) 6) 118 41 v43) 118 37 = _ from ((hk_neq (by decide)).trans ((hk_ot rfl).trans ((hk_neq (by decide)).trans ((hk_neq (by decide)).trans ((hk_neq (by decide)).trans q_cd)))))) (show (qm_up (qm_up (qm_up (qm_up (qm_up I 118 12 v36) 118 13 2) 118 14 v42) 143 (wt.toInt.toNat) 6) 118 41 v43) 118 41 = _ from (hk_same)) (show (qm_up (qm_up (qm_up (qm_up (qm_up I 118 12 v36) 118 13 2) 118 14 v42) 143 (wt.toInt.toNat) 6) 118 41 v43) 118 12 = _ from ((hk_neq (by decide)).trans ((hk_ot rfl).trans ((hk_neq (by decide)).trans ((hk_neq (by decide)).trans (hk_same))))))  (by omega) (by omega) (by omega) (by omega) V_w44 (by omega) (pa_cg hA (fun i => ((hk_ot rfl).trans ((hk_ot rfl).trans ((hk_ot rfl).trans ((hk_ot rfl).trans ((hk_ot rfl).trans rfl)))))) (fun i => ((hk_ot rfl).trans ((hk_ot rfl).trans ((hk_ot rfl).trans ((hk_ot rfl).trans ((hk_ot rfl).trans rfl))))))) P_w44 (by omega) l2
          · refine qm_Ru.go 2 (c' := (43, [.ref 118, .int bs, l2], [.int 2, .ref 118], (h.1, I, J, h.2.2.2))) rfl ?_
            refine hk_inv (o := 118) (r := []) (as := [.ref 118, .int 2]) rfl rfl (hH.1 118 (17, 105) rfl) rfl rfl rfl rfl ?_
            refine qm_Ru.go 1 (c' := (1, [.ref 118, .int 2], [.ref 118], (h.1, I, J, h.2.2.2))) rfl ?_
            refine hk_geti (v := f) rfl (hH.1 118 (17, 105) rfl) rfl q_f ?_
            refine qm_Ru.go 0 (c' := (4, [.ref 118, .int 2], [.int f], (h.1, I, J, h.2.2.2))) rfl ?_
            refine hk_zle (ix := f.toInt) rfl rfl (fun z45 => ?_) (fun z45 => by exfalso; omega)
            refine qm_Ru.go 2 (c' := (10, [.ref 118, .int 2], [.int 2, .ref 118], (h.1, I, J, h.2.2.2))) rfl ?_
            refine hk_puti rfl (hH.1 118 (17, 105) rfl) rfl ?_
            refine qm_Ru.go 2 (c' := (15, [.ref 118, .int 2], [.ref 118, .ref 118], (h.1, qm_up I 118 13 2, J, h.2.2.2))) rfl ?_
            refine hk_getr rfl (hH.1 118 (17, 105) rfl) rfl (hH.2 118 6 (some 122) rfl) ?_
            refine qm_Ru.go 1 (c' := (19, [.ref 118, .int 2], [.ref 118, .ref 122, .ref 118], (h.1, qm_up I 118 13 2, J, h.2.2.2))) rfl ?_
            refine hk_geti (v := t) rfl (hH.1 118 (17, 105) rfl) rfl (show (qm_up I 118 13 2) 118 11 = _ from ((hk_neq (by decide)).trans q_t)) ?_
            refine qm_Ru.go 0 (c' := (22, [.ref 118, .int 2], [.int t, .ref 122, .ref 118], (h.1, qm_up I 118 13 2, J, h.2.2.2))) rfl ?_
            obtain ⟨v46, q_v46⟩ : ∃ v, h.2.1 122 (t.toInt.toNat) = v := ⟨_, rfl⟩
            refine hk_ial (v := v46) rfl (hH.1 122 (0, 403) rfl) (by omega) (by omega) (show (qm_up I 118 13 2) 122 (t.toInt.toNat) = _ from ((hk_ot rfl).trans ((e 122 rfl (t.toInt.toNat)).trans q_v46))) ?_
            refine qm_Ru.go 0 (c' := (23, [.ref 118, .int 2], [.int v46, .ref 118], (h.1, qm_up I 118 13 2, J, h.2.2.2))) rfl ?_
            refine hk_puti rfl (hH.1 118 (17, 105) rfl) rfl ?_
            refine qm_Ru.go 0 (c' := (26, [.ref 118, .int 2], [], (h.1, qm_up (qm_up I 118 13 2) 118 14 v46, J, h.2.2.2))) rfl ?_
            refine qm_Ru.rt (v := none) (h' := (h.1, qm_up (qm_up I 118 13 2) 118 14 v46, J, h.2.2.2)) rfl ?_
            refine qm_Ru.go 2 (c' := (48, [.ref 118, .int bs, l2], [.ref 118, .ref 118], (h.1, qm_up (qm_up I 118 13 2) 118 14 v46, J, h.2.2.2))) rfl ?_
            refine hk_geti (v := op) rfl (hH.1 118 (17, 105) rfl) rfl (show (qm_up (qm_up I 118 13 2) 118 14 v46) 118 12 = _ from ((hk_neq (by decide)).trans ((hk_neq (by decide)).trans q_op))) ?_
            refine qm_Ru.go 2 (c' := (53, [.ref 118, .int bs, l2], [.int (op + 1), .ref 118], (h.1, qm_up (qm_up I 118 13 2) 118 14 v46, J, h.2.2.2))) rfl ?_
            obtain ⟨v47, q_v47, e_v47⟩ := hk_add (x := op) (y := 1) (a := op.toInt) (b := 1) rfl rfl (by omega) (by omega)
            rw [q_v47]
            refine hk_puti rfl (hH.1 118 (17, 105) rfl) rfl ?_
            refine qm_Ru.go 1 (c' := (57, [.ref 118, .int bs, l2], [.ref 118], (h.1, qm_up (qm_up (qm_up I 118 13 2) 118 14 v46) 118 12 v47, J, h.2.2.2))) rfl ?_
            refine hk_inv (o := 118) (r := []) (as := [.ref 118]) rfl rfl (hH.1 118 (17, 105) rfl) rfl rfl rfl rfl ?_
            refine qm_Ru.go 1 (c' := (1, [.ref 118], [.ref 118], (h.1, qm_up (qm_up (qm_up I 118 13 2) 118 14 v46) 118 12 v47, J, h.2.2.2))) rfl ?_
            refine hk_geti (v := t) rfl (hH.1 118 (17, 105) rfl) rfl (show (qm_up (qm_up (qm_up I 118 13 2) 118 14 v46) 118 12 v47) 118 11 = _ from ((hk_neq (by decide)).trans ((hk_neq (by decide)).trans ((hk_neq (by decide)).trans q_t)))) ?_
            refine qm_Ru.go 1 (c' := (7, [.ref 118], [.int 400, .int t], (h.1, qm_up (qm_up (qm_up I 118 13 2) 118 14 v46) 118 12 v47, J, h.2.2.2))) rfl ?_
            refine hk_cne (ix := t.toInt) (iy := 400) rfl rfl rfl (fun z48 => ?_) (fun z48 => ?_)
            · refine qm_Ru.go 2 (c' := (20, [.ref 118], [.ref 118, .ref 118], (h.1, qm_up (qm_up (qm_up I 118 13 2) 118 14 v46) 118 12 v47, J, h.2.2.2))) rfl ?_
              refine hk_geti (v := t) rfl (hH.1 118 (17, 105) rfl) rfl (show (qm_up (qm_up (qm_up I 118 13 2) 118 14 v46) 118 12 v47) 118 11 = _ from ((hk_neq (by decide)).trans ((hk_neq (by decide)).trans ((hk_neq (by decide)).trans q_t)))) ?_
              refine qm_Ru.go 2 (c' := (25, [.ref 118], [.int (t + 1), .ref 118], (h.1, qm_up (qm_up (qm_up I 118 13 2) 118 14 v46) 118 12 v47, J, h.2.2.2))) rfl ?_
              obtain ⟨v49, q_v49, e_v49⟩ := hk_add (x := t) (y := 1) (a := t.toInt) (b := 1) rfl rfl (by omega) (by omega)
              rw [q_v49]
              refine hk_puti rfl (hH.1 118 (17, 105) rfl) rfl ?_
              refine qm_Ru.go 0 (c' := (28, [.ref 118], [], (h.1, qm_up (qm_up (qm_up (qm_up I 118 13 2) 118 14 v46) 118 12 v47) 118 11 v49, J, h.2.2.2))) rfl ?_
              refine qm_Ru.rt (v := none) (h' := (h.1, qm_up (qm_up (qm_up (qm_up I 118 13 2) 118 14 v46) 118 12 v47) 118 11 v49, J, h.2.2.2)) rfl ?_
              refine qm_Ru.go 1 (c' := (61, [.ref 118, .int bs, l2], [.ref 118], (h.1, qm_up (qm_up (qm_up (qm_up I 118 13 2) 118 14 v46) 118 12 v47) 118 11 v49, J, h.2.2.2))) rfl ?_
              refine hk_getr rfl (hH.1 118 (17, 105) rfl) rfl (hH.2 118 40 (some 143) rfl) ?_
              refine qm_Ru.go 1 (c' := (65, [.ref 118, .int bs, l2], [.ref 118, .ref 143], (h.1, qm_up (qm_up (qm_up (qm_up I 118 13 2) 118 14 v46) 118 12 v47) 118 11 v49, J, h.2.2.2))) rfl ?_
              refine hk_geti (v := wt) rfl (hH.1 118 (17, 105) rfl) rfl (show (qm_up (qm_up (qm_up (qm_up I 118 13 2) 118 14 v46) 118 12 v47) 118 11 v49) 118 41 = _ from ((hk_neq (by decide)).trans ((hk_neq (by decide)).trans ((hk_neq (by decide)).trans ((hk_neq (by decide)).trans q_wt))))) ?_
              refine qm_Ru.go 1 (c' := (70, [.ref 118, .int bs, l2], [.int 6, .int wt, .ref 143], (h.1, qm_up (qm_up (qm_up (qm_up I 118 13 2) 118 14 v46) 118 12 v47) 118 11 v49, J, h.2.2.2))) rfl ?_
              refine hk_ias rfl (hH.1 143 (0, 64) rfl) (by omega) (by omega) ?_
              refine qm_Ru.go 2 (c' := (73, [.ref 118, .int bs, l2], [.ref 118, .ref 118], (h.1, qm_up (qm_up (qm_up (qm_up (qm_up I 118 13 2) 118 14 v46) 118 12 v47) 118 11 v49) 143 (wt.toInt.toNat) 6, J, h.2.2.2))) rfl ?_
              refine hk_geti (v := wt) rfl (hH.1 118 (17, 105) rfl) rfl (show (qm_up (qm_up (qm_up (qm_up (qm_up I 118 13 2) 118 14 v46) 118 12 v47) 118 11 v49) 143 (wt.toInt.toNat) 6) 118 41 = _ from ((hk_ot rfl).trans ((hk_neq (by decide)).trans ((hk_neq (by decide)).trans ((hk_neq (by decide)).trans ((hk_neq (by decide)).trans q_wt)))))) ?_
              refine qm_Ru.go 2 (c' := (78, [.ref 118, .int bs, l2], [.int (wt + 1), .ref 118], (h.1, qm_up (qm_up (qm_up (qm_up (qm_up I 118 13 2) 118 14 v46) 118 12 v47) 118 11 v49) 143 (wt.toInt.toNat) 6, J, h.2.2.2))) rfl ?_
              obtain ⟨v50, q_v50, e_v50⟩ := hk_add (x := wt) (y := 1) (a := wt.toInt) (b := 1) rfl rfl (by omega) (by omega)
              rw [q_v50]
              refine hk_puti rfl (hH.1 118 (17, 105) rfl) rfl ?_
              refine qm_Ru.go 1 (c' := (23, [.ref 118, .int bs, l2], [], (h.1, qm_up (qm_up (qm_up (qm_up (qm_up (qm_up I 118 13 2) 118 14 v46) 118 12 v47) 118 11 v49) 143 (wt.toInt.toNat) 6) 118 41 v50, J, h.2.2.2))) rfl ?_
              have W_w51 := ws_push (w := pI I 143) (n := wt.toInt.toNat) (x := Int32.toInt 6) hW (Or.inl k6)
              have E_w51 : pI (qm_up (qm_up (qm_up (qm_up (qm_up (qm_up I 118 13 2) 118 14 v46) 118 12 v47) 118 11 v49) 143 (wt.toInt.toNat) 6) 118 41 v50) 143 = fu_up (pI I 143) wt.toInt.toNat (Int32.toInt 6) := ((pI_sk rfl).trans (pI_up.trans (congrArg (fun f => fu_up f wt.toInt.toNat (Int32.toInt 6)) ((pI_sk rfl).trans ((pI_sk rfl).trans ((pI_sk rfl).trans ((pI_sk rfl).trans rfl)))))))
              have N_w51 : v50.toInt.toNat = wt.toInt.toNat + 1 := by omega
              have V_w51 : ws (pI (qm_up (qm_up (qm_up (qm_up (qm_up (qm_up I 118 13 2) 118 14 v46) 118 12 v47) 118 11 v49) 143 (wt.toInt.toNat) 6) 118 41 v50) 143) v50.toInt.toNat := by rw [E_w51, N_w51]; exact W_w51.1
              have U_w51 : wo (pI (qm_up (qm_up (qm_up (qm_up (qm_up (qm_up I 118 13 2) 118 14 v46) 118 12 v47) 118 11 v49) 143 (wt.toInt.toNat) 6) 118 41 v50) 143) v50.toInt.toNat = wo (pI I 143) wt.toInt.toNat + 1 := by rw [E_w51, N_w51, W_w51.2, if_pos k6]
              have O_w51 := hO
              have L_w51 := ws_le V_w51
              have P_w51 : Int32.toInt 2 = 0 → pq (qm_up (qm_up (qm_up (qm_up (qm_up (qm_up I 118 13 2) 118 14 v46) 118 12 v47) 118 11 v49) 143 (wt.toInt.toNat) 6) 118 41 v50) lf 0 cd v50 := by
                intro z; exact absurd z (by decide)
              exact (ih (m - 1) (by omega)).1 (qm_up (qm_up (qm_up (qm_up (qm_up (qm_up I 118 13 2) 118 14 v46) 118 12 v47) 118 11 v49) 143 (wt.toInt.toNat) 6) 118 41 v50) (J) v49 2 cd v50 v47 (hb_up (o := 118) (k := 41) (x := v50) (hb_up (o := 143) (k := wt.toInt.toNat) (x := 6) (hb_up (o := 118) (k := 11) (x := v49) (hb_up (o := 118) (k := 12) (x := v47) (hb_up (o := 118) (k := 14) (x := v46) (hb_up (o := 118) (k := 13) (x := 2) hBI (qa_in_full _)) (qa_in_full _)) ⟨by show (0 : Int) ≤ v47.toInt; omega, by show v47.toInt ≤ (7 : Int); omega⟩) ⟨by show (0 : Int) ≤ v49.toInt; omega, by show v49.toInt ≤ (400 : Int); omega⟩) ⟨(show (0 : Int) ≤ 6 from by decide), (show (6 : Int) ≤ 44 from by decide)⟩) ⟨by show (0 : Int) ≤ v50.toInt; omega, by show v50.toInt ≤ (64 : Int); omega⟩) (fun o ho i => ((hk_mod ho rfl).trans ((hk_mod ho rfl).trans ((hk_mod ho rfl).trans ((hk_mod ho rfl).trans ((hk_mod ho rfl).trans ((hk_mod ho rfl).trans ((e o (hk_ms rfl ho) i).trans rfl)))))))) (fun i hi => ((hk_neq (fun z => by subst z; cases hi)).trans ((hk_ot rfl).trans ((hk_neq (fun z => by subst z; cases hi)).trans ((hk_neq (fun z => by subst z; cases hi)).trans ((hk_neq (fun z => by subst z; cases hi)).trans ((hk_neq (fun z => by subst z; cases hi)).trans ((e8 i (hk_ms rfl hi)).trans rfl)))))))) (show (qm_up (qm_up (qm_up (qm_up (qm_up (qm_up I 118 13 2) 118 14 v46) 118 12 v47) 118 11 v49) 143 (wt.toInt.toNat) 6) 118 41 v50) 118 11 = _ from ((hk_neq (by decide)).trans ((hk_ot rfl).trans (hk_same)))) (show (qm_up (qm_up (qm_up (qm_up (qm_up (qm_up I 118 13 2) 118 14 v46) 118 12 v47) 118 11 v49) 143 (wt.toInt.toNat) 6) 118 41 v50) 118 13 = _ from ((hk_neq (by decide)).trans ((hk_ot rfl).trans ((hk_neq (by decide)).trans ((hk_neq (by decide)).trans ((hk_neq (by decide)).trans (hk_same))))))) (show (qm_up (qm_up (qm_up (qm_up (qm_up (qm_up I 118 13 2) 118 14 v46) 118 12 v47) 118 11 v49) 143 (wt.toInt.toNat) 6) 118 41 v50) 118 37 = _ from ((hk_neq (by decide)).trans ((hk_ot rfl).trans ((hk_neq (by decide)).trans ((hk_neq (by decide)).trans ((hk_neq (by decide)).trans ((hk_neq (by decide)).trans q_cd))))))) (show (qm_up (qm_up (qm_up (qm_up (qm_up (qm_up I 118 13 2) 118 14 v46) 118 12 v47) 118 11 v49) 143 (wt.toInt.toNat) 6) 118 41 v50) 118 41 = _ from (hk_same)) (show (qm_up (qm_up (qm_up (qm_up (qm_up (qm_up I 118 13 2) 118 14 v46) 118 12 v47) 118 11 v49) 143 (wt.toInt.toNat) 6) 118 41 v50) 118 12 = _ from ((hk_neq (by decide)).trans ((hk_ot rfl).trans ((hk_neq (by decide)).trans (hk_same)))))  (by omega) (by omega) (by omega) (by omega) V_w51 (by omega) (pa_cg hA (fun i => ((hk_ot rfl).trans ((hk_ot rfl).trans ((hk_ot rfl).trans ((hk_ot rfl).trans ((hk_ot rfl).trans ((hk_ot rfl).trans rfl))))))) (fun i => ((hk_ot rfl).trans ((hk_ot rfl).trans ((hk_ot rfl).trans ((hk_ot rfl).trans ((hk_ot rfl).trans ((hk_ot rfl).trans rfl)))))))) P_w51 (by omega) l2
            · refine qm_Ru.go 2 (c' := (12, [.ref 118], [.int 2, .ref 118], (h.1, qm_up (qm_up (qm_up I 118 13 2) 118 14 v46) 118 12 v47, J, h.2.2.2))) rfl ?_
              refine hk_inv (o := 118) (r := []) (as := [.ref 118, .int 2]) rfl rfl (hH.1 118 (17, 105) rfl) rfl rfl rfl rfl ?_
              refine qm_Ru.go 1 (c' := (1, [.ref 118, .int 2], [.ref 118], (h.1, qm_up (qm_up (qm_up I 118 13 2) 118 14 v46) 118 12 v47, J, h.2.2.2))) rfl ?_
              refine hk_geti (v := 2) rfl (hH.1 118 (17, 105) rfl) rfl (show (qm_up (qm_up (qm_up I 118 13 2) 118 14 v46) 118 12 v47) 118 13 = _ from ((hk_neq (by decide)).trans ((hk_neq (by decide)).trans (hk_same)))) ?_
              refine qm_Ru.go 1 (c' := (7, [.ref 118, .int 2], [], (h.1, qm_up (qm_up (qm_up I 118 13 2) 118 14 v46) 118 12 v47, J, h.2.2.2))) rfl ?_
              refine qm_Ru.rt (v := none) (h' := (h.1, qm_up (qm_up (qm_up I 118 13 2) 118 14 v46) 118 12 v47, J, h.2.2.2)) rfl ?_
              refine qm_Ru.go 1 (c' := (28, [.ref 118], [], (h.1, qm_up (qm_up (qm_up I 118 13 2) 118 14 v46) 118 12 v47, J, h.2.2.2))) rfl ?_
              refine qm_Ru.rt (v := none) (h' := (h.1, qm_up (qm_up (qm_up I 118 13 2) 118 14 v46) 118 12 v47, J, h.2.2.2)) rfl ?_
              refine qm_Ru.go 1 (c' := (61, [.ref 118, .int bs, l2], [.ref 118], (h.1, qm_up (qm_up (qm_up I 118 13 2) 118 14 v46) 118 12 v47, J, h.2.2.2))) rfl ?_
              refine hk_getr rfl (hH.1 118 (17, 105) rfl) rfl (hH.2 118 40 (some 143) rfl) ?_
              refine qm_Ru.go 1 (c' := (65, [.ref 118, .int bs, l2], [.ref 118, .ref 143], (h.1, qm_up (qm_up (qm_up I 118 13 2) 118 14 v46) 118 12 v47, J, h.2.2.2))) rfl ?_
              refine hk_geti (v := wt) rfl (hH.1 118 (17, 105) rfl) rfl (show (qm_up (qm_up (qm_up I 118 13 2) 118 14 v46) 118 12 v47) 118 41 = _ from ((hk_neq (by decide)).trans ((hk_neq (by decide)).trans ((hk_neq (by decide)).trans q_wt)))) ?_
              refine qm_Ru.go 1 (c' := (70, [.ref 118, .int bs, l2], [.int 6, .int wt, .ref 143], (h.1, qm_up (qm_up (qm_up I 118 13 2) 118 14 v46) 118 12 v47, J, h.2.2.2))) rfl ?_
              refine hk_ias rfl (hH.1 143 (0, 64) rfl) (by omega) (by omega) ?_
              refine qm_Ru.go 2 (c' := (73, [.ref 118, .int bs, l2], [.ref 118, .ref 118], (h.1, qm_up (qm_up (qm_up (qm_up I 118 13 2) 118 14 v46) 118 12 v47) 143 (wt.toInt.toNat) 6, J, h.2.2.2))) rfl ?_
              refine hk_geti (v := wt) rfl (hH.1 118 (17, 105) rfl) rfl (show (qm_up (qm_up (qm_up (qm_up I 118 13 2) 118 14 v46) 118 12 v47) 143 (wt.toInt.toNat) 6) 118 41 = _ from ((hk_ot rfl).trans ((hk_neq (by decide)).trans ((hk_neq (by decide)).trans ((hk_neq (by decide)).trans q_wt))))) ?_
              refine qm_Ru.go 2 (c' := (78, [.ref 118, .int bs, l2], [.int (wt + 1), .ref 118], (h.1, qm_up (qm_up (qm_up (qm_up I 118 13 2) 118 14 v46) 118 12 v47) 143 (wt.toInt.toNat) 6, J, h.2.2.2))) rfl ?_
              obtain ⟨v52, q_v52, e_v52⟩ := hk_add (x := wt) (y := 1) (a := wt.toInt) (b := 1) rfl rfl (by omega) (by omega)
              rw [q_v52]
              refine hk_puti rfl (hH.1 118 (17, 105) rfl) rfl ?_
              refine qm_Ru.go 1 (c' := (23, [.ref 118, .int bs, l2], [], (h.1, qm_up (qm_up (qm_up (qm_up (qm_up I 118 13 2) 118 14 v46) 118 12 v47) 143 (wt.toInt.toNat) 6) 118 41 v52, J, h.2.2.2))) rfl ?_
              have W_w53 := ws_push (w := pI I 143) (n := wt.toInt.toNat) (x := Int32.toInt 6) hW (Or.inl k6)
              have E_w53 : pI (qm_up (qm_up (qm_up (qm_up (qm_up I 118 13 2) 118 14 v46) 118 12 v47) 143 (wt.toInt.toNat) 6) 118 41 v52) 143 = fu_up (pI I 143) wt.toInt.toNat (Int32.toInt 6) := ((pI_sk rfl).trans (pI_up.trans (congrArg (fun f => fu_up f wt.toInt.toNat (Int32.toInt 6)) ((pI_sk rfl).trans ((pI_sk rfl).trans ((pI_sk rfl).trans rfl))))))
              have N_w53 : v52.toInt.toNat = wt.toInt.toNat + 1 := by omega
              have V_w53 : ws (pI (qm_up (qm_up (qm_up (qm_up (qm_up I 118 13 2) 118 14 v46) 118 12 v47) 143 (wt.toInt.toNat) 6) 118 41 v52) 143) v52.toInt.toNat := by rw [E_w53, N_w53]; exact W_w53.1
              have U_w53 : wo (pI (qm_up (qm_up (qm_up (qm_up (qm_up I 118 13 2) 118 14 v46) 118 12 v47) 143 (wt.toInt.toNat) 6) 118 41 v52) 143) v52.toInt.toNat = wo (pI I 143) wt.toInt.toNat + 1 := by rw [E_w53, N_w53, W_w53.2, if_pos k6]
              have O_w53 := hO
              have L_w53 := ws_le V_w53
              have P_w53 : Int32.toInt 2 = 0 → pq (qm_up (qm_up (qm_up (qm_up (qm_up I 118 13 2) 118 14 v46) 118 12 v47) 143 (wt.toInt.toNat) 6) 118 41 v52) lf 0 cd v52 := by
                intro z; exact absurd z (by decide)
              exact (ih (m - 1) (by omega)).1 (qm_up (qm_up (qm_up (qm_up (qm_up I 118 13 2) 118 14 v46) 118 12 v47) 143 (wt.toInt.toNat) 6) 118 41 v52) (J) t 2 cd v52 v47 (hb_up (o := 118) (k := 41) (x := v52) (hb_up (o := 143) (k := wt.toInt.toNat) (x := 6) (hb_up (o := 118) (k := 12) (x := v47) (hb_up (o := 118) (k := 14) (x := v46) (hb_up (o := 118) (k := 13) (x := 2) hBI (qa_in_full _)) (qa_in_full _)) ⟨by show (0 : Int) ≤ v47.toInt; omega, by show v47.toInt ≤ (7 : Int); omega⟩) ⟨(show (0 : Int) ≤ 6 from by decide), (show (6 : Int) ≤ 44 from by decide)⟩) ⟨by show (0 : Int) ≤ v52.toInt; omega, by show v52.toInt ≤ (64 : Int); omega⟩) (fun o ho i => ((hk_mod ho rfl).trans ((hk_mod ho rfl).trans ((hk_mod ho rfl).trans ((hk_mod ho rfl).trans ((hk_mod ho rfl).trans ((e o (hk_ms rfl ho) i).trans rfl))))))) (fun i hi => ((hk_neq (fun z => by subst z; cases hi)).trans ((hk_ot rfl).trans ((hk_neq (fun z => by subst z; cases hi)).trans ((hk_neq (fun z => by subst z; cases hi)).trans ((hk_neq (fun z => by subst z; cases hi)).trans ((e8 i (hk_ms rfl hi)).trans rfl))))))) (show (qm_up (qm_up (qm_up (qm_up (qm_up I 118 13 2) 118 14 v46) 118 12 v47) 143 (wt.toInt.toNat) 6) 118 41 v52) 118 11 = _ from ((hk_neq (by decide)).trans ((hk_ot rfl).trans ((hk_neq (by decide)).trans ((hk_neq (by decide)).trans ((hk_neq (by decide)).trans q_t)))))) (show (qm_up (qm_up (qm_up (qm_up (qm_up I 118 13 2) 118 14 v46) 118 12 v47) 143 (wt.toInt.toNat) 6) 118 41 v52) 118 13 = _ from ((hk_neq (by decide)).trans ((hk_ot rfl).trans ((hk_neq (by decide)).trans ((hk_neq (by decide)).trans (hk_same)))))) (show (qm_up (qm_up (qm_up (qm_up (qm_up I 118 13 2) 118 14 v46) 118 12 v47) 143 (wt.toInt.toNat) 6) 118 41 v52) 118 37 = _ from ((hk_neq (by decide)).trans ((hk_ot rfl).trans ((hk_neq (by decide)).trans ((hk_neq (by decide)).trans ((hk_neq (by decide)).trans q_cd)))))) (show (qm_up (qm_up (qm_up (qm_up (qm_up I 118 13 2) 118 14 v46) 118 12 v47) 143 (wt.toInt.toNat) 6) 118 41 v52) 118 41 = _ from (hk_same)) (show (qm_up (qm_up (qm_up (qm_up (qm_up I 118 13 2) 118 14 v46) 118 12 v47) 143 (wt.toInt.toNat) 6) 118 41 v52) 118 12 = _ from ((hk_neq (by decide)).trans ((hk_ot rfl).trans (hk_same))))  (by omega) (by omega) (by omega) (by omega) V_w53 (by omega) (pa_cg hA (fun i => ((hk_ot rfl).trans ((hk_ot rfl).trans ((hk_ot rfl).trans ((hk_ot rfl).trans ((hk_ot rfl).trans rfl)))))) (fun i => ((hk_ot rfl).trans ((hk_ot rfl).trans ((hk_ot rfl).trans ((hk_ot rfl).trans ((hk_ot rfl).trans rfl))))))) P_w53 (by omega) l2
    
    · intro I J t f cd wt op hBI e e8 q_t q_f q_cd q_wt q_op ht hcd hE hop hW hO hA hP hm l2
      have wl0 := ws_le hW
      have wv0 := wo_le (w := pI I 143) wt.toInt.toNat
      refine qm_Ru.go 2 (c' := (99, [.ref 118, .int bs, l2], [.int 7, .ref 118], (h.1, I, J, h.2.2.2))) rfl ?_
      refine hk_inv (o := 118) (r := []) (as := [.ref 118, .int 7]) rfl rfl (hH.1 118 (17, 105) rfl) rfl rfl rfl rfl ?_
      refine qm_Ru.go 1 (c' := (1, [.ref 118, .int 7], [.ref 118], (h.1, I, J, h.2.2.2))) rfl ?_
      refine hk_geti (v := f) rfl (hH.1 118 (17, 105) rfl) rfl q_f ?_
      refine qm_Ru.go 0 (c' := (4, [.ref 118, .int 7], [.int f], (h.1, I, J, h.2.2.2))) rfl ?_
      refine hk_zne (ix := f.toInt) rfl rfl (fun z54 => ?_) (fun z54 => ?_)
      · refine qm_Ru.go 1 (c' := (25, [.ref 118, .int 7], [.int 0], (h.1, I, J, h.2.2.2))) rfl ?_
        refine qm_Ru.rt (v := (some (.int 0))) (h' := (h.1, I, J, h.2.2.2)) rfl ?_
        refine qm_Ru.go 3 (c' := (148, [.ref 118, .int bs, l2], [.int 8, .ref 118], (h.1, I, J, h.2.2.2))) rfl ?_
        refine hk_inv (o := 118) (r := []) (as := [.ref 118, .int 8]) rfl rfl (hH.1 118 (17, 105) rfl) rfl rfl rfl rfl ?_
        refine qm_Ru.go 1 (c' := (1, [.ref 118, .int 8], [.ref 118], (h.1, I, J, h.2.2.2))) rfl ?_
        refine hk_geti (v := f) rfl (hH.1 118 (17, 105) rfl) rfl q_f ?_
        refine qm_Ru.go 0 (c' := (4, [.ref 118, .int 8], [.int f], (h.1, I, J, h.2.2.2))) rfl ?_
        refine hk_zne (ix := f.toInt) rfl rfl (fun z55 => ?_) (fun z55 => by exfalso; omega)
        refine qm_Ru.go 1 (c' := (25, [.ref 118, .int 8], [.int 0], (h.1, I, J, h.2.2.2))) rfl ?_
        refine qm_Ru.rt (v := (some (.int 0))) (h' := (h.1, I, J, h.2.2.2)) rfl ?_
        refine qm_Ru.go 3 (c' := (157, [.ref 118, .int bs, l2], [.int 9, .ref 118], (h.1, I, J, h.2.2.2))) rfl ?_
        refine hk_inv (o := 118) (r := []) (as := [.ref 118, .int 9]) rfl rfl (hH.1 118 (17, 105) rfl) rfl rfl rfl rfl ?_
        refine qm_Ru.go 1 (c' := (1, [.ref 118, .int 9], [.ref 118], (h.1, I, J, h.2.2.2))) rfl ?_
        refine hk_geti (v := f) rfl (hH.1 118 (17, 105) rfl) rfl q_f ?_
        refine qm_Ru.go 0 (c' := (4, [.ref 118, .int 9], [.int f], (h.1, I, J, h.2.2.2))) rfl ?_
        refine hk_zne (ix := f.toInt) rfl rfl (fun z56 => ?_) (fun z56 => by exfalso; omega)
        refine qm_Ru.go 1 (c' := (25, [.ref 118, .int 9], [.int 0], (h.1, I, J, h.2.2.2))) rfl ?_
        refine qm_Ru.rt (v := (some (.int 0))) (h' := (h.1, I, J, h.2.2.2)) rfl ?_
        refine qm_Ru.go 3 (c' := (166, [.ref 118, .int bs, l2], [.int 10, .ref 118], (h.1, I, J, h.2.2.2))) rfl ?_
        refine hk_inv (o := 118) (r := []) (as := [.ref 118, .int 10]) rfl rfl (hH.1 118 (17, 105) rfl) rfl rfl rfl rfl ?_
        refine qm_Ru.go 1 (c' := (1, [.ref 118, .int 10], [.ref 118], (h.1, I, J, h.2.2.2))) rfl ?_
        refine hk_geti (v := f) rfl (hH.1 118 (17, 105) rfl) rfl q_f ?_
        refine qm_Ru.go 0 (c' := (4, [.ref 118, .int 10], [.int f], (h.1, I, J, h.2.2.2))) rfl ?_
        refine hk_zne (ix := f.toInt) rfl rfl (fun z57 => ?_) (fun z57 => by exfalso; omega)
        refine qm_Ru.go 1 (c' := (25, [.ref 118, .int 10], [.int 0], (h.1, I, J, h.2.2.2))) rfl ?_
        refine qm_Ru.rt (v := (some (.int 0))) (h' := (h.1, I, J, h.2.2.2)) rfl ?_
        refine qm_Ru.go 6 (c' := (183, [.ref 118, .int bs, .int 0], [.ref 118], (h.1, I, J, h.2.2.2))) rfl ?_
        refine hk_geti (v := op) rfl (hH.1 118 (17, 105) rfl) rfl q_op ?_
        refine qm_Ru.go 1 (c' := (187, [.ref 118, .int bs, .int 0], [.int bs, .int op], (h.1, I, J, h.2.2.2))) rfl ?_
        refine hk_cle (ix := op.toInt) (iy := bs.toInt) rfl rfl rfl (fun z58 => ?_) (fun z58 => ?_)
        · refine qm_Ru.go 2 (c' := (197, [.ref 118, .int bs, .int 0], [.int 0, .ref 118], (h.1, I, J, h.2.2.2))) rfl ?_
          have E_w59 : pI (I) 143 = pI I 143 := rfl
          have V_w59 : ws (pI (I) 143) wt.toInt.toNat := by rw [E_w59]; exact hW
          have U_w59 : wo (pI (I) 143) wt.toInt.toNat = wo (pI I 143) wt.toInt.toNat := by rw [E_w59]
          have O_w59 := hO
          have L_w59 := ws_le V_w59
          have P_w59 : Int32.toInt f = 0 → pq (I) lf 1 cd wt := by
            intro z
            obtain ⟨p1, p2⟩ := hP z
            have hlc := p1.1
            refine ⟨?_, ?_⟩
            · rw [show pI (I) 141 = pI I 141 from rfl, show pI (I) 142 = pI I 142 from rfl]
              exact p1
            · rw [show pI (I) 141 = pI I 141 from rfl]
              omega
          refine hk_inv (o := 118) (r := []) (as := [.ref 118, .int 0]) rfl rfl (hH.1 118 (17, 105) rfl) rfl rfl rfl rfl (hl_co (h := (h.1, I, J, h.2.2.2)) hH hBI (sg := 0) (by decide) (lo := (lf : Int)) (c1 := Int32.toInt cd + Int32.toInt wt) (lf := lf) (pz := Int32.toInt f = 0) (by omega) (by omega) (fun z => by omega) (hi := c0 + 420) (by omega) (fun I60 J61 c62 w63 hB_I60 e_I60 e8_I60 q_c62 q_w63 b1_I60 b2_I60 W_I60 O_I60 A_I60 P_I60 tp_I60 => ?_) _ (I) (J) cd wt (.float 0) hBI (fun _ _ _ => rfl) (fun _ _ => rfl) q_cd q_wt (by omega) ⟨by omega, rfl⟩ V_w59 rfl (fun _ _ => ⟨rfl, rfl⟩) P_w59 rfl)
          have e_I60 : ∀ o, [118, 141, 142].contains o = false → ∀ i, I60 o i = (I) o i := e_I60
          have e8_I60 : ∀ i, [37, 41].contains i = false → I60 118 i = (I) 118 i := e8_I60
          have WL_I60 := ws_le W_I60
          have wl_I60 := wo_le (w := pI I60 143) w63.toInt.toNat
          have A0_I60 : pa h.2.1 (I) (lf : Int) (c0 + 420) := (pa_cg hA (fun i => rfl) (fun i => rfl))
          have A_I60 : pa h.2.1 I60 (lf : Int) (c0 + 420) := fun i hi => ⟨(A_I60 i hi).1.trans (A0_I60 i hi).1, (A_I60 i hi).2.trans (A0_I60 i hi).2⟩
          have tp_I60 : w63.toInt = 0 ∨ pI I60 143 (w63.toInt.toNat - 1) = 6 ∨ ((0 : Int) = 1 ∧ (pI I60 143 (w63.toInt.toNat - 1) = 8 ∨ pI I60 143 (w63.toInt.toNat - 1) = 9)) := tp_I60
          have O9_I60 : (wo (pI I60 143) w63.toInt.toNat : Int) = (wo (pI (I) 143) wt.toInt.toNat : Int) := by rw [O_I60]
          refine qm_Ru.go 0 (c' := (200, [.ref 118, .int bs, .int 0], [], (h.1, I60, J61, h.2.2.2))) rfl ?_
          have o_p64 := O9_I60
          have pp_p64 : w63.toInt ≠ 0 → pI I60 143 (w63.toInt.toNat - 1) = 6 := by
            intro y; rcases tp_I60 with z | z | z
            · exact absurd z y
            · exact z
            · exact absurd z.1 (by decide)
          refine qm_Ru.rt (v := none) (h' := (h.1, I60, J61, h.2.2.2)) rfl ?_
          have E_w65 : pI (I60) 143 = pI I60 143 := rfl
          have V_w65 : ws (pI (I60) 143) w63.toInt.toNat := by rw [E_w65]; exact W_I60
          have U_w65 : wo (pI (I60) 143) w63.toInt.toNat = wo (pI I60 143) w63.toInt.toNat := by rw [E_w65]
          have O_w65 := O9_I60
          have L_w65 := ws_le V_w65
          have P_w65 : Int32.toInt f = 0 → pq (I60) lf 1 c62 w63 := by
            intro z
            obtain ⟨p1, p2⟩ := P_I60 z
            have hlc := p1.1
            refine ⟨?_, ?_⟩
            · rw [show pI (I60) 141 = pI I60 141 from rfl, show pI (I60) 142 = pI I60 142 from rfl]
              exact p1
            · rw [show pI (I60) 141 = pI I60 141 from rfl]
              omega
          exact k (I60) (J61) t f c62 op hB_I60 (fun o ho i => ((e_I60 o (hk_ms rfl ho) i).trans ((e o (hk_ms rfl ho) i).trans rfl))) (fun i hi => ((e8_I60 i (hk_ms rfl hi)).trans ((e8 i (hk_ms rfl hi)).trans rfl))) (show (I60) 118 11 = _ from ((e8_I60 11 rfl).trans q_t)) (show (I60) 118 13 = _ from ((e8_I60 13 rfl).trans q_f)) q_c62 (show (I60) 118 12 = _ from ((e8_I60 12 rfl).trans q_op)) (by omega) (by omega) (by omega) (pa_cg A_I60 (fun i => rfl) (fun i => rfl)) (fun z => ⟨by omega, by omega, (P_w65 z).1⟩)
        · refine qm_Ru.go 2 (c' := (192, [.ref 118, .int bs, .int 0], [.int 1, .ref 118], (h.1, I, J, h.2.2.2))) rfl ?_
          refine hk_inv (o := 118) (r := []) (as := [.ref 118, .int 1]) rfl rfl (hH.1 118 (17, 105) rfl) rfl rfl rfl rfl ?_
          refine qm_Ru.go 1 (c' := (1, [.ref 118, .int 1], [.ref 118], (h.1, I, J, h.2.2.2))) rfl ?_
          refine hk_geti (v := f) rfl (hH.1 118 (17, 105) rfl) rfl q_f ?_
          refine qm_Ru.go 0 (c' := (4, [.ref 118, .int 1], [.int f], (h.1, I, J, h.2.2.2))) rfl ?_
          refine hk_zle (ix := f.toInt) rfl rfl (fun z66 => by exfalso; omega) (fun z66 => ?_)
          refine qm_Ru.go 0 (c' := (7, [.ref 118, .int 1], [], (h.1, I, J, h.2.2.2))) rfl ?_
          refine qm_Ru.rt (v := none) (h' := (h.1, I, J, h.2.2.2)) rfl ?_
          refine qm_Ru.go 2 (c' := (197, [.ref 118, .int bs, .int 0], [.int 0, .ref 118], (h.1, I, J, h.2.2.2))) rfl ?_
          have E_w67 : pI (I) 143 = pI I 143 := rfl
          have V_w67 : ws (pI (I) 143) wt.toInt.toNat := by rw [E_w67]; exact hW
          have U_w67 : wo (pI (I) 143) wt.toInt.toNat = wo (pI I 143) wt.toInt.toNat := by rw [E_w67]
          have O_w67 := hO
          have L_w67 := ws_le V_w67
          have P_w67 : Int32.toInt f = 0 → pq (I) lf 1 cd wt := by
            intro z
            obtain ⟨p1, p2⟩ := hP z
            have hlc := p1.1
            refine ⟨?_, ?_⟩
            · rw [show pI (I) 141 = pI I 141 from rfl, show pI (I) 142 = pI I 142 from rfl]
              exact p1
            · rw [show pI (I) 141 = pI I 141 from rfl]
              omega
          refine hk_inv (o := 118) (r := []) (as := [.ref 118, .int 0]) rfl rfl (hH.1 118 (17, 105) rfl) rfl rfl rfl rfl (hl_co (h := (h.1, I, J, h.2.2.2)) hH hBI (sg := 0) (by decide) (lo := (lf : Int)) (c1 := Int32.toInt cd + Int32.toInt wt) (lf := lf) (pz := Int32.toInt f = 0) (by omega) (by omega) (fun z => by omega) (hi := c0 + 420) (by omega) (fun I68 J69 c70 w71 hB_I68 e_I68 e8_I68 q_c70 q_w71 b1_I68 b2_I68 W_I68 O_I68 A_I68 P_I68 tp_I68 => ?_) _ (I) (J) cd wt (.float 0) hBI (fun _ _ _ => rfl) (fun _ _ => rfl) q_cd q_wt (by omega) ⟨by omega, rfl⟩ V_w67 rfl (fun _ _ => ⟨rfl, rfl⟩) P_w67 rfl)
          have e_I68 : ∀ o, [118, 141, 142].contains o = false → ∀ i, I68 o i = (I) o i := e_I68
          have e8_I68 : ∀ i, [37, 41].contains i = false → I68 118 i = (I) 118 i := e8_I68
          have WL_I68 := ws_le W_I68
          have wl_I68 := wo_le (w := pI I68 143) w71.toInt.toNat
          have A0_I68 : pa h.2.1 (I) (lf : Int) (c0 + 420) := (pa_cg hA (fun i => rfl) (fun i => rfl))
          have A_I68 : pa h.2.1 I68 (lf : Int) (c0 + 420) := fun i hi => ⟨(A_I68 i hi).1.trans (A0_I68 i hi).1, (A_I68 i hi).2.trans (A0_I68 i hi).2⟩
          have tp_I68 : w71.toInt = 0 ∨ pI I68 143 (w71.toInt.toNat - 1) = 6 ∨ ((0 : Int) = 1 ∧ (pI I68 143 (w71.toInt.toNat - 1) = 8 ∨ pI I68 143 (w71.toInt.toNat - 1) = 9)) := tp_I68
          have O9_I68 : (wo (pI I68 143) w71.toInt.toNat : Int) = (wo (pI (I) 143) wt.toInt.toNat : Int) := by rw [O_I68]
          refine qm_Ru.go 0 (c' := (200, [.ref 118, .int bs, .int 0], [], (h.1, I68, J69, h.2.2.2))) rfl ?_
          have o_p72 := O9_I68
          have pp_p72 : w71.toInt ≠ 0 → pI I68 143 (w71.toInt.toNat - 1) = 6 := by
            intro y; rcases tp_I68 with z | z | z
            · exact absurd z y
            · exact z
            · exact absurd z.1 (by decide)
          refine qm_Ru.rt (v := none) (h' := (h.1, I68, J69, h.2.2.2)) rfl ?_
          have E_w73 : pI (I68) 143 = pI I68 143 := rfl
          have V_w73 : ws (pI (I68) 143) w71.toInt.toNat := by rw [E_w73]; exact W_I68
          have U_w73 : wo (pI (I68) 143) w71.toInt.toNat = wo (pI I68 143) w71.toInt.toNat := by rw [E_w73]
          have O_w73 := O9_I68
          have L_w73 := ws_le V_w73
          have P_w73 : Int32.toInt f = 0 → pq (I68) lf 1 c70 w71 := by
            intro z
            obtain ⟨p1, p2⟩ := P_I68 z
            have hlc := p1.1
            refine ⟨?_, ?_⟩
            · rw [show pI (I68) 141 = pI I68 141 from rfl, show pI (I68) 142 = pI I68 142 from rfl]
              exact p1
            · rw [show pI (I68) 141 = pI I68 141 from rfl]
              omega
          exact k (I68) (J69) t f c70 op hB_I68 (fun o ho i => ((e_I68 o (hk_ms rfl ho) i).trans ((e o (hk_ms rfl ho) i).trans rfl))) (fun i hi => ((e8_I68 i (hk_ms rfl hi)).trans ((e8 i (hk_ms rfl hi)).trans rfl))) (show (I68) 118 11 = _ from ((e8_I68 11 rfl).trans q_t)) (show (I68) 118 13 = _ from ((e8_I68 13 rfl).trans q_f)) q_c70 (show (I68) 118 12 = _ from ((e8_I68 12 rfl).trans q_op)) (by omega) (by omega) (by omega) (pa_cg A_I68 (fun i => rfl) (fun i => rfl)) (fun z => ⟨by omega, by omega, (P_w73 z).1⟩)
      · refine qm_Ru.go 1 (c' := (8, [.ref 118, .int 7], [.ref 118], (h.1, I, J, h.2.2.2))) rfl ?_
        refine hk_getr rfl (hH.1 118 (17, 105) rfl) rfl (hH.2 118 5 (some 121) rfl) ?_
        refine qm_Ru.go 1 (c' := (12, [.ref 118, .int 7], [.ref 118, .ref 121], (h.1, I, J, h.2.2.2))) rfl ?_
        refine hk_geti (v := t) rfl (hH.1 118 (17, 105) rfl) rfl q_t ?_
        refine qm_Ru.go 0 (c' := (15, [.ref 118, .int 7], [.int t, .ref 121], (h.1, I, J, h.2.2.2))) rfl ?_
        obtain ⟨v74, q_v74⟩ : ∃ v, h.2.1 121 (t.toInt.toNat) = v := ⟨_, rfl⟩
        have b_v74 : (0 : Int) ≤ v74.toInt ∧ v74.toInt ≤ 44 := by rw [← q_v74]; exact hB 121 (t.toInt.toNat)
        refine hk_ial (v := v74) rfl (hH.1 121 (0, 403) rfl) (by omega) (by omega) (show (I) 121 (t.toInt.toNat) = _ from ((e 121 rfl (t.toInt.toNat)).trans q_v74)) ?_
        refine qm_Ru.go 1 (c' := (17, [.ref 118, .int 7], [.int 7, .int v74], (h.1, I, J, h.2.2.2))) rfl ?_
        refine hk_cne (ix := v74.toInt) (iy := 7) rfl rfl rfl (fun z75 => ?_) (fun z75 => ?_)
        · refine qm_Ru.go 1 (c' := (25, [.ref 118, .int 7], [.int 0], (h.1, I, J, h.2.2.2))) rfl ?_
          refine qm_Ru.rt (v := (some (.int 0))) (h' := (h.1, I, J, h.2.2.2)) rfl ?_
          refine qm_Ru.go 3 (c' := (148, [.ref 118, .int bs, l2], [.int 8, .ref 118], (h.1, I, J, h.2.2.2))) rfl ?_
          refine hk_inv (o := 118) (r := []) (as := [.ref 118, .int 8]) rfl rfl (hH.1 118 (17, 105) rfl) rfl rfl rfl rfl ?_
          refine qm_Ru.go 1 (c' := (1, [.ref 118, .int 8], [.ref 118], (h.1, I, J, h.2.2.2))) rfl ?_
          refine hk_geti (v := f) rfl (hH.1 118 (17, 105) rfl) rfl q_f ?_
          refine qm_Ru.go 0 (c' := (4, [.ref 118, .int 8], [.int f], (h.1, I, J, h.2.2.2))) rfl ?_
          refine hk_zne (ix := f.toInt) rfl rfl (fun z76 => by exfalso; omega) (fun z76 => ?_)
          refine qm_Ru.go 1 (c' := (8, [.ref 118, .int 8], [.ref 118], (h.1, I, J, h.2.2.2))) rfl ?_
          refine hk_getr rfl (hH.1 118 (17, 105) rfl) rfl (hH.2 118 5 (some 121) rfl) ?_
          refine qm_Ru.go 1 (c' := (12, [.ref 118, .int 8], [.ref 118, .ref 121], (h.1, I, J, h.2.2.2))) rfl ?_
          refine hk_geti (v := t) rfl (hH.1 118 (17, 105) rfl) rfl q_t ?_
          refine qm_Ru.go 0 (c' := (15, [.ref 118, .int 8], [.int t, .ref 121], (h.1, I, J, h.2.2.2))) rfl ?_
          refine hk_ial (v := v74) rfl (hH.1 121 (0, 403) rfl) (by omega) (by omega) (show (I) 121 (t.toInt.toNat) = _ from ((e 121 rfl (t.toInt.toNat)).trans q_v74)) ?_
          refine qm_Ru.go 1 (c' := (17, [.ref 118, .int 8], [.int 8, .int v74], (h.1, I, J, h.2.2.2))) rfl ?_
          refine hk_cne (ix := v74.toInt) (iy := 8) rfl rfl rfl (fun z77 => ?_) (fun z77 => ?_)
          · refine qm_Ru.go 1 (c' := (25, [.ref 118, .int 8], [.int 0], (h.1, I, J, h.2.2.2))) rfl ?_
            refine qm_Ru.rt (v := (some (.int 0))) (h' := (h.1, I, J, h.2.2.2)) rfl ?_
            refine qm_Ru.go 3 (c' := (157, [.ref 118, .int bs, l2], [.int 9, .ref 118], (h.1, I, J, h.2.2.2))) rfl ?_
            refine hk_inv (o := 118) (r := []) (as := [.ref 118, .int 9]) rfl rfl (hH.1 118 (17, 105) rfl) rfl rfl rfl rfl ?_
            refine qm_Ru.go 1 (c' := (1, [.ref 118, .int 9], [.ref 118], (h.1, I, J, h.2.2.2))) rfl ?_
            refine hk_geti (v := f) rfl (hH.1 118 (17, 105) rfl) rfl q_f ?_
            refine qm_Ru.go 0 (c' := (4, [.ref 118, .int 9], [.int f], (h.1, I, J, h.2.2.2))) rfl ?_
            refine hk_zne (ix := f.toInt) rfl rfl (fun z78 => by exfalso; omega) (fun z78 => ?_)
            refine qm_Ru.go 1 (c' := (8, [.ref 118, .int 9], [.ref 118], (h.1, I, J, h.2.2.2))) rfl ?_
            refine hk_getr rfl (hH.1 118 (17, 105) rfl) rfl (hH.2 118 5 (some 121) rfl) ?_
            refine qm_Ru.go 1 (c' := (12, [.ref 118, .int 9], [.ref 118, .ref 121], (h.1, I, J, h.2.2.2))) rfl ?_
            refine hk_geti (v := t) rfl (hH.1 118 (17, 105) rfl) rfl q_t ?_
            refine qm_Ru.go 0 (c' := (15, [.ref 118, .int 9], [.int t, .ref 121], (h.1, I, J, h.2.2.2))) rfl ?_
            refine hk_ial (v := v74) rfl (hH.1 121 (0, 403) rfl) (by omega) (by omega) (show (I) 121 (t.toInt.toNat) = _ from ((e 121 rfl (t.toInt.toNat)).trans q_v74)) ?_
            refine qm_Ru.go 1 (c' := (17, [.ref 118, .int 9], [.int 9, .int v74], (h.1, I, J, h.2.2.2))) rfl ?_
            refine hk_cne (ix := v74.toInt) (iy := 9) rfl rfl rfl (fun z79 => ?_) (fun z79 => ?_)
            · refine qm_Ru.go 1 (c' := (25, [.ref 118, .int 9], [.int 0], (h.1, I, J, h.2.2.2))) rfl ?_
              refine qm_Ru.rt (v := (some (.int 0))) (h' := (h.1, I, J, h.2.2.2)) rfl ?_
              refine qm_Ru.go 3 (c' := (166, [.ref 118, .int bs, l2], [.int 10, .ref 118], (h.1, I, J, h.2.2.2))) rfl ?_
              refine hk_inv (o := 118) (r := []) (as := [.ref 118, .int 10]) rfl rfl (hH.1 118 (17, 105) rfl) rfl rfl rfl rfl ?_
              refine qm_Ru.go 1 (c' := (1, [.ref 118, .int 10], [.ref 118], (h.1, I, J, h.2.2.2))) rfl ?_
              refine hk_geti (v := f) rfl (hH.1 118 (17, 105) rfl) rfl q_f ?_
              refine qm_Ru.go 0 (c' := (4, [.ref 118, .int 10], [.int f], (h.1, I, J, h.2.2.2))) rfl ?_
              refine hk_zne (ix := f.toInt) rfl rfl (fun z80 => by exfalso; omega) (fun z80 => ?_)
              refine qm_Ru.go 1 (c' := (8, [.ref 118, .int 10], [.ref 118], (h.1, I, J, h.2.2.2))) rfl ?_
              refine hk_getr rfl (hH.1 118 (17, 105) rfl) rfl (hH.2 118 5 (some 121) rfl) ?_
              refine qm_Ru.go 1 (c' := (12, [.ref 118, .int 10], [.ref 118, .ref 121], (h.1, I, J, h.2.2.2))) rfl ?_
              refine hk_geti (v := t) rfl (hH.1 118 (17, 105) rfl) rfl q_t ?_
              refine qm_Ru.go 0 (c' := (15, [.ref 118, .int 10], [.int t, .ref 121], (h.1, I, J, h.2.2.2))) rfl ?_
              refine hk_ial (v := v74) rfl (hH.1 121 (0, 403) rfl) (by omega) (by omega) (show (I) 121 (t.toInt.toNat) = _ from ((e 121 rfl (t.toInt.toNat)).trans q_v74)) ?_
              refine qm_Ru.go 1 (c' := (17, [.ref 118, .int 10], [.int 10, .int v74], (h.1, I, J, h.2.2.2))) rfl ?_
              refine hk_cne (ix := v74.toInt) (iy := 10) rfl rfl rfl (fun z81 => ?_) (fun z81 => ?_)
              · refine qm_Ru.go 1 (c' := (25, [.ref 118, .int 10], [.int 0], (h.1, I, J, h.2.2.2))) rfl ?_
                refine qm_Ru.rt (v := (some (.int 0))) (h' := (h.1, I, J, h.2.2.2)) rfl ?_
                refine qm_Ru.go 6 (c' := (183, [.ref 118, .int bs, .int 0], [.ref 118], (h.1, I, J, h.2.2.2))) rfl ?_
                refine hk_geti (v := op) rfl (hH.1 118 (17, 105) rfl) rfl q_op ?_
                refine qm_Ru.go 1 (c' := (187, [.ref 118, .int bs, .int 0], [.int bs, .int op], (h.1, I, J, h.2.2.2))) rfl ?_
                refine hk_cle (ix := op.toInt) (iy := bs.toInt) rfl rfl rfl (fun z82 => ?_) (fun z82 => ?_)
                · refine qm_Ru.go 2 (c' := (197, [.ref 118, .int bs, .int 0], [.int 0, .ref 118], (h.1, I, J, h.2.2.2))) rfl ?_
                  have E_w83 : pI (I) 143 = pI I 143 := rfl
                  have V_w83 : ws (pI (I) 143) wt.toInt.toNat := by rw [E_w83]; exact hW
                  have U_w83 : wo (pI (I) 143) wt.toInt.toNat = wo (pI I 143) wt.toInt.toNat := by rw [E_w83]
                  have O_w83 := hO
                  have L_w83 := ws_le V_w83
                  have P_w83 : Int32.toInt f = 0 → pq (I) lf 1 cd wt := by
                    intro z
                    obtain ⟨p1, p2⟩ := hP z
                    have hlc := p1.1
                    refine ⟨?_, ?_⟩
                    · rw [show pI (I) 141 = pI I 141 from rfl, show pI (I) 142 = pI I 142 from rfl]
                      exact p1
                    · rw [show pI (I) 141 = pI I 141 from rfl]
                      omega
                  refine hk_inv (o := 118) (r := []) (as := [.ref 118, .int 0]) rfl rfl (hH.1 118 (17, 105) rfl) rfl rfl rfl rfl (hl_co (h := (h.1, I, J, h.2.2.2)) hH hBI (sg := 0) (by decide) (lo := (lf : Int)) (c1 := Int32.toInt cd + Int32.toInt wt) (lf := lf) (pz := Int32.toInt f = 0) (by omega) (by omega) (fun z => by omega) (hi := c0 + 420) (by omega) (fun I84 J85 c86 w87 hB_I84 e_I84 e8_I84 q_c86 q_w87 b1_I84 b2_I84 W_I84 O_I84 A_I84 P_I84 tp_I84 => ?_) _ (I) (J) cd wt (.float 0) hBI (fun _ _ _ => rfl) (fun _ _ => rfl) q_cd q_wt (by omega) ⟨by omega, rfl⟩ V_w83 rfl (fun _ _ => ⟨rfl, rfl⟩) P_w83 rfl)
                  have e_I84 : ∀ o, [118, 141, 142].contains o = false → ∀ i, I84 o i = (I) o i := e_I84
                  have e8_I84 : ∀ i, [37, 41].contains i = false → I84 118 i = (I) 118 i := e8_I84
                  have WL_I84 := ws_le W_I84
                  have wl_I84 := wo_le (w := pI I84 143) w87.toInt.toNat
                  have A0_I84 : pa h.2.1 (I) (lf : Int) (c0 + 420) := (pa_cg hA (fun i => rfl) (fun i => rfl))
                  have A_I84 : pa h.2.1 I84 (lf : Int) (c0 + 420) := fun i hi => ⟨(A_I84 i hi).1.trans (A0_I84 i hi).1, (A_I84 i hi).2.trans (A0_I84 i hi).2⟩
                  have tp_I84 : w87.toInt = 0 ∨ pI I84 143 (w87.toInt.toNat - 1) = 6 ∨ ((0 : Int) = 1 ∧ (pI I84 143 (w87.toInt.toNat - 1) = 8 ∨ pI I84 143 (w87.toInt.toNat - 1) = 9)) := tp_I84
                  have O9_I84 : (wo (pI I84 143) w87.toInt.toNat : Int) = (wo (pI (I) 143) wt.toInt.toNat : Int) := by rw [O_I84]
                  refine qm_Ru.go 0 (c' := (200, [.ref 118, .int bs, .int 0], [], (h.1, I84, J85, h.2.2.2))) rfl ?_
                  have o_p88 := O9_I84
                  have pp_p88 : w87.toInt ≠ 0 → pI I84 143 (w87.toInt.toNat - 1) = 6 := by
                    intro y; rcases tp_I84 with z | z | z
                    · exact absurd z y
                    · exact z
                    · exact absurd z.1 (by decide)
                  refine qm_Ru.rt (v := none) (h' := (h.1, I84, J85, h.2.2.2)) rfl ?_
                  have E_w89 : pI (I84) 143 = pI I84 143 := rfl
                  have V_w89 : ws (pI (I84) 143) w87.toInt.toNat := by rw [E_w89]; exact W_I84
                  have U_w89 : wo (pI (I84) 143) w87.toInt.toNat = wo (pI I84 143) w87.toInt.toNat := by rw [E_w89]
                  have O_w89 := O9_I84
                  have L_w89 := ws_le V_w89
                  have P_w89 : Int32.toInt f = 0 → pq (I84) lf 1 c86 w87 := by
                    intro z
                    obtain ⟨p1, p2⟩ := P_I84 z
                    have hlc := p1.1
                    refine ⟨?_, ?_⟩
                    · rw [show pI (I84) 141 = pI I84 141 from rfl, show pI (I84) 142 = pI I84 142 from rfl]
                      exact p1
                    · rw [show pI (I84) 141 = pI I84 141 from rfl]
                      omega
                  exact k (I84) (J85) t f c86 op hB_I84 (fun o ho i => ((e_I84 o (hk_ms rfl ho) i).trans ((e o (hk_ms rfl ho) i).trans rfl))) (fun i hi => ((e8_I84 i (hk_ms rfl hi)).trans ((e8 i (hk_ms rfl hi)).trans rfl))) (show (I84) 118 11 = _ from ((e8_I84 11 rfl).trans q_t)) (show (I84) 118 13 = _ from ((e8_I84 13 rfl).trans q_f)) q_c86 (show (I84) 118 12 = _ from ((e8_I84 12 rfl).trans q_op)) (by omega) (by omega) (by omega) (pa_cg A_I84 (fun i => rfl) (fun i => rfl)) (fun z => ⟨by omega, by omega, (P_w89 z).1⟩)
                · refine qm_Ru.go 2 (c' := (192, [.ref 118, .int bs, .int 0], [.int 1, .ref 118], (h.1, I, J, h.2.2.2))) rfl ?_
                  refine hk_inv (o := 118) (r := []) (as := [.ref 118, .int 1]) rfl rfl (hH.1 118 (17, 105) rfl) rfl rfl rfl rfl ?_
                  refine qm_Ru.go 1 (c' := (1, [.ref 118, .int 1], [.ref 118], (h.1, I, J, h.2.2.2))) rfl ?_
                  refine hk_geti (v := f) rfl (hH.1 118 (17, 105) rfl) rfl q_f ?_
                  refine qm_Ru.go 0 (c' := (4, [.ref 118, .int 1], [.int f], (h.1, I, J, h.2.2.2))) rfl ?_
                  refine hk_zle (ix := f.toInt) rfl rfl (fun z90 => ?_) (fun z90 => by exfalso; omega)
                  refine qm_Ru.go 2 (c' := (10, [.ref 118, .int 1], [.int 1, .ref 118], (h.1, I, J, h.2.2.2))) rfl ?_
                  refine hk_puti rfl (hH.1 118 (17, 105) rfl) rfl ?_
                  refine qm_Ru.go 2 (c' := (15, [.ref 118, .int 1], [.ref 118, .ref 118], (h.1, qm_up I 118 13 1, J, h.2.2.2))) rfl ?_
                  refine hk_getr rfl (hH.1 118 (17, 105) rfl) rfl (hH.2 118 6 (some 122) rfl) ?_
                  refine qm_Ru.go 1 (c' := (19, [.ref 118, .int 1], [.ref 118, .ref 122, .ref 118], (h.1, qm_up I 118 13 1, J, h.2.2.2))) rfl ?_
                  refine hk_geti (v := t) rfl (hH.1 118 (17, 105) rfl) rfl (show (qm_up I 118 13 1) 118 11 = _ from ((hk_neq (by decide)).trans q_t)) ?_
                  refine qm_Ru.go 0 (c' := (22, [.ref 118, .int 1], [.int t, .ref 122, .ref 118], (h.1, qm_up I 118 13 1, J, h.2.2.2))) rfl ?_
                  obtain ⟨v91, q_v91⟩ : ∃ v, h.2.1 122 (t.toInt.toNat) = v := ⟨_, rfl⟩
                  refine hk_ial (v := v91) rfl (hH.1 122 (0, 403) rfl) (by omega) (by omega) (show (qm_up I 118 13 1) 122 (t.toInt.toNat) = _ from ((hk_ot rfl).trans ((e 122 rfl (t.toInt.toNat)).trans q_v91))) ?_
                  refine qm_Ru.go 0 (c' := (23, [.ref 118, .int 1], [.int v91, .ref 118], (h.1, qm_up I 118 13 1, J, h.2.2.2))) rfl ?_
                  refine hk_puti rfl (hH.1 118 (17, 105) rfl) rfl ?_
                  refine qm_Ru.go 0 (c' := (26, [.ref 118, .int 1], [], (h.1, qm_up (qm_up I 118 13 1) 118 14 v91, J, h.2.2.2))) rfl ?_
                  refine qm_Ru.rt (v := none) (h' := (h.1, qm_up (qm_up I 118 13 1) 118 14 v91, J, h.2.2.2)) rfl ?_
                  refine qm_Ru.go 2 (c' := (197, [.ref 118, .int bs, .int 0], [.int 0, .ref 118], (h.1, qm_up (qm_up I 118 13 1) 118 14 v91, J, h.2.2.2))) rfl ?_
                  have E_w92 : pI (qm_up (qm_up I 118 13 1) 118 14 v91) 143 = pI I 143 := ((pI_sk rfl).trans ((pI_sk rfl).trans rfl))
                  have V_w92 : ws (pI (qm_up (qm_up I 118 13 1) 118 14 v91) 143) wt.toInt.toNat := by rw [E_w92]; exact hW
                  have U_w92 : wo (pI (qm_up (qm_up I 118 13 1) 118 14 v91) 143) wt.toInt.toNat = wo (pI I 143) wt.toInt.toNat := by rw [E_w92]
                  have O_w92 := hO
                  have L_w92 := ws_le V_w92
                  have P_w92 : Int32.toInt 1 = 0 → pq (qm_up (qm_up I 118 13 1) 118 14 v91) lf 1 cd wt := by
                    intro z; exact absurd z (by decide)
                  refine hk_inv (o := 118) (r := []) (as := [.ref 118, .int 0]) rfl rfl (hH.1 118 (17, 105) rfl) rfl rfl rfl rfl (hl_co (h := (h.1, qm_up (qm_up I 118 13 1) 118 14 v91, J, h.2.2.2)) hH (hb_up (o := 118) (k := 14) (x := v91) (hb_up (o := 118) (k := 13) (x := 1) hBI (qa_in_full _)) (qa_in_full _)) (sg := 0) (by decide) (lo := (lf : Int)) (c1 := Int32.toInt cd + Int32.toInt wt) (lf := lf) (pz := Int32.toInt 1 = 0) (by omega) (by omega) (fun z => by omega) (hi := c0 + 420) (by omega) (fun I93 J94 c95 w96 hB_I93 e_I93 e8_I93 q_c95 q_w96 b1_I93 b2_I93 W_I93 O_I93 A_I93 P_I93 tp_I93 => ?_) _ (qm_up (qm_up I 118 13 1) 118 14 v91) (J) cd wt (.float 0) (hb_up (o := 118) (k := 14) (x := v91) (hb_up (o := 118) (k := 13) (x := 1) hBI (qa_in_full _)) (qa_in_full _)) (fun _ _ _ => rfl) (fun _ _ => rfl) (show (qm_up (qm_up I 118 13 1) 118 14 v91) 118 37 = _ from ((hk_neq (by decide)).trans ((hk_neq (by decide)).trans q_cd))) (show (qm_up (qm_up I 118 13 1) 118 14 v91) 118 41 = _ from ((hk_neq (by decide)).trans ((hk_neq (by decide)).trans q_wt))) (by omega) ⟨by omega, rfl⟩ V_w92 rfl (fun _ _ => ⟨rfl, rfl⟩) P_w92 rfl)
                  have e_I93 : ∀ o, [118, 141, 142].contains o = false → ∀ i, I93 o i = (qm_up (qm_up I 118 13 1) 118 14 v91) o i := e_I93
                  have e8_I93 : ∀ i, [37, 41].contains i = false → I93 118 i = (qm_up (qm_up I 118 13 1) 118 14 v91) 118 i := e8_I93
                  have WL_I93 := ws_le W_I93
                  have wl_I93 := wo_le (w := pI I93 143) w96.toInt.toNat
                  have A0_I93 : pa h.2.1 (qm_up (qm_up I 118 13 1) 118 14 v91) (lf : Int) (c0 + 420) := (pa_cg hA (fun i => ((hk_ot rfl).trans ((hk_ot rfl).trans rfl))) (fun i => ((hk_ot rfl).trans ((hk_ot rfl).trans rfl))))
                  have A_I93 : pa h.2.1 I93 (lf : Int) (c0 + 420) := fun i hi => ⟨(A_I93 i hi).1.trans (A0_I93 i hi).1, (A_I93 i hi).2.trans (A0_I93 i hi).2⟩
                  have tp_I93 : w96.toInt = 0 ∨ pI I93 143 (w96.toInt.toNat - 1) = 6 ∨ ((0 : Int) = 1 ∧ (pI I93 143 (w96.toInt.toNat - 1) = 8 ∨ pI I93 143 (w96.toInt.toNat - 1) = 9)) := tp_I93
                  have O9_I93 : (wo (pI I93 143) w96.toInt.toNat : Int) = (wo (pI (qm_up (qm_up I 118 13 1) 118 14 v91) 143) wt.toInt.toNat : Int) := by rw [O_I93]
                  refine qm_Ru.go 0 (c' := (200, [.ref 118, .int bs, .int 0], [], (h.1, I93, J94, h.2.2.2))) rfl ?_
                  have o_p97 := O9_I93
                  have pp_p97 : w96.toInt ≠ 0 → pI I93 143 (w96.toInt.toNat - 1) = 6 := by
                    intro y; rcases tp_I93 with z | z | z
                    · exact absurd z y
                    · exact z
                    · exact absurd z.1 (by decide)
                  refine qm_Ru.rt (v := none) (h' := (h.1, I93, J94, h.2.2.2)) rfl ?_
                  have E_w98 : pI (I93) 143 = pI I93 143 := rfl
                  have V_w98 : ws (pI (I93) 143) w96.toInt.toNat := by rw [E_w98]; exact W_I93
                  have U_w98 : wo (pI (I93) 143) w96.toInt.toNat = wo (pI I93 143) w96.toInt.toNat := by rw [E_w98]
                  have O_w98 := O9_I93
                  have L_w98 := ws_le V_w98
                  have P_w98 : Int32.toInt 1 = 0 → pq (I93) lf 1 c95 w96 := by
                    intro z; exact absurd z (by decide)
                  exact k (I93) (J94) t 1 c95 op hB_I93 (fun o ho i => ((e_I93 o (hk_ms rfl ho) i).trans ((hk_mod ho rfl).trans ((hk_mod ho rfl).trans ((e o (hk_ms rfl ho) i).trans rfl))))) (fun i hi => ((e8_I93 i (hk_ms rfl hi)).trans ((hk_neq (fun z => by subst z; cases hi)).trans ((hk_neq (fun z => by subst z; cases hi)).trans ((e8 i (hk_ms rfl hi)).trans rfl))))) (show (I93) 118 11 = _ from ((e8_I93 11 rfl).trans ((hk_neq (by decide)).trans ((hk_neq (by decide)).trans q_t)))) (show (I93) 118 13 = _ from ((e8_I93 13 rfl).trans ((hk_neq (by decide)).trans (hk_same)))) q_c95 (show (I93) 118 12 = _ from ((e8_I93 12 rfl).trans ((hk_neq (by decide)).trans ((hk_neq (by decide)).trans q_op)))) (by omega) (by omega) (by omega) (pa_cg A_I93 (fun i => rfl) (fun i => rfl)) (fun z => absurd z (by decide))
              · refine qm_Ru.go 2 (c' := (25, [.ref 118, .int 10], [.int 1], (h.1, I, J, h.2.2.2))) rfl ?_
                refine qm_Ru.rt (v := (some (.int 1))) (h' := (h.1, I, J, h.2.2.2)) rfl ?_
                refine qm_Ru.go 9 (c' := (205, [.ref 118, .int bs, .int 1], [.int 10, .ref 118, .ref 118], (h.1, I, J, h.2.2.2))) rfl ?_
                refine hk_inv (o := 118) (r := [.ref 118]) (as := [.ref 118, .int 10]) rfl rfl (hH.1 118 (17, 105) rfl) rfl rfl rfl rfl ?_
                refine qm_Ru.go 1 (c' := (1, [.ref 118, .int 10], [.ref 118], (h.1, I, J, h.2.2.2))) rfl ?_
                refine hk_geti (v := f) rfl (hH.1 118 (17, 105) rfl) rfl q_f ?_
                refine qm_Ru.go 0 (c' := (4, [.ref 118, .int 10], [.int f], (h.1, I, J, h.2.2.2))) rfl ?_
                refine hk_zne (ix := f.toInt) rfl rfl (fun z99 => by exfalso; omega) (fun z99 => ?_)
                refine qm_Ru.go 1 (c' := (8, [.ref 118, .int 10], [.ref 118], (h.1, I, J, h.2.2.2))) rfl ?_
                refine hk_getr rfl (hH.1 118 (17, 105) rfl) rfl (hH.2 118 5 (some 121) rfl) ?_
                refine qm_Ru.go 1 (c' := (12, [.ref 118, .int 10], [.ref 118, .ref 121], (h.1, I, J, h.2.2.2))) rfl ?_
                refine hk_geti (v := t) rfl (hH.1 118 (17, 105) rfl) rfl q_t ?_
                refine qm_Ru.go 0 (c' := (15, [.ref 118, .int 10], [.int t, .ref 121], (h.1, I, J, h.2.2.2))) rfl ?_
                refine hk_ial (v := v74) rfl (hH.1 121 (0, 403) rfl) (by omega) (by omega) (show (I) 121 (t.toInt.toNat) = _ from ((e 121 rfl (t.toInt.toNat)).trans q_v74)) ?_
                refine qm_Ru.go 1 (c' := (17, [.ref 118, .int 10], [.int 10, .int v74], (h.1, I, J, h.2.2.2))) rfl ?_
                refine hk_cne (ix := v74.toInt) (iy := 10) rfl rfl rfl (fun z100 => by exfalso; omega) (fun z100 => ?_)
                refine qm_Ru.go 2 (c' := (25, [.ref 118, .int 10], [.int 1], (h.1, I, J, h.2.2.2))) rfl ?_
                refine qm_Ru.rt (v := (some (.int 1))) (h' := (h.1, I, J, h.2.2.2)) rfl ?_
                refine qm_Ru.go 0 (c' := (208, [.ref 118, .int bs, .int 1], [.int 1, .ref 118], (h.1, I, J, h.2.2.2))) rfl ?_
                have E_w101 : pI (I) 143 = pI I 143 := rfl
                have V_w101 : ws (pI (I) 143) wt.toInt.toNat := by rw [E_w101]; exact hW
                have U_w101 : wo (pI (I) 143) wt.toInt.toNat = wo (pI I 143) wt.toInt.toNat := by rw [E_w101]
                have O_w101 := hO
                have L_w101 := ws_le V_w101
                have P_w101 : Int32.toInt f = 0 → pq (I) lf 1 cd wt := by
                  intro z
                  obtain ⟨p1, p2⟩ := hP z
                  have hlc := p1.1
                  refine ⟨?_, ?_⟩
                  · rw [show pI (I) 141 = pI I 141 from rfl, show pI (I) 142 = pI I 142 from rfl]
                    exact p1
                  · rw [show pI (I) 141 = pI I 141 from rfl]
                    omega
                refine hk_inv (o := 118) (r := []) (as := [.ref 118, .int 1]) rfl rfl (hH.1 118 (17, 105) rfl) rfl rfl rfl rfl (hl_co (h := (h.1, I, J, h.2.2.2)) hH hBI (sg := 1) (by decide) (lo := (lf : Int)) (c1 := Int32.toInt cd + Int32.toInt wt) (lf := lf) (pz := Int32.toInt f = 0) (by omega) (by omega) (fun z => by omega) (hi := c0 + 420) (by omega) (fun I102 J103 c104 w105 hB_I102 e_I102 e8_I102 q_c104 q_w105 b1_I102 b2_I102 W_I102 O_I102 A_I102 P_I102 tp_I102 => ?_) _ (I) (J) cd wt (.float 0) hBI (fun _ _ _ => rfl) (fun _ _ => rfl) q_cd q_wt (by omega) ⟨by omega, rfl⟩ V_w101 rfl (fun _ _ => ⟨rfl, rfl⟩) P_w101 rfl)
                have e_I102 : ∀ o, [118, 141, 142].contains o = false → ∀ i, I102 o i = (I) o i := e_I102
                have e8_I102 : ∀ i, [37, 41].contains i = false → I102 118 i = (I) 118 i := e8_I102
                have WL_I102 := ws_le W_I102
                have wl_I102 := wo_le (w := pI I102 143) w105.toInt.toNat
                have A0_I102 : pa h.2.1 (I) (lf : Int) (c0 + 420) := (pa_cg hA (fun i => rfl) (fun i => rfl))
                have A_I102 : pa h.2.1 I102 (lf : Int) (c0 + 420) := fun i hi => ⟨(A_I102 i hi).1.trans (A0_I102 i hi).1, (A_I102 i hi).2.trans (A0_I102 i hi).2⟩
                have tp_I102 : w105.toInt = 0 ∨ pI I102 143 (w105.toInt.toNat - 1) = 6 ∨ ((1 : Int) = 1 ∧ (pI I102 143 (w105.toInt.toNat - 1) = 8 ∨ pI I102 143 (w105.toInt.toNat - 1) = 9)) := tp_I102
                have O9_I102 : (wo (pI I102 143) w105.toInt.toNat : Int) = (wo (pI (I) 143) wt.toInt.toNat : Int) := by rw [O_I102]
                refine qm_Ru.go 1 (c' := (212, [.ref 118, .int bs, .int 1], [.ref 118], (h.1, I102, J103, h.2.2.2))) rfl ?_
                refine hk_getr rfl (hH.1 118 (17, 105) rfl) rfl (hH.2 118 40 (some 143) rfl) ?_
                refine qm_Ru.go 1 (c' := (216, [.ref 118, .int bs, .int 1], [.ref 118, .ref 143], (h.1, I102, J103, h.2.2.2))) rfl ?_
                refine hk_geti (v := w105) rfl (hH.1 118 (17, 105) rfl) rfl q_w105 ?_
                refine qm_Ru.go 1 (c' := (220, [.ref 118, .int bs, .int 1], [.ref 118, .int w105, .ref 143], (h.1, I102, J103, h.2.2.2))) rfl ?_
                refine hk_getr rfl (hH.1 118 (17, 105) rfl) rfl (hH.2 118 5 (some 121) rfl) ?_
                refine qm_Ru.go 1 (c' := (224, [.ref 118, .int bs, .int 1], [.ref 118, .ref 121, .int w105, .ref 143], (h.1, I102, J103, h.2.2.2))) rfl ?_
                refine hk_geti (v := t) rfl (hH.1 118 (17, 105) rfl) rfl (show (I102) 118 11 = _ from ((e8_I102 11 rfl).trans q_t)) ?_
                refine qm_Ru.go 0 (c' := (227, [.ref 118, .int bs, .int 1], [.int t, .ref 121, .int w105, .ref 143], (h.1, I102, J103, h.2.2.2))) rfl ?_
                refine hk_ial (v := v74) rfl (hH.1 121 (0, 403) rfl) (by omega) (by omega) (show (I102) 121 (t.toInt.toNat) = _ from ((e_I102 121 rfl (t.toInt.toNat)).trans ((e 121 rfl (t.toInt.toNat)).trans q_v74))) ?_
                refine qm_Ru.go 0 (c' := (228, [.ref 118, .int bs, .int 1], [.int v74, .int w105, .ref 143], (h.1, I102, J103, h.2.2.2))) rfl ?_
                refine hk_ias rfl (hH.1 143 (0, 64) rfl) (by omega) (by omega) ?_
                refine qm_Ru.go 2 (c' := (231, [.ref 118, .int bs, .int 1], [.ref 118, .ref 118], (h.1, qm_up I102 143 (w105.toInt.toNat) v74, J103, h.2.2.2))) rfl ?_
                refine hk_geti (v := w105) rfl (hH.1 118 (17, 105) rfl) rfl (show (qm_up I102 143 (w105.toInt.toNat) v74) 118 41 = _ from ((hk_ot rfl).trans q_w105)) ?_
                refine qm_Ru.go 2 (c' := (236, [.ref 118, .int bs, .int 1], [.int (w105 + 1), .ref 118], (h.1, qm_up I102 143 (w105.toInt.toNat) v74, J103, h.2.2.2))) rfl ?_
                obtain ⟨v106, q_v106, e_v106⟩ := hk_add (x := w105) (y := 1) (a := w105.toInt) (b := 1) rfl rfl (by omega) (by omega)
                rw [q_v106]
                refine hk_puti rfl (hH.1 118 (17, 105) rfl) rfl ?_
                refine qm_Ru.go 1 (c' := (240, [.ref 118, .int bs, .int 1], [.ref 118], (h.1, qm_up (qm_up I102 143 (w105.toInt.toNat) v74) 118 41 v106, J103, h.2.2.2))) rfl ?_
                refine hk_inv (o := 118) (r := []) (as := [.ref 118]) rfl rfl (hH.1 118 (17, 105) rfl) rfl rfl rfl rfl ?_
                refine qm_Ru.go 1 (c' := (1, [.ref 118], [.ref 118], (h.1, qm_up (qm_up I102 143 (w105.toInt.toNat) v74) 118 41 v106, J103, h.2.2.2))) rfl ?_
                refine hk_geti (v := t) rfl (hH.1 118 (17, 105) rfl) rfl (show (qm_up (qm_up I102 143 (w105.toInt.toNat) v74) 118 41 v106) 118 11 = _ from ((hk_neq (by decide)).trans ((hk_ot rfl).trans ((e8_I102 11 rfl).trans q_t)))) ?_
                refine qm_Ru.go 1 (c' := (7, [.ref 118], [.int 400, .int t], (h.1, qm_up (qm_up I102 143 (w105.toInt.toNat) v74) 118 41 v106, J103, h.2.2.2))) rfl ?_
                refine hk_cne (ix := t.toInt) (iy := 400) rfl rfl rfl (fun z107 => ?_) (fun z107 => ?_)
                · refine qm_Ru.go 2 (c' := (20, [.ref 118], [.ref 118, .ref 118], (h.1, qm_up (qm_up I102 143 (w105.toInt.toNat) v74) 118 41 v106, J103, h.2.2.2))) rfl ?_
                  refine hk_geti (v := t) rfl (hH.1 118 (17, 105) rfl) rfl (show (qm_up (qm_up I102 143 (w105.toInt.toNat) v74) 118 41 v106) 118 11 = _ from ((hk_neq (by decide)).trans ((hk_ot rfl).trans ((e8_I102 11 rfl).trans q_t)))) ?_
                  refine qm_Ru.go 2 (c' := (25, [.ref 118], [.int (t + 1), .ref 118], (h.1, qm_up (qm_up I102 143 (w105.toInt.toNat) v74) 118 41 v106, J103, h.2.2.2))) rfl ?_
                  obtain ⟨v108, q_v108, e_v108⟩ := hk_add (x := t) (y := 1) (a := t.toInt) (b := 1) rfl rfl (by omega) (by omega)
                  rw [q_v108]
                  refine hk_puti rfl (hH.1 118 (17, 105) rfl) rfl ?_
                  refine qm_Ru.go 0 (c' := (28, [.ref 118], [], (h.1, qm_up (qm_up (qm_up I102 143 (w105.toInt.toNat) v74) 118 41 v106) 118 11 v108, J103, h.2.2.2))) rfl ?_
                  refine qm_Ru.rt (v := none) (h' := (h.1, qm_up (qm_up (qm_up I102 143 (w105.toInt.toNat) v74) 118 41 v106) 118 11 v108, J103, h.2.2.2)) rfl ?_
                  refine qm_Ru.go 4 (c' := (17, [.ref 118, .int bs, .int 1], [.ref 118], (h.1, qm_up (qm_up (qm_up I102 143 (w105.toInt.toNat) v74) 118 41 v106) 118 11 v108, J103, h.2.2.2))) rfl ?_
                  refine hk_geti (v := f) rfl (hH.1 118 (17, 105) rfl) rfl (show (qm_up (qm_up (qm_up I102 143 (w105.toInt.toNat) v74) 118 41 v106) 118 11 v108) 118 13 = _ from ((hk_neq (by decide)).trans ((hk_neq (by decide)).trans ((hk_ot rfl).trans ((e8_I102 13 rfl).trans q_f))))) ?_
                  refine qm_Ru.go 0 (c' := (20, [.ref 118, .int bs, .int 1], [.int f], (h.1, qm_up (qm_up (qm_up I102 143 (w105.toInt.toNat) v74) 118 41 v106) 118 11 v108, J103, h.2.2.2))) rfl ?_
                  refine hk_zne (ix := f.toInt) rfl rfl (fun z109 => by exfalso; omega) (fun z109 => ?_)
                  refine qm_Ru.go 0 (c' := (23, [.ref 118, .int bs, .int 1], [], (h.1, qm_up (qm_up (qm_up I102 143 (w105.toInt.toNat) v74) 118 41 v106) 118 11 v108, J103, h.2.2.2))) rfl ?_
                  have W_w110 := ws_push (w := pI I102 143) (n := w105.toInt.toNat) (x := Int32.toInt v74) W_I102 (by omega)
                  have E_w110 : pI (qm_up (qm_up (qm_up I102 143 (w105.toInt.toNat) v74) 118 41 v106) 118 11 v108) 143 = fu_up (pI I102 143) w105.toInt.toNat (Int32.toInt v74) := ((pI_sk rfl).trans ((pI_sk rfl).trans (pI_up.trans rfl)))
                  have N_w110 : v106.toInt.toNat = w105.toInt.toNat + 1 := by omega
                  have V_w110 : ws (pI (qm_up (qm_up (qm_up I102 143 (w105.toInt.toNat) v74) 118 41 v106) 118 11 v108) 143) v106.toInt.toNat := by rw [E_w110, N_w110]; exact W_w110.1
                  have U_w110 : wo (pI (qm_up (qm_up (qm_up I102 143 (w105.toInt.toNat) v74) 118 41 v106) 118 11 v108) 143) v106.toInt.toNat = wo (pI I102 143) w105.toInt.toNat + 0 := by rw [E_w110, N_w110, W_w110.2, if_neg (by omega)]
                  have O_w110 := O9_I102
                  have L_w110 := ws_le V_w110
                  have P_w110 : Int32.toInt f = 0 → pq (qm_up (qm_up (qm_up I102 143 (w105.toInt.toNat) v74) 118 41 v106) 118 11 v108) lf 0 c104 v106 := by
                    intro z
                    obtain ⟨p1, p2⟩ := P_I102 z
                    have hlc := p1.1
                    refine ⟨?_, ?_⟩
                    · rw [show pI (qm_up (qm_up (qm_up I102 143 (w105.toInt.toNat) v74) 118 41 v106) 118 11 v108) 141 = pI I102 141 from ((pI_sk rfl).trans ((pI_sk rfl).trans ((pI_sk rfl).trans rfl))), show pI (qm_up (qm_up (qm_up I102 143 (w105.toInt.toNat) v74) 118 41 v106) 118 11 v108) 142 = pI I102 142 from ((pI_sk rfl).trans ((pI_sk rfl).trans ((pI_sk rfl).trans rfl)))]
                      exact p1
                    · rw [show pI (qm_up (qm_up (qm_up I102 143 (w105.toInt.toNat) v74) 118 41 v106) 118 11 v108) 141 = pI I102 141 from ((pI_sk rfl).trans ((pI_sk rfl).trans ((pI_sk rfl).trans rfl)))]
                      omega
                  exact (ih (m - 1) (by omega)).1 (qm_up (qm_up (qm_up I102 143 (w105.toInt.toNat) v74) 118 41 v106) 118 11 v108) (J103) v108 f c104 v106 op (hb_up (o := 118) (k := 11) (x := v108) (hb_up (o := 118) (k := 41) (x := v106) (hb_up (o := 143) (k := w105.toInt.toNat) (x := v74) hB_I102 ⟨by show (0 : Int) ≤ v74.toInt; omega, by show v74.toInt ≤ (44 : Int); omega⟩) ⟨by show (0 : Int) ≤ v106.toInt; omega, by show v106.toInt ≤ (64 : Int); omega⟩) ⟨by show (0 : Int) ≤ v108.toInt; omega, by show v108.toInt ≤ (400 : Int); omega⟩) (fun o ho i => ((hk_mod ho rfl).trans ((hk_mod ho rfl).trans ((hk_mod ho rfl).trans ((e_I102 o (hk_ms rfl ho) i).trans ((e o (hk_ms rfl ho) i).trans rfl)))))) (fun i hi => ((hk_neq (fun z => by subst z; cases hi)).trans ((hk_neq (fun z => by subst z; cases hi)).trans ((hk_ot rfl).trans ((e8_I102 i (hk_ms rfl hi)).trans ((e8 i (hk_ms rfl hi)).trans rfl)))))) (show (qm_up (qm_up (qm_up I102 143 (w105.toInt.toNat) v74) 118 41 v106) 118 11 v108) 118 11 = _ from (hk_same)) (show (qm_up (qm_up (qm_up I102 143 (w105.toInt.toNat) v74) 118 41 v106) 118 11 v108) 118 13 = _ from ((hk_neq (by decide)).trans ((hk_neq (by decide)).trans ((hk_ot rfl).trans ((e8_I102 13 rfl).trans q_f))))) (show (qm_up (qm_up (qm_up I102 143 (w105.toInt.toNat) v74) 118 41 v106) 118 11 v108) 118 37 = _ from ((hk_neq (by decide)).trans ((hk_neq (by decide)).trans ((hk_ot rfl).trans q_c104)))) (show (qm_up (qm_up (qm_up I102 143 (w105.toInt.toNat) v74) 118 41 v106) 118 11 v108) 118 41 = _ from ((hk_neq (by decide)).trans (hk_same))) (show (qm_up (qm_up (qm_up I102 143 (w105.toInt.toNat) v74) 118 41 v106) 118 11 v108) 118 12 = _ from ((hk_neq (by decide)).trans ((hk_neq (by decide)).trans ((hk_ot rfl).trans ((e8_I102 12 rfl).trans q_op)))))  (by omega) (by omega) (by omega) (by omega) V_w110 (by omega) (pa_cg A_I102 (fun i => ((hk_ot rfl).trans ((hk_ot rfl).trans ((hk_ot rfl).trans rfl)))) (fun i => ((hk_ot rfl).trans ((hk_ot rfl).trans ((hk_ot rfl).trans rfl))))) P_w110 (by omega) (.int 1)
                · refine qm_Ru.go 2 (c' := (12, [.ref 118], [.int 2, .ref 118], (h.1, qm_up (qm_up I102 143 (w105.toInt.toNat) v74) 118 41 v106, J103, h.2.2.2))) rfl ?_
                  refine hk_inv (o := 118) (r := []) (as := [.ref 118, .int 2]) rfl rfl (hH.1 118 (17, 105) rfl) rfl rfl rfl rfl ?_
                  refine qm_Ru.go 1 (c' := (1, [.ref 118, .int 2], [.ref 118], (h.1, qm_up (qm_up I102 143 (w105.toInt.toNat) v74) 118 41 v106, J103, h.2.2.2))) rfl ?_
                  refine hk_geti (v := f) rfl (hH.1 118 (17, 105) rfl) rfl (show (qm_up (qm_up I102 143 (w105.toInt.toNat) v74) 118 41 v106) 118 13 = _ from ((hk_neq (by decide)).trans ((hk_ot rfl).trans ((e8_I102 13 rfl).trans q_f)))) ?_
                  refine qm_Ru.go 0 (c' := (4, [.ref 118, .int 2], [.int f], (h.1, qm_up (qm_up I102 143 (w105.toInt.toNat) v74) 118 41 v106, J103, h.2.2.2))) rfl ?_
                  refine hk_zle (ix := f.toInt) rfl rfl (fun z111 => ?_) (fun z111 => by exfalso; omega)
                  refine qm_Ru.go 2 (c' := (10, [.ref 118, .int 2], [.int 2, .ref 118], (h.1, qm_up (qm_up I102 143 (w105.toInt.toNat) v74) 118 41 v106, J103, h.2.2.2))) rfl ?_
                  refine hk_puti rfl (hH.1 118 (17, 105) rfl) rfl ?_
                  refine qm_Ru.go 2 (c' := (15, [.ref 118, .int 2], [.ref 118, .ref 118], (h.1, qm_up (qm_up (qm_up I102 143 (w105.toInt.toNat) v74) 118 41 v106) 118 13 2, J103, h.2.2.2))) rfl ?_
                  refine hk_getr rfl (hH.1 118 (17, 105) rfl) rfl (hH.2 118 6 (some 122) rfl) ?_
                  refine qm_Ru.go 1 (c' := (19, [.ref 118, .int 2], [.ref 118, .ref 122, .ref 118], (h.1, qm_up (qm_up (qm_up I102 143 (w105.toInt.toNat) v74) 118 41 v106) 118 13 2, J103, h.2.2.2))) rfl ?_
                  refine hk_geti (v := t) rfl (hH.1 118 (17, 105) rfl) rfl (show (qm_up (qm_up (qm_up I102 143 (w105.toInt.toNat) v74) 118 41 v106) 118 13 2) 118 11 = _ from ((hk_neq (by decide)).trans ((hk_neq (by decide)).trans ((hk_ot rfl).trans ((e8_I102 11 rfl).trans q_t))))) ?_
                  refine qm_Ru.go 0 (c' := (22, [.ref 118, .int 2], [.int t, .ref 122, .ref 118], (h.1, qm_up (qm_up (qm_up I102 143 (w105.toInt.toNat) v74) 118 41 v106) 118 13 2, J103, h.2.2.2))) rfl ?_
                  obtain ⟨v112, q_v112⟩ : ∃ v, h.2.1 122 (t.toInt.toNat) = v := ⟨_, rfl⟩
                  refine hk_ial (v := v112) rfl (hH.1 122 (0, 403) rfl) (by omega) (by omega) (show (qm_up (qm_up (qm_up I102 143 (w105.toInt.toNat) v74) 118 41 v106) 118 13 2) 122 (t.toInt.toNat) = _ from ((hk_ot rfl).trans ((hk_ot rfl).trans ((hk_ot rfl).trans ((e_I102 122 rfl (t.toInt.toNat)).trans ((e 122 rfl (t.toInt.toNat)).trans q_v112)))))) ?_
                  refine qm_Ru.go 0 (c' := (23, [.ref 118, .int 2], [.int v112, .ref 118], (h.1, qm_up (qm_up (qm_up I102 143 (w105.toInt.toNat) v74) 118 41 v106) 118 13 2, J103, h.2.2.2))) rfl ?_
                  refine hk_puti rfl (hH.1 118 (17, 105) rfl) rfl ?_
                  refine qm_Ru.go 0 (c' := (26, [.ref 118, .int 2], [], (h.1, qm_up (qm_up (qm_up (qm_up I102 143 (w105.toInt.toNat) v74) 118 41 v106) 118 13 2) 118 14 v112, J103, h.2.2.2))) rfl ?_
                  refine qm_Ru.rt (v := none) (h' := (h.1, qm_up (qm_up (qm_up (qm_up I102 143 (w105.toInt.toNat) v74) 118 41 v106) 118 13 2) 118 14 v112, J103, h.2.2.2)) rfl ?_
                  refine qm_Ru.go 1 (c' := (28, [.ref 118], [], (h.1, qm_up (qm_up (qm_up (qm_up I102 143 (w105.toInt.toNat) v74) 118 41 v106) 118 13 2) 118 14 v112, J103, h.2.2.2))) rfl ?_
                  refine qm_Ru.rt (v := none) (h' := (h.1, qm_up (qm_up (qm_up (qm_up I102 143 (w105.toInt.toNat) v74) 118 41 v106) 118 13 2) 118 14 v112, J103, h.2.2.2)) rfl ?_
                  refine qm_Ru.go 4 (c' := (17, [.ref 118, .int bs, .int 1], [.ref 118], (h.1, qm_up (qm_up (qm_up (qm_up I102 143 (w105.toInt.toNat) v74) 118 41 v106) 118 13 2) 118 14 v112, J103, h.2.2.2))) rfl ?_
                  refine hk_geti (v := 2) rfl (hH.1 118 (17, 105) rfl) rfl (show (qm_up (qm_up (qm_up (qm_up I102 143 (w105.toInt.toNat) v74) 118 41 v106) 118 13 2) 118 14 v112) 118 13 = _ from ((hk_neq (by decide)).trans (hk_same))) ?_
                  refine qm_Ru.go 1 (c' := (246, [.ref 118, .int bs, .int 1], [], (h.1, qm_up (qm_up (qm_up (qm_up I102 143 (w105.toInt.toNat) v74) 118 41 v106) 118 13 2) 118 14 v112, J103, h.2.2.2))) rfl ?_
                  refine qm_Ru.rt (v := none) (h' := (h.1, qm_up (qm_up (qm_up (qm_up I102 143 (w105.toInt.toNat) v74) 118 41 v106) 118 13 2) 118 14 v112, J103, h.2.2.2)) rfl ?_
                  have W_w113 := ws_push (w := pI I102 143) (n := w105.toInt.toNat) (x := Int32.toInt v74) W_I102 (by omega)
                  have E_w113 : pI (qm_up (qm_up (qm_up (qm_up I102 143 (w105.toInt.toNat) v74) 118 41 v106) 118 13 2) 118 14 v112) 143 = fu_up (pI I102 143) w105.toInt.toNat (Int32.toInt v74) := ((pI_sk rfl).trans ((pI_sk rfl).trans ((pI_sk rfl).trans (pI_up.trans rfl))))
                  have N_w113 : v106.toInt.toNat = w105.toInt.toNat + 1 := by omega
                  have V_w113 : ws (pI (qm_up (qm_up (qm_up (qm_up I102 143 (w105.toInt.toNat) v74) 118 41 v106) 118 13 2) 118 14 v112) 143) v106.toInt.toNat := by rw [E_w113, N_w113]; exact W_w113.1
                  have U_w113 : wo (pI (qm_up (qm_up (qm_up (qm_up I102 143 (w105.toInt.toNat) v74) 118 41 v106) 118 13 2) 118 14 v112) 143) v106.toInt.toNat = wo (pI I102 143) w105.toInt.toNat + 0 := by rw [E_w113, N_w113, W_w113.2, if_neg (by omega)]
                  have O_w113 := O9_I102
                  have L_w113 := ws_le V_w113
                  have P_w113 : Int32.toInt 2 = 0 → pq (qm_up (qm_up (qm_up (qm_up I102 143 (w105.toInt.toNat) v74) 118 41 v106) 118 13 2) 118 14 v112) lf 1 c104 v106 := by
                    intro z; exact absurd z (by decide)
                  exact k (qm_up (qm_up (qm_up (qm_up I102 143 (w105.toInt.toNat) v74) 118 41 v106) 118 13 2) 118 14 v112) (J103) t 2 c104 op (hb_up (o := 118) (k := 14) (x := v112) (hb_up (o := 118) (k := 13) (x := 2) (hb_up (o := 118) (k := 41) (x := v106) (hb_up (o := 143) (k := w105.toInt.toNat) (x := v74) hB_I102 ⟨by show (0 : Int) ≤ v74.toInt; omega, by show v74.toInt ≤ (44 : Int); omega⟩) ⟨by show (0 : Int) ≤ v106.toInt; omega, by show v106.toInt ≤ (64 : Int); omega⟩) (qa_in_full _)) (qa_in_full _)) (fun o ho i => ((hk_mod ho rfl).trans ((hk_mod ho rfl).trans ((hk_mod ho rfl).trans ((hk_mod ho rfl).trans ((e_I102 o (hk_ms rfl ho) i).trans ((e o (hk_ms rfl ho) i).trans rfl))))))) (fun i hi => ((hk_neq (fun z => by subst z; cases hi)).trans ((hk_neq (fun z => by subst z; cases hi)).trans ((hk_neq (fun z => by subst z; cases hi)).trans ((hk_ot rfl).trans ((e8_I102 i (hk_ms rfl hi)).trans ((e8 i (hk_ms rfl hi)).trans rfl))))))) (show (qm_up (qm_up (qm_up (qm_up I102 143 (w105.toInt.toNat) v74) 118 41 v106) 118 13 2) 118 14 v112) 118 11 = _ from ((hk_neq (by decide)).trans ((hk_neq (by decide)).trans ((hk_neq (by decide)).trans ((hk_ot rfl).trans ((e8_I102 11 rfl).trans q_t)))))) (show (qm_up (qm_up (qm_up (qm_up I102 143 (w105.toInt.toNat) v74) 118 41 v106) 118 13 2) 118 14 v112) 118 13 = _ from ((hk_neq (by decide)).trans (hk_same))) (show (qm_up (qm_up (qm_up (qm_up I102 143 (w105.toInt.toNat) v74) 118 41 v106) 118 13 2) 118 14 v112) 118 37 = _ from ((hk_neq (by decide)).trans ((hk_neq (by decide)).trans ((hk_neq (by decide)).trans ((hk_ot rfl).trans q_c104))))) (show (qm_up (qm_up (qm_up (qm_up I102 143 (w105.toInt.toNat) v74) 118 41 v106) 118 13 2) 118 14 v112) 118 12 = _ from ((hk_neq (by decide)).trans ((hk_neq (by decide)).trans ((hk_neq (by decide)).trans ((hk_ot rfl).trans ((e8_I102 12 rfl).trans q_op)))))) (by omega) (by omega) (by omega) (pa_cg A_I102 (fun i => ((hk_ot rfl).trans ((hk_ot rfl).trans ((hk_ot rfl).trans ((hk_ot rfl).trans rfl))))) (fun i => ((hk_ot rfl).trans ((hk_ot rfl).trans ((hk_ot rfl).trans ((hk_ot rfl).trans rfl)))))) (fun z => absurd z (by decide))
            · refine qm_Ru.go 2 (c' := (25, [.ref 118, .int 9], [.int 1], (h.1, I, J, h.2.2.2))) rfl ?_
              refine qm_Ru.rt (v := (some (.int 1))) (h' := (h.1, I, J, h.2.2.2)) rfl ?_
              refine qm_Ru.go 9 (c' := (205, [.ref 118, .int bs, .int 1], [.int 10, .ref 118, .ref 118], (h.1, I, J, h.2.2.2))) rfl ?_
              refine hk_inv (o := 118) (r := [.ref 118]) (as := [.ref 118, .int 10]) rfl rfl (hH.1 118 (17, 105) rfl) rfl rfl rfl rfl ?_
              refine qm_Ru.go 1 (c' := (1, [.ref 118, .int 10], [.ref 118], (h.1, I, J, h.2.2.2))) rfl ?_
              refine hk_geti (v := f) rfl (hH.1 118 (17, 105) rfl) rfl q_f ?_
              refine qm_Ru.go 0 (c' := (4, [.ref 118, .int 10], [.int f], (h.1, I, J, h.2.2.2))) rfl ?_
              refine hk_zne (ix := f.toInt) rfl rfl (fun z114 => by exfalso; omega) (fun z114 => ?_)
              refine qm_Ru.go 1 (c' := (8, [.ref 118, .int 10], [.ref 118], (h.1, I, J, h.2.2.2))) rfl ?_
              refine hk_getr rfl (hH.1 118 (17, 105) rfl) rfl (hH.2 118 5 (some 121) rfl) ?_
              refine qm_Ru.go 1 (c' := (12, [.ref 118, .int 10], [.ref 118, .ref 121], (h.1, I, J, h.2.2.2))) rfl ?_
              refine hk_geti (v := t) rfl (hH.1 118 (17, 105) rfl) rfl q_t ?_
              refine qm_Ru.go 0 (c' := (15, [.ref 118, .int 10], [.int t, .ref 121], (h.1, I, J, h.2.2.2))) rfl ?_
              refine hk_ial (v := v74) rfl (hH.1 121 (0, 403) rfl) (by omega) (by omega) (show (I) 121 (t.toInt.toNat) = _ from ((e 121 rfl (t.toInt.toNat)).trans q_v74)) ?_
              refine qm_Ru.go 1 (c' := (17, [.ref 118, .int 10], [.int 10, .int v74], (h.1, I, J, h.2.2.2))) rfl ?_
              refine hk_cne (ix := v74.toInt) (iy := 10) rfl rfl rfl (fun z115 => ?_) (fun z115 => by exfalso; omega)
              refine qm_Ru.go 1 (c' := (25, [.ref 118, .int 10], [.int 0], (h.1, I, J, h.2.2.2))) rfl ?_
              refine qm_Ru.rt (v := (some (.int 0))) (h' := (h.1, I, J, h.2.2.2)) rfl ?_
              refine qm_Ru.go 0 (c' := (208, [.ref 118, .int bs, .int 1], [.int 0, .ref 118], (h.1, I, J, h.2.2.2))) rfl ?_
              have E_w116 : pI (I) 143 = pI I 143 := rfl
              have V_w116 : ws (pI (I) 143) wt.toInt.toNat := by rw [E_w116]; exact hW
              have U_w116 : wo (pI (I) 143) wt.toInt.toNat = wo (pI I 143) wt.toInt.toNat := by rw [E_w116]
              have O_w116 := hO
              have L_w116 := ws_le V_w116
              have P_w116 : Int32.toInt f = 0 → pq (I) lf 1 cd wt := by
                intro z
                obtain ⟨p1, p2⟩ := hP z
                have hlc := p1.1
                refine ⟨?_, ?_⟩
                · rw [show pI (I) 141 = pI I 141 from rfl, show pI (I) 142 = pI I 142 from rfl]
                  exact p1
                · rw [show pI (I) 141 = pI I 141 from rfl]
                  omega
              refine hk_inv (o := 118) (r := []) (as := [.ref 118, .int 0]) rfl rfl (hH.1 118 (17, 105) rfl) rfl rfl rfl rfl (hl_co (h := (h.1, I, J, h.2.2.2)) hH hBI (sg := 0) (by decide) (lo := (lf : Int)) (c1 := Int32.toInt cd + Int32.toInt wt) (lf := lf) (pz := Int32.toInt f = 0) (by omega) (by omega) (fun z => by omega) (hi := c0 + 420) (by omega) (fun I117 J118 c119 w120 hB_I117 e_I117 e8_I117 q_c119 q_w120 b1_I117 b2_I117 W_I117 O_I117 A_I117 P_I117 tp_I117 => ?_) _ (I) (J) cd wt (.float 0) hBI (fun _ _ _ => rfl) (fun _ _ => rfl) q_cd q_wt (by omega) ⟨by omega, rfl⟩ V_w116 rfl (fun _ _ => ⟨rfl, rfl⟩) P_w116 rfl)
              have e_I117 : ∀ o, [118, 141, 142].contains o = false → ∀ i, I117 o i = (I) o i := e_I117
              have e8_I117 : ∀ i, [37, 41].contains i = false → I117 118 i = (I) 118 i := e8_I117
              have WL_I117 := ws_le W_I117
              have wl_I117 := wo_le (w := pI I117 143) w120.toInt.toNat
              have A0_I117 : pa h.2.1 (I) (lf : Int) (c0 + 420) := (pa_cg hA (fun i => rfl) (fun i => rfl))
              have A_I117 : pa h.2.1 I117 (lf : Int) (c0 + 420) := fun i hi => ⟨(A_I117 i hi).1.trans (A0_I117 i hi).1, (A_I117 i hi).2.trans (A0_I117 i hi).2⟩
              have tp_I117 : w120.toInt = 0 ∨ pI I117 143 (w120.toInt.toNat - 1) = 6 ∨ ((0 : Int) = 1 ∧ (pI I117 143 (w120.toInt.toNat - 1) = 8 ∨ pI I117 143 (w120.toInt.toNat - 1) = 9)) := tp_I117
              have O9_I117 : (wo (pI I117 143) w120.toInt.toNat : Int) = (wo (pI (I) 143) wt.toInt.toNat : Int) := by rw [O_I117]
              refine qm_Ru.go 1 (c' := (212, [.ref 118, .int bs, .int 1], [.ref 118], (h.1, I117, J118, h.2.2.2))) rfl ?_
              refine hk_getr rfl (hH.1 118 (17, 105) rfl) rfl (hH.2 118 40 (some 143) rfl) ?_
              refine qm_Ru.go 1 (c' := (216, [.ref 118, .int bs, .int 1], [.ref 118, .ref 143], (h.1, I117, J118, h.2.2.2))) rfl ?_
              refine hk_geti (v := w120) rfl (hH.1 118 (17, 105) rfl) rfl q_w120 ?_
              refine qm_Ru.go 1 (c' := (220, [.ref 118, .int bs, .int 1], [.ref 118, .int w120, .ref 143], (h.1, I117, J118, h.2.2.2))) rfl ?_
              refine hk_getr rfl (hH.1 118 (17, 105) rfl) rfl (hH.2 118 5 (some 121) rfl) ?_
              refine qm_Ru.go 1 (c' := (224, [.ref 118, .int bs, .int 1], [.ref 118, .ref 121, .int w120, .ref 143], (h.1, I117, J118, h.2.2.2))) rfl ?_
              refine hk_geti (v := t) rfl (hH.1 118 (17, 105) rfl) rfl (show (I117) 118 11 = _ from ((e8_I117 11 rfl).trans q_t)) ?_
              refine qm_Ru.go 0 (c' := (227, [.ref 118, .int bs, .int 1], [.int t, .ref 121, .int w120, .ref 143], (h.1, I117, J118, h.2.2.2))) rfl ?_
              refine hk_ial (v := v74) rfl (hH.1 121 (0, 403) rfl) (by omega) (by omega) (show (I117) 121 (t.toInt.toNat) = _ from ((e_I117 121 rfl (t.toInt.toNat)).trans ((e 121 rfl (t.toInt.toNat)).trans q_v74))) ?_
              refine qm_Ru.go 0 (c' := (228, [.ref 118, .int bs, .int 1], [.int v74, .int w120, .ref 143], (h.1, I117, J118, h.2.2.2))) rfl ?_
              refine hk_ias rfl (hH.1 143 (0, 64) rfl) (by omega) (by omega) ?_
              refine qm_Ru.go 2 (c' := (231, [.ref 118, .int bs, .int 1], [.ref 118, .ref 118], (h.1, qm_up I117 143 (w120.toInt.toNat) v74, J118, h.2.2.2))) rfl ?_
              refine hk_geti (v := w120) rfl (hH.1 118 (17, 105) rfl) rfl (show (qm_up I117 143 (w120.toInt.toNat) v74) 118 41 = _ from ((hk_ot rfl).trans q_w120)) ?_
              refine qm_Ru.go 2 (c' := (236, [.ref 118, .int bs, .int 1], [.int (w120 + 1), .ref 118], (h.1, qm_up I117 143 (w120.toInt.toNat) v74, J118, h.2.2.2))) rfl ?_
              obtain ⟨v121, q_v121, e_v121⟩ := hk_add (x := w120) (y := 1) (a := w120.toInt) (b := 1) rfl rfl (by omega) (by omega)
              rw [q_v121]
              refine hk_puti rfl (hH.1 118 (17, 105) rfl) rfl ?_
              refine qm_Ru.go 1 (c' := (240, [.ref 118, .int bs, .int 1], [.ref 118], (h.1, qm_up (qm_up I117 143 (w120.toInt.toNat) v74) 118 41 v121, J118, h.2.2.2))) rfl ?_
              refine hk_inv (o := 118) (r := []) (as := [.ref 118]) rfl rfl (hH.1 118 (17, 105) rfl) rfl rfl rfl rfl ?_
              refine qm_Ru.go 1 (c' := (1, [.ref 118], [.ref 118], (h.1, qm_up (qm_up I117 143 (w120.toInt.toNat) v74) 118 41 v121, J118, h.2.2.2))) rfl ?_
              refine hk_geti (v := t) rfl (hH.1 118 (17, 105) rfl) rfl (show (qm_up (qm_up I117 143 (w120.toInt.toNat) v74) 118 41 v121) 118 11 = _ from ((hk_neq (by decide)).trans ((hk_ot rfl).trans ((e8_I117 11 rfl).trans q_t)))) ?_
              refine qm_Ru.go 1 (c' := (7, [.ref 118], [.int 400, .int t], (h.1, qm_up (qm_up I117 143 (w120.toInt.toNat) v74) 118 41 v121, J118, h.2.2.2))) rfl ?_
              refine hk_cne (ix := t.toInt) (iy := 400) rfl rfl rfl (fun z122 => ?_) (fun z122 => ?_)
              · refine qm_Ru.go 2 (c' := (20, [.ref 118], [.ref 118, .ref 118], (h.1, qm_up (qm_up I117 143 (w120.toInt.toNat) v74) 118 41 v121, J118, h.2.2.2))) rfl ?_
                refine hk_geti (v := t) rfl (hH.1 118 (17, 105) rfl) rfl (show (qm_up (qm_up I117 143 (w120.toInt.toNat) v74) 118 41 v121) 118 11 = _ from ((hk_neq (by decide)).trans ((hk_ot rfl).trans ((e8_I117 11 rfl).trans q_t)))) ?_
                refine qm_Ru.go 2 (c' := (25, [.ref 118], [.int (t + 1), .ref 118], (h.1, qm_up (qm_up I117 143 (w120.toInt.toNat) v74) 118 41 v121, J118, h.2.2.2))) rfl ?_
                obtain ⟨v123, q_v123, e_v123⟩ := hk_add (x := t) (y := 1) (a := t.toInt) (b := 1) rfl rfl (by omega) (by omega)
                rw [q_v123]
                refine hk_puti rfl (hH.1 118 (17, 105) rfl) rfl ?_
                refine qm_Ru.go 0 (c' := (28, [.ref 118], [], (h.1, qm_up (qm_up (qm_up I117 143 (w120.toInt.toNat) v74) 118 41 v121) 118 11 v123, J118, h.2.2.2))) rfl ?_
                refine qm_Ru.rt (v := none) (h' := (h.1, qm_up (qm_up (qm_up I117 143 (w120.toInt.toNat) v74) 118 41 v121) 118 11 v123, J118, h.2.2.2)) rfl ?_
                refine qm_Ru.go 4 (c' := (17, [.ref 118, .int bs, .int 1], [.ref 118], (h.1, qm_up (qm_up (qm_up I117 143 (w120.toInt.toNat) v74) 118 41 v121) 118 11 v123, J118, h.2.2.2))) rfl ?_
                refine hk_geti (v := f) rfl (hH.1 118 (17, 105) rfl) rfl (show (qm_up (qm_up (qm_up I117 143 (w120.toInt.toNat) v74) 118 41 v121) 118 11 v123) 118 13 = _ from ((hk_neq (by decide)).trans ((hk_neq (by decide)).trans ((hk_ot rfl).trans ((e8_I117 13 rfl).trans q_f))))) ?_
                refine qm_Ru.go 0 (c' := (20, [.ref 118, .int bs, .int 1], [.int f], (h.1, qm_up (qm_up (qm_up I117 143 (w120.toInt.toNat) v74) 118 41 v121) 118 11 v123, J118, h.2.2.2))) rfl ?_
                refine hk_zne (ix := f.toInt) rfl rfl (fun z124 => by exfalso; omega) (fun z124 => ?_)
                refine qm_Ru.go 0 (c' := (23, [.ref 118, .int bs, .int 1], [], (h.1, qm_up (qm_up (qm_up I117 143 (w120.toInt.toNat) v74) 118 41 v121) 118 11 v123, J118, h.2.2.2))) rfl ?_
                have W_w125 := ws_push (w := pI I117 143) (n := w120.toInt.toNat) (x := Int32.toInt v74) W_I117 (by omega)
                have E_w125 : pI (qm_up (qm_up (qm_up I117 143 (w120.toInt.toNat) v74) 118 41 v121) 118 11 v123) 143 = fu_up (pI I117 143) w120.toInt.toNat (Int32.toInt v74) := ((pI_sk rfl).trans ((pI_sk rfl).trans (pI_up.trans rfl)))
                have N_w125 : v121.toInt.toNat = w120.toInt.toNat + 1 := by omega
                have V_w125 : ws (pI (qm_up (qm_up (qm_up I117 143 (w120.toInt.toNat) v74) 118 41 v121) 118 11 v123) 143) v121.toInt.toNat := by rw [E_w125, N_w125]; exact W_w125.1
                have U_w125 : wo (pI (qm_up (qm_up (qm_up I117 143 (w120.toInt.toNat) v74) 118 41 v121) 118 11 v123) 143) v121.toInt.toNat = wo (pI I117 143) w120.toInt.toNat + 0 := by rw [E_w125, N_w125, W_w125.2, if_neg (by omega)]
                have O_w125 := O9_I117
                have L_w125 := ws_le V_w125
                have P_w125 : Int32.toInt f = 0 → pq (qm_up (qm_up (qm_up I117 143 (w120.toInt.toNat) v74) 118 41 v121) 118 11 v123) lf 0 c119 v121 := by
                  intro z
                  obtain ⟨p1, p2⟩ := P_I117 z
                  have hlc := p1.1
                  refine ⟨?_, ?_⟩
                  · rw [show pI (qm_up (qm_up (qm_up I117 143 (w120.toInt.toNat) v74) 118 41 v121) 118 11 v123) 141 = pI I117 141 from ((pI_sk rfl).trans ((pI_sk rfl).trans ((pI_sk rfl).trans rfl))), show pI (qm_up (qm_up (qm_up I117 143 (w120.toInt.toNat) v74) 118 41 v121) 118 11 v123) 142 = pI I117 142 from ((pI_sk rfl).trans ((pI_sk rfl).trans ((pI_sk rfl).trans rfl)))]
                    exact p1
                  · rw [show pI (qm_up (qm_up (qm_up I117 143 (w120.toInt.toNat) v74) 118 41 v121) 118 11 v123) 141 = pI I117 141 from ((pI_sk rfl).trans ((pI_sk rfl).trans ((pI_sk rfl).trans rfl)))]
                    omega
                exact (ih (m - 1) (by omega)).1 (qm_up (qm_up (qm_up I117 143 (w120.toInt.toNat) v74) 118 41 v121) 118 11 v123) (J118) v123 f c119 v121 op (hb_up (o := 118) (k := 11) (x := v123) (hb_up (o := 118) (k := 41) (x := v121) (hb_up (o := 143) (k := w120.toInt.toNat) (x := v74) hB_I117 ⟨by show (0 : Int) ≤ v74.toInt; omega, by show v74.toInt ≤ (44 : Int); omega⟩) ⟨by show (0 : Int) ≤ v121.toInt; omega, by show v121.toInt ≤ (64 : Int); omega⟩) ⟨by show (0 : Int) ≤ v123.toInt; omega, by show v123.toInt ≤ (400 : Int); omega⟩) (fun o ho i => ((hk_mod ho rfl).trans ((hk_mod ho rfl).trans ((hk_mod ho rfl).trans ((e_I117 o (hk_ms rfl ho) i).trans ((e o (hk_ms rfl ho) i).trans rfl)))))) (fun i hi => ((hk_neq (fun z => by subst z; cases hi)).trans ((hk_neq (fun z => by subst z; cases hi)).trans ((hk_ot rfl).trans ((e8_I117 i (hk_ms rfl hi)).trans ((e8 i (hk_ms rfl hi)).trans rfl)))))) (show (qm_up (qm_up (qm_up I117 143 (w120.toInt.toNat) v74) 118 41 v121) 118 11 v123) 118 11 = _ from (hk_same)) (show (qm_up (qm_up (qm_up I117 143 (w120.toInt.toNat) v74) 118 41 v121) 118 11 v123) 118 13 = _ from ((hk_neq (by decide)).trans ((hk_neq (by decide)).trans ((hk_ot rfl).trans ((e8_I117 13 rfl).trans q_f))))) (show (qm_up (qm_up (qm_up I117 143 (w120.toInt.toNat) v74) 118 41 v121) 118 11 v123) 118 37 = _ from ((hk_neq (by decide)).trans ((hk_neq (by decide)).trans ((hk_ot rfl).trans q_c119)))) (show (qm_up (qm_up (qm_up I117 143 (w120.toInt.toNat) v74) 118 41 v121) 118 11 v123) 118 41 = _ from ((hk_neq (by decide)).trans (hk_same))) (show (qm_up (qm_up (qm_up I117 143 (w120.toInt.toNat) v74) 118 41 v121) 118 11 v123) 118 12 = _ from ((hk_neq (by decide)).trans ((hk_neq (by decide)).trans ((hk_ot rfl).trans ((e8_I117 12 rfl).trans q_op)))))  (by omega) (by omega) (by omega) (by omega) V_w125 (by omega) (pa_cg A_I117 (fun i => ((hk_ot rfl).trans ((hk_ot rfl).trans ((hk_ot rfl).trans rfl)))) (fun i => ((hk_ot rfl).trans ((hk_ot rfl).trans ((hk_ot rfl).trans rfl))))) P_w125 (by omega) (.int 1)
              · refine qm_Ru.go 2 (c' := (12, [.ref 118], [.int 2, .ref 118], (h.1, qm_up (qm_up I117 143 (w120.toInt.toNat) v74) 118 41 v121, J118, h.2.2.2))) rfl ?_
                refine hk_inv (o := 118) (r := []) (as := [.ref 118, .int 2]) rfl rfl (hH.1 118 (17, 105) rfl) rfl rfl rfl rfl ?_
                refine qm_Ru.go 1 (c' := (1, [.ref 118, .int 2], [.ref 118], (h.1, qm_up (qm_up I117 143 (w120.toInt.toNat) v74) 118 41 v121, J118, h.2.2.2))) rfl ?_
                refine hk_geti (v := f) rfl (hH.1 118 (17, 105) rfl) rfl (show (qm_up (qm_up I117 143 (w120.toInt.toNat) v74) 118 41 v121) 118 13 = _ from ((hk_neq (by decide)).trans ((hk_ot rfl).trans ((e8_I117 13 rfl).trans q_f)))) ?_
                refine qm_Ru.go 0 (c' := (4, [.ref 118, .int 2], [.int f], (h.1, qm_up (qm_up I117 143 (w120.toInt.toNat) v74) 118 41 v121, J118, h.2.2.2))) rfl ?_
                refine hk_zle (ix := f.toInt) rfl rfl (fun z126 => ?_) (fun z126 => by exfalso; omega)
                refine qm_Ru.go 2 (c' := (10, [.ref 118, .int 2], [.int 2, .ref 118], (h.1, qm_up (qm_up I117 143 (w120.toInt.toNat) v74) 118 41 v121, J118, h.2.2.2))) rfl ?_
                refine hk_puti rfl (hH.1 118 (17, 105) rfl) rfl ?_
                refine qm_Ru.go 2 (c' := (15, [.ref 118, .int 2], [.ref 118, .ref 118], (h.1, qm_up (qm_up (qm_up I117 143 (w120.toInt.toNat) v74) 118 41 v121) 118 13 2, J118, h.2.2.2))) rfl ?_
                refine hk_getr rfl (hH.1 118 (17, 105) rfl) rfl (hH.2 118 6 (some 122) rfl) ?_
                refine qm_Ru.go 1 (c' := (19, [.ref 118, .int 2], [.ref 118, .ref 122, .ref 118], (h.1, qm_up (qm_up (qm_up I117 143 (w120.toInt.toNat) v74) 118 41 v121) 118 13 2, J118, h.2.2.2))) rfl ?_
                refine hk_geti (v := t) rfl (hH.1 118 (17, 105) rfl) rfl (show (qm_up (qm_up (qm_up I117 143 (w120.toInt.toNat) v74) 118 41 v121) 118 13 2) 118 11 = _ from ((hk_neq (by decide)).trans ((hk_neq (by decide)).trans ((hk_ot rfl).trans ((e8_I117 11 rfl).trans q_t))))) ?_
                refine qm_Ru.go 0 (c' := (22, [.ref 118, .int 2], [.int t, .ref 122, .ref 118], (h.1, qm_up (qm_up (qm_up I117 143 (w120.toInt.toNat) v74) 118 41 v121) 118 13 2, J118, h.2.2.2))) rfl ?_
                obtain ⟨v127, q_v127⟩ : ∃ v, h.2.1 122 (t.toInt.toNat) = v := ⟨_, rfl⟩
                refine hk_ial (v := v127) rfl (hH.1 122 (0, 403) rfl) (by omega) (by omega) (show (qm_up (qm_up (qm_up I117 143 (w120.toInt.toNat) v74) 118 41 v121) 118 13 2) 122 (t.toInt.toNat) = _ from ((hk_ot rfl).trans ((hk_ot rfl).trans ((hk_ot rfl).trans ((e_I117 122 rfl (t.toInt.toNat)).trans ((e 122 rfl (t.toInt.toNat)).trans q_v127)))))) ?_
                refine qm_Ru.go 0 (c' := (23, [.ref 118, .int 2], [.int v127, .ref 118], (h.1, qm_up (qm_up (qm_up I117 143 (w120.toInt.toNat) v74) 118 41 v121) 118 13 2, J118, h.2.2.2))) rfl ?_
                refine hk_puti rfl (hH.1 118 (17, 105) rfl) rfl ?_
                refine qm_Ru.go 0 (c' := (26, [.ref 118, .int 2], [], (h.1, qm_up (qm_up (qm_up (qm_up I117 143 (w120.toInt.toNat) v74) 118 41 v121) 118 13 2) 118 14 v127, J118, h.2.2.2))) rfl ?_
                refine qm_Ru.rt (v := none) (h' := (h.1, qm_up (qm_up (qm_up (qm_up I117 143 (w120.toInt.toNat) v74) 118 41 v121) 118 13 2) 118 14 v127, J118, h.2.2.2)) rfl ?_
                refine qm_Ru.go 1 (c' := (28, [.ref 118], [], (h.1, qm_up (qm_up (qm_up (qm_up I117 143 (w120.toInt.toNat) v74) 118 41 v121) 118 13 2) 118 14 v127, J118, h.2.2.2))) rfl ?_
                refine qm_Ru.rt (v := none) (h' := (h.1, qm_up (qm_up (qm_up (qm_up I117 143 (w120.toInt.toNat) v74) 118 41 v121) 118 13 2) 118 14 v127, J118, h.2.2.2)) rfl ?_
                refine qm_Ru.go 4 (c' := (17, [.ref 118, .int bs, .int 1], [.ref 118], (h.1, qm_up (qm_up (qm_up (qm_up I117 143 (w120.toInt.toNat) v74) 118 41 v121) 118 13 2) 118 14 v127, J118, h.2.2.2))) rfl ?_
                refine hk_geti (v := 2) rfl (hH.1 118 (17, 105) rfl) rfl (show (qm_up (qm_up (qm_up (qm_up I117 143 (w120.toInt.toNat) v74) 118 41 v121) 118 13 2) 118 14 v127) 118 13 = _ from ((hk_neq (by decide)).trans (hk_same))) ?_
                refine qm_Ru.go 1 (c' := (246, [.ref 118, .int bs, .int 1], [], (h.1, qm_up (qm_up (qm_up (qm_up I117 143 (w120.toInt.toNat) v74) 118 41 v121) 118 13 2) 118 14 v127, J118, h.2.2.2))) rfl ?_
                refine qm_Ru.rt (v := none) (h' := (h.1, qm_up (qm_up (qm_up (qm_up I117 143 (w120.toInt.toNat) v74) 118 41 v121) 118 13 2) 118 14 v127, J118, h.2.2.2)) rfl ?_
                have W_w128 := ws_push (w := pI I117 143) (n := w120.toInt.toNat) (x := Int32.toInt v74) W_I117 (by omega)
                have E_w128 : pI (qm_up (qm_up (qm_up (qm_up I117 143 (w120.toInt.toNat) v74) 118 41 v121) 118 13 2) 118 14 v127) 143 = fu_up (pI I117 143) w120.toInt.toNat (Int32.toInt v74) := ((pI_sk rfl).trans ((pI_sk rfl).trans ((pI_sk rfl).trans (pI_up.trans rfl))))
                have N_w128 : v121.toInt.toNat = w120.toInt.toNat + 1 := by omega
                have V_w128 : ws (pI (qm_up (qm_up (qm_up (qm_up I117 143 (w120.toInt.toNat) v74) 118 41 v121) 118 13 2) 118 14 v127) 143) v121.toInt.toNat := by rw [E_w128, N_w128]; exact W_w128.1
                have U_w128 : wo (pI (qm_up (qm_up (qm_up (qm_up I117 143 (w120.toInt.toNat) v74) 118 41 v121) 118 13 2) 118 14 v127) 143) v121.toInt.toNat = wo (pI I117 143) w120.toInt.toNat + 0 := by rw [E_w128, N_w128, W_w128.2, if_neg (by omega)]
                have O_w128 := O9_I117
                have L_w128 := ws_le V_w128
                have P_w128 : Int32.toInt 2 = 0 → pq (qm_up (qm_up (qm_up (qm_up I117 143 (w120.toInt.toNat) v74) 118 41 v121) 118 13 2) 118 14 v127) lf 1 c119 v121 := by
                  intro z; exact absurd z (by decide)
                exact k (qm_up (qm_up (qm_up (qm_up I117 143 (w120.toInt.toNat) v74) 118 41 v121) 118 13 2) 118 14 v127) (J118) t 2 c119 op (hb_up (o := 118) (k := 14) (x := v127) (hb_up (o := 118) (k := 13) (x := 2) (hb_up (o := 118) (k := 41) (x := v121) (hb_up (o := 143) (k := w120.toInt.toNat) (x := v74) hB_I117 ⟨by show (0 : Int) ≤ v74.toInt; omega, by show v74.toInt ≤ (44 : Int); omega⟩) ⟨by show (0 : Int) ≤ v121.toInt; omega, by show v121.toInt ≤ (64 : Int); omega⟩) (qa_in_full _)) (qa_in_full _)) (fun o ho i => ((hk_mod ho rfl).trans ((hk_mod ho rfl).trans ((hk_mod ho rfl).trans ((hk_mod ho rfl).trans ((e_I117 o (hk_ms rfl ho) i).trans ((e o (hk_ms rfl ho) i).trans rfl))))))) (fun i hi => ((hk_neq (fun z => by subst z; cases hi)).trans ((hk_neq (fun z => by subst z; cases hi)).trans ((hk_neq (fun z => by subst z; cases hi)).trans ((hk_ot rfl).trans ((e8_I117 i (hk_ms rfl hi)).trans ((e8 i (hk_ms rfl hi)).trans rfl))))))) (show (qm_up (qm_up (qm_up (qm_up I117 143 (w120.toInt.toNat) v74) 118 41 v121) 118 13 2) 118 14 v127) 118 11 = _ from ((hk_neq (by decide)).trans ((hk_neq (by decide)).trans ((hk_neq (by decide)).trans ((hk_ot rfl).trans ((e8_I117 11 rfl).trans q_t)))))) (show (qm_up (qm_up (qm_up (qm_up I117 143 (w120.toInt.toNat) v74) 118 41 v121) 118 13 2) 118 14 v127) 118 13 = _ from ((hk_neq (by decide)).trans (hk_same))) (show (qm_up (qm_up (qm_up (qm_up I117 143 (w120.toInt.toNat) v74) 118 41 v121) 118 13 2) 118 14 v127) 118 37 = _ from ((hk_neq (by decide)).trans ((hk_neq (by decide)).trans ((hk_neq (by decide)).trans ((hk_ot rfl).trans q_c119))))) (show (qm_up (qm_up (qm_up (qm_up I117 143 (w120.toInt.toNat) v74) 118 41 v121) 118 13 2) 118 14 v127) 118 12 = _ from ((hk_neq (by decide)).trans ((hk_neq (by decide)).trans ((hk_neq (by decide)).trans ((hk_ot rfl).trans ((e8_I117 12 rfl).trans q_op)))))) (by omega) (by omega) (by omega) (pa_cg A_I117 (fun i => ((hk_ot rfl).trans ((hk_ot rfl).trans ((hk_ot rfl).trans ((hk_ot rfl).trans rfl))))) (fun i => ((hk_ot rfl).trans ((hk_ot rfl).trans ((hk_ot rfl).trans ((hk_ot rfl).trans rfl)))))) (fun z => absurd z (by decide))
          · refine qm_Ru.go 2 (c' := (25, [.ref 118, .int 8], [.int 1], (h.1, I, J, h.2.2.2))) rfl ?_
            refine qm_Ru.rt (v := (some (.int 1))) (h' := (h.1, I, J, h.2.2.2)) rfl ?_
            refine qm_Ru.go 9 (c' := (205, [.ref 118, .int bs, .int 1], [.int 10, .ref 118, .ref 118], (h.1, I, J, h.2.2.2))) rfl ?_
            refine hk_inv (o := 118) (r := [.ref 118]) (as := [.ref 118, .int 10]) rfl rfl (hH.1 118 (17, 105) rfl) rfl rfl rfl rfl ?_
            refine qm_Ru.go 1 (c' := (1, [.ref 118, .int 10], [.ref 118], (h.1, I, J, h.2.2.2))) rfl ?_
            refine hk_geti (v := f) rfl (hH.1 118 (17, 105) rfl) rfl q_f ?_
            refine qm_Ru.go 0 (c' := (4, [.ref 118, .int 10], [.int f], (h.1, I, J, h.2.2.2))) rfl ?_
            refine hk_zne (ix := f.toInt) rfl rfl (fun z129 => by exfalso; omega) (fun z129 => ?_)
            refine qm_Ru.go 1 (c' := (8, [.ref 118, .int 10], [.ref 118], (h.1, I, J, h.2.2.2))) rfl ?_
            refine hk_getr rfl (hH.1 118 (17, 105) rfl) rfl (hH.2 118 5 (some 121) rfl) ?_
            refine qm_Ru.go 1 (c' := (12, [.ref 118, .int 10], [.ref 118, .ref 121], (h.1, I, J, h.2.2.2))) rfl ?_
            refine hk_geti (v := t) rfl (hH.1 118 (17, 105) rfl) rfl q_t ?_
            refine qm_Ru.go 0 (c' := (15, [.ref 118, .int 10], [.int t, .ref 121], (h.1, I, J, h.2.2.2))) rfl ?_
            refine hk_ial (v := v74) rfl (hH.1 121 (0, 403) rfl) (by omega) (by omega) (show (I) 121 (t.toInt.toNat) = _ from ((e 121 rfl (t.toInt.toNat)).trans q_v74)) ?_
            refine qm_Ru.go 1 (c' := (17, [.ref 118, .int 10], [.int 10, .int v74], (h.1, I, J, h.2.2.2))) rfl ?_
            refine hk_cne (ix := v74.toInt) (iy := 10) rfl rfl rfl (fun z130 => ?_) (fun z130 => by exfalso; omega)
            refine qm_Ru.go 1 (c' := (25, [.ref 118, .int 10], [.int 0], (h.1, I, J, h.2.2.2))) rfl ?_
            refine qm_Ru.rt (v := (some (.int 0))) (h' := (h.1, I, J, h.2.2.2)) rfl ?_
            refine qm_Ru.go 0 (c' := (208, [.ref 118, .int bs, .int 1], [.int 0, .ref 118], (h.1, I, J, h.2.2.2))) rfl ?_
            have E_w131 : pI (I) 143 = pI I 143 := rfl
            have V_w131 : ws (pI (I) 143) wt.toInt.toNat := by rw [E_w131]; exact hW
            have U_w131 : wo (pI (I) 143) wt.toInt.toNat = wo (pI I 143) wt.toInt.toNat := by rw [E_w131]
            have O_w131 := hO
            have L_w131 := ws_le V_w131
            have P_w131 : Int32.toInt f = 0 → pq (I) lf 1 cd wt := by
              intro z
              obtain ⟨p1, p2⟩ := hP z
              have hlc := p1.1
              refine ⟨?_, ?_⟩
              · rw [show pI (I) 141 = pI I 141 from rfl, show pI (I) 142 = pI I 142 from rfl]
                exact p1
              · rw [show pI (I) 141 = pI I 141 from rfl]
                omega
            refine hk_inv (o := 118) (r := []) (as := [.ref 118, .int 0]) rfl rfl (hH.1 118 (17, 105) rfl) rfl rfl rfl rfl (hl_co (h := (h.1, I, J, h.2.2.2)) hH hBI (sg := 0) (by decide) (lo := (lf : Int)) (c1 := Int32.toInt cd + Int32.toInt wt) (lf := lf) (pz := Int32.toInt f = 0) (by omega) (by omega) (fun z => by omega) (hi := c0 + 420) (by omega) (fun I132 J133 c134 w135 hB_I132 e_I132 e8_I132 q_c134 q_w135 b1_I132 b2_I132 W_I132 O_I132 A_I132 P_I132 tp_I132 => ?_) _ (I) (J) cd wt (.float 0) hBI (fun _ _ _ => rfl) (fun _ _ => rfl) q_cd q_wt (by omega) ⟨by omega, rfl⟩ V_w131 rfl (fun _ _ => ⟨rfl, rfl⟩) P_w131 rfl)
            have e_I132 : ∀ o, [118, 141, 142].contains o = false → ∀ i, I132 o i = (I) o i := e_I132
            have e8_I132 : ∀ i, [37, 41].contains i = false → I132 118 i = (I) 118 i := e8_I132
            have WL_I132 := ws_le W_I132
            have wl_I132 := wo_le (w := pI I132 143) w135.toInt.toNat
            have A0_I132 : pa h.2.1 (I) (lf : Int) (c0 + 420) := (pa_cg hA (fun i => rfl) (fun i => rfl))
            have A_I132 : pa h.2.1 I132 (lf : Int) (c0 + 420) := fun i hi => ⟨(A_I132 i hi).1.trans (A0_I132 i hi).1, (A_I132 i hi).2.trans (A0_I132 i hi).2⟩
            have tp_I132 : w135.toInt = 0 ∨ pI I132 143 (w135.toInt.toNat - 1) = 6 ∨ ((0 : Int) = 1 ∧ (pI I132 143 (w135.toInt.toNat - 1) = 8 ∨ pI I132 143 (w135.toInt.toNat - 1) = 9)) := tp_I132
            have O9_I132 : (wo (pI I132 143) w135.toInt.toNat : Int) = (wo (pI (I) 143) wt.toInt.toNat : Int) := by rw [O_I132]
            refine qm_Ru.go 1 (c' := (212, [.ref 118, .int bs, .int 1], [.ref 118], (h.1, I132, J133, h.2.2.2))) rfl ?_
            refine hk_getr rfl (hH.1 118 (17, 105) rfl) rfl (hH.2 118 40 (some 143) rfl) ?_
            refine qm_Ru.go 1 (c' := (216, [.ref 118, .int bs, .int 1], [.ref 118, .ref 143], (h.1, I132, J133, h.2.2.2))) rfl ?_
            refine hk_geti (v := w135) rfl (hH.1 118 (17, 105) rfl) rfl q_w135 ?_
            refine qm_Ru.go 1 (c' := (220, [.ref 118, .int bs, .int 1], [.ref 118, .int w135, .ref 143], (h.1, I132, J133, h.2.2.2))) rfl ?_
            refine hk_getr rfl (hH.1 118 (17, 105) rfl) rfl (hH.2 118 5 (some 121) rfl) ?_
            refine qm_Ru.go 1 (c' := (224, [.ref 118, .int bs, .int 1], [.ref 118, .ref 121, .int w135, .ref 143], (h.1, I132, J133, h.2.2.2))) rfl ?_
            refine hk_geti (v := t) rfl (hH.1 118 (17, 105) rfl) rfl (show (I132) 118 11 = _ from ((e8_I132 11 rfl).trans q_t)) ?_
            refine qm_Ru.go 0 (c' := (227, [.ref 118, .int bs, .int 1], [.int t, .ref 121, .int w135, .ref 143], (h.1, I132, J133, h.2.2.2))) rfl ?_
            refine hk_ial (v := v74) rfl (hH.1 121 (0, 403) rfl) (by omega) (by omega) (show (I132) 121 (t.toInt.toNat) = _ from ((e_I132 121 rfl (t.toInt.toNat)).trans ((e 121 rfl (t.toInt.toNat)).trans q_v74))) ?_
            refine qm_Ru.go 0 (c' := (228, [.ref 118, .int bs, .int 1], [.int v74, .int w135, .ref 143], (h.1, I132, J133, h.2.2.2))) rfl ?_
            refine hk_ias rfl (hH.1 143 (0, 64) rfl) (by omega) (by omega) ?_
            refine qm_Ru.go 2 (c' := (231, [.ref 118, .int bs, .int 1], [.ref 118, .ref 118], (h.1, qm_up I132 143 (w135.toInt.toNat) v74, J133, h.2.2.2))) rfl ?_
            refine hk_geti (v := w135) rfl (hH.1 118 (17, 105) rfl) rfl (show (qm_up I132 143 (w135.toInt.toNat) v74) 118 41 = _ from ((hk_ot rfl).trans q_w135)) ?_
            refine qm_Ru.go 2 (c' := (236, [.ref 118, .int bs, .int 1], [.int (w135 + 1), .ref 118], (h.1, qm_up I132 143 (w135.toInt.toNat) v74, J133, h.2.2.2))) rfl ?_
            obtain ⟨v136, q_v136, e_v136⟩ := hk_add (x := w135) (y := 1) (a := w135.toInt) (b := 1) rfl rfl (by omega) (by omega)
            rw [q_v136]
            refine hk_puti rfl (hH.1 118 (17, 105) rfl) rfl ?_
            refine qm_Ru.go 1 (c' := (240, [.ref 118, .int bs, .int 1], [.ref 118], (h.1, qm_up (qm_up I132 143 (w135.toInt.toNat) v74) 118 41 v136, J133, h.2.2.2))) rfl ?_
            refine hk_inv (o := 118) (r := []) (as := [.ref 118]) rfl rfl (hH.1 118 (17, 105) rfl) rfl rfl rfl rfl ?_
            refine qm_Ru.go 1 (c' := (1, [.ref 118], [.ref 118], (h.1, qm_up (qm_up I132 143 (w135.toInt.toNat) v74) 118 41 v136, J133, h.2.2.2))) rfl ?_
            refine hk_geti (v := t) rfl (hH.1 118 (17, 105) rfl) rfl (show (qm_up (qm_up I132 143 (w135.toInt.toNat) v74) 118 41 v136) 118 11 = _ from ((hk_neq (by decide)).trans ((hk_ot rfl).trans ((e8_I132 11 rfl).trans q_t)))) ?_
            refine qm_Ru.go 1 (c' := (7, [.ref 118], [.int 400, .int t], (h.1, qm_up (qm_up I132 143 (w135.toInt.toNat) v74) 118 41 v136, J133, h.2.2.2))) rfl ?_
            refine hk_cne (ix := t.toInt) (iy := 400) rfl rfl rfl (fun z137 => ?_) (fun z137 => ?_)
            · refine qm_Ru.go 2 (c' := (20, [.ref 118], [.ref 118, .ref 118], (h.1, qm_up (qm_up I132 143 (w135.toInt.toNat) v74) 118 41 v136, J133, h.2.2.2))) rfl ?_
              refine hk_geti (v := t) rfl (hH.1 118 (17, 105) rfl) rfl (show (qm_up (qm_up I132 143 (w135.toInt.toNat) v74) 118 41 v136) 118 11 = _ from ((hk_neq (by decide)).trans ((hk_ot rfl).trans ((e8_I132 11 rfl).trans q_t)))) ?_
              refine qm_Ru.go 2 (c' := (25, [.ref 118], [.int (t + 1), .ref 118], (h.1, qm_up (qm_up I132 143 (w135.toInt.toNat) v74) 118 41 v136, J133, h.2.2.2))) rfl ?_
              obtain ⟨v138, q_v138, e_v138⟩ := hk_add (x := t) (y := 1) (a := t.toInt) (b := 1) rfl rfl (by omega) (by omega)
              rw [q_v138]
              refine hk_puti rfl (hH.1 118 (17, 105) rfl) rfl ?_
              refine qm_Ru.go 0 (c' := (28, [.ref 118], [], (h.1, qm_up (qm_up (qm_up I132 143 (w135.toInt.toNat) v74) 118 41 v136) 118 11 v138, J133, h.2.2.2))) rfl ?_
              refine qm_Ru.rt (v := none) (h' := (h.1, qm_up (qm_up (qm_up I132 143 (w135.toInt.toNat) v74) 118 41 v136) 118 11 v138, J133, h.2.2.2)) rfl ?_
              refine qm_Ru.go 4 (c' := (17, [.ref 118, .int bs, .int 1], [.ref 118], (h.1, qm_up (qm_up (qm_up I132 143 (w135.toInt.toNat) v74) 118 41 v136) 118 11 v138, J133, h.2.2.2))) rfl ?_
              refine hk_geti (v := f) rfl (hH.1 118 (17, 105) rfl) rfl (show (qm_up (qm_up (qm_up I132 143 (w135.toInt.toNat) v74) 118 41 v136) 118 11 v138) 118 13 = _ from ((hk_neq (by decide)).trans ((hk_neq (by decide)).trans ((hk_ot rfl).trans ((e8_I132 13 rfl).trans q_f))))) ?_
              refine qm_Ru.go 0 (c' := (20, [.ref 118, .int bs, .int 1], [.int f], (h.1, qm_up (qm_up (qm_up I132 143 (w135.toInt.toNat) v74) 118 41 v136) 118 11 v138, J133, h.2.2.2))) rfl ?_
              refine hk_zne (ix := f.toInt) rfl rfl (fun z139 => by exfalso; omega) (fun z139 => ?_)
              refine qm_Ru.go 0 (c' := (23, [.ref 118, .int bs, .int 1], [], (h.1, qm_up (qm_up (qm_up I132 143 (w135.toInt.toNat) v74) 118 41 v136) 118 11 v138, J133, h.2.2.2))) rfl ?_
              have W_w140 := ws_push (w := pI I132 143) (n := w135.toInt.toNat) (x := Int32.toInt v74) W_I132 (by omega)
              have E_w140 : pI (qm_up (qm_up (qm_up I132 143 (w135.toInt.toNat) v74) 118 41 v136) 118 11 v138) 143 = fu_up (pI I132 143) w135.toInt.toNat (Int32.toInt v74) := ((pI_sk rfl).trans ((pI_sk rfl).trans (pI_up.trans rfl)))
              have N_w140 : v136.toInt.toNat = w135.toInt.toNat + 1 := by omega
              have V_w140 : ws (pI (qm_up (qm_up (qm_up I132 143 (w135.toInt.toNat) v74) 118 41 v136) 118 11 v138) 143) v136.toInt.toNat := by rw [E_w140, N_w140]; exact W_w140.1
              have U_w140 : wo (pI (qm_up (qm_up (qm_up I132 143 (w135.toInt.toNat) v74) 118 41 v136) 118 11 v138) 143) v136.toInt.toNat = wo (pI I132 143) w135.toInt.toNat + 0 := by rw [E_w140, N_w140, W_w140.2, if_neg (by omega)]
              have O_w140 := O9_I132
              have L_w140 := ws_le V_w140
              have P_w140 : Int32.toInt f = 0 → pq (qm_up (qm_up (qm_up I132 143 (w135.toInt.toNat) v74) 118 41 v136) 118 11 v138) lf 0 c134 v136 := by
                intro z
                obtain ⟨p1, p2⟩ := P_I132 z
                have hlc := p1.1
                refine ⟨?_, ?_⟩
                · rw [show pI (qm_up (qm_up (qm_up I132 143 (w135.toInt.toNat) v74) 118 41 v136) 118 11 v138) 141 = pI I132 141 from ((pI_sk rfl).trans ((pI_sk rfl).trans ((pI_sk rfl).trans rfl))), show pI (qm_up (qm_up (qm_up I132 143 (w135.toInt.toNat) v74) 118 41 v136) 118 11 v138) 142 = pI I132 142 from ((pI_sk rfl).trans ((pI_sk rfl).trans ((pI_sk rfl).trans rfl)))]
                  exact p1
                · rw [show pI (qm_up (qm_up (qm_up I132 143 (w135.toInt.toNat) v74) 118 41 v136) 118 11 v138) 141 = pI I132 141 from ((pI_sk rfl).trans ((pI_sk rfl).trans ((pI_sk rfl).trans rfl)))]
                  omega
              exact (ih (m - 1) (by omega)).1 (qm_up (qm_up (qm_up I132 143 (w135.toInt.toNat) v74) 118 41 v136) 118 11 v138) (J133) v138 f c134 v136 op (hb_up (o := 118) (k := 11) (x := v138) (hb_up (o := 118) (k := 41) (x := v136) (hb_up (o := 143) (k := w135.toInt.toNat) (x := v74) hB_I132 ⟨by show (0 : Int) ≤ v74.toInt; omega, by show v74.toInt ≤ (44 : Int); omega⟩) ⟨by show (0 : Int) ≤ v136.toInt; omega, by show v136.toInt ≤ (64 : Int); omega⟩) ⟨by show (0 : Int) ≤ v138.toInt; omega, by show v138.toInt ≤ (400 : Int); omega⟩) (fun o ho i => ((hk_mod ho rfl).trans ((hk_mod ho rfl).trans ((hk_mod ho rfl).trans ((e_I132 o (hk_ms rfl ho) i).trans ((e o (hk_ms rfl ho) i).trans rfl)))))) (fun i hi => ((hk_neq (fun z => by subst z; cases hi)).trans ((hk_neq (fun z => by subst z; cases hi)).trans ((hk_ot rfl).trans ((e8_I132 i (hk_ms rfl hi)).trans ((e8 i (hk_ms rfl hi)).trans rfl)))))) (show (qm_up (qm_up (qm_up I132 143 (w135.toInt.toNat) v74) 118 41 v136) 118 11 v138) 118 11 = _ from (hk_same)) (show (qm_up (qm_up (qm_up I132 143 (w135.toInt.toNat) v74) 118 41 v136) 118 11 v138) 118 13 = _ from ((hk_neq (by decide)).trans ((hk_neq (by decide)).trans ((hk_ot rfl).trans ((e8_I132 13 rfl).trans q_f))))) (show (qm_up (qm_up (qm_up I132 143 (w135.toInt.toNat) v74) 118 41 v136) 118 11 v138) 118 37 = _ from ((hk_neq (by decide)).trans ((hk_neq (by decide)).trans ((hk_ot rfl).trans q_c134)))) (show (qm_up (qm_up (qm_up I132 143 (w135.toInt.toNat) v74) 118 41 v136) 118 11 v138) 118 41 = _ from ((hk_neq (by decide)).trans (hk_same))) (show (qm_up (qm_up (qm_up I132 143 (w135.toInt.toNat) v74) 118 41 v136) 118 11 v138) 118 12 = _ from ((hk_neq (by decide)).trans ((hk_neq (by decide)).trans ((hk_ot rfl).trans ((e8_I132 12 rfl).trans q_op)))))  (by omega) (by omega) (by omega) (by omega) V_w140 (by omega) (pa_cg A_I132 (fun i => ((hk_ot rfl).trans ((hk_ot rfl).trans ((hk_ot rfl).trans rfl)))) (fun i => ((hk_ot rfl).trans ((hk_ot rfl).trans ((hk_ot rfl).trans rfl))))) P_w140 (by omega) (.int 1)
            · refine qm_Ru.go 2 (c' := (12, [.ref 118], [.int 2, .ref 118], (h.1, qm_up (qm_up I132 143 (w135.toInt.toNat) v74) 118 41 v136, J133, h.2.2.2))) rfl ?_
              refine hk_inv (o := 118) (r := []) (as := [.ref 118, .int 2]) rfl rfl (hH.1 118 (17, 105) rfl) rfl rfl rfl rfl ?_
              refine qm_Ru.go 1 (c' := (1, [.ref 118, .int 2], [.ref 118], (h.1, qm_up (qm_up I132 143 (w135.toInt.toNat) v74) 118 41 v136, J133, h.2.2.2))) rfl ?_
              refine hk_geti (v := f) rfl (hH.1 118 (17, 105) rfl) rfl (show (qm_up (qm_up I132 143 (w135.toInt.toNat) v74) 118 41 v136) 118 13 = _ from ((hk_neq (by decide)).trans ((hk_ot rfl).trans ((e8_I132 13 rfl).trans q_f)))) ?_
              refine qm_Ru.go 0 (c' := (4, [.ref 118, .int 2], [.int f], (h.1, qm_up (qm_up I132 143 (w135.toInt.toNat) v74) 118 41 v136, J133, h.2.2.2))) rfl ?_
              refine hk_zle (ix := f.toInt) rfl rfl (fun z141 => ?_) (fun z141 => by exfalso; omega)
              refine qm_Ru.go 2 (c' := (10, [.ref 118, .int 2], [.int 2, .ref 118], (h.1, qm_up (qm_up I132 143 (w135.toInt.toNat) v74) 118 41 v136, J133, h.2.2.2))) rfl ?_
              refine hk_puti rfl (hH.1 118 (17, 105) rfl) rfl ?_
              refine qm_Ru.go 2 (c' := (15, [.ref 118, .int 2], [.ref 118, .ref 118], (h.1, qm_up (qm_up (qm_up I132 143 (w135.toInt.toNat) v74) 118 41 v136) 118 13 2, J133, h.2.2.2))) rfl ?_
              refine hk_getr rfl (hH.1 118 (17, 105) rfl) rfl (hH.2 118 6 (some 122) rfl) ?_
              refine qm_Ru.go 1 (c' := (19, [.ref 118, .int 2], [.ref 118, .ref 122, .ref 118], (h.1, qm_up (qm_up (qm_up I132 143 (w135.toInt.toNat) v74) 118 41 v136) 118 13 2, J133, h.2.2.2))) rfl ?_
              refine hk_geti (v := t) rfl (hH.1 118 (17, 105) rfl) rfl (show (qm_up (qm_up (qm_up I132 143 (w135.toInt.toNat) v74) 118 41 v136) 118 13 2) 118 11 = _ from ((hk_neq (by decide)).trans ((hk_neq (by decide)).trans ((hk_ot rfl).trans ((e8_I132 11 rfl).trans q_t))))) ?_
              refine qm_Ru.go 0 (c' := (22, [.ref 118, .int 2], [.int t, .ref 122, .ref 118], (h.1, qm_up (qm_up (qm_up I132 143 (w135.toInt.toNat) v74) 118 41 v136) 118 13 2, J133, h.2.2.2))) rfl ?_
              obtain ⟨v142, q_v142⟩ : ∃ v, h.2.1 122 (t.toInt.toNat) = v := ⟨_, rfl⟩
              refine hk_ial (v := v142) rfl (hH.1 122 (0, 403) rfl) (by omega) (by omega) (show (qm_up (qm_up (qm_up I132 143 (w135.toInt.toNat) v74) 118 41 v136) 118 13 2) 122 (t.toInt.toNat) = _ from ((hk_ot rfl).trans ((hk_ot rfl).trans ((hk_ot rfl).trans ((e_I132 122 rfl (t.toInt.toNat)).trans ((e 122 rfl (t.toInt.toNat)).trans q_v142)))))) ?_
              refine qm_Ru.go 0 (c' := (23, [.ref 118, .int 2], [.int v142, .ref 118], (h.1, qm_up (qm_up (qm_up I132 143 (w135.toInt.toNat) v74) 118 41 v136) 118 13 2, J133, h.2.2.2))) rfl ?_
              refine hk_puti rfl (hH.1 118 (17, 105) rfl) rfl ?_
              refine qm_Ru.go 0 (c' := (26, [.ref 118, .int 2], [], (h.1, qm_up (qm_up (qm_up (qm_up I132 143 (w135.toInt.toNat) v74) 118 41 v136) 118 13 2) 118 14 v142, J133, h.2.2.2))) rfl ?_
              refine qm_Ru.rt (v := none) (h' := (h.1, qm_up (qm_up (qm_up (qm_up I132 143 (w135.toInt.toNat) v74) 118 41 v136) 118 13 2) 118 14 v142, J133, h.2.2.2)) rfl ?_
              refine qm_Ru.go 1 (c' := (28, [.ref 118], [], (h.1, qm_up (qm_up (qm_up (qm_up I132 143 (w135.toInt.toNat) v74) 118 41 v136) 118 13 2) 118 14 v142, J133, h.2.2.2))) rfl ?_
              refine qm_Ru.rt (v := none) (h' := (h.1, qm_up (qm_up (qm_up (qm_up I132 143 (w135.toInt.toNat) v74) 118 41 v136) 118 13 2) 118 14 v142, J133, h.2.2.2)) rfl ?_
              refine qm_Ru.go 4 (c' := (17, [.ref 118, .int bs, .int 1], [.ref 118], (h.1, qm_up (qm_up (qm_up (qm_up I132 143 (w135.toInt.toNat) v74) 118 41 v136) 118 13 2) 118 14 v142, J133, h.2.2.2))) rfl ?_
              refine hk_geti (v := 2) rfl (hH.1 118 (17, 105) rfl) rfl (show (qm_up (qm_up (qm_up (qm_up I132 143 (w135.toInt.toNat) v74) 118 41 v136) 118 13 2) 118 14 v142) 118 13 = _ from ((hk_neq (by decide)).trans (hk_same))) ?_
              refine qm_Ru.go 1 (c' := (246, [.ref 118, .int bs, .int 1], [], (h.1, qm_up (qm_up (qm_up (qm_up I132 143 (w135.toInt.toNat) v74) 118 41 v136) 118 13 2) 118 14 v142, J133, h.2.2.2))) rfl ?_
              refine qm_Ru.rt (v := none) (h' := (h.1, qm_up (qm_up (qm_up (qm_up I132 143 (w135.toInt.toNat) v74) 118 41 v136) 118 13 2) 118 14 v142, J133, h.2.2.2)) rfl ?_
              have W_w143 := ws_push (w := pI I132 143) (n := w135.toInt.toNat) (x := Int32.toInt v74) W_I132 (by omega)
              have E_w143 : pI (qm_up (qm_up (qm_up (qm_up I132 143 (w135.toInt.toNat) v74) 118 41 v136) 118 13 2) 118 14 v142) 143 = fu_up (pI I132 143) w135.toInt.toNat (Int32.toInt v74) := ((pI_sk rfl).trans ((pI_sk rfl).trans ((pI_sk rfl).trans (pI_up.trans rfl))))
              have N_w143 : v136.toInt.toNat = w135.toInt.toNat + 1 := by omega
              have V_w143 : ws (pI (qm_up (qm_up (qm_up (qm_up I132 143 (w135.toInt.toNat) v74) 118 41 v136) 118 13 2) 118 14 v142) 143) v136.toInt.toNat := by rw [E_w143, N_w143]; exact W_w143.1
              have U_w143 : wo (pI (qm_up (qm_up (qm_up (qm_up I132 143 (w135.toInt.toNat) v74) 118 41 v136) 118 13 2) 118 14 v142) 143) v136.toInt.toNat = wo (pI I132 143) w135.toInt.toNat + 0 := by rw [E_w143, N_w143, W_w143.2, if_neg (by omega)]
              have O_w143 := O9_I132
              have L_w143 := ws_le V_w143
              have P_w143 : Int32.toInt 2 = 0 → pq (qm_up (qm_up (qm_up (qm_up I132 143 (w135.toInt.toNat) v74) 118 41 v136) 118 13 2) 118 14 v142) lf 1 c134 v136 := by
                intro z; exact absurd z (by decide)
              exact k (qm_up (qm_up (qm_up (qm_up I132 143 (w135.toInt.toNat) v74) 118 41 v136) 118 13 2) 118 14 v142) (J133) t 2 c134 op (hb_up (o := 118) (k := 14) (x := v142) (hb_up (o := 118) (k := 13) (x := 2) (hb_up (o := 118) (k := 41) (x := v136) (hb_up (o := 143) (k := w135.toInt.toNat) (x := v74) hB_I132 ⟨by show (0 : Int) ≤ v74.toInt; omega, by show v74.toInt ≤ (44 : Int); omega⟩) ⟨by show (0 : Int) ≤ v136.toInt; omega, by show v136.toInt ≤ (64 : Int); omega⟩) (qa_in_full _)) (qa_in_full _)) (fun o ho i => ((hk_mod ho rfl).trans ((hk_mod ho rfl).trans ((hk_mod ho rfl).trans ((hk_mod ho rfl).trans ((e_I132 o (hk_ms rfl ho) i).trans ((e o (hk_ms rfl ho) i).trans rfl))))))) (fun i hi => ((hk_neq (fun z => by subst z; cases hi)).trans ((hk_neq (fun z => by subst z; cases hi)).trans ((hk_neq (fun z => by subst z; cases hi)).trans ((hk_ot rfl).trans ((e8_I132 i (hk_ms rfl hi)).trans ((e8 i (hk_ms rfl hi)).trans rfl))))))) (show (qm_up (qm_up (qm_up (qm_up I132 143 (w135.toInt.toNat) v74) 118 41 v136) 118 13 2) 118 14 v142) 118 11 = _ from ((hk_neq (by decide)).trans ((hk_neq (by decide)).trans ((hk_neq (by decide)).trans ((hk_ot rfl).trans ((e8_I132 11 rfl).trans q_t)))))) (show (qm_up (qm_up (qm_up (qm_up I132 143 (w135.toInt.toNat) v74) 118 41 v136) 118 13 2) 118 14 v142) 118 13 = _ from ((hk_neq (by decide)).trans (hk_same))) (show (qm_up (qm_up (qm_up (qm_up I132 143 (w135.toInt.toNat) v74) 118 41 v136) 118 13 2) 118 14 v142) 118 37 = _ from ((hk_neq (by decide)).trans ((hk_neq (by decide)).trans ((hk_neq (by decide)).trans ((hk_ot rfl).trans q_c134))))) (show (qm_up (qm_up (qm_up (qm_up I132 143 (w135.toInt.toNat) v74) 118 41 v136) 118 13 2) 118 14 v142) 118 12 = _ from ((hk_neq (by decide)).trans ((hk_neq (by decide)).trans ((hk_neq (by decide)).trans ((hk_ot rfl).trans ((e8_I132 12 rfl).trans q_op)))))) (by omega) (by omega) (by omega) (pa_cg A_I132 (fun i => ((hk_ot rfl).trans ((hk_ot rfl).trans ((hk_ot rfl).trans ((hk_ot rfl).trans rfl))))) (fun i => ((hk_ot rfl).trans ((hk_ot rfl).trans ((hk_ot rfl).trans ((hk_ot rfl).trans rfl)))))) (fun z => absurd z (by decide))
        · refine qm_Ru.go 2 (c' := (25, [.ref 118, .int 7], [.int 1], (h.1, I, J, h.2.2.2))) rfl ?_
          refine qm_Ru.rt (v := (some (.int 1))) (h' := (h.1, I, J, h.2.2.2)) rfl ?_
          refine qm_Ru.go 2 (c' := (106, [.ref 118, .int bs, l2], [.ref 118], (h.1, I, J, h.2.2.2))) rfl ?_
          refine hk_geti (v := op) rfl (hH.1 118 (17, 105) rfl) rfl q_op ?_
          refine qm_Ru.go 1 (c' := (110, [.ref 118, .int bs, l2], [.int bs, .int op], (h.1, I, J, h.2.2.2))) rfl ?_
          refine hk_cle (ix := op.toInt) (iy := bs.toInt) rfl rfl rfl (fun z144 => ?_) (fun z144 => ?_)
          · refine qm_Ru.go 2 (c' := (148, [.ref 118, .int bs, l2], [.int 8, .ref 118], (h.1, I, J, h.2.2.2))) rfl ?_
            refine hk_inv (o := 118) (r := []) (as := [.ref 118, .int 8]) rfl rfl (hH.1 118 (17, 105) rfl) rfl rfl rfl rfl ?_
            refine qm_Ru.go 1 (c' := (1, [.ref 118, .int 8], [.ref 118], (h.1, I, J, h.2.2.2))) rfl ?_
            refine hk_geti (v := f) rfl (hH.1 118 (17, 105) rfl) rfl q_f ?_
            refine qm_Ru.go 0 (c' := (4, [.ref 118, .int 8], [.int f], (h.1, I, J, h.2.2.2))) rfl ?_
            refine hk_zne (ix := f.toInt) rfl rfl (fun z145 => by exfalso; omega) (fun z145 => ?_)
            refine qm_Ru.go 1 (c' := (8, [.ref 118, .int 8], [.ref 118], (h.1, I, J, h.2.2.2))) rfl ?_
            refine hk_getr rfl (hH.1 118 (17, 105) rfl) rfl (hH.2 118 5 (some 121) rfl) ?_
            refine qm_Ru.go 1 (c' := (12, [.ref 118, .int 8], [.ref 118, .ref 121], (h.1, I, J, h.2.2.2))) rfl ?_
            refine hk_geti (v := t) rfl (hH.1 118 (17, 105) rfl) rfl q_t ?_
            refine qm_Ru.go 0 (c' := (15, [.ref 118, .int 8], [.int t, .ref 121], (h.1, I, J, h.2.2.2))) rfl ?_
            refine hk_ial (v := v74) rfl (hH.1 121 (0, 403) rfl) (by omega) (by omega) (show (I) 121 (t.toInt.toNat) = _ from ((e 121 rfl (t.toInt.toNat)).trans q_v74)) ?_
            refine qm_Ru.go 1 (c' := (17, [.ref 118, .int 8], [.int 8, .int v74], (h.1, I, J, h.2.2.2))) rfl ?_
            refine hk_cne (ix := v74.toInt) (iy := 8) rfl rfl rfl (fun z146 => ?_) (fun z146 => by exfalso; omega)
            refine qm_Ru.go 1 (c' := (25, [.ref 118, .int 8], [.int 0], (h.1, I, J, h.2.2.2))) rfl ?_
            refine qm_Ru.rt (v := (some (.int 0))) (h' := (h.1, I, J, h.2.2.2)) rfl ?_
            refine qm_Ru.go 3 (c' := (157, [.ref 118, .int bs, l2], [.int 9, .ref 118], (h.1, I, J, h.2.2.2))) rfl ?_
            refine hk_inv (o := 118) (r := []) (as := [.ref 118, .int 9]) rfl rfl (hH.1 118 (17, 105) rfl) rfl rfl rfl rfl ?_
            refine qm_Ru.go 1 (c' := (1, [.ref 118, .int 9], [.ref 118], (h.1, I, J, h.2.2.2))) rfl ?_
            refine hk_geti (v := f) rfl (hH.1 118 (17, 105) rfl) rfl q_f ?_
            refine qm_Ru.go 0 (c' := (4, [.ref 118, .int 9], [.int f], (h.1, I, J, h.2.2.2))) rfl ?_
            refine hk_zne (ix := f.toInt) rfl rfl (fun z147 => by exfalso; omega) (fun z147 => ?_)
            refine qm_Ru.go 1 (c' := (8, [.ref 118, .int 9], [.ref 118], (h.1, I, J, h.2.2.2))) rfl ?_
            refine hk_getr rfl (hH.1 118 (17, 105) rfl) rfl (hH.2 118 5 (some 121) rfl) ?_
            refine qm_Ru.go 1 (c' := (12, [.ref 118, .int 9], [.ref 118, .ref 121], (h.1, I, J, h.2.2.2))) rfl ?_
            refine hk_geti (v := t) rfl (hH.1 118 (17, 105) rfl) rfl q_t ?_
            refine qm_Ru.go 0 (c' := (15, [.ref 118, .int 9], [.int t, .ref 121], (h.1, I, J, h.2.2.2))) rfl ?_
            refine hk_ial (v := v74) rfl (hH.1 121 (0, 403) rfl) (by omega) (by omega) (show (I) 121 (t.toInt.toNat) = _ from ((e 121 rfl (t.toInt.toNat)).trans q_v74)) ?_
            refine qm_Ru.go 1 (c' := (17, [.ref 118, .int 9], [.int 9, .int v74], (h.1, I, J, h.2.2.2))) rfl ?_
            refine hk_cne (ix := v74.toInt) (iy := 9) rfl rfl rfl (fun z148 => ?_) (fun z148 => by exfalso; omega)
            refine qm_Ru.go 1 (c' := (25, [.ref 118, .int 9], [.int 0], (h.1, I, J, h.2.2.2))) rfl ?_
            refine qm_Ru.rt (v := (some (.int 0))) (h' := (h.1, I, J, h.2.2.2)) rfl ?_
            refine qm_Ru.go 3 (c' := (166, [.ref 118, .int bs, l2], [.int 10, .ref 118], (h.1, I, J, h.2.2.2))) rfl ?_
            refine hk_inv (o := 118) (r := []) (as := [.ref 118, .int 10]) rfl rfl (hH.1 118 (17, 105) rfl) rfl rfl rfl rfl ?_
            refine qm_Ru.go 1 (c' := (1, [.ref 118, .int 10], [.ref 118], (h.1, I, J, h.2.2.2))) rfl ?_
            refine hk_geti (v := f) rfl (hH.1 118 (17, 105) rfl) rfl q_f ?_
            refine qm_Ru.go 0 (c' := (4, [.ref 118, .int 10], [.int f], (h.1, I, J, h.2.2.2))) rfl ?_
            refine hk_zne (ix := f.toInt) rfl rfl (fun z149 => by exfalso; omega) (fun z149 => ?_)
            refine qm_Ru.go 1 (c' := (8, [.ref 118, .int 10], [.ref 118], (h.1, I, J, h.2.2.2))) rfl ?_
            refine hk_getr rfl (hH.1 118 (17, 105) rfl) rfl (hH.2 118 5 (some 121) rfl) ?_
            refine qm_Ru.go 1 (c' := (12, [.ref 118, .int 10], [.ref 118, .ref 121], (h.1, I, J, h.2.2.2))) rfl ?_
            refine hk_geti (v := t) rfl (hH.1 118 (17, 105) rfl) rfl q_t ?_
            refine qm_Ru.go 0 (c' := (15, [.ref 118, .int 10], [.int t, .ref 121], (h.1, I, J, h.2.2.2))) rfl ?_
            refine hk_ial (v := v74) rfl (hH.1 121 (0, 403) rfl) (by omega) (by omega) (show (I) 121 (t.toInt.toNat) = _ from ((e 121 rfl (t.toInt.toNat)).trans q_v74)) ?_
            refine qm_Ru.go 1 (c' := (17, [.ref 118, .int 10], [.int 10, .int v74], (h.1, I, J, h.2.2.2))) rfl ?_
            refine hk_cne (ix := v74.toInt) (iy := 10) rfl rfl rfl (fun z150 => ?_) (fun z150 => by exfalso; omega)
            refine qm_Ru.go 1 (c' := (25, [.ref 118, .int 10], [.int 0], (h.1, I, J, h.2.2.2))) rfl ?_
            refine qm_Ru.rt (v := (some (.int 0))) (h' := (h.1, I, J, h.2.2.2)) rfl ?_
            refine qm_Ru.go 6 (c' := (183, [.ref 118, .int bs, .int 0], [.ref 118], (h.1, I, J, h.2.2.2))) rfl ?_
            refine hk_geti (v := op) rfl (hH.1 118 (17, 105) rfl) rfl q_op ?_
            refine qm_Ru.go 1 (c' := (187, [.ref 118, .int bs, .int 0], [.int bs, .int op], (h.1, I, J, h.2.2.2))) rfl ?_
            refine hk_cle (ix := op.toInt) (iy := bs.toInt) rfl rfl rfl (fun z151 => ?_) (fun z151 => ?_)
            · refine qm_Ru.go 2 (c' := (197, [.ref 118, .int bs, .int 0], [.int 0, .ref 118], (h.1, I, J, h.2.2.2))) rfl ?_
              have E_w152 : pI (I) 143 = pI I 143 := rfl
              have V_w152 : ws (pI (I) 143) wt.toInt.toNat := by rw [E_w152]; exact hW
              have U_w152 : wo (pI (I) 143) wt.toInt.toNat = wo (pI I 143) wt.toInt.toNat := by rw [E_w152]
              have O_w152 := hO
              have L_w152 := ws_le V_w152
              have P_w152 : Int32.toInt f = 0 → pq (I) lf 1 cd wt := by
                intro z
                obtain ⟨p1, p2⟩ := hP z
                have hlc := p1.1
                refine ⟨?_, ?_⟩
                · rw [show pI (I) 141 = pI I 141 from rfl, show pI (I) 142 = pI I 142 from rfl]
                  exact p1
                · rw [show pI (I) 141 = pI I 141 from rfl]
                  omega
              refine hk_inv (o := 118) (r := []) (as := [.ref 118, .int 0]) rfl rfl (hH.1 118 (17, 105) rfl) rfl rfl rfl rfl (hl_co (h := (h.1, I, J, h.2.2.2)) hH hBI (sg := 0) (by decide) (lo := (lf : Int)) (c1 := Int32.toInt cd + Int32.toInt wt) (lf := lf) (pz := Int32.toInt f = 0) (by omega) (by omega) (fun z => by omega) (hi := c0 + 420) (by omega) (fun I153 J154 c155 w156 hB_I153 e_I153 e8_I153 q_c155 q_w156 b1_I153 b2_I153 W_I153 O_I153 A_I153 P_I153 tp_I153 => ?_) _ (I) (J) cd wt (.float 0) hBI (fun _ _ _ => rfl) (fun _ _ => rfl) q_cd q_wt (by omega) ⟨by omega, rfl⟩ V_w152 rfl (fun _ _ => ⟨rfl, rfl⟩) P_w152 rfl)
              have e_I153 : ∀ o, [118, 141, 142].contains o = false → ∀ i, I153 o i = (I) o i := e_I153
              have e8_I153 : ∀ i, [37, 41].contains i = false → I153 118 i = (I) 118 i := e8_I153
              have WL_I153 := ws_le W_I153
              have wl_I153 := wo_le (w := pI I153 143) w156.toInt.toNat
              have A0_I153 : pa h.2.1 (I) (lf : Int) (c0 + 420) := (pa_cg hA (fun i => rfl) (fun i => rfl))
              have A_I153 : pa h.2.1 I153 (lf : Int) (c0 + 420) := fun i hi => ⟨(A_I153 i hi).1.trans (A0_I153 i hi).1, (A_I153 i hi).2.trans (A0_I153 i hi).2⟩
              have tp_I153 : w156.toInt = 0 ∨ pI I153 143 (w156.toInt.toNat - 1) = 6 ∨ ((0 : Int) = 1 ∧ (pI I153 143 (w156.toInt.toNat - 1) = 8 ∨ pI I153 143 (w156.toInt.toNat - 1) = 9)) := tp_I153
              have O9_I153 : (wo (pI I153 143) w156.toInt.toNat : Int) = (wo (pI (I) 143) wt.toInt.toNat : Int) := by rw [O_I153]
              refine qm_Ru.go 0 (c' := (200, [.ref 118, .int bs, .int 0], [], (h.1, I153, J154, h.2.2.2))) rfl ?_
              have o_p157 := O9_I153
              have pp_p157 : w156.toInt ≠ 0 → pI I153 143 (w156.toInt.toNat - 1) = 6 := by
                intro y; rcases tp_I153 with z | z | z
                · exact absurd z y
                · exact z
                · exact absurd z.1 (by decide)
              refine qm_Ru.rt (v := none) (h' := (h.1, I153, J154, h.2.2.2)) rfl ?_
              have E_w158 : pI (I153) 143 = pI I153 143 := rfl
              have V_w158 : ws (pI (I153) 143) w156.toInt.toNat := by rw [E_w158]; exact W_I153
              have U_w158 : wo (pI (I153) 143) w156.toInt.toNat = wo (pI I153 143) w156.toInt.toNat := by rw [E_w158]
              have O_w158 := O9_I153
              have L_w158 := ws_le V_w158
              have P_w158 : Int32.toInt f = 0 → pq (I153) lf 1 c155 w156 := by
                intro z
                obtain ⟨p1, p2⟩ := P_I153 z
                have hlc := p1.1
                refine ⟨?_, ?_⟩
                · rw [show pI (I153) 141 = pI I153 141 from rfl, show pI (I153) 142 = pI I153 142 from rfl]
                  exact p1
                · rw [show pI (I153) 141 = pI I153 141 from rfl]
                  omega
              exact k (I153) (J154) t f c155 op hB_I153 (fun o ho i => ((e_I153 o (hk_ms rfl ho) i).trans ((e o (hk_ms rfl ho) i).trans rfl))) (fun i hi => ((e8_I153 i (hk_ms rfl hi)).trans ((e8 i (hk_ms rfl hi)).trans rfl))) (show (I153) 118 11 = _ from ((e8_I153 11 rfl).trans q_t)) (show (I153) 118 13 = _ from ((e8_I153 13 rfl).trans q_f)) q_c155 (show (I153) 118 12 = _ from ((e8_I153 12 rfl).trans q_op)) (by omega) (by omega) (by omega) (pa_cg A_I153 (fun i => rfl) (fun i => rfl)) (fun z => ⟨by omega, by omega, (P_w158 z).1⟩)
            · refine qm_Ru.go 2 (c' := (192, [.ref 118, .int bs, .int 0], [.int 1, .ref 118], (h.1, I, J, h.2.2.2))) rfl ?_
              refine hk_inv (o := 118) (r := []) (as := [.ref 118, .int 1]) rfl rfl (hH.1 118 (17, 105) rfl) rfl rfl rfl rfl ?_
              refine qm_Ru.go 1 (c' := (1, [.ref 118, .int 1], [.ref 118], (h.1, I, J, h.2.2.2))) rfl ?_
              refine hk_geti (v := f) rfl (hH.1 118 (17, 105) rfl) rfl q_f ?_
              refine qm_Ru.go 0 (c' := (4, [.ref 118, .int 1], [.int f], (h.1, I, J, h.2.2.2))) rfl ?_
              refine hk_zle (ix := f.toInt) rfl rfl (fun z159 => ?_) (fun z159 => by exfalso; omega)
              refine qm_Ru.go 2 (c' := (10, [.ref 118, .int 1], [.int 1, .ref 118], (h.1, I, J, h.2.2.2))) rfl ?_
              refine hk_puti rfl (hH.1 118 (17, 105) rfl) rfl ?_
              refine qm_Ru.go 2 (c' := (15, [.ref 118, .int 1], [.ref 118, .ref 118], (h.1, qm_up I 118 13 1, J, h.2.2.2))) rfl ?_
              refine hk_getr rfl (hH.1 118 (17, 105) rfl) rfl (hH.2 118 6 (some 122) rfl) ?_
              refine qm_Ru.go 1 (c' := (19, [.ref 118, .int 1], [.ref 118, .ref 122, .ref 118], (h.1, qm_up I 118 13 1, J, h.2.2.2))) rfl ?_
              refine hk_geti (v := t) rfl (hH.1 118 (17, 105) rfl) rfl (show (qm_up I 118 13 1) 118 11 = _ from ((hk_neq (by decide)).trans q_t)) ?_
              refine qm_Ru.go 0 (c' := (22, [.ref 118, .int 1], [.int t, .ref 122, .ref 118], (h.1, qm_up I 118 13 1, J, h.2.2.2))) rfl ?_
              obtain ⟨v160, q_v160⟩ : ∃ v, h.2.1 122 (t.toInt.toNat) = v := ⟨_, rfl⟩
              refine hk_ial (v := v160) rfl (hH.1 122 (0, 403) rfl) (by omega) (by omega) (show (qm_up I 118 13 1) 122 (t.toInt.toNat) = _ from ((hk_ot rfl).trans ((e 122 rfl (t.toInt.toNat)).trans q_v160))) ?_
              refine qm_Ru.go 0 (c' := (23, [.ref 118, .int 1], [.int v160, .ref 118], (h.1, qm_up I 118 13 1, J, h.2.2.2))) rfl ?_
              refine hk_puti rfl (hH.1 118 (17, 105) rfl) rfl ?_
              refine qm_Ru.go 0 (c' := (26, [.ref 118, .int 1], [], (h.1, qm_up (qm_up I 118 13 1) 118 14 v160, J, h.2.2.2))) rfl ?_
              refine qm_Ru.rt (v := none) (h' := (h.1, qm_up (qm_up I 118 13 1) 118 14 v160, J, h.2.2.2)) rfl ?_
              refine qm_Ru.go 2 (c' := (197, [.ref 118, .int bs, .int 0], [.int 0, .ref 118], (h.1, qm_up (qm_up I 118 13 1) 118 14 v160, J, h.2.2.2))) rfl ?_
              have E_w161 : pI (qm_up (qm_up I 118 13 1) 118 14 v160) 143 = pI I 143 := ((pI_sk rfl).trans ((pI_sk rfl).trans rfl))
              have V_w161 : ws (pI (qm_up (qm_up I 118 13 1) 118 14 v160) 143) wt.toInt.toNat := by rw [E_w161]; exact hW
              have U_w161 : wo (pI (qm_up (qm_up I 118 13 1) 118 14 v160) 143) wt.toInt.toNat = wo (pI I 143) wt.toInt.toNat := by rw [E_w161]
              have O_w161 := hO
              have L_w161 := ws_le V_w161
              have P_w161 : Int32.toInt 1 = 0 → pq (qm_up (qm_up I 118 13 1) 118 14 v160) lf 1 cd wt := by
                intro z; exact absurd z (by decide)
              refine hk_inv (o := 118) (r := []) (as := [.ref 118, .int 0]) rfl rfl (hH.1 118 (17, 105) rfl) rfl rfl rfl rfl (hl_co (h := (h.1, qm_up (qm_up I 118 13 1) 118 14 v160, J, h.2.2.2)) hH (hb_up (o := 118) (k := 14) (x := v160) (hb_up (o := 118) (k := 13) (x := 1) hBI (qa_in_full _)) (qa_in_full _)) (sg := 0) (by decide) (lo := (lf : Int)) (c1 := Int32.toInt cd + Int32.toInt wt) (lf := lf) (pz := Int32.toInt 1 = 0) (by omega) (by omega) (fun z => by omega) (hi := c0 + 420) (by omega) (fun I162 J163 c164 w165 hB_I162 e_I162 e8_I162 q_c164 q_w165 b1_I162 b2_I162 W_I162 O_I162 A_I162 P_I162 tp_I162 => ?_) _ (qm_up (qm_up I 118 13 1) 118 14 v160) (J) cd wt (.float 0) (hb_up (o := 118) (k := 14) (x := v160) (hb_up (o := 118) (k := 13) (x := 1) hBI (qa_in_full _)) (qa_in_full _)) (fun _ _ _ => rfl) (fun _ _ => rfl) (show (qm_up (qm_up I 118 13 1) 118 14 v160) 118 37 = _ from ((hk_neq (by decide)).trans ((hk_neq (by decide)).trans q_cd))) (show (qm_up (qm_up I 118 13 1) 118 14 v160) 118 41 = _ from ((hk_neq (by decide)).trans ((hk_neq (by decide)).trans q_wt))) (by omega) ⟨by omega, rfl⟩ V_w161 rfl (fun _ _ => ⟨rfl, rfl⟩) P_w161 rfl)
              have e_I162 : ∀ o, [118, 141, 142].contains o = false → ∀ i, I162 o i = (qm_up (qm_up I 118 13 1) 118 14 v160) o i := e_I162
              have e8_I162 : ∀ i, [37, 41].contains i = false → I162 118 i = (qm_up (qm_up I 118 13 1) 118 14 v160) 118 i := e8_I162
              have WL_I162 := ws_le W_I162
              have wl_I162 := wo_le (w := pI I162 143) w165.toInt.toNat
              have A0_I162 : pa h.2.1 (qm_up (qm_up I 118 13 1) 118 14 v160) (lf : Int) (c0 + 420) := (pa_cg hA (fun i => ((hk_ot rfl).trans ((hk_ot rfl).trans rfl))) (fun i => ((hk_ot rfl).trans ((hk_ot rfl).trans rfl))))
              have A_I162 : pa h.2.1 I162 (lf : Int) (c0 + 420) := fun i hi => ⟨(A_I162 i hi).1.trans (A0_I162 i hi).1, (A_I162 i hi).2.trans (A0_I162 i hi).2⟩
              have tp_I162 : w165.toInt = 0 ∨ pI I162 143 (w165.toInt.toNat - 1) = 6 ∨ ((0 : Int) = 1 ∧ (pI I162 143 (w165.toInt.toNat - 1) = 8 ∨ pI I162 143 (w165.toInt.toNat - 1) = 9)) := tp_I162
              have O9_I162 : (wo (pI I162 143) w165.toInt.toNat : Int) = (wo (pI (qm_up (qm_up I 118 13 1) 118 14 v160) 143) wt.toInt.toNat : Int) := by rw [O_I162]
              refine qm_Ru.go 0 (c' := (200, [.ref 118, .int bs, .int 0], [], (h.1, I162, J163, h.2.2.2))) rfl ?_
              have o_p166 := O9_I162
              have pp_p166 : w165.toInt ≠ 0 → pI I162 143 (w165.toInt.toNat - 1) = 6 := by
                intro y; rcases tp_I162 with z | z | z
                · exact absurd z y
                · exact z
                · exact absurd z.1 (by decide)
              refine qm_Ru.rt (v := none) (h' := (h.1, I162, J163, h.2.2.2)) rfl ?_
              have E_w167 : pI (I162) 143 = pI I162 143 := rfl
              have V_w167 : ws (pI (I162) 143) w165.toInt.toNat := by rw [E_w167]; exact W_I162
              have U_w167 : wo (pI (I162) 143) w165.toInt.toNat = wo (pI I162 143) w165.toInt.toNat := by rw [E_w167]
              have O_w167 := O9_I162
              have L_w167 := ws_le V_w167
              have P_w167 : Int32.toInt 1 = 0 → pq (I162) lf 1 c164 w165 := by
                intro z; exact absurd z (by decide)
              exact k (I162) (J163) t 1 c164 op hB_I162 (fun o ho i => ((e_I162 o (hk_ms rfl ho) i).trans ((hk_mod ho rfl).trans ((hk_mod ho rfl).trans ((e o (hk_ms rfl ho) i).trans rfl))))) (fun i hi => ((e8_I162 i (hk_ms rfl hi)).trans ((hk_neq (fun z => by subst z; cases hi)).trans ((hk_neq (fun z => by subst z; cases hi)).trans ((e8 i (hk_ms rfl hi)).trans rfl))))) (show (I162) 118 11 = _ from ((e8_I162 11 rfl).trans ((hk_neq (by decide)).trans ((hk_neq (by decide)).trans q_t)))) (show (I162) 118 13 = _ from ((e8_I162 13 rfl).trans ((hk_neq (by decide)).trans (hk_same)))) q_c164 (show (I162) 118 12 = _ from ((e8_I162 12 rfl).trans ((hk_neq (by decide)).trans ((hk_neq (by decide)).trans q_op)))) (by omega) (by omega) (by omega) (pa_cg A_I162 (fun i => rfl) (fun i => rfl)) (fun z => absurd z (by decide))
          · refine qm_Ru.go 2 (c' := (115, [.ref 118, .int bs, l2], [.int 0, .ref 118], (h.1, I, J, h.2.2.2))) rfl ?_
            have E_w168 : pI (I) 143 = pI I 143 := rfl
            have V_w168 : ws (pI (I) 143) wt.toInt.toNat := by rw [E_w168]; exact hW
            have U_w168 : wo (pI (I) 143) wt.toInt.toNat = wo (pI I 143) wt.toInt.toNat := by rw [E_w168]
            have O_w168 := hO
            have L_w168 := ws_le V_w168
            have P_w168 : Int32.toInt f = 0 → pq (I) lf 1 cd wt := by
              intro z
              obtain ⟨p1, p2⟩ := hP z
              have hlc := p1.1
              refine ⟨?_, ?_⟩
              · rw [show pI (I) 141 = pI I 141 from rfl, show pI (I) 142 = pI I 142 from rfl]
                exact p1
              · rw [show pI (I) 141 = pI I 141 from rfl]
                omega
            refine hk_inv (o := 118) (r := []) (as := [.ref 118, .int 0]) rfl rfl (hH.1 118 (17, 105) rfl) rfl rfl rfl rfl (hl_co (h := (h.1, I, J, h.2.2.2)) hH hBI (sg := 0) (by decide) (lo := (lf : Int)) (c1 := Int32.toInt cd + Int32.toInt wt) (lf := lf) (pz := Int32.toInt f = 0) (by omega) (by omega) (fun z => by omega) (hi := c0 + 420) (by omega) (fun I169 J170 c171 w172 hB_I169 e_I169 e8_I169 q_c171 q_w172 b1_I169 b2_I169 W_I169 O_I169 A_I169 P_I169 tp_I169 => ?_) _ (I) (J) cd wt (.float 0) hBI (fun _ _ _ => rfl) (fun _ _ => rfl) q_cd q_wt (by omega) ⟨by omega, rfl⟩ V_w168 rfl (fun _ _ => ⟨rfl, rfl⟩) P_w168 rfl)
            have e_I169 : ∀ o, [118, 141, 142].contains o = false → ∀ i, I169 o i = (I) o i := e_I169
            have e8_I169 : ∀ i, [37, 41].contains i = false → I169 118 i = (I) 118 i := e8_I169
            have WL_I169 := ws_le W_I169
            have wl_I169 := wo_le (w := pI I169 143) w172.toInt.toNat
            have A0_I169 : pa h.2.1 (I) (lf : Int) (c0 + 420) := (pa_cg hA (fun i => rfl) (fun i => rfl))
            have A_I169 : pa h.2.1 I169 (lf : Int) (c0 + 420) := fun i hi => ⟨(A_I169 i hi).1.trans (A0_I169 i hi).1, (A_I169 i hi).2.trans (A0_I169 i hi).2⟩
            have tp_I169 : w172.toInt = 0 ∨ pI I169 143 (w172.toInt.toNat - 1) = 6 ∨ ((0 : Int) = 1 ∧ (pI I169 143 (w172.toInt.toNat - 1) = 8 ∨ pI I169 143 (w172.toInt.toNat - 1) = 9)) := tp_I169
            have O9_I169 : (wo (pI I169 143) w172.toInt.toNat : Int) = (wo (pI (I) 143) wt.toInt.toNat : Int) := by rw [O_I169]
            refine qm_Ru.go 0 (c' := (118, [.ref 118, .int bs, l2], [], (h.1, I169, J170, h.2.2.2))) rfl ?_
            have o_p173 := O9_I169
            have pp_p173 : pI I169 143 (w172.toInt.toNat - 1) = 6 := by
              rcases tp_I169 with z | z | z
              · exfalso; omega
              · exact z
              · exact absurd z.1 (by decide)
            have w1_p173 : 1 ≤ w172.toInt := by omega
            refine qm_Ru.go 2 (c' := (120, [.ref 118, .int bs, l2], [.ref 118, .ref 118], (h.1, I169, J170, h.2.2.2))) rfl ?_
            refine hk_geti (v := w172) rfl (hH.1 118 (17, 105) rfl) rfl q_w172 ?_
            refine qm_Ru.go 2 (c' := (125, [.ref 118, .int bs, l2], [.int (w172 - 1), .ref 118], (h.1, I169, J170, h.2.2.2))) rfl ?_
            obtain ⟨v174, q_v174, e_v174⟩ := hk_sub (x := w172) (y := 1) (a := w172.toInt) (b := 1) rfl rfl (by omega) (by omega)
            rw [q_v174]
            refine hk_puti rfl (hH.1 118 (17, 105) rfl) rfl ?_
            refine qm_Ru.go 2 (c' := (130, [.ref 118, .int bs, l2], [.ref 118, .ref 118], (h.1, qm_up I169 118 41 v174, J170, h.2.2.2))) rfl ?_
            refine hk_geti (v := op) rfl (hH.1 118 (17, 105) rfl) rfl (show (qm_up I169 118 41 v174) 118 12 = _ from ((hk_neq (by decide)).trans ((e8_I169 12 rfl).trans q_op))) ?_
            refine qm_Ru.go 2 (c' := (135, [.ref 118, .int bs, l2], [.int (op - 1), .ref 118], (h.1, qm_up I169 118 41 v174, J170, h.2.2.2))) rfl ?_
            obtain ⟨v175, q_v175, e_v175⟩ := hk_sub (x := op) (y := 1) (a := op.toInt) (b := 1) rfl rfl (by omega) (by omega)
            rw [q_v175]
            refine hk_puti rfl (hH.1 118 (17, 105) rfl) rfl ?_
            refine qm_Ru.go 1 (c' := (139, [.ref 118, .int bs, l2], [.ref 118], (h.1, qm_up (qm_up I169 118 41 v174) 118 12 v175, J170, h.2.2.2))) rfl ?_
            refine hk_inv (o := 118) (r := []) (as := [.ref 118]) rfl rfl (hH.1 118 (17, 105) rfl) rfl rfl rfl rfl ?_
            refine qm_Ru.go 1 (c' := (1, [.ref 118], [.ref 118], (h.1, qm_up (qm_up I169 118 41 v174) 118 12 v175, J170, h.2.2.2))) rfl ?_
            refine hk_geti (v := t) rfl (hH.1 118 (17, 105) rfl) rfl (show (qm_up (qm_up I169 118 41 v174) 118 12 v175) 118 11 = _ from ((hk_neq (by decide)).trans ((hk_neq (by decide)).trans ((e8_I169 11 rfl).trans q_t)))) ?_
            refine qm_Ru.go 1 (c' := (7, [.ref 118], [.int 400, .int t], (h.1, qm_up (qm_up I169 118 41 v174) 118 12 v175, J170, h.2.2.2))) rfl ?_
            refine hk_cne (ix := t.toInt) (iy := 400) rfl rfl rfl (fun z176 => ?_) (fun z176 => ?_)
            · refine qm_Ru.go 2 (c' := (20, [.ref 118], [.ref 118, .ref 118], (h.1, qm_up (qm_up I169 118 41 v174) 118 12 v175, J170, h.2.2.2))) rfl ?_
              refine hk_geti (v := t) rfl (hH.1 118 (17, 105) rfl) rfl (show (qm_up (qm_up I169 118 41 v174) 118 12 v175) 118 11 = _ from ((hk_neq (by decide)).trans ((hk_neq (by decide)).trans ((e8_I169 11 rfl).trans q_t)))) ?_
              refine qm_Ru.go 2 (c' := (25, [.ref 118], [.int (t + 1), .ref 118], (h.1, qm_up (qm_up I169 118 41 v174) 118 12 v175, J170, h.2.2.2))) rfl ?_
              obtain ⟨v177, q_v177, e_v177⟩ := hk_add (x := t) (y := 1) (a := t.toInt) (b := 1) rfl rfl (by omega) (by omega)
              rw [q_v177]
              refine hk_puti rfl (hH.1 118 (17, 105) rfl) rfl ?_
              refine qm_Ru.go 0 (c' := (28, [.ref 118], [], (h.1, qm_up (qm_up (qm_up I169 118 41 v174) 118 12 v175) 118 11 v177, J170, h.2.2.2))) rfl ?_
              refine qm_Ru.rt (v := none) (h' := (h.1, qm_up (qm_up (qm_up I169 118 41 v174) 118 12 v175) 118 11 v177, J170, h.2.2.2)) rfl ?_
              refine qm_Ru.go 1 (c' := (96, [.ref 118, .int bs, l2], [], (h.1, qm_up (qm_up (qm_up I169 118 41 v174) 118 12 v175) 118 11 v177, J170, h.2.2.2))) rfl ?_
              have E_w178 : pI (qm_up (qm_up (qm_up I169 118 41 v174) 118 12 v175) 118 11 v177) 143 = pI I169 143 := ((pI_sk rfl).trans ((pI_sk rfl).trans ((pI_sk rfl).trans rfl)))
              have N_w178 : v174.toInt.toNat = w172.toInt.toNat - 1 := by omega
              have V_w178 : ws (pI (qm_up (qm_up (qm_up I169 118 41 v174) 118 12 v175) 118 11 v177) 143) v174.toInt.toNat := by rw [E_w178, N_w178]; exact ws_pop1 W_I169
              have U_w178 : wo (pI (qm_up (qm_up (qm_up I169 118 41 v174) 118 12 v175) 118 11 v177) 143) v174.toInt.toNat + 1 = wo (pI I169 143) w172.toInt.toNat := by rw [E_w178, N_w178]; exact wo_6 (by omega) pp_p173
              have O_w178 := O9_I169
              have L_w178 := ws_le V_w178
              have P_w178 : Int32.toInt f = 0 → pq (qm_up (qm_up (qm_up I169 118 41 v174) 118 12 v175) 118 11 v177) lf 1 c171 v174 := by
                intro z
                obtain ⟨p1, p2⟩ := P_I169 z
                have hlc := p1.1
                refine ⟨?_, ?_⟩
                · rw [show pI (qm_up (qm_up (qm_up I169 118 41 v174) 118 12 v175) 118 11 v177) 141 = pI I169 141 from ((pI_sk rfl).trans ((pI_sk rfl).trans ((pI_sk rfl).trans rfl))), show pI (qm_up (qm_up (qm_up I169 118 41 v174) 118 12 v175) 118 11 v177) 142 = pI I169 142 from ((pI_sk rfl).trans ((pI_sk rfl).trans ((pI_sk rfl).trans rfl)))]
                  exact p1
                · rw [show pI (qm_up (qm_up (qm_up I169 118 41 v174) 118 12 v175) 118 11 v177) 141 = pI I169 141 from ((pI_sk rfl).trans ((pI_sk rfl).trans ((pI_sk rfl).trans rfl)))]
                  omega
              exact (ih (m - 1) (by omega)).2 (qm_up (qm_up (qm_up I169 118 41 v174) 118 12 v175) 118 11 v177) (J170) v177 f c171 v174 v175 (hb_up (o := 118) (k := 11) (x := v177) (hb_up (o := 118) (k := 12) (x := v175) (hb_up (o := 118) (k := 41) (x := v174) hB_I169 ⟨by show (0 : Int) ≤ v174.toInt; omega, by show v174.toInt ≤ (64 : Int); omega⟩) ⟨by show (0 : Int) ≤ v175.toInt; omega, by show v175.toInt ≤ (7 : Int); omega⟩) ⟨by show (0 : Int) ≤ v177.toInt; omega, by show v177.toInt ≤ (400 : Int); omega⟩) (fun o ho i => ((hk_mod ho rfl).trans ((hk_mod ho rfl).trans ((hk_mod ho rfl).trans ((e_I169 o (hk_ms rfl ho) i).trans ((e o (hk_ms rfl ho) i).trans rfl)))))) (fun i hi => ((hk_neq (fun z => by subst z; cases hi)).trans ((hk_neq (fun z => by subst z; cases hi)).trans ((hk_neq (fun z => by subst z; cases hi)).trans ((e8_I169 i (hk_ms rfl hi)).trans ((e8 i (hk_ms rfl hi)).trans rfl)))))) (show (qm_up (qm_up (qm_up I169 118 41 v174) 118 12 v175) 118 11 v177) 118 11 = _ from (hk_same)) (show (qm_up (qm_up (qm_up I169 118 41 v174) 118 12 v175) 118 11 v177) 118 13 = _ from ((hk_neq (by decide)).trans ((hk_neq (by decide)).trans ((hk_neq (by decide)).trans ((e8_I169 13 rfl).trans q_f))))) (show (qm_up (qm_up (qm_up I169 118 41 v174) 118 12 v175) 118 11 v177) 118 37 = _ from ((hk_neq (by decide)).trans ((hk_neq (by decide)).trans ((hk_neq (by decide)).trans q_c171)))) (show (qm_up (qm_up (qm_up I169 118 41 v174) 118 12 v175) 118 11 v177) 118 41 = _ from ((hk_neq (by decide)).trans ((hk_neq (by decide)).trans (hk_same)))) (show (qm_up (qm_up (qm_up I169 118 41 v174) 118 12 v175) 118 11 v177) 118 12 = _ from ((hk_neq (by decide)).trans (hk_same)))  (by omega) (by omega) (by omega) (by omega) V_w178 (by omega) (pa_cg A_I169 (fun i => ((hk_ot rfl).trans ((hk_ot rfl).trans ((hk_ot rfl).trans rfl)))) (fun i => ((hk_ot rfl).trans ((hk_ot rfl).trans ((hk_ot rfl).trans rfl))))) P_w178 (by omega) l2
            · refine qm_Ru.go 2 (c' := (12, [.ref 118], [.int 2, .ref 118], (h.1, qm_up (qm_up I169 118 41 v174) 118 12 v175, J170, h.2.2.2))) rfl ?_
              refine hk_inv (o := 118) (r := []) (as := [.ref 118, .int 2]) rfl rfl (hH.1 118 (17, 105) rfl) rfl rfl rfl rfl ?_
              refine qm_Ru.go 1 (c' := (1, [.ref 118, .int 2], [.ref 118], (h.1, qm_up (qm_up I169 118 41 v174) 118 12 v175, J170, h.2.2.2))) rfl ?_
              refine hk_geti (v := f) rfl (hH.1 118 (17, 105) rfl) rfl (show (qm_up (qm_up I169 118 41 v174) 118 12 v175) 118 13 = _ from ((hk_neq (by decide)).trans ((hk_neq (by decide)).trans ((e8_I169 13 rfl).trans q_f)))) ?_
              refine qm_Ru.go 0 (c' := (4, [.ref 118, .int 2], [.int f], (h.1, qm_up (qm_up I169 118 41 v174) 118 12 v175, J170, h.2.2.2))) rfl ?_
              refine hk_zle (ix := f.toInt) rfl rfl (fun z179 => ?_) (fun z179 => by exfalso; omega)
              refine qm_Ru.go 2 (c' := (10, [.ref 118, .int 2], [.int 2, .ref 118], (h.1, qm_up (qm_up I169 118 41 v174) 118 12 v175, J170, h.2.2.2))) rfl ?_
              refine hk_puti rfl (hH.1 118 (17, 105) rfl) rfl ?_
              refine qm_Ru.go 2 (c' := (15, [.ref 118, .int 2], [.ref 118, .ref 118], (h.1, qm_up (qm_up (qm_up I169 118 41 v174) 118 12 v175) 118 13 2, J170, h.2.2.2))) rfl ?_
              refine hk_getr rfl (hH.1 118 (17, 105) rfl) rfl (hH.2 118 6 (some 122) rfl) ?_
              refine qm_Ru.go 1 (c' := (19, [.ref 118, .int 2], [.ref 118, .ref 122, .ref 118], (h.1, qm_up (qm_up (qm_up I169 118 41 v174) 118 12 v175) 118 13 2, J170, h.2.2.2))) rfl ?_
              refine hk_geti (v := t) rfl (hH.1 118 (17, 105) rfl) rfl (show (qm_up (qm_up (qm_up I169 118 41 v174) 118 12 v175) 118 13 2) 118 11 = _ from ((hk_neq (by decide)).trans ((hk_neq (by decide)).trans ((hk_neq (by decide)).trans ((e8_I169 11 rfl).trans q_t))))) ?_
              refine qm_Ru.go 0 (c' := (22, [.ref 118, .int 2], [.int t, .ref 122, .ref 118], (h.1, qm_up (qm_up (qm_up I169 118 41 v174) 118 12 v175) 118 13 2, J170, h.2.2.2))) rfl ?_
              obtain ⟨v180, q_v180⟩ : ∃ v, h.2.1 122 (t.toInt.toNat) = v := ⟨_, rfl⟩
              refine hk_ial (v := v180) rfl (hH.1 122 (0, 403) rfl) (by omega) (by omega) (show (qm_up (qm_up (qm_up I169 118 41 v174) 118 12 v175) 118 13 2) 122 (t.toInt.toNat) = _ from ((hk_ot rfl).trans ((hk_ot rfl).trans ((hk_ot rfl).trans ((e_I169 122 rfl (t.toInt.toNat)).trans ((e 122 rfl (t.toInt.toNat)).trans q_v180)))))) ?_
              refine qm_Ru.go 0 (c' := (23, [.ref 118, .int 2], [.int v180, .ref 118], (h.1, qm_up (qm_up (qm_up I169 118 41 v174) 118 12 v175) 118 13 2, J170, h.2.2.2))) rfl ?_
              refine hk_puti rfl (hH.1 118 (17, 105) rfl) rfl ?_
              refine qm_Ru.go 0 (c' := (26, [.ref 118, .int 2], [], (h.1, qm_up (qm_up (qm_up (qm_up I169 118 41 v174) 118 12 v175) 118 13 2) 118 14 v180, J170, h.2.2.2))) rfl ?_
              refine qm_Ru.rt (v := none) (h' := (h.1, qm_up (qm_up (qm_up (qm_up I169 118 41 v174) 118 12 v175) 118 13 2) 118 14 v180, J170, h.2.2.2)) rfl ?_
              refine qm_Ru.go 1 (c' := (28, [.ref 118], [], (h.1, qm_up (qm_up (qm_up (qm_up I169 118 41 v174) 118 12 v175) 118 13 2) 118 14 v180, J170, h.2.2.2))) rfl ?_
              refine qm_Ru.rt (v := none) (h' := (h.1, qm_up (qm_up (qm_up (qm_up I169 118 41 v174) 118 12 v175) 118 13 2) 118 14 v180, J170, h.2.2.2)) rfl ?_
              refine qm_Ru.go 1 (c' := (96, [.ref 118, .int bs, l2], [], (h.1, qm_up (qm_up (qm_up (qm_up I169 118 41 v174) 118 12 v175) 118 13 2) 118 14 v180, J170, h.2.2.2))) rfl ?_
              have E_w181 : pI (qm_up (qm_up (qm_up (qm_up I169 118 41 v174) 118 12 v175) 118 13 2) 118 14 v180) 143 = pI I169 143 := ((pI_sk rfl).trans ((pI_sk rfl).trans ((pI_sk rfl).trans ((pI_sk rfl).trans rfl))))
              have N_w181 : v174.toInt.toNat = w172.toInt.toNat - 1 := by omega
              have V_w181 : ws (pI (qm_up (qm_up (qm_up (qm_up I169 118 41 v174) 118 12 v175) 118 13 2) 118 14 v180) 143) v174.toInt.toNat := by rw [E_w181, N_w181]; exact ws_pop1 W_I169
              have U_w181 : wo (pI (qm_up (qm_up (qm_up (qm_up I169 118 41 v174) 118 12 v175) 118 13 2) 118 14 v180) 143) v174.toInt.toNat + 1 = wo (pI I169 143) w172.toInt.toNat := by rw [E_w181, N_w181]; exact wo_6 (by omega) pp_p173
              have O_w181 := O9_I169
              have L_w181 := ws_le V_w181
              have P_w181 : Int32.toInt 2 = 0 → pq (qm_up (qm_up (qm_up (qm_up I169 118 41 v174) 118 12 v175) 118 13 2) 118 14 v180) lf 1 c171 v174 := by
                intro z; exact absurd z (by decide)
              exact (ih (m - 1) (by omega)).2 (qm_up (qm_up (qm_up (qm_up I169 118 41 v174) 118 12 v175) 118 13 2) 118 14 v180) (J170) t 2 c171 v174 v175 (hb_up (o := 118) (k := 14) (x := v180) (hb_up (o := 118) (k := 13) (x := 2) (hb_up (o := 118) (k := 12) (x := v175) (hb_up (o := 118) (k := 41) (x := v174) hB_I169 ⟨by show (0 : Int) ≤ v174.toInt; omega, by show v174.toInt ≤ (64 : Int); omega⟩) ⟨by show (0 : Int) ≤ v175.toInt; omega, by show v175.toInt ≤ (7 : Int); omega⟩) (qa_in_full _)) (qa_in_full _)) (fun o ho i => ((hk_mod ho rfl).trans ((hk_mod ho rfl).trans ((hk_mod ho rfl).trans ((hk_mod ho rfl).trans ((e_I169 o (hk_ms rfl ho) i).trans ((e o (hk_ms rfl ho) i).trans rfl))))))) (fun i hi => ((hk_neq (fun z => by subst z; cases hi)).trans ((hk_neq (fun z => by subst z; cases hi)).trans ((hk_neq (fun z => by subst z; cases hi)).trans ((hk_neq (fun z => by subst z; cases hi)).trans ((e8_I169 i (hk_ms rfl hi)).trans ((e8 i (hk_ms rfl hi)).trans rfl))))))) (show (qm_up (qm_up (qm_up (qm_up I169 118 41 v174) 118 12 v175) 118 13 2) 118 14 v180) 118 11 = _ from ((hk_neq (by decide)).trans ((hk_neq (by decide)).trans ((hk_neq (by decide)).trans ((hk_neq (by decide)).trans ((e8_I169 11 rfl).trans q_t)))))) (show (qm_up (qm_up (qm_up (qm_up I169 118 41 v174) 118 12 v175) 118 13 2) 118 14 v180) 118 13 = _ from ((hk_neq (by decide)).trans (hk_same))) (show (qm_up (qm_up (qm_up (qm_up I169 118 41 v174) 118 12 v175) 118 13 2) 118 14 v180) 118 37 = _ from ((hk_neq (by decide)).trans ((hk_neq (by decide)).trans ((hk_neq (by decide)).trans ((hk_neq (by decide)).trans q_c171))))) (show (qm_up (qm_up (qm_up (qm_up I169 118 41 v174) 118 12 v175) 118 13 2) 118 14 v180) 118 41 = _ from ((hk_neq (by decide)).trans ((hk_neq (by decide)).trans ((hk_neq (by decide)).trans (hk_same))))) (show (qm_up (qm_up (qm_up (qm_up I169 118 41 v174) 118 12 v175) 118 13 2) 118 14 v180) 118 12 = _ from ((hk_neq (by decide)).trans ((hk_neq (by decide)).trans (hk_same))))  (by omega) (by omega) (by omega) (by omega) V_w181 (by omega) (pa_cg A_I169 (fun i => ((hk_ot rfl).trans ((hk_ot rfl).trans ((hk_ot rfl).trans ((hk_ot rfl).trans rfl))))) (fun i => ((hk_ot rfl).trans ((hk_ot rfl).trans ((hk_ot rfl).trans ((hk_ot rfl).trans rfl)))))) P_w181 (by omega) l2
theorem hs_ex {L : Nat} {xs : Nat → Int32} {d : Nat} {Z : Option Value → qm_H → Prop} {h : qm_H} (hH : hk_H h) (hB : hk_B h.2.1) {ta fa ca bs : Int32} {t0 c0 f0 : Int} {lf : Nat} (q_ta : h.2.1 118 11 = ta) (q_fa : h.2.1 118 13 = fa) (q_ca : h.2.1 118 37 = ca) (q_bs : h.2.1 118 12 = bs) (ht : t0 = ta.toInt ∧ 0 ≤ ta.toInt ∧ ta.toInt ≤ 400 ∧ 0 ≤ fa.toInt ∧ f0 = fa.toInt) (hc0 : 0 ≤ c0 ∧ c0 ≤ 420) (hcd : c0 ≤ ca.toInt ∧ ca.toInt = (lf : Int) ∧ ca.toInt ≤ c0 + ta.toInt + 1 ∧ (fa.toInt = 0 → ca.toInt ≤ c0 + ta.toInt)) (hop : 0 ≤ bs.toInt ∧ bs.toInt ≤ 7 ∧ (fa.toInt = 0 → bs.toInt ≤ 6)) (k : ∀ (I : Nat → Nat → Int32) (J : Nat → Nat → Int64) (t f cd op : Int32), (hk_B I) → ((∀ o, [118, 141, 142, 143].contains o = false → ∀ i, I o i = h.2.1 o i)) → ((∀ i, [11, 12, 13, 14, 37, 41].contains i = false → I 118 i = h.2.1 118 i)) → (I 118 11 = t) → (I 118 13 = f) → (I 118 37 = cd) → (I 118 12 = op) → ((t0 ≤ t.toInt ∧ t.toInt ≤ 400 ∧ 0 ≤ f.toInt ∧ (f.toInt = 0 → f0 = 0))) → (((lf : Int) ≤ cd.toInt ∧ cd.toInt ≤ c0 + t.toInt + 1 ∧ (f.toInt = 0 → cd.toInt ≤ c0 + t.toInt))) → ((0 ≤ op.toInt ∧ op.toInt ≤ 7)) → (pa h.2.1 I (lf : Int) (c0 + 420)) → ((f.toInt = 0 → op.toInt = bs.toInt ∧ t0 + 1 ≤ t.toInt ∧ pf_seg (pI I 141) (pI I 142) lf cd.toInt.toNat)) → Z none (h.1, I, J, h.2.2.2)) : qm_Ru (some (L, xs)) (d + 6) cd_264 (qm_ent 3 [.ref 118] h) Z := by
  have k0 : (0 : Int32).toInt = 0 := rfl
  have k1 : (1 : Int32).toInt = 1 := rfl
  have k2 : (2 : Int32).toInt = 2 := rfl
  have k3 : (3 : Int32).toInt = 3 := rfl
  have k6 : (6 : Int32).toInt = 6 := rfl
  have W0 : ws (pI h.2.1 143) (0 : Int32).toInt.toNat := fun k hk => absurd hk (Nat.not_lt_zero k)
  have O0 : (wo (pI h.2.1 143) (0 : Int32).toInt.toNat : Int) = bs.toInt - bs.toInt := by
    rw [show (wo (pI h.2.1 143) (0 : Int32).toInt.toNat : Int) = 0 from rfl]; omega
  have A0 : pa h.2.1 h.2.1 (lf : Int) (c0 + 420) := fun _ _ => ⟨rfl, rfl⟩
  have P0 : fa.toInt = 0 → pq h.2.1 lf 0 ca (0 : Int32) := by
    intro _; unfold pq; rw [show ca.toInt.toNat = lf from by omega]
    exact ⟨(pf_nil (co := pI h.2.1 141) (ci := pI h.2.1 142) (a := lf)).1, (pf_nil (co := pI h.2.1 141) (ci := pI h.2.1 142) (a := lf)).2.trans rfl⟩
  refine qm_Ru.go 2 (c' := (2, [.ref 118, .float 0, .float 0], [.int 0, .ref 118], h)) rfl ?_
  refine hk_puti rfl (hH.1 118 (17, 105) rfl) rfl ?_
  refine qm_Ru.go 1 (c' := (6, [.ref 118, .float 0, .float 0], [.ref 118], (h.1, qm_up h.2.1 118 41 0, h.2.2.1, h.2.2.2))) rfl ?_
  refine hk_geti (v := bs) rfl (hH.1 118 (17, 105) rfl) rfl (show (qm_up h.2.1 118 41 0) 118 12 = _ from ((hk_neq (by decide)).trans q_bs)) ?_
  refine qm_Ru.go 6 (c' := (17, [.ref 118, .int bs, .int 1], [.ref 118], (h.1, qm_up h.2.1 118 41 0, h.2.2.1, h.2.2.2))) rfl ?_
  refine hk_geti (v := fa) rfl (hH.1 118 (17, 105) rfl) rfl (show (qm_up h.2.1 118 41 0) 118 13 = _ from ((hk_neq (by decide)).trans q_fa)) ?_
  refine qm_Ru.go 0 (c' := (20, [.ref 118, .int bs, .int 1], [.int fa], (h.1, qm_up h.2.1 118 41 0, h.2.2.1, h.2.2.2))) rfl ?_
  refine hk_zne (ix := fa.toInt) rfl rfl (fun z1 => ?_) (fun z1 => ?_)
  · refine qm_Ru.go 0 (c' := (246, [.ref 118, .int bs, .int 1], [], (h.1, qm_up h.2.1 118 41 0, h.2.2.1, h.2.2.2))) rfl ?_
    refine qm_Ru.rt (v := none) (h' := (h.1, qm_up h.2.1 118 41 0, h.2.2.1, h.2.2.2)) rfl ?_
    have E_w2 : pI (qm_up h.2.1 118 41 0) 143 = pI h.2.1 143 := ((pI_sk rfl).trans rfl)
    have V_w2 : ws (pI (qm_up h.2.1 118 41 0) 143) (Int32.toInt 0).toNat := by rw [E_w2]; exact W0
    have U_w2 : wo (pI (qm_up h.2.1 118 41 0) 143) (Int32.toInt 0).toNat = wo (pI h.2.1 143) (0 : Int32).toInt.toNat := by rw [E_w2]
    have O_w2 := O0
    have L_w2 := ws_le V_w2
    have P_w2 : Int32.toInt fa = 0 → pq (qm_up h.2.1 118 41 0) lf 1 ca 0 := by
      intro z
      obtain ⟨p1, p2⟩ := P0 z
      have hlc := p1.1
      refine ⟨?_, ?_⟩
      · rw [show pI (qm_up h.2.1 118 41 0) 141 = pI h.2.1 141 from ((pI_sk rfl).trans rfl), show pI (qm_up h.2.1 118 41 0) 142 = pI h.2.1 142 from ((pI_sk rfl).trans rfl)]
        exact p1
      · rw [show pI (qm_up h.2.1 118 41 0) 141 = pI h.2.1 141 from ((pI_sk rfl).trans rfl)]
        omega
    exact k (qm_up h.2.1 118 41 0) (h.2.2.1) ta fa ca bs (hb_up (o := 118) (k := 41) (x := 0) hB ⟨(show (0 : Int) ≤ 0 from by decide), (show (0 : Int) ≤ 64 from by decide)⟩) (fun o ho i => ((hk_mod ho rfl).trans rfl)) (fun i hi => ((hk_neq (fun z => by subst z; cases hi)).trans rfl)) (show (qm_up h.2.1 118 41 0) 118 11 = _ from ((hk_neq (by decide)).trans q_ta)) (show (qm_up h.2.1 118 41 0) 118 13 = _ from ((hk_neq (by decide)).trans q_fa)) (show (qm_up h.2.1 118 41 0) 118 37 = _ from ((hk_neq (by decide)).trans q_ca)) (show (qm_up h.2.1 118 41 0) 118 12 = _ from ((hk_neq (by decide)).trans q_bs)) (by omega) (by omega) (by omega) (pa_cg A0 (fun i => ((hk_ot rfl).trans rfl)) (fun i => ((hk_ot rfl).trans rfl))) (fun z => by exfalso; omega)
  · refine qm_Ru.go 0 (c' := (23, [.ref 118, .int bs, .int 1], [], (h.1, qm_up h.2.1 118 41 0, h.2.2.1, h.2.2.2))) rfl ?_
    have E_w3 : pI (qm_up h.2.1 118 41 0) 143 = pI h.2.1 143 := ((pI_sk rfl).trans rfl)
    have V_w3 : ws (pI (qm_up h.2.1 118 41 0) 143) (Int32.toInt 0).toNat := by rw [E_w3]; exact W0
    have U_w3 : wo (pI (qm_up h.2.1 118 41 0) 143) (Int32.toInt 0).toNat = wo (pI h.2.1 143) (0 : Int32).toInt.toNat := by rw [E_w3]
    have O_w3 := O0
    have L_w3 := ws_le V_w3
    have P_w3 : Int32.toInt fa = 0 → pq (qm_up h.2.1 118 41 0) lf 0 ca 0 := by
      intro z
      obtain ⟨p1, p2⟩ := P0 z
      have hlc := p1.1
      refine ⟨?_, ?_⟩
      · rw [show pI (qm_up h.2.1 118 41 0) 141 = pI h.2.1 141 from ((pI_sk rfl).trans rfl), show pI (qm_up h.2.1 118 41 0) 142 = pI h.2.1 142 from ((pI_sk rfl).trans rfl)]
        exact p1
      · rw [show pI (qm_up h.2.1 118 41 0) 141 = pI h.2.1 141 from ((pI_sk rfl).trans rfl)]
        omega
    exact (hl_ex hH hB (bs := bs) (t0 := t0) (c0 := c0) (f0 := f0) (lf := lf) (by omega) (by omega) hc0 (by omega) k 401).1 (qm_up h.2.1 118 41 0) (h.2.2.1) ta fa ca 0 bs (hb_up (o := 118) (k := 41) (x := 0) hB ⟨(show (0 : Int) ≤ 0 from by decide), (show (0 : Int) ≤ 64 from by decide)⟩) (fun o ho i => ((hk_mod ho rfl).trans rfl)) (fun i hi => ((hk_neq (fun z => by subst z; cases hi)).trans rfl)) (show (qm_up h.2.1 118 41 0) 118 11 = _ from ((hk_neq (by decide)).trans q_ta)) (show (qm_up h.2.1 118 41 0) 118 13 = _ from ((hk_neq (by decide)).trans q_fa)) (show (qm_up h.2.1 118 41 0) 118 37 = _ from ((hk_neq (by decide)).trans q_ca)) (show (qm_up h.2.1 118 41 0) 118 41 = _ from (hk_same)) (show (qm_up h.2.1 118 41 0) 118 12 = _ from ((hk_neq (by decide)).trans q_bs))  (by omega) (by omega) (by omega) (by omega) V_w3 (by omega) (pa_cg A0 (fun i => ((hk_ot rfl).trans rfl)) (fun i => ((hk_ot rfl).trans rfl))) P_w3 (by omega) (.int 1)
