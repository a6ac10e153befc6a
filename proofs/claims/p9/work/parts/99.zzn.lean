/-! by hand -/
theorem hs_told {L : Nat} {xs : Nat → Int32} {d : Nat} {Z : Option Value → qm_H → Prop} {h : qm_H} (hH : hk_H h) (hB : hk_B h.2.1) {ta fa lo hi : Int32} (q_ta : h.2.1 118 11 = ta) (q_fa : h.2.1 118 13 = fa) (hta : 0 ≤ ta.toInt ∧ ta.toInt ≤ 400 ∧ 0 ≤ fa.toInt) (hlh : 0 ≤ lo.toInt ∧ lo.toInt ≤ hi.toInt ∧ hi.toInt ≤ 9999) (k : ∀ (I : Nat → Nat → Int32) (J : Nat → Nat → Int64) (v t f : Int32), hk_B I → (∀ o, [118].contains o = false → ∀ i, I o i = h.2.1 o i) → (∀ i, [11, 13, 14, 15, 16].contains i = false → I 118 i = h.2.1 118 i) → I 118 11 = t → I 118 13 = f → (ta.toInt ≤ t.toInt ∧ t.toInt ≤ 400 ∧ 0 ≤ f.toInt ∧ (f.toInt = 0 → fa.toInt = 0)) → (lo.toInt ≤ v.toInt ∧ v.toInt ≤ hi.toInt) → Z (some (.int v)) (h.1, I, J, h.2.2.2)) : qm_Ru (some (L, xs)) (d + 4) cd_259 (qm_ent 4 [.ref 118, .int lo, .int hi] h) Z := by
  have k0 : (0 : Int32).toInt = 0 := rfl
  have k1 : (1 : Int32).toInt = 1 := rfl
  have k2 : (2 : Int32).toInt = 2 := rfl
  have k3 : (3 : Int32).toInt = 3 := rfl
  have k6 : (6 : Int32).toInt = 6 := rfl
  refine qm_Ru.go 1 (c' := (1, [.ref 118, .int lo, .int hi, .float 0], [.ref 118], h)) rfl ?_
  refine hk_geti (v := fa) rfl (hH.1 118 (17, 105) rfl) rfl q_fa ?_
  refine qm_Ru.go 0 (c' := (4, [.ref 118, .int lo, .int hi, .float 0], [.int fa], h)) rfl ?_
  refine hk_zgt (ix := fa.toInt) rfl rfl (fun z1 => ?_) (fun z1 => ?_)
  · refine qm_Ru.go 2 (c' := (17, [.ref 118, .int lo, .int hi, .float 0], [.int 1, .ref 118], h)) rfl ?_
    refine hk_inv (o := 118) (r := []) (as := [.ref 118, .int 1]) rfl rfl (hH.1 118 (17, 105) rfl) rfl rfl rfl rfl ?_
    refine qm_Ru.go 1 (c' := (1, [.ref 118, .int 1], [.ref 118], h)) rfl ?_
    refine hk_geti (v := fa) rfl (hH.1 118 (17, 105) rfl) rfl q_fa ?_
    refine qm_Ru.go 0 (c' := (4, [.ref 118, .int 1], [.int fa], h)) rfl ?_
    refine hk_zle (ix := fa.toInt) rfl rfl (fun z2 => by exfalso; omega) (fun z2 => ?_)
    refine qm_Ru.go 0 (c' := (7, [.ref 118, .int 1], [], h)) rfl ?_
    refine qm_Ru.rt (v := none) (h' := h) rfl ?_
    refine qm_Ru.go 1 (c' := (21, [.ref 118, .int lo, .int hi, .float 0], [.int lo], h)) rfl ?_
    refine qm_Ru.rt (v := (some (.int lo))) (h' := h) rfl ?_
    exact k (h.2.1) (h.2.2.1) lo ta fa hB (fun o ho i => rfl) (fun i hi => rfl) q_ta q_fa (by omega) (by omega)
  · refine qm_Ru.go 2 (c' := (9, [.ref 118, .int lo, .int hi, .float 0], [.int 2, .ref 118], h)) rfl ?_
    refine hk_inv (o := 118) (r := []) (as := [.ref 118, .int 2]) rfl rfl (hH.1 118 (17, 105) rfl) rfl rfl rfl rfl ?_
    refine qm_Ru.go 1 (c' := (1, [.ref 118, .int 2], [.ref 118], h)) rfl ?_
    refine hk_geti (v := fa) rfl (hH.1 118 (17, 105) rfl) rfl q_fa ?_
    refine qm_Ru.go 0 (c' := (4, [.ref 118, .int 2], [.int fa], h)) rfl ?_
    refine hk_zne (ix := fa.toInt) rfl rfl (fun z3 => by exfalso; omega) (fun z3 => ?_)
    refine qm_Ru.go 1 (c' := (8, [.ref 118, .int 2], [.ref 118], h)) rfl ?_
    refine hk_getr rfl (hH.1 118 (17, 105) rfl) rfl (hH.2 118 5 (some 121) rfl) ?_
    refine qm_Ru.go 1 (c' := (12, [.ref 118, .int 2], [.ref 118, .ref 121], h)) rfl ?_
    refine hk_geti (v := ta) rfl (hH.1 118 (17, 105) rfl) rfl q_ta ?_
    refine qm_Ru.go 0 (c' := (15, [.ref 118, .int 2], [.int ta, .ref 121], h)) rfl ?_
    obtain ⟨v4, q_v4⟩ : ∃ v, h.2.1 121 (ta.toInt.toNat) = v := ⟨_, rfl⟩
    have b_v4 : (0 : Int) ≤ v4.toInt ∧ v4.toInt ≤ 44 := by rw [← q_v4]; exact hB 121 (ta.toInt.toNat)
    refine hk_ial (v := v4) rfl (hH.1 121 (0, 403) rfl) (by omega) (by omega) q_v4 ?_
    refine qm_Ru.go 1 (c' := (17, [.ref 118, .int 2], [.int 2, .int v4], h)) rfl ?_
    refine hk_cne (ix := v4.toInt) (iy := 2) rfl rfl rfl (fun z5 => ?_) (fun z5 => ?_)
    · refine qm_Ru.go 1 (c' := (25, [.ref 118, .int 2], [.int 0], h)) rfl ?_
      refine qm_Ru.rt (v := (some (.int 0))) (h' := h) rfl ?_
      refine qm_Ru.go 3 (c' := (17, [.ref 118, .int lo, .int hi, .float 0], [.int 1, .ref 118], h)) rfl ?_
      refine hk_inv (o := 118) (r := []) (as := [.ref 118, .int 1]) rfl rfl (hH.1 118 (17, 105) rfl) rfl rfl rfl rfl ?_
      refine qm_Ru.go 1 (c' := (1, [.ref 118, .int 1], [.ref 118], h)) rfl ?_
      refine hk_geti (v := fa) rfl (hH.1 118 (17, 105) rfl) rfl q_fa ?_
      refine qm_Ru.go 0 (c' := (4, [.ref 118, .int 1], [.int fa], h)) rfl ?_
      refine hk_zle (ix := fa.toInt) rfl rfl (fun z6 => ?_) (fun z6 => by exfalso; omega)
      refine qm_Ru.go 2 (c' := (10, [.ref 118, .int 1], [.int 1, .ref 118], h)) rfl ?_
      refine hk_puti rfl (hH.1 118 (17, 105) rfl) rfl ?_
      refine qm_Ru.go 2 (c' := (15, [.ref 118, .int 1], [.ref 118, .ref 118], (h.1, qm_up h.2.1 118 13 1, h.2.2.1, h.2.2.2))) rfl ?_
      refine hk_getr rfl (hH.1 118 (17, 105) rfl) rfl (hH.2 118 6 (some 122) rfl) ?_
      refine qm_Ru.go 1 (c' := (19, [.ref 118, .int 1], [.ref 118, .ref 122, .ref 118], (h.1, qm_up h.2.1 118 13 1, h.2.2.1, h.2.2.2))) rfl ?_
      refine hk_geti (v := ta) rfl (hH.1 118 (17, 105) rfl) rfl (show (qm_up h.2.1 118 13 1) 118 11 = _ from ((hk_neq (by decide)).trans q_ta)) ?_
      refine qm_Ru.go 0 (c' := (22, [.ref 118, .int 1], [.int ta, .ref 122, .ref 118], (h.1, qm_up h.2.1 118 13 1, h.2.2.1, h.2.2.2))) rfl ?_
      obtain ⟨v7, q_v7⟩ : ∃ v, h.2.1 122 (ta.toInt.toNat) = v := ⟨_, rfl⟩
      refine hk_ial (v := v7) rfl (hH.1 122 (0, 403) rfl) (by omega) (by omega) (show (qm_up h.2.1 118 13 1) 122 (ta.toInt.toNat) = _ from ((hk_ot rfl).trans q_v7)) ?_
      refine qm_Ru.go 0 (c' := (23, [.ref 118, .int 1], [.int v7, .ref 118], (h.1, qm_up h.2.1 118 13 1, h.2.2.1, h.2.2.2))) rfl ?_
      refine hk_puti rfl (hH.1 118 (17, 105) rfl) rfl ?_
      refine qm_Ru.go 0 (c' := (26, [.ref 118, .int 1], [], (h.1, qm_up (qm_up h.2.1 118 13 1) 118 14 v7, h.2.2.1, h.2.2.2))) rfl ?_
      refine qm_Ru.rt (v := none) (h' := (h.1, qm_up (qm_up h.2.1 118 13 1) 118 14 v7, h.2.2.1, h.2.2.2)) rfl ?_
      refine qm_Ru.go 1 (c' := (21, [.ref 118, .int lo, .int hi, .float 0], [.int lo], (h.1, qm_up (qm_up h.2.1 118 13 1) 118 14 v7, h.2.2.1, h.2.2.2))) rfl ?_
      refine qm_Ru.rt (v := (some (.int lo))) (h' := (h.1, qm_up (qm_up h.2.1 118 13 1) 118 14 v7, h.2.2.1, h.2.2.2)) rfl ?_
      exact k (qm_up (qm_up h.2.1 118 13 1) 118 14 v7) (h.2.2.1) lo ta 1 (hb_up (o := 118) (k := 14) (x := v7) (hb_up (o := 118) (k := 13) (x := 1) hB (qa_in_full _)) (qa_in_full _)) (fun o ho i => ((hk_mod ho rfl).trans ((hk_mod ho rfl).trans rfl))) (fun i hi => ((hk_neq (fun z => by subst z; cases hi)).trans ((hk_neq (fun z => by subst z; cases hi)).trans rfl))) (show (qm_up (qm_up h.2.1 118 13 1) 118 14 v7) 118 11 = _ from ((hk_neq (by decide)).trans ((hk_neq (by decide)).trans q_ta))) (show (qm_up (qm_up h.2.1 118 13 1) 118 14 v7) 118 13 = _ from ((hk_neq (by decide)).trans (hk_same))) (by omega) (by omega)
    · refine qm_Ru.go 2 (c' := (25, [.ref 118, .int 2], [.int 1], h)) rfl ?_
      refine qm_Ru.rt (v := (some (.int 1))) (h' := h) rfl ?_
      refine qm_Ru.go 2 (c' := (23, [.ref 118, .int lo, .int hi, .float 0], [.ref 118], h)) rfl ?_
      refine hk_getr rfl (hH.1 118 (17, 105) rfl) rfl (hH.2 118 7 (some 123) rfl) ?_
      refine qm_Ru.go 1 (c' := (27, [.ref 118, .int lo, .int hi, .float 0], [.ref 118, .ref 123], h)) rfl ?_
      refine hk_geti (v := ta) rfl (hH.1 118 (17, 105) rfl) rfl q_ta ?_
      refine qm_Ru.go 0 (c' := (30, [.ref 118, .int lo, .int hi, .float 0], [.int ta, .ref 123], h)) rfl ?_
      obtain ⟨v8, q_v8⟩ : ∃ v, h.2.1 123 (ta.toInt.toNat) = v := ⟨_, rfl⟩
      refine hk_ial (v := v8) rfl (hH.1 123 (0, 403) rfl) (by omega) (by omega) q_v8 ?_
      refine qm_Ru.go 3 (c' := (34, [.ref 118, .int lo, .int hi, .int v8], [.int lo, .int v8], h)) rfl ?_
      refine hk_clt (ix := v8.toInt) (iy := lo.toInt) rfl rfl rfl (fun z9 => ?_) (fun z9 => ?_)
      · refine qm_Ru.go 3 (c' := (45, [.ref 118, .int lo, .int hi, .int v8], [.ref 118, .int 5, .ref 118], h)) rfl ?_
        refine hk_geti (v := ta) rfl (hH.1 118 (17, 105) rfl) rfl q_ta ?_
        refine qm_Ru.go 0 (c' := (48, [.ref 118, .int lo, .int hi, .int v8], [.int ta, .int 5, .ref 118], h)) rfl ?_
        refine hk_inv (o := 118) (r := []) (as := [.ref 118, .int 5, .int ta]) rfl rfl (hH.1 118 (17, 105) rfl) rfl rfl rfl rfl ?_
        refine qm_Ru.go 1 (c' := (1, [.ref 118, .int 5, .int ta, .float 0], [.ref 118], h)) rfl ?_
        refine hk_getr rfl (hH.1 118 (17, 105) rfl) rfl (hH.2 118 6 (some 122) rfl) ?_
        refine qm_Ru.go 1 (c' := (5, [.ref 118, .int 5, .int ta, .float 0], [.int ta, .ref 122], h)) rfl ?_
        obtain ⟨v10, q_v10⟩ : ∃ v, h.2.1 122 (ta.toInt.toNat) = v := ⟨_, rfl⟩
        refine hk_ial (v := v10) rfl (hH.1 122 (0, 403) rfl) (by omega) (by omega) q_v10 ?_
        refine qm_Ru.go 2 (c' := (8, [.ref 118, .int 5, .int ta, .int v10], [.ref 118], h)) rfl ?_
        refine hk_geti (v := fa) rfl (hH.1 118 (17, 105) rfl) rfl q_fa ?_
        refine qm_Ru.go 0 (c' := (11, [.ref 118, .int 5, .int ta, .int v10], [.int fa], h)) rfl ?_
        refine hk_zgt (ix := fa.toInt) rfl rfl (fun z11 => by exfalso; omega) (fun z11 => ?_)
        refine qm_Ru.go 1 (c' := (15, [.ref 118, .int 5, .int ta, .int v10], [.ref 118], h)) rfl ?_
        obtain ⟨v12, q_v12⟩ : ∃ v, h.2.1 118 15 = v := ⟨_, rfl⟩
        refine hk_geti (v := v12) rfl (hH.1 118 (17, 105) rfl) rfl q_v12 ?_
        refine qm_Ru.go 0 (c' := (18, [.ref 118, .int 5, .int ta, .int v10], [.int v12], h)) rfl ?_
        refine hk_zeq (ix := v12.toInt) rfl rfl (fun z13 => ?_) (fun z13 => ?_)
        · refine qm_Ru.go 2 (c' := (48, [.ref 118, .int 5, .int ta, .int v10], [.int 5, .ref 118], h)) rfl ?_
          refine hk_puti rfl (hH.1 118 (17, 105) rfl) rfl ?_
          refine qm_Ru.go 2 (c' := (53, [.ref 118, .int 5, .int ta, .int v10], [.int v10, .ref 118], (h.1, qm_up h.2.1 118 15 5, h.2.2.1, h.2.2.2))) rfl ?_
          refine hk_puti rfl (hH.1 118 (17, 105) rfl) rfl ?_
          refine qm_Ru.go 0 (c' := (56, [.ref 118, .int 5, .int ta, .int v10], [], (h.1, qm_up (qm_up h.2.1 118 15 5) 118 16 v10, h.2.2.1, h.2.2.2))) rfl ?_
          refine qm_Ru.rt (v := none) (h' := (h.1, qm_up (qm_up h.2.1 118 15 5) 118 16 v10, h.2.2.1, h.2.2.2)) rfl ?_
          refine qm_Ru.go 1 (c' := (52, [.ref 118, .int lo, .int hi, .int v8], [.ref 118], (h.1, qm_up (qm_up h.2.1 118 15 5) 118 16 v10, h.2.2.1, h.2.2.2))) rfl ?_
          refine hk_inv (o := 118) (r := []) (as := [.ref 118]) rfl rfl (hH.1 118 (17, 105) rfl) rfl rfl rfl rfl ?_
          refine qm_Ru.go 1 (c' := (1, [.ref 118], [.ref 118], (h.1, qm_up (qm_up h.2.1 118 15 5) 118 16 v10, h.2.2.1, h.2.2.2))) rfl ?_
          refine hk_geti (v := ta) rfl (hH.1 118 (17, 105) rfl) rfl (show (qm_up (qm_up h.2.1 118 15 5) 118 16 v10) 118 11 = _ from ((hk_neq (by decide)).trans ((hk_neq (by decide)).trans q_ta))) ?_
          refine qm_Ru.go 1 (c' := (7, [.ref 118], [.int 400, .int ta], (h.1, qm_up (qm_up h.2.1 118 15 5) 118 16 v10, h.2.2.1, h.2.2.2))) rfl ?_
          refine hk_cne (ix := ta.toInt) (iy := 400) rfl rfl rfl (fun z14 => ?_) (fun z14 => ?_)
          · refine qm_Ru.go 2 (c' := (20, [.ref 118], [.ref 118, .ref 118], (h.1, qm_up (qm_up h.2.1 118 15 5) 118 16 v10, h.2.2.1, h.2.2.2))) rfl ?_
            refine hk_geti (v := ta) rfl (hH.1 118 (17, 105) rfl) rfl (show (qm_up (qm_up h.2.1 118 15 5) 118 16 v10) 118 11 = _ from ((hk_neq (by decide)).trans ((hk_neq (by decide)).trans q_ta))) ?_
            refine qm_Ru.go 2 (c' := (25, [.ref 118], [.int (ta + 1), .ref 118], (h.1, qm_up (qm_up h.2.1 118 15 5) 118 16 v10, h.2.2.1, h.2.2.2))) rfl ?_
            obtain ⟨v15, q_v15, e_v15⟩ := hk_add (x := ta) (y := 1) (a := ta.toInt) (b := 1) rfl rfl (by omega) (by omega)
            rw [q_v15]
            refine hk_puti rfl (hH.1 118 (17, 105) rfl) rfl ?_
            refine qm_Ru.go 0 (c' := (28, [.ref 118], [], (h.1, qm_up (qm_up (qm_up h.2.1 118 15 5) 118 16 v10) 118 11 v15, h.2.2.1, h.2.2.2))) rfl ?_
            refine qm_Ru.rt (v := none) (h' := (h.1, qm_up (qm_up (qm_up h.2.1 118 15 5) 118 16 v10) 118 11 v15, h.2.2.1, h.2.2.2)) rfl ?_
            refine qm_Ru.go 2 (c' := (57, [.ref 118, .int lo, .int hi, .int v8], [.int lo, .int v8], (h.1, qm_up (qm_up (qm_up h.2.1 118 15 5) 118 16 v10) 118 11 v15, h.2.2.1, h.2.2.2))) rfl ?_
            refine hk_cge (ix := v8.toInt) (iy := lo.toInt) rfl rfl rfl (fun z16 => ?_) (fun z16 => ?_)
            · refine qm_Ru.go 2 (c' := (66, [.ref 118, .int lo, .int hi, .int v8], [.int hi, .int v8], (h.1, qm_up (qm_up (qm_up h.2.1 118 15 5) 118 16 v10) 118 11 v15, h.2.2.1, h.2.2.2))) rfl ?_
              refine hk_cle (ix := v8.toInt) (iy := hi.toInt) rfl rfl rfl (fun z17 => ?_) (fun z17 => ?_)
              · refine qm_Ru.go 1 (c' := (74, [.ref 118, .int lo, .int hi, .int v8], [.int v8], (h.1, qm_up (qm_up (qm_up h.2.1 118 15 5) 118 16 v10) 118 11 v15, h.2.2.1, h.2.2.2))) rfl ?_
                refine qm_Ru.rt (v := (some (.int v8))) (h' := (h.1, qm_up (qm_up (qm_up h.2.1 118 15 5) 118 16 v10) 118 11 v15, h.2.2.1, h.2.2.2)) rfl ?_
                exact k (qm_up (qm_up (qm_up h.2.1 118 15 5) 118 16 v10) 118 11 v15) (h.2.2.1) v8 v15 fa (hb_up (o := 118) (k := 11) (x := v15) (hb_up (o := 118) (k := 16) (x := v10) (hb_up (o := 118) (k := 15) (x := 5) hB (qa_in_full _)) (qa_in_full _)) ⟨by show (0 : Int) ≤ v15.toInt; omega, by show v15.toInt ≤ (400 : Int); omega⟩) (fun o ho i => ((hk_mod ho rfl).trans ((hk_mod ho rfl).trans ((hk_mod ho rfl).trans rfl)))) (fun i hi => ((hk_neq (fun z => by subst z; cases hi)).trans ((hk_neq (fun z => by subst z; cases hi)).trans ((hk_neq (fun z => by subst z; cases hi)).trans rfl)))) (show (qm_up (qm_up (qm_up h.2.1 118 15 5) 118 16 v10) 118 11 v15) 118 11 = _ from (hk_same)) (show (qm_up (qm_up (qm_up h.2.1 118 15 5) 118 16 v10) 118 11 v15) 118 13 = _ from ((hk_neq (by decide)).trans ((hk_neq (by decide)).trans ((hk_neq (by decide)).trans q_fa)))) (by omega) (by omega)
              · refine qm_Ru.go 2 (c' := (74, [.ref 118, .int lo, .int hi, .int v8], [.int hi], (h.1, qm_up (qm_up (qm_up h.2.1 118 15 5) 118 16 v10) 118 11 v15, h.2.2.1, h.2.2.2))) rfl ?_
                refine qm_Ru.rt (v := (some (.int hi))) (h' := (h.1, qm_up (qm_up (qm_up h.2.1 118 15 5) 118 16 v10) 118 11 v15, h.2.2.1, h.2.2.2)) rfl ?_
                exact k (qm_up (qm_up (qm_up h.2.1 118 15 5) 118 16 v10) 118 11 v15) (h.2.2.1) hi v15 fa (hb_up (o := 118) (k := 11) (x := v15) (hb_up (o := 118) (k := 16) (x := v10) (hb_up (o := 118) (k := 15) (x := 5) hB (qa_in_full _)) (qa_in_full _)) ⟨by show (0 : Int) ≤ v15.toInt; omega, by show v15.toInt ≤ (400 : Int); omega⟩) (fun o ho i => ((hk_mod ho rfl).trans ((hk_mod ho rfl).trans ((hk_mod ho rfl).trans rfl)))) (fun i hi => ((hk_neq (fun z => by subst z; cases hi)).trans ((hk_neq (fun z => by subst z; cases hi)).trans ((hk_neq (fun z => by subst z; cases hi)).trans rfl)))) (show (qm_up (qm_up (qm_up h.2.1 118 15 5) 118 16 v10) 118 11 v15) 118 11 = _ from (hk_same)) (show (qm_up (qm_up (qm_up h.2.1 118 15 5) 118 16 v10) 118 11 v15) 118 13 = _ from ((hk_neq (by decide)).trans ((hk_neq (by decide)).trans ((hk_neq (by decide)).trans q_fa)))) (by omega) (by omega)
            · refine qm_Ru.go 2 (c' := (74, [.ref 118, .int lo, .int hi, .int v8], [.int lo], (h.1, qm_up (qm_up (qm_up h.2.1 118 15 5) 118 16 v10) 118 11 v15, h.2.2.1, h.2.2.2))) rfl ?_
              refine qm_Ru.rt (v := (some (.int lo))) (h' := (h.1, qm_up (qm_up (qm_up h.2.1 118 15 5) 118 16 v10) 118 11 v15, h.2.2.1, h.2.2.2)) rfl ?_
              exact k (qm_up (qm_up (qm_up h.2.1 118 15 5) 118 16 v10) 118 11 v15) (h.2.2.1) lo v15 fa (hb_up (o := 118) (k := 11) (x := v15) (hb_up (o := 118) (k := 16) (x := v10) (hb_up (o := 118) (k := 15) (x := 5) hB (qa_in_full _)) (qa_in_full _)) ⟨by show (0 : Int) ≤ v15.toInt; omega, by show v15.toInt ≤ (400 : Int); omega⟩) (fun o ho i => ((hk_mod ho rfl).trans ((hk_mod ho rfl).trans ((hk_mod ho rfl).trans rfl)))) (fun i hi => ((hk_neq (fun z => by subst z; cases hi)).trans ((hk_neq (fun z => by subst z; cases hi)).trans ((hk_neq (fun z => by subst z; cases hi)).trans rfl)))) (show (qm_up (qm_up (qm_up h.2.1 118 15 5) 118 16 v10) 118 11 v15) 118 11 = _ from (hk_same)) (show (qm_up (qm_up (qm_up h.2.1 118 15 5) 118 16 v10) 118 11 v15) 118 13 = _ from ((hk_neq (by decide)).trans ((hk_neq (by decide)).trans ((hk_neq (by decide)).trans q_fa)))) (by omega) (by omega)
          · refine qm_Ru.go 2 (c' := (12, [.ref 118], [.int 2, .ref 118], (h.1, qm_up (qm_up h.2.1 118 15 5) 118 16 v10, h.2.2.1, h.2.2.2))) rfl ?_
            refine hk_inv (o := 118) (r := []) (as := [.ref 118, .int 2]) rfl rfl (hH.1 118 (17, 105) rfl) rfl rfl rfl rfl ?_
            refine qm_Ru.go 1 (c' := (1, [.ref 118, .int 2], [.ref 118], (h.1, qm_up (qm_up h.2.1 118 15 5) 118 16 v10, h.2.2.1, h.2.2.2))) rfl ?_
            refine hk_geti (v := fa) rfl (hH.1 118 (17, 105) rfl) rfl (show (qm_up (qm_up h.2.1 118 15 5) 118 16 v10) 118 13 = _ from ((hk_neq (by decide)).trans ((hk_neq (by decide)).trans q_fa))) ?_
            refine qm_Ru.go 0 (c' := (4, [.ref 118, .int 2], [.int fa], (h.1, qm_up (qm_up h.2.1 118 15 5) 118 16 v10, h.2.2.1, h.2.2.2))) rfl ?_
            refine hk_zle (ix := fa.toInt) rfl rfl (fun z18 => ?_) (fun z18 => by exfalso; omega)
            refine qm_Ru.go 2 (c' := (10, [.ref 118, .int 2], [.int 2, .ref 118], (h.1, qm_up (qm_up h.2.1 118 15 5) 118 16 v10, h.2.2.1, h.2.2.2))) rfl ?_
            refine hk_puti rfl (hH.1 118 (17, 105) rfl) rfl ?_
            refine qm_Ru.go 2 (c' := (15, [.ref 118, .int 2], [.ref 118, .ref 118], (h.1, qm_up (qm_up (qm_up h.2.1 118 15 5) 118 16 v10) 118 13 2, h.2.2.1, h.2.2.2))) rfl ?_
            refine hk_getr rfl (hH.1 118 (17, 105) rfl) rfl (hH.2 118 6 (some 122) rfl) ?_
            refine qm_Ru.go 1 (c' := (19, [.ref 118, .int 2], [.ref 118, .ref 122, .ref 118], (h.1, qm_up (qm_up (qm_up h.2.1 118 15 5) 118 16 v10) 118 13 2, h.2.2.1, h.2.2.2))) rfl ?_
            refine hk_geti (v := ta) rfl (hH.1 118 (17, 105) rfl) rfl (show (qm_up (qm_up (qm_up h.2.1 118 15 5) 118 16 v10) 118 13 2) 118 11 = _ from ((hk_neq (by decide)).trans ((hk_neq (by decide)).trans ((hk_neq (by decide)).trans q_ta)))) ?_
            refine qm_Ru.go 0 (c' := (22, [.ref 118, .int 2], [.int ta, .ref 122, .ref 118], (h.1, qm_up (qm_up (qm_up h.2.1 118 15 5) 118 16 v10) 118 13 2, h.2.2.1, h.2.2.2))) rfl ?_
            refine hk_ial (v := v10) rfl (hH.1 122 (0, 403) rfl) (by omega) (by omega) (show (qm_up (qm_up (qm_up h.2.1 118 15 5) 118 16 v10) 118 13 2) 122 (ta.toInt.toNat) = _ from ((hk_ot rfl).trans ((hk_ot rfl).trans ((hk_ot rfl).trans q_v10)))) ?_
            refine qm_Ru.go 0 (c' := (23, [.ref 118, .int 2], [.int v10, .ref 118], (h.1, qm_up (qm_up (qm_up h.2.1 118 15 5) 118 16 v10) 118 13 2, h.2.2.1, h.2.2.2))) rfl ?_
            refine hk_puti rfl (hH.1 118 (17, 105) rfl) rfl ?_
            refine qm_Ru.go 0 (c' := (26, [.ref 118, .int 2], [], (h.1, qm_up (qm_up (qm_up (qm_up h.2.1 118 15 5) 118 16 v10) 118 13 2) 118 14 v10, h.2.2.1, h.2.2.2))) rfl ?_
            refine qm_Ru.rt (v := none) (h' := (h.1, qm_up (qm_up (qm_up (qm_up h.2.1 118 15 5) 118 16 v10) 118 13 2) 118 14 v10, h.2.2.1, h.2.2.2)) rfl ?_
            refine qm_Ru.go 1 (c' := (28, [.ref 118], [], (h.1, qm_up (qm_up (qm_up (qm_up h.2.1 118 15 5) 118 16 v10) 118 13 2) 118 14 v10, h.2.2.1, h.2.2.2))) rfl ?_
            refine qm_Ru.rt (v := none) (h' := (h.1, qm_up (qm_up (qm_up (qm_up h.2.1 118 15 5) 118 16 v10) 118 13 2) 118 14 v10, h.2.2.1, h.2.2.2)) rfl ?_
            refine qm_Ru.go 2 (c' := (57, [.ref 118, .int lo, .int hi, .int v8], [.int lo, .int v8], (h.1, qm_up (qm_up (qm_up (qm_up h.2.1 118 15 5) 118 16 v10) 118 13 2) 118 14 v10, h.2.2.1, h.2.2.2))) rfl ?_
            refine hk_cge (ix := v8.toInt) (iy := lo.toInt) rfl rfl rfl (fun z19 => ?_) (fun z19 => ?_)
            · refine qm_Ru.go 2 (c' := (66, [.ref 118, .int lo, .int hi, .int v8], [.int hi, .int v8], (h.1, qm_up (qm_up (qm_up (qm_up h.2.1 118 15 5) 118 16 v10) 118 13 2) 118 14 v10, h.2.2.1, h.2.2.2))) rfl ?_
              refine hk_cle (ix := v8.toInt) (iy := hi.toInt) rfl rfl rfl (fun z20 => ?_) (fun z20 => ?_)
              · refine qm_Ru.go 1 (c' := (74, [.ref 118, .int lo, .int hi, .int v8], [.int v8], (h.1, qm_up (qm_up (qm_up (qm_up h.2.1 118 15 5) 118 16 v10) 118 13 2) 118 14 v10, h.2.2.1, h.2.2.2))) rfl ?_
                refine qm_Ru.rt (v := (some (.int v8))) (h' := (h.1, qm_up (qm_up (qm_up (qm_up h.2.1 118 15 5) 118 16 v10) 118 13 2) 118 14 v10, h.2.2.1, h.2.2.2)) rfl ?_
                exact k (qm_up (qm_up (qm_up (qm_up h.2.1 118 15 5) 118 16 v10) 118 13 2) 118 14 v10) (h.2.2.1) v8 ta 2 (hb_up (o := 118) (k := 14) (x := v10) (hb_up (o := 118) (k := 13) (x := 2) (hb_up (o := 118) (k := 16) (x := v10) (hb_up (o := 118) (k := 15) (x := 5) hB (qa_in_full _)) (qa_in_full _)) (qa_in_full _)) (qa_in_full _)) (fun o ho i => ((hk_mod ho rfl).trans ((hk_mod ho rfl).trans ((hk_mod ho rfl).trans ((hk_mod ho rfl).trans rfl))))) (fun i hi => ((hk_neq (fun z => by subst z; cases hi)).trans ((hk_neq (fun z => by subst z; cases hi)).trans ((hk_neq (fun z => by subst z; cases hi)).trans ((hk_neq (fun z => by subst z; cases hi)).trans rfl))))) (show (qm_up (qm_up (qm_up (qm_up h.2.1 118 15 5) 118 16 v10) 118 13 2) 118 14 v10) 118 11 = _ from ((hk_neq (by decide)).trans ((hk_neq (by decide)).trans ((hk_neq (by decide)).trans ((hk_neq (by decide)).trans q_ta))))) (show (qm_up (qm_up (qm_up (qm_up h.2.1 118 15 5) 118 16 v10) 118 13 2) 118 14 v10) 118 13 = _ from ((hk_neq (by decide)).trans (hk_same))) (by omega) (by omega)
              · refine qm_Ru.go 2 (c' := (74, [.ref 118, .int lo, .int hi, .int v8], [.int hi], (h.1, qm_up (qm_up (qm_up (qm_up h.2.1 118 15 5) 118 16 v10) 118 13 2) 118 14 v10, h.2.2.1, h.2.2.2))) rfl ?_
                refine qm_Ru.rt (v := (some (.int hi))) (h' := (h.1, qm_up (qm_up (qm_up (qm_up h.2.1 118 15 5) 118 16 v10) 118 13 2) 118 14 v10, h.2.2.1, h.2.2.2)) rfl ?_
                exact k (qm_up (qm_up (qm_up (qm_up h.2.1 118 15 5) 118 16 v10) 118 13 2) 118 14 v10) (h.2.2.1) hi ta 2 (hb_up (o := 118) (k := 14) (x := v10) (hb_up (o := 118) (k := 13) (x := 2) (hb_up (o := 118) (k := 16) (x := v10) (hb_up (o := 118) (k := 15) (x := 5) hB (qa_in_full _)) (qa_in_full _)) (qa_in_full _)) (qa_in_full _)) (fun o ho i => ((hk_mod ho rfl).trans ((hk_mod ho rfl).trans ((hk_mod ho rfl).trans ((hk_mod ho rfl).trans rfl))))) (fun i hi => ((hk_neq (fun z => by subst z; cases hi)).trans ((hk_neq (fun z => by subst z; cases hi)).trans ((hk_neq (fun z => by subst z; cases hi)).trans ((hk_neq (fun z => by subst z; cases hi)).trans rfl))))) (show (qm_up (qm_up (qm_up (qm_up h.2.1 118 15 5) 118 16 v10) 118 13 2) 118 14 v10) 118 11 = _ from ((hk_neq (by decide)).trans ((hk_neq (by decide)).trans ((hk_neq (by decide)).trans ((hk_neq (by decide)).trans q_ta))))) (show (qm_up (qm_up (qm_up (qm_up h.2.1 118 15 5) 118 16 v10) 118 13 2) 118 14 v10) 118 13 = _ from ((hk_neq (by decide)).trans (hk_same))) (by omega) (by omega)
            · refine qm_Ru.go 2 (c' := (74, [.ref 118, .int lo, .int hi, .int v8], [.int lo], (h.1, qm_up (qm_up (qm_up (qm_up h.2.1 118 15 5) 118 16 v10) 118 13 2) 118 14 v10, h.2.2.1, h.2.2.2))) rfl ?_
              refine qm_Ru.rt (v := (some (.int lo))) (h' := (h.1, qm_up (qm_up (qm_up (qm_up h.2.1 118 15 5) 118 16 v10) 118 13 2) 118 14 v10, h.2.2.1, h.2.2.2)) rfl ?_
              exact k (qm_up (qm_up (qm_up (qm_up h.2.1 118 15 5) 118 16 v10) 118 13 2) 118 14 v10) (h.2.2.1) lo ta 2 (hb_up (o := 118) (k := 14) (x := v10) (hb_up (o := 118) (k := 13) (x := 2) (hb_up (o := 118) (k := 16) (x := v10) (hb_up (o := 118) (k := 15) (x := 5) hB (qa_in_full _)) (qa_in_full _)) (qa_in_full _)) (qa_in_full _)) (fun o ho i => ((hk_mod ho rfl).trans ((hk_mod ho rfl).trans ((hk_mod ho rfl).trans ((hk_mod ho rfl).trans rfl))))) (fun i hi => ((hk_neq (fun z => by subst z; cases hi)).trans ((hk_neq (fun z => by subst z; cases hi)).trans ((hk_neq (fun z => by subst z; cases hi)).trans ((hk_neq (fun z => by subst z; cases hi)).trans rfl))))) (show (qm_up (qm_up (qm_up (qm_up h.2.1 118 15 5) 118 16 v10) 118 13 2) 118 14 v10) 118 11 = _ from ((hk_neq (by decide)).trans ((hk_neq (by decide)).trans ((hk_neq (by decide)).trans ((hk_neq (by decide)).trans q_ta))))) (show (qm_up (qm_up (qm_up (qm_up h.2.1 118 15 5) 118 16 v10) 118 13 2) 118 14 v10) 118 13 = _ from ((hk_neq (by decide)).trans (hk_same))) (by omega) (by omega)
        · refine qm_Ru.go 2 (c' := (23, [.ref 118, .int 5, .int ta, .int v10], [.ref 118, .int v10], h)) rfl ?_
          obtain ⟨v21, q_v21⟩ : ∃ v, h.2.1 118 16 = v := ⟨_, rfl⟩
          refine hk_geti (v := v21) rfl (hH.1 118 (17, 105) rfl) rfl q_v21 ?_
          refine qm_Ru.go 0 (c' := (26, [.ref 118, .int 5, .int ta, .int v10], [.int v21, .int v10], h)) rfl ?_
          refine hk_cgt (ix := v10.toInt) (iy := v21.toInt) rfl rfl rfl (fun z22 => ?_) (fun z22 => ?_)
          · refine qm_Ru.go 0 (c' := (45, [.ref 118, .int 5, .int ta, .int v10], [], h)) rfl ?_
            refine qm_Ru.rt (v := none) (h' := h) rfl ?_
            refine qm_Ru.go 1 (c' := (52, [.ref 118, .int lo, .int hi, .int v8], [.ref 118], h)) rfl ?_
            refine hk_inv (o := 118) (r := []) (as := [.ref 118]) rfl rfl (hH.1 118 (17, 105) rfl) rfl rfl rfl rfl ?_
            refine qm_Ru.go 1 (c' := (1, [.ref 118], [.ref 118], h)) rfl ?_
            refine hk_geti (v := ta) rfl (hH.1 118 (17, 105) rfl) rfl q_ta ?_
            refine qm_Ru.go 1 (c' := (7, [.ref 118], [.int 400, .int ta], h)) rfl ?_
            refine hk_cne (ix := ta.toInt) (iy := 400) rfl rfl rfl (fun z23 => ?_) (fun z23 => ?_)
            · refine qm_Ru.go 2 (c' := (20, [.ref 118], [.ref 118, .ref 118], h)) rfl ?_
              refine hk_geti (v := ta) rfl (hH.1 118 (17, 105) rfl) rfl q_ta ?_
              refine qm_Ru.go 2 (c' := (25, [.ref 118], [.int (ta + 1), .ref 118], h)) rfl ?_
              obtain ⟨v24, q_v24, e_v24⟩ := hk_add (x := ta) (y := 1) (a := ta.toInt) (b := 1) rfl rfl (by omega) (by omega)
              rw [q_v24]
              refine hk_puti rfl (hH.1 118 (17, 105) rfl) rfl ?_
              refine qm_Ru.go 0 (c' := (28, [.ref 118], [], (h.1, qm_up h.2.1 118 11 v24, h.2.2.1, h.2.2.2))) rfl ?_
              refine qm_Ru.rt (v := none) (h' := (h.1, qm_up h.2.1 118 11 v24, h.2.2.1, h.2.2.2)) rfl ?_
              refine qm_Ru.go 2 (c' := (57, [.ref 118, .int lo, .int hi, .int v8], [.int lo, .int v8], (h.1, qm_up h.2.1 118 11 v24, h.2.2.1, h.2.2.2))) rfl ?_
              refine hk_cge (ix := v8.toInt) (iy := lo.toInt) rfl rfl rfl (fun z25 => ?_) (fun z25 => ?_)
              · refine qm_Ru.go 2 (c' := (66, [.ref 118, .int lo, .int hi, .int v8], [.int hi, .int v8], (h.1, qm_up h.2.1 118 11 v24, h.2.2.1, h.2.2.2))) rfl ?_
                refine hk_cle (ix := v8.toInt) (iy := hi.toInt) rfl rfl rfl (fun z26 => ?_) (fun z26 => ?_)
                · refine qm_Ru.go 1 (c' := (74, [.ref 118, .int lo, .int hi, .int v8], [.int v8], (h.1, qm_up h.2.1 118 11 v24, h.2.2.1, h.2.2.2))) rfl ?_
                  refine qm_Ru.rt (v := (some (.int v8))) (h' := (h.1, qm_up h.2.1 118 11 v24, h.2.2.1, h.2.2.2)) rfl ?_
                  exact k (qm_up h.2.1 118 11 v24) (h.2.2.1) v8 v24 fa (hb_up (o := 118) (k := 11) (x := v24) hB ⟨by show (0 : Int) ≤ v24.toInt; omega, by show v24.toInt ≤ (400 : Int); omega⟩) (fun o ho i => ((hk_mod ho rfl).trans rfl)) (fun i hi => ((hk_neq (fun z => by subst z; cases hi)).trans rfl)) (show (qm_up h.2.1 118 11 v24) 118 11 = _ from (hk_same)) (show (qm_up h.2.1 118 11 v24) 118 13 = _ from ((hk_neq (by decide)).trans q_fa)) (by omega) (by omega)
                · refine qm_Ru.go 2 (c' := (74, [.ref 118, .int lo, .int hi, .int v8], [.int hi], (h.1, qm_up h.2.1 118 11 v24, h.2.2.1, h.2.2.2))) rfl ?_
                  refine qm_Ru.rt (v := (some (.int hi))) (h' := (h.1, qm_up h.2.1 118 11 v24, h.2.2.1, h.2.2.2)) rfl ?_
                  exact k (qm_up h.2.1 118 11 v24) (h.2.2.1) hi v24 fa (hb_up (o := 118) (k := 11) (x := v24) hB ⟨by show (0 : Int) ≤ v24.toInt; omega, by show v24.toInt ≤ (400 : Int); omega⟩) (fun o ho i => ((hk_mod ho rfl).trans rfl)) (fun i hi => ((hk_neq (fun z => by subst z; cases hi)).trans rfl)) (show (qm_up h.2.1 118 11 v24) 118 11 = _ from (hk_same)) (show (qm_up h.2.1 118 11 v24) 118 13 = _ from ((hk_neq (by decide)).trans q_fa)) (by omega) (by omega)
              · refine qm_Ru.go 2 (c' := (74, [.ref 118, .int lo, .int hi, .int v8], [.int lo], (h.1, qm_up h.2.1 118 11 v24, h.2.2.1, h.2.2.2))) rfl ?_
                refine qm_Ru.rt (v := (some (.int lo))) (h' := (h.1, qm_up h.2.1 118 11 v24, h.2.2.1, h.2.2.2)) rfl ?_
                exact k (qm_up h.2.1 118 11 v24) (h.2.2.1) lo v24 fa (hb_up (o := 118) (k := 11) (x := v24) hB ⟨by show (0 : Int) ≤ v24.toInt; omega, by show v24.toInt ≤ (400 : Int); omega⟩) (fun o ho i => ((hk_mod ho rfl).trans rfl)) (fun i hi => ((hk_neq (fun z => by subst z; cases hi)).trans rfl)) (show (qm_up h.2.1 118 11 v24) 118 11 = _ from (hk_same)) (show (qm_up h.2.1 118 11 v24) 118 13 = _ from ((hk_neq (by decide)).trans q_fa)) (by omega) (by omega)
            · refine qm_Ru.go 2 (c' := (12, [.ref 118], [.int 2, .ref 118], h)) rfl ?_
              refine hk_inv (o := 118) (r := []) (as := [.ref 118, .int 2]) rfl rfl (hH.1 118 (17, 105) rfl) rfl rfl rfl rfl ?_
              refine qm_Ru.go 1 (c' := (1, [.ref 118, .int 2], [.ref 118], h)) rfl ?_
              refine hk_geti (v := fa) rfl (hH.1 118 (17, 105) rfl) rfl q_fa ?_
              refine qm_Ru.go 0 (c' := (4, [.ref 118, .int 2], [.int fa], h)) rfl ?_
              refine hk_zle (ix := fa.toInt) rfl rfl (fun z27 => ?_) (fun z27 => by exfalso; omega)
              refine qm_Ru.go 2 (c' := (10, [.ref 118, .int 2], [.int 2, .ref 118], h)) rfl ?_
              refine hk_puti rfl (hH.1 118 (17, 105) rfl) rfl ?_
              refine qm_Ru.go 2 (c' := (15, [.ref 118, .int 2], [.ref 118, .ref 118], (h.1, qm_up h.2.1 118 13 2, h.2.2.1, h.2.2.2))) rfl ?_
              refine hk_getr rfl (hH.1 118 (17, 105) rfl) rfl (hH.2 118 6 (some 122) rfl) ?_
              refine qm_Ru.go 1 (c' := (19, [.ref 118, .int 2], [.ref 118, .ref 122, .ref 118], (h.1, qm_up h.2.1 118 13 2, h.2.2.1, h.2.2.2))) rfl ?_
              refine hk_geti (v := ta) rfl (hH.1 118 (17, 105) rfl) rfl (show (qm_up h.2.1 118 13 2) 118 11 = _ from ((hk_neq (by decide)).trans q_ta)) ?_
              refine qm_Ru.go 0 (c' := (22, [.ref 118, .int 2], [.int ta, .ref 122, .ref 118], (h.1, qm_up h.2.1 118 13 2, h.2.2.1, h.2.2.2))) rfl ?_
              refine hk_ial (v := v10) rfl (hH.1 122 (0, 403) rfl) (by omega) (by omega) (show (qm_up h.2.1 118 13 2) 122 (ta.toInt.toNat) = _ from ((hk_ot rfl).trans q_v10)) ?_
              refine qm_Ru.go 0 (c' := (23, [.ref 118, .int 2], [.int v10, .ref 118], (h.1, qm_up h.2.1 118 13 2, h.2.2.1, h.2.2.2))) rfl ?_
              refine hk_puti rfl (hH.1 118 (17, 105) rfl) rfl ?_
              refine qm_Ru.go 0 (c' := (26, [.ref 118, .int 2], [], (h.1, qm_up (qm_up h.2.1 118 13 2) 118 14 v10, h.2.2.1, h.2.2.2))) rfl ?_
              refine qm_Ru.rt (v := none) (h' := (h.1, qm_up (qm_up h.2.1 118 13 2) 118 14 v10, h.2.2.1, h.2.2.2)) rfl ?_
              refine qm_Ru.go 1 (c' := (28, [.ref 118], [], (h.1, qm_up (qm_up h.2.1 118 13 2) 118 14 v10, h.2.2.1, h.2.2.2))) rfl ?_
              refine qm_Ru.rt (v := none) (h' := (h.1, qm_up (qm_up h.2.1 118 13 2) 118 14 v10, h.2.2.1, h.2.2.2)) rfl ?_
              refine qm_Ru.go 2 (c' := (57, [.ref 118, .int lo, .int hi, .int v8], [.int lo, .int v8], (h.1, qm_up (qm_up h.2.1 118 13 2) 118 14 v10, h.2.2.1, h.2.2.2))) rfl ?_
              refine hk_cge (ix := v8.toInt) (iy := lo.toInt) rfl rfl rfl (fun z28 => ?_) (fun z28 => ?_)
              · refine qm_Ru.go 2 (c' := (66, [.ref 118, .int lo, .int hi, .int v8], [.int hi, .int v8], (h.1, qm_up (qm_up h.2.1 118 13 2) 118 14 v10, h.2.2.1, h.2.2.2))) rfl ?_
                refine hk_cle (ix := v8.toInt) (iy := hi.toInt) rfl rfl rfl (fun z29 => ?_) (fun z29 => ?_)
                · refine qm_Ru.go 1 (c' := (74, [.ref 118, .int lo, .int hi, .int v8], [.int v8], (h.1, qm_up (qm_up h.2.1 118 13 2) 118 14 v10, h.2.2.1, h.2.2.2))) rfl ?_
                  refine qm_Ru.rt (v := (some (.int v8))) (h' := (h.1, qm_up (qm_up h.2.1 118 13 2) 118 14 v10, h.2.2.1, h.2.2.2)) rfl ?_
                  exact k (qm_up (qm_up h.2.1 118 13 2) 118 14 v10) (h.2.2.1) v8 ta 2 (hb_up (o := 118) (k := 14) (x := v10) (hb_up (o := 118) (k := 13) (x := 2) hB (qa_in_full _)) (qa_in_full _)) (fun o ho i => ((hk_mod ho rfl).trans ((hk_mod ho rfl).trans rfl))) (fun i hi => ((hk_neq (fun z => by subst z; cases hi)).trans ((hk_neq (fun z => by subst z; cases hi)).trans rfl))) (show (qm_up (qm_up h.2.1 118 13 2) 118 14 v10) 118 11 = _ from ((hk_neq (by decide)).trans ((hk_neq (by decide)).trans q_ta))) (show (qm_up (qm_up h.2.1 118 13 2) 118 14 v10) 118 13 = _ from ((hk_neq (by decide)).trans (hk_same))) (by omega) (by omega)
                · refine qm_Ru.go 2 (c' := (74, [.ref 118, .int lo, .int hi, .int v8], [.int hi], (h.1, qm_up (qm_up h.2.1 118 13 2) 118 14 v10, h.2.2.1, h.2.2.2))) rfl ?_
                  refine qm_Ru.rt (v := (some (.int hi))) (h' := (h.1, qm_up (qm_up h.2.1 118 13 2) 118 14 v10, h.2.2.1, h.2.2.2)) rfl ?_
                  exact k (qm_up (qm_up h.2.1 118 13 2) 118 14 v10) (h.2.2.1) hi ta 2 (hb_up (o := 118) (k := 14) (x := v10) (hb_up (o := 118) (k := 13) (x := 2) hB (qa_in_full _)) (qa_in_full _)) (fun o ho i => ((hk_mod ho rfl).trans ((hk_mod ho rfl).trans rfl))) (fun i hi => ((hk_neq (fun z => by subst z; cases hi)).trans ((hk_neq (fun z => by subst z; cases hi)).trans rfl))) (show (qm_up (qm_up h.2.1 118 13 2) 118 14 v10) 118 11 = _ from ((hk_neq (by decide)).trans ((hk_neq (by decide)).trans q_ta))) (show (qm_up (qm_up h.2.1 118 13 2) 118 14 v10) 118 13 = _ from ((hk_neq (by decide)).trans (hk_same))) (by omega) (by omega)
              · refine qm_Ru.go 2 (c' := (74, [.ref 118, .int lo, .int hi, .int v8], [.int lo], (h.1, qm_up (qm_up h.2.1 118 13 2) 118 14 v10, h.2.2.1, h.2.2.2))) rfl ?_
                refine qm_Ru.rt (v := (some (.int lo))) (h' := (h.1, qm_up (qm_up h.2.1 118 13 2) 118 14 v10, h.2.2.1, h.2.2.2)) rfl ?_
                exact k (qm_up (qm_up h.2.1 118 13 2) 118 14 v10) (h.2.2.1) lo ta 2 (hb_up (o := 118) (k := 14) (x := v10) (hb_up (o := 118) (k := 13) (x := 2) hB (qa_in_full _)) (qa_in_full _)) (fun o ho i => ((hk_mod ho rfl).trans ((hk_mod ho rfl).trans rfl))) (fun i hi => ((hk_neq (fun z => by subst z; cases hi)).trans ((hk_neq (fun z => by subst z; cases hi)).trans rfl))) (show (qm_up (qm_up h.2.1 118 13 2) 118 14 v10) 118 11 = _ from ((hk_neq (by decide)).trans ((hk_neq (by decide)).trans q_ta))) (show (qm_up (qm_up h.2.1 118 13 2) 118 14 v10) 118 13 = _ from ((hk_neq (by decide)).trans (hk_same))) (by omega) (by omega)
          · refine qm_Ru.go 2 (c' := (31, [.ref 118, .int 5, .int ta, .int v10], [.ref 118, .int v10], h)) rfl ?_
            refine hk_geti (v := v21) rfl (hH.1 118 (17, 105) rfl) rfl q_v21 ?_
            refine qm_Ru.go 0 (c' := (34, [.ref 118, .int 5, .int ta, .int v10], [.int v21, .int v10], h)) rfl ?_
            refine hk_cne (ix := v10.toInt) (iy := v21.toInt) rfl rfl rfl (fun z30 => ?_) (fun z30 => ?_)
            · refine qm_Ru.go 2 (c' := (48, [.ref 118, .int 5, .int ta, .int v10], [.int 5, .ref 118], h)) rfl ?_
              refine hk_puti rfl (hH.1 118 (17, 105) rfl) rfl ?_
              refine qm_Ru.go 2 (c' := (53, [.ref 118, .int 5, .int ta, .int v10], [.int v10, .ref 118], (h.1, qm_up h.2.1 118 15 5, h.2.2.1, h.2.2.2))) rfl ?_
              refine hk_puti rfl (hH.1 118 (17, 105) rfl) rfl ?_
              refine qm_Ru.go 0 (c' := (56, [.ref 118, .int 5, .int ta, .int v10], [], (h.1, qm_up (qm_up h.2.1 118 15 5) 118 16 v10, h.2.2.1, h.2.2.2))) rfl ?_
              refine qm_Ru.rt (v := none) (h' := (h.1, qm_up (qm_up h.2.1 118 15 5) 118 16 v10, h.2.2.1, h.2.2.2)) rfl ?_
              refine qm_Ru.go 1 (c' := (52, [.ref 118, .int lo, .int hi, .int v8], [.ref 118], (h.1, qm_up (qm_up h.2.1 118 15 5) 118 16 v10, h.2.2.1, h.2.2.2))) rfl ?_
              refine hk_inv (o := 118) (r := []) (as := [.ref 118]) rfl rfl (hH.1 118 (17, 105) rfl) rfl rfl rfl rfl ?_
              refine qm_Ru.go 1 (c' := (1, [.ref 118], [.ref 118], (h.1, qm_up (qm_up h.2.1 118 15 5) 118 16 v10, h.2.2.1, h.2.2.2))) rfl ?_
              refine hk_geti (v := ta) rfl (hH.1 118 (17, 105) rfl) rfl (show (qm_up (qm_up h.2.1 118 15 5) 118 16 v10) 118 11 = _ from ((hk_neq (by decide)).trans ((hk_neq (by decide)).trans q_ta))) ?_
              refine qm_Ru.go 1 (c' := (7, [.ref 118], [.int 400, .int ta], (h.1, qm_up (qm_up h.2.1 118 15 5) 118 16 v10, h.2.2.1, h.2.2.2))) rfl ?_
              refine hk_cne (ix := ta.toInt) (iy := 400) rfl rfl rfl (fun z31 => ?_) (fun z31 => ?_)
              · refine qm_Ru.go 2 (c' := (20, [.ref 118], [.ref 118, .ref 118], (h.1, qm_up (qm_up h.2.1 118 15 5) 118 16 v10, h.2.2.1, h.2.2.2))) rfl ?_
                refine hk_geti (v := ta) rfl (hH.1 118 (17, 105) rfl) rfl (show (qm_up (qm_up h.2.1 118 15 5) 118 16 v10) 118 11 = _ from ((hk_neq (by decide)).trans ((hk_neq (by decide)).trans q_ta))) ?_
                refine qm_Ru.go 2 (c' := (25, [.ref 118], [.int (ta + 1), .ref 118], (h.1, qm_up (qm_up h.2.1 118 15 5) 118 16 v10, h.2.2.1, h.2.2.2))) rfl ?_
                obtain ⟨v32, q_v32, e_v32⟩ := hk_add (x := ta) (y := 1) (a := ta.toInt) (b := 1) rfl rfl (by omega) (by omega)
                rw [q_v32]
                refine hk_puti rfl (hH.1 118 (17, 105) rfl) rfl ?_
                refine qm_Ru.go 0 (c' := (28, [.ref 118], [], (h.1, qm_up (qm_up (qm_up h.2.1 118 15 5) 118 16 v10) 118 11 v32, h.2.2.1, h.2.2.2))) rfl ?_
                refine qm_Ru.rt (v := none) (h' := (h.1, qm_up (qm_up (qm_up h.2.1 118 15 5) 118 16 v10) 118 11 v32, h.2.2.1, h.2.2.2)) rfl ?_
                refine qm_Ru.go 2 (c' := (57, [.ref 118, .int lo, .int hi, .int v8], [.int lo, .int v8], (h.1, qm_up (qm_up (qm_up h.2.1 118 15 5) 118 16 v10) 118 11 v32, h.2.2.1, h.2.2.2))) rfl ?_
                refine hk_cge (ix := v8.toInt) (iy := lo.toInt) rfl rfl rfl (fun z33 => ?_) (fun z33 => ?_)
                · refine qm_Ru.go 2 (c' := (66, [.ref 118, .int lo, .int hi, .int v8], [.int hi, .int v8], (h.1, qm_up (qm_up (qm_up h.2.1 118 15 5) 118 16 v10) 118 11 v32, h.2.2.1, h.2.2.2))) rfl ?_
                  refine hk_cle (ix := v8.toInt) (iy := hi.toInt) rfl rfl rfl (fun z34 => ?_) (fun z34 => ?_)
                  · refine qm_Ru.go 1 (c' := (74, [.ref 118, .int lo, .int hi, .int v8], [.int v8], (h.1, qm_up (qm_up (qm_up h.2.1 118 15 5) 118 16 v10) 118 11 v32, h.2.2.1, h.2.2.2))) rfl ?_
                    refine qm_Ru.rt (v := (some (.int v8))) (h' := (h.1, qm_up (qm_up (qm_up h.2.1 118 15 5) 118 16 v10) 118 11 v32, h.2.2.1, h.2.2.2)) rfl ?_
                    exact k (qm_up (qm_up (qm_up h.2.1 118 15 5) 118 16 v10) 118 11 v32) (h.2.2.1) v8 v32 fa (hb_up (o := 118) (k := 11) (x := v32) (hb_up (o := 118) (k := 16) (x := v10) (hb_up (o := 118) (k := 15) (x := 5) hB (qa_in_full _)) (qa_in_full _)) ⟨by show (0 : Int) ≤ v32.toInt; omega, by show v32.toInt ≤ (400 : Int); omega⟩) (fun o ho i => ((hk_mod ho rfl).trans ((hk_mod ho rfl).trans ((hk_mod ho rfl).trans rfl)))) (fun i hi => ((hk_neq (fun z => by subst z; cases hi)).trans ((hk_neq (fun z => by subst z; cases hi)).trans ((hk_neq (fun z => by subst z; cases hi)).trans rfl)))) (show (qm_up (qm_up (qm_up h.2.1 118 15 5) 118 16 v10) 118 11 v32) 118 11 = _ from (hk_same)) (show (qm_up (qm_up (qm_up h.2.1 118 15 5) 118 16 v10) 118 11 v32) 118 13 = _ from ((hk_neq (by decide)).trans ((hk_neq (by decide)).trans ((hk_neq (by decide)).trans q_fa)))) (by omega) (by omega)
                  · refine qm_Ru.go 2 (c' := (74, [.ref 118, .int lo, .int hi, .int v8], [.int hi], (h.1, qm_up (qm_up (qm_up h.2.1 118 15 5) 118 16 v10) 118 11 v32, h.2.2.1, h.2.2.2))) rfl ?_
                    refine qm_Ru.rt (v := (some (.int hi))) (h' := (h.1, qm_up (qm_up (qm_up h.2.1 118 15 5) 118 16 v10) 118 11 v32, h.2.2.1, h.2.2.2)) rfl ?_
                    exact k (qm_up (qm_up (qm_up h.2.1 118 15 5) 118 16 v10) 118 11 v32) (h.2.2.1) hi v32 fa (hb_up (o := 118) (k := 11) (x := v32) (hb_up (o := 118) (k := 16) (x := v10) (hb_up (o := 118) (k := 15) (x := 5) hB (qa_in_full _)) (qa_in_full _)) ⟨by show (0 : Int) ≤ v32.toInt; omega, by show v32.toInt ≤ (400 : Int); omega⟩) (fun o ho i => ((hk_mod ho rfl).trans ((hk_mod ho rfl).trans ((hk_mod ho rfl).trans rfl)))) (fun i hi => ((hk_neq (fun z => by subst z; cases hi)).trans ((hk_neq (fun z => by subst z; cases hi)).trans ((hk_neq (fun z => by subst z; cases hi)).trans rfl)))) (show (qm_up (qm_up (qm_up h.2.1 118 15 5) 118 16 v10) 118 11 v32) 118 11 = _ from (hk_same)) (show (qm_up (qm_up (qm_up h.2.1 118 15 5) 118 16 v10) 118 11 v32) 118 13 = _ from ((hk_neq (by decide)).trans ((hk_neq (by decide)).trans ((hk_neq (by decide)).trans q_fa)))) (by omega) (by omega)
                · refine qm_Ru.go 2 (c' := (74, [.ref 118, .int lo, .int hi, .int v8], [.int lo], (h.1, qm_up (qm_up (qm_up h.2.1 118 15 5) 118 16 v10) 118 11 v32, h.2.2.1, h.2.2.2))) rfl ?_
                  refine qm_Ru.rt (v := (some (.int lo))) (h' := (h.1, qm_up (qm_up (qm_up h.2.1 118 15 5) 118 16 v10) 118 11 v32, h.2.2.1, h.2.2.2)) rfl ?_
                  exact k (qm_up (qm_up (qm_up h.2.1 118 15 5) 118 16 v10) 118 11 v32) (h.2.2.1) lo v32 fa (hb_up (o := 118) (k := 11) (x := v32) (hb_up (o := 118) (k := 16) (x := v10) (hb_up (o := 118) (k := 15) (x := 5) hB (qa_in_full _)) (qa_in_full _)) ⟨by show (0 : Int) ≤ v32.toInt; omega, by show v32.toInt ≤ (400 : Int); omega⟩) (fun o ho i => ((hk_mod ho rfl).trans ((hk_mod ho rfl).trans ((hk_mod ho rfl).trans rfl)))) (fun i hi => ((hk_neq (fun z => by subst z; cases hi)).trans ((hk_neq (fun z => by subst z; cases hi)).trans ((hk_neq (fun z => by subst z; cases hi)).trans rfl)))) (show (qm_up (qm_up (qm_up h.2.1 118 15 5) 118 16 v10) 118 11 v32) 118 11 = _ from (hk_same)) (show (qm_up (qm_up (qm_up h.2.1 118 15 5) 118 16 v10) 118 11 v32) 118 13 = _ from ((hk_neq (by decide)).trans ((hk_neq (by decide)).trans ((hk_neq (by decide)).trans q_fa)))) (by omega) (by omega)
              · refine qm_Ru.go 2 (c' := (12, [.ref 118], [.int 2, .ref 118], (h.1, qm_up (qm_up h.2.1 118 15 5) 118 16 v10, h.2.2.1, h.2.2.2))) rfl ?_
                refine hk_inv (o := 118) (r := []) (as := [.ref 118, .int 2]) rfl rfl (hH.1 118 (17, 105) rfl) rfl rfl rfl rfl ?_
                refine qm_Ru.go 1 (c' := (1, [.ref 118, .int 2], [.ref 118], (h.1, qm_up (qm_up h.2.1 118 15 5) 118 16 v10, h.2.2.1, h.2.2.2))) rfl ?_
                refine hk_geti (v := fa) rfl (hH.1 118 (17, 105) rfl) rfl (show (qm_up (qm_up h.2.1 118 15 5) 118 16 v10) 118 13 = _ from ((hk_neq (by decide)).trans ((hk_neq (by decide)).trans q_fa))) ?_
                refine qm_Ru.go 0 (c' := (4, [.ref 118, .int 2], [.int fa], (h.1, qm_up (qm_up h.2.1 118 15 5) 118 16 v10, h.2.2.1, h.2.2.2))) rfl ?_
                refine hk_zle (ix := fa.toInt) rfl rfl (fun z35 => ?_) (fun z35 => by exfalso; omega)
                refine qm_Ru.go 2 (c' := (10, [.ref 118, .int 2], [.int 2, .ref 118], (h.1, qm_up (qm_up h.2.1 118 15 5) 118 16 v10, h.2.2.1, h.2.2.2))) rfl ?_
                refine hk_puti rfl (hH.1 118 (17, 105) rfl) rfl ?_
                refine qm_Ru.go 2 (c' := (15, [.ref 118, .int 2], [.ref 118, .ref 118], (h.1, qm_up (qm_up (qm_up h.2.1 118 15 5) 118 16 v10) 118 13 2, h.2.2.1, h.2.2.2))) rfl ?_
                refine hk_getr rfl (hH.1 118 (17, 105) rfl) rfl (hH.2 118 6 (some 122) rfl) ?_
                refine qm_Ru.go 1 (c' := (19, [.ref 118, .int 2], [.ref 118, .ref 122, .ref 118], (h.1, qm_up (qm_up (qm_up h.2.1 118 15 5) 118 16 v10) 118 13 2, h.2.2.1, h.2.2.2))) rfl ?_
                refine hk_geti (v := ta) rfl (hH.1 118 (17, 105) rfl) rfl (show (qm_up (qm_up (qm_up h.2.1 118 15 5) 118 16 v10) 118 13 2) 118 11 = _ from ((hk_neq (by decide)).trans ((hk_neq (by decide)).trans ((hk_neq (by decide)).trans q_ta)))) ?_
                refine qm_Ru.go 0 (c' := (22, [.ref 118, .int 2], [.int ta, .ref 122, .ref 118], (h.1, qm_up (qm_up (qm_up h.2.1 118 15 5) 118 16 v10) 118 13 2, h.2.2.1, h.2.2.2))) rfl ?_
                refine hk_ial (v := v10) rfl (hH.1 122 (0, 403) rfl) (by omega) (by omega) (show (qm_up (qm_up (qm_up h.2.1 118 15 5) 118 16 v10) 118 13 2) 122 (ta.toInt.toNat) = _ from ((hk_ot rfl).trans ((hk_ot rfl).trans ((hk_ot rfl).trans q_v10)))) ?_
                refine qm_Ru.go 0 (c' := (23, [.ref 118, .int 2], [.int v10, .ref 118], (h.1, qm_up (qm_up (qm_up h.2.1 118 15 5) 118 16 v10) 118 13 2, h.2.2.1, h.2.2.2))) rfl ?_
                refine hk_puti rfl (hH.1 118 (17, 105) rfl) rfl ?_
                refine qm_Ru.go 0 (c' := (26, [.ref 118, .int 2], [], (h.1, qm_up (qm_up (qm_up (qm_up h.2.1 118 15 5) 118 16 v10) 118 13 2) 118 14 v10, h.2.2.1, h.2.2.2))) rfl ?_
                refine qm_Ru.rt (v := none) (h' := (h.1, qm_up (qm_up (qm_up (qm_up h.2.1 118 15 5) 118 16 v10) 118 13 2) 118 14 v10, h.2.2.1, h.2.2.2)) rfl ?_
                refine qm_Ru.go 1 (c' := (28, [.ref 118], [], (h.1, qm_up (qm_up (qm_up (qm_up h.2.1 118 15 5) 118 16 v10) 118 13 2) 118 14 v10, h.2.2.1, h.2.2.2))) rfl ?_
                refine qm_Ru.rt (v := none) (h' := (h.1, qm_up (qm_up (qm_up (qm_up h.2.1 118 15 5) 118 16 v10) 118 13 2) 118 14 v10, h.2.2.1, h.2.2.2)) rfl ?_
                refine qm_Ru.go 2 (c' := (57, [.ref 118, .int lo, .int hi, .int v8], [.int lo, .int v8], (h.1, qm_up (qm_up (qm_up (qm_up h.2.1 118 15 5) 118 16 v10) 118 13 2) 118 14 v10, h.2.2.1, h.2.2.2))) rfl ?_
                refine hk_cge (ix := v8.toInt) (iy := lo.toInt) rfl rfl rfl (fun z36 => ?_) (fun z36 => ?_)
                · refine qm_Ru.go 2 (c' := (66, [.ref 118, .int lo, .int hi, .int v8], [.int hi, .int v8], (h.1, qm_up (qm_up (qm_up (qm_up h.2.1 118 15 5) 118 16 v10) 118 13 2) 118 14 v10, h.2.2.1, h.2.2.2))) rfl ?_
                  refine hk_cle (ix := v8.toInt) (iy := hi.toInt) rfl rfl rfl (fun z37 => ?_) (fun z37 => ?_)
                  · refine qm_Ru.go 1 (c' := (74, [.ref 118, .int lo, .int hi, .int v8], [.int v8], (h.1, qm_up (qm_up (qm_up (qm_up h.2.1 118 15 5) 118 16 v10) 118 13 2) 118 14 v10, h.2.2.1, h.2.2.2))) rfl ?_
                    refine qm_Ru.rt (v := (some (.int v8))) (h' := (h.1, qm_up (qm_up (qm_up (qm_up h.2.1 118 15 5) 118 16 v10) 118 13 2) 118 14 v10, h.2.2.1, h.2.2.2)) rfl ?_
                    exact k (qm_up (qm_up (qm_up (qm_up h.2.1 118 15 5) 118 16 v10) 118 13 2) 118 14 v10) (h.2.2.1) v8 ta 2 (hb_up (o := 118) (k := 14) (x := v10) (hb_up (o := 118) (k := 13) (x := 2) (hb_up (o := 118) (k := 16) (x := v10) (hb_up (o := 118) (k := 15) (x := 5) hB (qa_in_full _)) (qa_in_full _)) (qa_in_full _)) (qa_in_full _)) (fun o ho i => ((hk_mod ho rfl).trans ((hk_mod ho rfl).trans ((hk_mod ho rfl).trans ((hk_mod ho rfl).trans rfl))))) (fun i hi => ((hk_neq (fun z => by subst z; cases hi)).trans ((hk_neq (fun z => by subst z; cases hi)).trans ((hk_neq (fun z => by subst z; cases hi)).trans ((hk_neq (fun z => by subst z; cases hi)).trans rfl))))) (show (qm_up (qm_up (qm_up (qm_up h.2.1 118 15 5) 118 16 v10) 118 13 2) 118 14 v10) 118 11 = _ from ((hk_neq (by decide)).trans ((hk_neq (by decide)).trans ((hk_neq (by decide)).trans ((hk_neq (by decide)).trans q_ta))))) (show (qm_up (qm_up (qm_up (qm_up h.2.1 118 15 5) 118 16 v10) 118 13 2) 118 14 v10) 118 13 = _ from ((hk_neq (by decide)).trans (hk_same))) (by omega) (by omega)
                  · refine qm_Ru.go 2 (c' := (74, [.ref 118, .int lo, .int hi, .int v8], [.int hi], (h.1, qm_up (qm_up (qm_up (qm_up h.2.1 118 15 5) 118 16 v10) 118 13 2) 118 14 v10, h.2.2.1, h.2.2.2))) rfl ?_
                    refine qm_Ru.rt (v := (some (.int hi))) (h' := (h.1, qm_up (qm_up (qm_up (qm_up h.2.1 118 15 5) 118 16 v10) 118 13 2) 118 14 v10, h.2.2.1, h.2.2.2)) rfl ?_
                    exact k (qm_up (qm_up (qm_up (qm_up h.2.1 118 15 5) 118 16 v10) 118 13 2) 118 14 v10) (h.2.2.1) hi ta 2 (hb_up (o := 118) (k := 14) (x := v10) (hb_up (o := 118) (k := 13) (x := 2) (hb_up (o := 118) (k := 16) (x := v10) (hb_up (o := 118) (k := 15) (x := 5) hB (qa_in_full _)) (qa_in_full _)) (qa_in_full _)) (qa_in_full _)) (fun o ho i => ((hk_mod ho rfl).trans ((hk_mod ho rfl).trans ((hk_mod ho rfl).trans ((hk_mod ho rfl).trans rfl))))) (fun i hi => ((hk_neq (fun z => by subst z; cases hi)).trans ((hk_neq (fun z => by subst z; cases hi)).trans ((hk_neq (fun z => by subst z; cases hi)).trans ((hk_neq (fun z => by subst z; cases hi)).trans rfl))))) (show (qm_up (qm_up (qm_up (qm_up h.2.1 118 15 5) 118 16 v10) 118 13 2) 118 14 v10) 118 11 = _ from ((hk_neq (by decide)).trans ((hk_neq (by decide)).trans ((hk_neq (by decide)).trans ((hk_neq (by decide)).trans q_ta))))) (show (qm_up (qm_up (qm_up (qm_up h.2.1 118 15 5) 118 16 v10) 118 13 2) 118 14 v10) 118 13 = _ from ((hk_neq (by decide)).trans (hk_same))) (by omega) (by omega)
                · refine qm_Ru.go 2 (c' := (74, [.ref 118, .int lo, .int hi, .int v8], [.int lo], (h.1, qm_up (qm_up (qm_up (qm_up h.2.1 118 15 5) 118 16 v10) 118 13 2) 118 14 v10, h.2.2.1, h.2.2.2))) rfl ?_
                  refine qm_Ru.rt (v := (some (.int lo))) (h' := (h.1, qm_up (qm_up (qm_up (qm_up h.2.1 118 15 5) 118 16 v10) 118 13 2) 118 14 v10, h.2.2.1, h.2.2.2)) rfl ?_
                  exact k (qm_up (qm_up (qm_up (qm_up h.2.1 118 15 5) 118 16 v10) 118 13 2) 118 14 v10) (h.2.2.1) lo ta 2 (hb_up (o := 118) (k := 14) (x := v10) (hb_up (o := 118) (k := 13) (x := 2) (hb_up (o := 118) (k := 16) (x := v10) (hb_up (o := 118) (k := 15) (x := 5) hB (qa_in_full _)) (qa_in_full _)) (qa_in_full _)) (qa_in_full _)) (fun o ho i => ((hk_mod ho rfl).trans ((hk_mod ho rfl).trans ((hk_mod ho rfl).trans ((hk_mod ho rfl).trans rfl))))) (fun i hi => ((hk_neq (fun z => by subst z; cases hi)).trans ((hk_neq (fun z => by subst z; cases hi)).trans ((hk_neq (fun z => by subst z; cases hi)).trans ((hk_neq (fun z => by subst z; cases hi)).trans rfl))))) (show (qm_up (qm_up (qm_up (qm_up h.2.1 118 15 5) 118 16 v10) 118 13 2) 118 14 v10) 118 11 = _ from ((hk_neq (by decide)).trans ((hk_neq (by decide)).trans ((hk_neq (by decide)).trans ((hk_neq (by decide)).trans q_ta))))) (show (qm_up (qm_up (qm_up (qm_up h.2.1 118 15 5) 118 16 v10) 118 13 2) 118 14 v10) 118 13 = _ from ((hk_neq (by decide)).trans (hk_same))) (by omega) (by omega)
            · refine qm_Ru.go 2 (c' := (39, [.ref 118, .int 5, .int ta, .int v10], [.ref 118, .int 5], h)) rfl ?_
              refine hk_geti (v := v12) rfl (hH.1 118 (17, 105) rfl) rfl q_v12 ?_
              refine qm_Ru.go 0 (c' := (42, [.ref 118, .int 5, .int ta, .int v10], [.int v12, .int 5], h)) rfl ?_
              refine hk_clt (ix := 5) (iy := v12.toInt) rfl rfl rfl (fun z38 => ?_) (fun z38 => ?_)
              · refine qm_Ru.go 2 (c' := (48, [.ref 118, .int 5, .int ta, .int v10], [.int 5, .ref 118], h)) rfl ?_
                refine hk_puti rfl (hH.1 118 (17, 105) rfl) rfl ?_
                refine qm_Ru.go 2 (c' := (53, [.ref 118, .int 5, .int ta, .int v10], [.int v10, .ref 118], (h.1, qm_up h.2.1 118 15 5, h.2.2.1, h.2.2.2))) rfl ?_
                refine hk_puti rfl (hH.1 118 (17, 105) rfl) rfl ?_
                refine qm_Ru.go 0 (c' := (56, [.ref 118, .int 5, .int ta, .int v10], [], (h.1, qm_up (qm_up h.2.1 118 15 5) 118 16 v10, h.2.2.1, h.2.2.2))) rfl ?_
                refine qm_Ru.rt (v := none) (h' := (h.1, qm_up (qm_up h.2.1 118 15 5) 118 16 v10, h.2.2.1, h.2.2.2)) rfl ?_
                refine qm_Ru.go 1 (c' := (52, [.ref 118, .int lo, .int hi, .int v8], [.ref 118], (h.1, qm_up (qm_up h.2.1 118 15 5) 118 16 v10, h.2.2.1, h.2.2.2))) rfl ?_
                refine hk_inv (o := 118) (r := []) (as := [.ref 118]) rfl rfl (hH.1 118 (17, 105) rfl) rfl rfl rfl rfl ?_
                refine qm_Ru.go 1 (c' := (1, [.ref 118], [.ref 118], (h.1, qm_up (qm_up h.2.1 118 15 5) 118 16 v10, h.2.2.1, h.2.2.2))) rfl ?_
                refine hk_geti (v := ta) rfl (hH.1 118 (17, 105) rfl) rfl (show (qm_up (qm_up h.2.1 118 15 5) 118 16 v10) 118 11 = _ from ((hk_neq (by decide)).trans ((hk_neq (by decide)).trans q_ta))) ?_
                refine qm_Ru.go 1 (c' := (7, [.ref 118], [.int 400, .int ta], (h.1, qm_up (qm_up h.2.1 118 15 5) 118 16 v10, h.2.2.1, h.2.2.2))) rfl ?_
                refine hk_cne (ix := ta.toInt) (iy := 400) rfl rfl rfl (fun z39 => ?_) (fun z39 => ?_)
                · refine qm_Ru.go 2 (c' := (20, [.ref 118], [.ref 118, .ref 118], (h.1, qm_up (qm_up h.2.1 118 15 5) 118 16 v10, h.2.2.1, h.2.2.2))) rfl ?_
                  refine hk_geti (v := ta) rfl (hH.1 118 (17, 105) rfl) rfl (show (qm_up (qm_up h.2.1 118 15 5) 118 16 v10) 118 11 = _ from ((hk_neq (by decide)).trans ((hk_neq (by decide)).trans q_ta))) ?_
                  refine qm_Ru.go 2 (c' := (25, [.ref 118], [.int (ta + 1), .ref 118], (h.1, qm_up (qm_up h.2.1 118 15 5) 118 16 v10, h.2.2.1, h.2.2.2))) rfl ?_
                  obtain ⟨v40, q_v40, e_v40⟩ := hk_add (x := ta) (y := 1) (a := ta.toInt) (b := 1) rfl rfl (by omega) (by omega)
                  rw [q_v40]
                  refine hk_puti rfl (hH.1 118 (17, 105) rfl) rfl ?_
                  refine qm_Ru.go 0 (c' := (28, [.ref 118], [], (h.1, qm_up (qm_up (qm_up h.2.1 118 15 5) 118 16 v10) 118 11 v40, h.2.2.1, h.2.2.2))) rfl ?_
                  refine qm_Ru.rt (v := none) (h' := (h.1, qm_up (qm_up (qm_up h.2.1 118 15 5) 118 16 v10) 118 11 v40, h.2.2.1, h.2.2.2)) rfl ?_
                  refine qm_Ru.go 2 (c' := (57, [.ref 118, .int lo, .int hi, .int v8], [.int lo, .int v8], (h.1, qm_up (qm_up (qm_up h.2.1 118 15 5) 118 16 v10) 118 11 v40, h.2.2.1, h.2.2.2))) rfl ?_
                  refine hk_cge (ix := v8.toInt) (iy := lo.toInt) rfl rfl rfl (fun z41 => ?_) (fun z41 => ?_)
                  · refine qm_Ru.go 2 (c' := (66, [.ref 118, .int lo, .int hi, .int v8], [.int hi, .int v8], (h.1, qm_up (qm_up (qm_up h.2.1 118 15 5) 118 16 v10) 118 11 v40, h.2.2.1, h.2.2.2))) rfl ?_
                    refine hk_cle (ix := v8.toInt) (iy := hi.toInt) rfl rfl rfl (fun z42 => ?_) (fun z42 => ?_)
                    · refine qm_Ru.go 1 (c' := (74, [.ref 118, .int lo, .int hi, .int v8], [.int v8], (h.1, qm_up (qm_up (qm_up h.2.1 118 15 5) 118 16 v10) 118 11 v40, h.2.2.1, h.2.2.2))) rfl ?_
                      refine qm_Ru.rt (v := (some (.int v8))) (h' := (h.1, qm_up (qm_up (qm_up h.2.1 118 15 5) 118 16 v10) 118 11 v40, h.2.2.1, h.2.2.2)) rfl ?_
                      exact k (qm_up (qm_up (qm_up h.2.1 118 15 5) 118 16 v10) 118 11 v40) (h.2.2.1) v8 v40 fa (hb_up (o := 118) (k := 11) (x := v40) (hb_up (o := 118) (k := 16) (x := v10) (hb_up (o := 118) (k := 15) (x := 5) hB (qa_in_full _)) (qa_in_full _)) ⟨by show (0 : Int) ≤ v40.toInt; omega, by show v40.toInt ≤ (400 : Int); omega⟩) (fun o ho i => ((hk_mod ho rfl).trans ((hk_mod ho rfl).trans ((hk_mod ho rfl).trans rfl)))) (fun i hi => ((hk_neq (fun z => by subst z; cases hi)).trans ((hk_neq (fun z => by subst z; cases hi)).trans ((hk_neq (fun z => by subst z; cases hi)).trans rfl)))) (show (qm_up (qm_up (qm_up h.2.1 118 15 5) 118 16 v10) 118 11 v40) 118 11 = _ from (hk_same)) (show (qm_up (qm_up (qm_up h.2.1 118 15 5) 118 16 v10) 118 11 v40) 118 13 = _ from ((hk_neq (by decide)).trans ((hk_neq (by decide)).trans ((hk_neq (by decide)).trans q_fa)))) (by omega) (by omega)
                    · refine qm_Ru.go 2 (c' := (74, [.ref 118, .int lo, .int hi, .int v8], [.int hi], (h.1, qm_up (qm_up (qm_up h.2.1 118 15 5) 118 16 v10) 118 11 v40, h.2.2.1, h.2.2.2))) rfl ?_
                      refine qm_Ru.rt (v := (some (.int hi))) (h' := (h.1, qm_up (qm_up (qm_up h.2.1 118 15 5) 118 16 v10) 118 11 v40, h.2.2.1, h.2.2.2)) rfl ?_
                      exact k (qm_up (qm_up (qm_up h.2.1 118 15 5) 118 16 v10) 118 11 v40) (h.2.2.1) hi v40 fa (hb_up (o := 118) (k := 11) (x := v40) (hb_up (o := 118) (k := 16) (x := v10) (hb_up (o := 118) (k := 15) (x := 5) hB (qa_in_full _)) (qa_in_full _)) ⟨by show (0 : Int) ≤ v40.toInt; omega, by show v40.toInt ≤ (400 : Int); omega⟩) (fun o ho i => ((hk_mod ho rfl).trans ((hk_mod ho rfl).trans ((hk_mod ho rfl).trans rfl)))) (fun i hi => ((hk_neq (fun z => by subst z; cases hi)).trans ((hk_neq (fun z => by subst z; cases hi)).trans ((hk_neq (fun z => by subst z; cases hi)).trans rfl)))) (show (qm_up (qm_up (qm_up h.2.1 118 15 5) 118 16 v10) 118 11 v40) 118 11 = _ from (hk_same)) (show (qm_up (qm_up (qm_up h.2.1 118 15 5) 118 16 v10) 118 11 v40) 118 13 = _ from ((hk_neq (by decide)).trans ((hk_neq (by decide)).trans ((hk_neq (by decide)).trans q_fa)))) (by omega) (by omega)
                  · refine qm_Ru.go 2 (c' := (74, [.ref 118, .int lo, .int hi, .int v8], [.int lo], (h.1, qm_up (qm_up (qm_up h.2.1 118 15 5) 118 16 v10) 118 11 v40, h.2.2.1, h.2.2.2))) rfl ?_
                    refine qm_Ru.rt (v := (some (.int lo))) (h' := (h.1, qm_up (qm_up (qm_up h.2.1 118 15 5) 118 16 v10) 118 11 v40, h.2.2.1, h.2.2.2)) rfl ?_
                    exact k (qm_up (qm_up (qm_up h.2.1 118 15 5) 118 16 v10) 118 11 v40) (h.2.2.1) lo v40 fa (hb_up (o := 118) (k := 11) (x := v40) (hb_up (o := 118) (k := 16) (x := v10) (hb_up (o := 118) (k := 15) (x := 5) hB (qa_in_full _)) (qa_in_full _)) ⟨by show (0 : Int) ≤ v40.toInt; omega, by show v40.toInt ≤ (400 : Int); omega⟩) (fun o ho i => ((hk_mod ho rfl).trans ((hk_mod ho rfl).trans ((hk_mod ho rfl).trans rfl)))) (fun i hi => ((hk_neq (fun z => by subst z; cases hi)).trans ((hk_neq (fun z => by subst z; cases hi)).trans ((hk_neq (fun z => by subst z; cases hi)).trans rfl)))) (show (qm_up (qm_up (qm_up h.2.1 118 15 5) 118 16 v10) 118 11 v40) 118 11 = _ from (hk_same)) (show (qm_up (qm_up (qm_up h.2.1 118 15 5) 118 16 v10) 118 11 v40) 118 13 = _ from ((hk_neq (by decide)).trans ((hk_neq (by decide)).trans ((hk_neq (by decide)).trans q_fa)))) (by omega) (by omega)
                · refine qm_Ru.go 2 (c' := (12, [.ref 118], [.int 2, .ref 118], (h.1, qm_up (qm_up h.2.1 118 15 5) 118 16 v10, h.2.2.1, h.2.2.2))) rfl ?_
                  refine hk_inv (o := 118) (r := []) (as := [.ref 118, .int 2]) rfl rfl (hH.1 118 (17, 105) rfl) rfl rfl rfl rfl ?_
                  refine qm_Ru.go 1 (c' := (1, [.ref 118, .int 2], [.ref 118], (h.1, qm_up (qm_up h.2.1 118 15 5) 118 16 v10, h.2.2.1, h.2.2.2))) rfl ?_
                  refine hk_geti (v := fa) rfl (hH.1 118 (17, 105) rfl) rfl (show (qm_up (qm_up h.2.1 118 15 5) 118 16 v10) 118 13 = _ from ((hk_neq (by decide)).trans ((hk_neq (by decide)).trans q_fa))) ?_
                  refine qm_Ru.go 0 (c' := (4, [.ref 118, .int 2], [.int fa], (h.1, qm_up (qm_up h.2.1 118 15 5) 118 16 v10, h.2.2.1, h.2.2.2))) rfl ?_
                  refine hk_zle (ix := fa.toInt) rfl rfl (fun z43 => ?_) (fun z43 => by exfalso; omega)
                  refine qm_Ru.go 2 (c' := (10, [.ref 118, .int 2], [.int 2, .ref 118], (h.1, qm_up (qm_up h.2.1 118 15 5) 118 16 v10, h.2.2.1, h.2.2.2))) rfl ?_
                  refine hk_puti rfl (hH.1 118 (17, 105) rfl) rfl ?_
                  refine qm_Ru.go 2 (c' := (15, [.ref 118, .int 2], [.ref 118, .ref 118], (h.1, qm_up (qm_up (qm_up h.2.1 118 15 5) 118 16 v10) 118 13 2, h.2.2.1, h.2.2.2))) rfl ?_
                  refine hk_getr rfl (hH.1 118 (17, 105) rfl) rfl (hH.2 118 6 (some 122) rfl) ?_
                  refine qm_Ru.go 1 (c' := (19, [.ref 118, .int 2], [.ref 118, .ref 122, .ref 118], (h.1, qm_up (qm_up (qm_up h.2.1 118 15 5) 118 16 v10) 118 13 2, h.2.2.1, h.2.2.2))) rfl ?_
                  refine hk_geti (v := ta) rfl (hH.1 118 (17, 105) rfl) rfl (show (qm_up (qm_up (qm_up h.2.1 118 15 5) 118 16 v10) 118 13 2) 118 11 = _ from ((hk_neq (by decide)).trans ((hk_neq (by decide)).trans ((hk_neq (by decide)).trans q_ta)))) ?_
                  refine qm_Ru.go 0 (c' := (22, [.ref 118, .int 2], [.int ta, .ref 122, .ref 118], (h.1, qm_up (qm_up (qm_up h.2.1 118 15 5) 118 16 v10) 118 13 2, h.2.2.1, h.2.2.2))) rfl ?_
                  refine hk_ial (v := v10) rfl (hH.1 122 (0, 403) rfl) (by omega) (by omega) (show (qm_up (qm_up (qm_up h.2.1 118 15 5) 118 16 v10) 118 13 2) 122 (ta.toInt.toNat) = _ from ((hk_ot rfl).trans ((hk_ot rfl).trans ((hk_ot rfl).trans q_v10)))) ?_
                  refine qm_Ru.go 0 (c' := (23, [.ref 118, .int 2], [.int v10, .ref 118], (h.1, qm_up (qm_up (qm_up h.2.1 118 15 5) 118 16 v10) 118 13 2, h.2.2.1, h.2.2.2))) rfl ?_
                  refine hk_puti rfl (hH.1 118 (17, 105) rfl) rfl ?_
                  refine qm_Ru.go 0 (c' := (26, [.ref 118, .int 2], [], (h.1, qm_up (qm_up (qm_up (qm_up h.2.1 118 15 5) 118 16 v10) 118 13 2) 118 14 v10, h.2.2.1, h.2.2.2))) rfl ?_
                  refine qm_Ru.rt (v := none) (h' := (h.1, qm_up (qm_up (qm_up (qm_up h.2.1 118 15 5) 118 16 v10) 118 13 2) 118 14 v10, h.2.2.1, h.2.2.2)) rfl ?_
                  refine qm_Ru.go 1 (c' := (28, [.ref 118], [], (h.1, qm_up (qm_up (qm_up (qm_up h.2.1 118 15 5) 118 16 v10) 118 13 2) 118 14 v10, h.2.2.1, h.2.2.2))) rfl ?_
                  refine qm_Ru.rt (v := none) (h' := (h.1, qm_up (qm_up (qm_up (qm_up h.2.1 118 15 5) 118 16 v10) 118 13 2) 118 14 v10, h.2.2.1, h.2.2.2)) rfl ?_
                  refine qm_Ru.go 2 (c' := (57, [.ref 118, .int lo, .int hi, .int v8], [.int lo, .int v8], (h.1, qm_up (qm_up (qm_up (qm_up h.2.1 118 15 5) 118 16 v10) 118 13 2) 118 14 v10, h.2.2.1, h.2.2.2))) rfl ?_
                  refine hk_cge (ix := v8.toInt) (iy := lo.toInt) rfl rfl rfl (fun z44 => ?_) (fun z44 => ?_)
                  · refine qm_Ru.go 2 (c' := (66, [.ref 118, .int lo, .int hi, .int v8], [.int hi, .int v8], (h.1, qm_up (qm_up (qm_up (qm_up h.2.1 118 15 5) 118 16 v10) 118 13 2) 118 14 v10, h.2.2.1, h.2.2.2))) rfl ?_
                    refine hk_cle (ix := v8.toInt) (iy := hi.toInt) rfl rfl rfl (fun z45 => ?_) (fun z45 => ?_)
                    · refine qm_Ru.go 1 (c' := (74, [.ref 118, .int lo, .int hi, .int v8], [.int v8], (h.1, qm_up (qm_up (qm_up (qm_up h.2.1 118 15 5) 118 16 v10) 118 13 2) 118 14 v10, h.2.2.1, h.2.2.2))) rfl ?_
                      refine qm_Ru.rt (v := (some (.int v8))) (h' := (h.1, qm_up (qm_up (qm_up (qm_up h.2.1 118 15 5) 118 16 v10) 118 13 2) 118 14 v10, h.2.2.1, h.2.2.2)) rfl ?_
                      exact k (qm_up (qm_up (qm_up (qm_up h.2.1 118 15 5) 118 16 v10) 118 13 2) 118 14 v10) (h.2.2.1) v8 ta 2 (hb_up (o := 118) (k := 14) (x := v10) (hb_up (o := 118) (k := 13) (x := 2) (hb_up (o := 118) (k := 16) (x := v10) (hb_up (o := 118) (k := 15) (x := 5) hB (qa_in_full _)) (qa_in_full _)) (qa_in_full _)) (qa_in_full _)) (fun o ho i => ((hk_mod ho rfl).trans ((hk_mod ho rfl).trans ((hk_mod ho rfl).trans ((hk_mod ho rfl).trans rfl))))) (fun i hi => ((hk_neq (fun z => by subst z; cases hi)).trans ((hk_neq (fun z => by subst z; cases hi)).trans ((hk_neq (fun z => by subst z; cases hi)).trans ((hk_neq (fun z => by subst z; cases hi)).trans rfl))))) (show (qm_up (qm_up (qm_up (qm_up h.2.1 118 15 5) 118 16 v10) 118 13 2) 118 14 v10) 118 11 = _ from ((hk_neq (by decide)).trans ((hk_neq (by decide)).trans ((hk_neq (by decide)).trans ((hk_neq (by decide)).trans q_ta))))) (show (qm_up (qm_up (qm_up (qm_up h.2.1 118 15 5) 118 16 v10) 118 13 2) 118 14 v10) 118 13 = _ from ((hk_neq (by decide)).trans (hk_same))) (by omega) (by omega)
                    · refine qm_Ru.go 2 (c' := (74, [.ref 118, .int lo, .int hi, .int v8], [.int hi], (h.1, qm_up (qm_up (qm_up (qm_up h.2.1 118 15 5) 118 16 v10) 118 13 2) 118 14 v10, h.2.2.1, h.2.2.2))) rfl ?_
                      refine qm_Ru.rt (v := (some (.int hi))) (h' := (h.1, qm_up (qm_up (qm_up (qm_up h.2.1 118 15 5) 118 16 v10) 118 13 2) 118 14 v10, h.2.2.1, h.2.2.2)) rfl ?_
                      exact k (qm_up (qm_up (qm_up (qm_up h.2.1 118 15 5) 118 16 v10) 118 13 2) 118 14 v10) (h.2.2.1) hi ta 2 (hb_up (o := 118) (k := 14) (x := v10) (hb_up (o := 118) (k := 13) (x := 2) (hb_up (o := 118) (k := 16) (x := v10) (hb_up (o := 118) (k := 15) (x := 5) hB (qa_in_full _)) (qa_in_full _)) (qa_in_full _)) (qa_in_full _)) (fun o ho i => ((hk_mod ho rfl).trans ((hk_mod ho rfl).trans ((hk_mod ho rfl).trans ((hk_mod ho rfl).trans rfl))))) (fun i hi => ((hk_neq (fun z => by subst z; cases hi)).trans ((hk_neq (fun z => by subst z; cases hi)).trans ((hk_neq (fun z => by subst z; cases hi)).trans ((hk_neq (fun z => by subst z; cases hi)).trans rfl))))) (show (qm_up (qm_up (qm_up (qm_up h.2.1 118 15 5) 118 16 v10) 118 13 2) 118 14 v10) 118 11 = _ from ((hk_neq (by decide)).trans ((hk_neq (by decide)).trans ((hk_neq (by decide)).trans ((hk_neq (by decide)).trans q_ta))))) (show (qm_up (qm_up (qm_up (qm_up h.2.1 118 15 5) 118 16 v10) 118 13 2) 118 14 v10) 118 13 = _ from ((hk_neq (by decide)).trans (hk_same))) (by omega) (by omega)
                  · refine qm_Ru.go 2 (c' := (74, [.ref 118, .int lo, .int hi, .int v8], [.int lo], (h.1, qm_up (qm_up (qm_up (qm_up h.2.1 118 15 5) 118 16 v10) 118 13 2) 118 14 v10, h.2.2.1, h.2.2.2))) rfl ?_
                    refine qm_Ru.rt (v := (some (.int lo))) (h' := (h.1, qm_up (qm_up (qm_up (qm_up h.2.1 118 15 5) 118 16 v10) 118 13 2) 118 14 v10, h.2.2.1, h.2.2.2)) rfl ?_
                    exact k (qm_up (qm_up (qm_up (qm_up h.2.1 118 15 5) 118 16 v10) 118 13 2) 118 14 v10) (h.2.2.1) lo ta 2 (hb_up (o := 118) (k := 14) (x := v10) (hb_up (o := 118) (k := 13) (x := 2) (hb_up (o := 118) (k := 16) (x := v10) (hb_up (o := 118) (k := 15) (x := 5) hB (qa_in_full _)) (qa_in_full _)) (qa_in_full _)) (qa_in_full _)) (fun o ho i => ((hk_mod ho rfl).trans ((hk_mod ho rfl).trans ((hk_mod ho rfl).trans ((hk_mod ho rfl).trans rfl))))) (fun i hi => ((hk_neq (fun z => by subst z; cases hi)).trans ((hk_neq (fun z => by subst z; cases hi)).trans ((hk_neq (fun z => by subst z; cases hi)).trans ((hk_neq (fun z => by subst z; cases hi)).trans rfl))))) (show (qm_up (qm_up (qm_up (qm_up h.2.1 118 15 5) 118 16 v10) 118 13 2) 118 14 v10) 118 11 = _ from ((hk_neq (by decide)).trans ((hk_neq (by decide)).trans ((hk_neq (by decide)).trans ((hk_neq (by decide)).trans q_ta))))) (show (qm_up (qm_up (qm_up (qm_up h.2.1 118 15 5) 118 16 v10) 118 13 2) 118 14 v10) 118 13 = _ from ((hk_neq (by decide)).trans (hk_same))) (by omega) (by omega)
              · refine qm_Ru.go 0 (c' := (45, [.ref 118, .int 5, .int ta, .int v10], [], h)) rfl ?_
                refine qm_Ru.rt (v := none) (h' := h) rfl ?_
                refine qm_Ru.go 1 (c' := (52, [.ref 118, .int lo, .int hi, .int v8], [.ref 118], h)) rfl ?_
                refine hk_inv (o := 118) (r := []) (as := [.ref 118]) rfl rfl (hH.1 118 (17, 105) rfl) rfl rfl rfl rfl ?_
                refine qm_Ru.go 1 (c' := (1, [.ref 118], [.ref 118], h)) rfl ?_
                refine hk_geti (v := ta) rfl (hH.1 118 (17, 105) rfl) rfl q_ta ?_
                refine qm_Ru.go 1 (c' := (7, [.ref 118], [.int 400, .int ta], h)) rfl ?_
                refine hk_cne (ix := ta.toInt) (iy := 400) rfl rfl rfl (fun z46 => ?_) (fun z46 => ?_)
                · refine qm_Ru.go 2 (c' := (20, [.ref 118], [.ref 118, .ref 118], h)) rfl ?_
                  refine hk_geti (v := ta) rfl (hH.1 118 (17, 105) rfl) rfl q_ta ?_
                  refine qm_Ru.go 2 (c' := (25, [.ref 118], [.int (ta + 1), .ref 118], h)) rfl ?_
                  obtain ⟨v47, q_v47, e_v47⟩ := hk_add (x := ta) (y := 1) (a := ta.toInt) (b := 1) rfl rfl (by omega) (by omega)
                  rw [q_v47]
                  refine hk_puti rfl (hH.1 118 (17, 105) rfl) rfl ?_
                  refine qm_Ru.go 0 (c' := (28, [.ref 118], [], (h.1, qm_up h.2.1 118 11 v47, h.2.2.1, h.2.2.2))) rfl ?_
                  refine qm_Ru.rt (v := none) (h' := (h.1, qm_up h.2.1 118 11 v47, h.2.2.1, h.2.2.2)) rfl ?_
                  refine qm_Ru.go 2 (c' := (57, [.ref 118, .int lo, .int hi, .int v8], [.int lo, .int v8], (h.1, qm_up h.2.1 118 11 v47, h.2.2.1, h.2.2.2))) rfl ?_
                  refine hk_cge (ix := v8.toInt) (iy := lo.toInt) rfl rfl rfl (fun z48 => ?_) (fun z48 => ?_)
                  · refine qm_Ru.go 2 (c' := (66, [.ref 118, .int lo, .int hi, .int v8], [.int hi, .int v8], (h.1, qm_up h.2.1 118 11 v47, h.2.2.1, h.2.2.2))) rfl ?_
                    refine hk_cle (ix := v8.toInt) (iy := hi.toInt) rfl rfl rfl (fun z49 => ?_) (fun z49 => ?_)
                    · refine qm_Ru.go 1 (c' := (74, [.ref 118, .int lo, .int hi, .int v8], [.int v8], (h.1, qm_up h.2.1 118 11 v47, h.2.2.1, h.2.2.2))) rfl ?_
                      refine qm_Ru.rt (v := (some (.int v8))) (h' := (h.1, qm_up h.2.1 118 11 v47, h.2.2.1, h.2.2.2)) rfl ?_
                      exact k (qm_up h.2.1 118 11 v47) (h.2.2.1) v8 v47 fa (hb_up (o := 118) (k := 11) (x := v47) hB ⟨by show (0 : Int) ≤ v47.toInt; omega, by show v47.toInt ≤ (400 : Int); omega⟩) (fun o ho i => ((hk_mod ho rfl).trans rfl)) (fun i hi => ((hk_neq (fun z => by subst z; cases hi)).trans rfl)) (show (qm_up h.2.1 118 11 v47) 118 11 = _ from (hk_same)) (show (qm_up h.2.1 118 11 v47) 118 13 = _ from ((hk_neq (by decide)).trans q_fa)) (by omega) (by omega)
                    · refine qm_Ru.go 2 (c' := (74, [.ref 118, .int lo, .int hi, .int v8], [.int hi], (h.1, qm_up h.2.1 118 11 v47, h.2.2.1, h.2.2.2))) rfl ?_
                      refine qm_Ru.rt (v := (some (.int hi))) (h' := (h.1, qm_up h.2.1 118 11 v47, h.2.2.1, h.2.2.2)) rfl ?_
                      exact k (qm_up h.2.1 118 11 v47) (h.2.2.1) hi v47 fa (hb_up (o := 118) (k := 11) (x := v47) hB ⟨by show (0 : Int) ≤ v47.toInt; omega, by show v47.toInt ≤ (400 : Int); omega⟩) (fun o ho i => ((hk_mod ho rfl).trans rfl)) (fun i hi => ((hk_neq (fun z => by subst z; cases hi)).trans rfl)) (show (qm_up h.2.1 118 11 v47) 118 11 = _ from (hk_same)) (show (qm_up h.2.1 118 11 v47) 118 13 = _ from ((hk_neq (by decide)).trans q_fa)) (by omega) (by omega)
                  · refine qm_Ru.go 2 (c' := (74, [.ref 118, .int lo, .int hi, .int v8], [.int lo], (h.1, qm_up h.2.1 118 11 v47, h.2.2.1, h.2.2.2))) rfl ?_
                    refine qm_Ru.rt (v := (some (.int lo))) (h' := (h.1, qm_up h.2.1 118 11 v47, h.2.2.1, h.2.2.2)) rfl ?_
                    exact k (qm_up h.2.1 118 11 v47) (h.2.2.1) lo v47 fa (hb_up (o := 118) (k := 11) (x := v47) hB ⟨by show (0 : Int) ≤ v47.toInt; omega, by show v47.toInt ≤ (400 : Int); omega⟩) (fun o ho i => ((hk_mod ho rfl).trans rfl)) (fun i hi => ((hk_neq (fun z => by subst z; cases hi)).trans rfl)) (show (qm_up h.2.1 118 11 v47) 118 11 = _ from (hk_same)) (show (qm_up h.2.1 118 11 v47) 118 13 = _ from ((hk_neq (by decide)).trans q_fa)) (by omega) (by omega)
                · refine qm_Ru.go 2 (c' := (12, [.ref 118], [.int 2, .ref 118], h)) rfl ?_
                  refine hk_inv (o := 118) (r := []) (as := [.ref 118, .int 2]) rfl rfl (hH.1 118 (17, 105) rfl) rfl rfl rfl rfl ?_
                  refine qm_Ru.go 1 (c' := (1, [.ref 118, .int 2], [.ref 118], h)) rfl ?_
                  refine hk_geti (v := fa) rfl (hH.1 118 (17, 105) rfl) rfl q_fa ?_
                  refine qm_Ru.go 0 (c' := (4, [.ref 118, .int 2], [.int fa], h)) rfl ?_
                  refine hk_zle (ix := fa.toInt) rfl rfl (fun z50 => ?_) (fun z50 => by exfalso; omega)
                  refine qm_Ru.go 2 (c' := (10, [.ref 118, .int 2], [.int 2, .ref 118], h)) rfl ?_
                  refine hk_puti rfl (hH.1 118 (17, 105) rfl) rfl ?_
                  refine qm_Ru.go 2 (c' := (15, [.ref 118, .int 2], [.ref 118, .ref 118], (h.1, qm_up h.2.1 118 13 2, h.2.2.1, h.2.2.2))) rfl ?_
                  refine hk_getr rfl (hH.1 118 (17, 105) rfl) rfl (hH.2 118 6 (some 122) rfl) ?_
                  refine qm_Ru.go 1 (c' := (19, [.ref 118, .int 2], [.ref 118, .ref 122, .ref 118], (h.1, qm_up h.2.1 118 13 2, h.2.2.1, h.2.2.2))) rfl ?_
                  refine hk_geti (v := ta) rfl (hH.1 118 (17, 105) rfl) rfl (show (qm_up h.2.1 118 13 2) 118 11 = _ from ((hk_neq (by decide)).trans q_ta)) ?_
                  refine qm_Ru.go 0 (c' := (22, [.ref 118, .int 2], [.int ta, .ref 122, .ref 118], (h.1, qm_up h.2.1 118 13 2, h.2.2.1, h.2.2.2))) rfl ?_
                  refine hk_ial (v := v10) rfl (hH.1 122 (0, 403) rfl) (by omega) (by omega) (show (qm_up h.2.1 118 13 2) 122 (ta.toInt.toNat) = _ from ((hk_ot rfl).trans q_v10)) ?_
                  refine qm_Ru.go 0 (c' := (23, [.ref 118, .int 2], [.int v10, .ref 118], (h.1, qm_up h.2.1 118 13 2, h.2.2.1, h.2.2.2))) rfl ?_
                  refine hk_puti rfl (hH.1 118 (17, 105) rfl) rfl ?_
                  refine qm_Ru.go 0 (c' := (26, [.ref 118, .int 2], [], (h.1, qm_up (qm_up h.2.1 118 13 2) 118 14 v10, h.2.2.1, h.2.2.2))) rfl ?_
                  refine qm_Ru.rt (v := none) (h' := (h.1, qm_up (qm_up h.2.1 118 13 2) 118 14 v10, h.2.2.1, h.2.2.2)) rfl ?_
                  refine qm_Ru.go 1 (c' := (28, [.ref 118], [], (h.1, qm_up (qm_up h.2.1 118 13 2) 118 14 v10, h.2.2.1, h.2.2.2))) rfl ?_
                  refine qm_Ru.rt (v := none) (h' := (h.1, qm_up (qm_up h.2.1 118 13 2) 118 14 v10, h.2.2.1, h.2.2.2)) rfl ?_
                  refine qm_Ru.go 2 (c' := (57, [.ref 118, .int lo, .int hi, .int v8], [.int lo, .int v8], (h.1, qm_up (qm_up h.2.1 118 13 2) 118 14 v10, h.2.2.1, h.2.2.2))) rfl ?_
                  refine hk_cge (ix := v8.toInt) (iy := lo.toInt) rfl rfl rfl (fun z51 => ?_) (fun z51 => ?_)
                  · refine qm_Ru.go 2 (c' := (66, [.ref 118, .int lo, .int hi, .int v8], [.int hi, .int v8], (h.1, qm_up (qm_up h.2.1 118 13 2) 118 14 v10, h.2.2.1, h.2.2.2))) rfl ?_
                    refine hk_cle (ix := v8.toInt) (iy := hi.toInt) rfl rfl rfl (fun z52 => ?_) (fun z52 => ?_)
                    · refine qm_Ru.go 1 (c' := (74, [.ref 118, .int lo, .int hi, .int v8], [.int v8], (h.1, qm_up (qm_up h.2.1 118 13 2) 118 14 v10, h.2.2.1, h.2.2.2))) rfl ?_
                      refine qm_Ru.rt (v := (some (.int v8))) (h' := (h.1, qm_up (qm_up h.2.1 118 13 2) 118 14 v10, h.2.2.1, h.2.2.2)) rfl ?_
                      exact k (qm_up (qm_up h.2.1 118 13 2) 118 14 v10) (h.2.2.1) v8 ta 2 (hb_up (o := 118) (k := 14) (x := v10) (hb_up (o := 118) (k := 13) (x := 2) hB (qa_in_full _)) (qa_in_full _)) (fun o ho i => ((hk_mod ho rfl).trans ((hk_mod ho rfl).trans rfl))) (fun i hi => ((hk_neq (fun z => by subst z; cases hi)).trans ((hk_neq (fun z => by subst z; cases hi)).trans rfl))) (show (qm_up (qm_up h.2.1 118 13 2) 118 14 v10) 118 11 = _ from ((hk_neq (by decide)).trans ((hk_neq (by decide)).trans q_ta))) (show (qm_up (qm_up h.2.1 118 13 2) 118 14 v10) 118 13 = _ from ((hk_neq (by decide)).trans (hk_same))) (by omega) (by omega)
                    · refine qm_Ru.go 2 (c' := (74, [.ref 118, .int lo, .int hi, .int v8], [.int hi], (h.1, qm_up (qm_up h.2.1 118 13 2) 118 14 v10, h.2.2.1, h.2.2.2))) rfl ?_
                      refine qm_Ru.rt (v := (some (.int hi))) (h' := (h.1, qm_up (qm_up h.2.1 118 13 2) 118 14 v10, h.2.2.1, h.2.2.2)) rfl ?_
                      exact k (qm_up (qm_up h.2.1 118 13 2) 118 14 v10) (h.2.2.1) hi ta 2 (hb_up (o := 118) (k := 14) (x := v10) (hb_up (o := 118) (k := 13) (x := 2) hB (qa_in_full _)) (qa_in_full _)) (fun o ho i => ((hk_mod ho rfl).trans ((hk_mod ho rfl).trans rfl))) (fun i hi => ((hk_neq (fun z => by subst z; cases hi)).trans ((hk_neq (fun z => by subst z; cases hi)).trans rfl))) (show (qm_up (qm_up h.2.1 118 13 2) 118 14 v10) 118 11 = _ from ((hk_neq (by decide)).trans ((hk_neq (by decide)).trans q_ta))) (show (qm_up (qm_up h.2.1 118 13 2) 118 14 v10) 118 13 = _ from ((hk_neq (by decide)).trans (hk_same))) (by omega) (by omega)
                  · refine qm_Ru.go 2 (c' := (74, [.ref 118, .int lo, .int hi, .int v8], [.int lo], (h.1, qm_up (qm_up h.2.1 118 13 2) 118 14 v10, h.2.2.1, h.2.2.2))) rfl ?_
                    refine qm_Ru.rt (v := (some (.int lo))) (h' := (h.1, qm_up (qm_up h.2.1 118 13 2) 118 14 v10, h.2.2.1, h.2.2.2)) rfl ?_
                    exact k (qm_up (qm_up h.2.1 118 13 2) 118 14 v10) (h.2.2.1) lo ta 2 (hb_up (o := 118) (k := 14) (x := v10) (hb_up (o := 118) (k := 13) (x := 2) hB (qa_in_full _)) (qa_in_full _)) (fun o ho i => ((hk_mod ho rfl).trans ((hk_mod ho rfl).trans rfl))) (fun i hi => ((hk_neq (fun z => by subst z; cases hi)).trans ((hk_neq (fun z => by subst z; cases hi)).trans rfl))) (show (qm_up (qm_up h.2.1 118 13 2) 118 14 v10) 118 11 = _ from ((hk_neq (by decide)).trans ((hk_neq (by decide)).trans q_ta))) (show (qm_up (qm_up h.2.1 118 13 2) 118 14 v10) 118 13 = _ from ((hk_neq (by decide)).trans (hk_same))) (by omega) (by omega)
      · refine qm_Ru.go 2 (c' := (39, [.ref 118, .int lo, .int hi, .int v8], [.int hi, .int v8], h)) rfl ?_
        refine hk_cle (ix := v8.toInt) (iy := hi.toInt) rfl rfl rfl (fun z53 => ?_) (fun z53 => ?_)
        · refine qm_Ru.go 1 (c' := (52, [.ref 118, .int lo, .int hi, .int v8], [.ref 118], h)) rfl ?_
          refine hk_inv (o := 118) (r := []) (as := [.ref 118]) rfl rfl (hH.1 118 (17, 105) rfl) rfl rfl rfl rfl ?_
          refine qm_Ru.go 1 (c' := (1, [.ref 118], [.ref 118], h)) rfl ?_
          refine hk_geti (v := ta) rfl (hH.1 118 (17, 105) rfl) rfl q_ta ?_
          refine qm_Ru.go 1 (c' := (7, [.ref 118], [.int 400, .int ta], h)) rfl ?_
          refine hk_cne (ix := ta.toInt) (iy := 400) rfl rfl rfl (fun z54 => ?_) (fun z54 => ?_)
          · refine qm_Ru.go 2 (c' := (20, [.ref 118], [.ref 118, .ref 118], h)) rfl ?_
            refine hk_geti (v := ta) rfl (hH.1 118 (17, 105) rfl) rfl q_ta ?_
            refine qm_Ru.go 2 (c' := (25, [.ref 118], [.int (ta + 1), .ref 118], h)) rfl ?_
            obtain ⟨v55, q_v55, e_v55⟩ := hk_add (x := ta) (y := 1) (a := ta.toInt) (b := 1) rfl rfl (by omega) (by omega)
            rw [q_v55]
            refine hk_puti rfl (hH.1 118 (17, 105) rfl) rfl ?_
            refine qm_Ru.go 0 (c' := (28, [.ref 118], [], (h.1, qm_up h.2.1 118 11 v55, h.2.2.1, h.2.2.2))) rfl ?_
            refine qm_Ru.rt (v := none) (h' := (h.1, qm_up h.2.1 118 11 v55, h.2.2.1, h.2.2.2)) rfl ?_
            refine qm_Ru.go 2 (c' := (57, [.ref 118, .int lo, .int hi, .int v8], [.int lo, .int v8], (h.1, qm_up h.2.1 118 11 v55, h.2.2.1, h.2.2.2))) rfl ?_
            refine hk_cge (ix := v8.toInt) (iy := lo.toInt) rfl rfl rfl (fun z56 => ?_) (fun z56 => ?_)
            · refine qm_Ru.go 2 (c' := (66, [.ref 118, .int lo, .int hi, .int v8], [.int hi, .int v8], (h.1, qm_up h.2.1 118 11 v55, h.2.2.1, h.2.2.2))) rfl ?_
              refine hk_cle (ix := v8.toInt) (iy := hi.toInt) rfl rfl rfl (fun z57 => ?_) (fun z57 => ?_)
              · refine qm_Ru.go 1 (c' := (74, [.ref 118, .int lo, .int hi, .int v8], [.int v8], (h.1, qm_up h.2.1 118 11 v55, h.2.2.1, h.2.2.2))) rfl ?_
                refine qm_Ru.rt (v := (some (.int v8))) (h' := (h.1, qm_up h.2.1 118 11 v55, h.2.2.1, h.2.2.2)) rfl ?_
                exact k (qm_up h.2.1 118 11 v55) (h.2.2.1) v8 v55 fa (hb_up (o := 118) (k := 11) (x := v55) hB ⟨by show (0 : Int) ≤ v55.toInt; omega, by show v55.toInt ≤ (400 : Int); omega⟩) (fun o ho i => ((hk_mod ho rfl).trans rfl)) (fun i hi => ((hk_neq (fun z => by subst z; cases hi)).trans rfl)) (show (qm_up h.2.1 118 11 v55) 118 11 = _ from (hk_same)) (show (qm_up h.2.1 118 11 v55) 118 13 = _ from ((hk_neq (by decide)).trans q_fa)) (by omega) (by omega)
              · refine qm_Ru.go 2 (c' := (74, [.ref 118, .int lo, .int hi, .int v8], [.int hi], (h.1, qm_up h.2.1 118 11 v55, h.2.2.1, h.2.2.2))) rfl ?_
                refine qm_Ru.rt (v := (some (.int hi))) (h' := (h.1, qm_up h.2.1 118 11 v55, h.2.2.1, h.2.2.2)) rfl ?_
                exact k (qm_up h.2.1 118 11 v55) (h.2.2.1) hi v55 fa (hb_up (o := 118) (k := 11) (x := v55) hB ⟨by show (0 : Int) ≤ v55.toInt; omega, by show v55.toInt ≤ (400 : Int); omega⟩) (fun o ho i => ((hk_mod ho rfl).trans rfl)) (fun i hi => ((hk_neq (fun z => by subst z; cases hi)).trans rfl)) (show (qm_up h.2.1 118 11 v55) 118 11 = _ from (hk_same)) (show (qm_up h.2.1 118 11 v55) 118 13 = _ from ((hk_neq (by decide)).trans q_fa)) (by omega) (by omega)
            · refine qm_Ru.go 2 (c' := (74, [.ref 118, .int lo, .int hi, .int v8], [.int lo], (h.1, qm_up h.2.1 118 11 v55, h.2.2.1, h.2.2.2))) rfl ?_
              refine qm_Ru.rt (v := (some (.int lo))) (h' := (h.1, qm_up h.2.1 118 11 v55, h.2.2.1, h.2.2.2)) rfl ?_
              exact k (qm_up h.2.1 118 11 v55) (h.2.2.1) lo v55 fa (hb_up (o := 118) (k := 11) (x := v55) hB ⟨by show (0 : Int) ≤ v55.toInt; omega, by show v55.toInt ≤ (400 : Int); omega⟩) (fun o ho i => ((hk_mod ho rfl).trans rfl)) (fun i hi => ((hk_neq (fun z => by subst z; cases hi)).trans rfl)) (show (qm_up h.2.1 118 11 v55) 118 11 = _ from (hk_same)) (show (qm_up h.2.1 118 11 v55) 118 13 = _ from ((hk_neq (by decide)).trans q_fa)) (by omega) (by omega)
          · refine qm_Ru.go 2 (c' := (12, [.ref 118], [.int 2, .ref 118], h)) rfl ?_
            refine hk_inv (o := 118) (r := []) (as := [.ref 118, .int 2]) rfl rfl (hH.1 118 (17, 105) rfl) rfl rfl rfl rfl ?_
            refine qm_Ru.go 1 (c' := (1, [.ref 118, .int 2], [.ref 118], h)) rfl ?_
            refine hk_geti (v := fa) rfl (hH.1 118 (17, 105) rfl) rfl q_fa ?_
            refine qm_Ru.go 0 (c' := (4, [.ref 118, .int 2], [.int fa], h)) rfl ?_
            refine hk_zle (ix := fa.toInt) rfl rfl (fun z58 => ?_) (fun z58 => by exfalso; omega)
            refine qm_Ru.go 2 (c' := (10, [.ref 118, .int 2], [.int 2, .ref 118], h)) rfl ?_
            refine hk_puti rfl (hH.1 118 (17, 105) rfl) rfl ?_
            refine qm_Ru.go 2 (c' := (15, [.ref 118, .int 2], [.ref 118, .ref 118], (h.1, qm_up h.2.1 118 13 2, h.2.2.1, h.2.2.2))) rfl ?_
            refine hk_getr rfl (hH.1 118 (17, 105) rfl) rfl (hH.2 118 6 (some 122) rfl) ?_
            refine qm_Ru.go 1 (c' := (19, [.ref 118, .int 2], [.ref 118, .ref 122, .ref 118], (h.1, qm_up h.2.1 118 13 2, h.2.2.1, h.2.2.2))) rfl ?_
            refine hk_geti (v := ta) rfl (hH.1 118 (17, 105) rfl) rfl (show (qm_up h.2.1 118 13 2) 118 11 = _ from ((hk_neq (by decide)).trans q_ta)) ?_
            refine qm_Ru.go 0 (c' := (22, [.ref 118, .int 2], [.int ta, .ref 122, .ref 118], (h.1, qm_up h.2.1 118 13 2, h.2.2.1, h.2.2.2))) rfl ?_
            obtain ⟨v59, q_v59⟩ : ∃ v, h.2.1 122 (ta.toInt.toNat) = v := ⟨_, rfl⟩
            refine hk_ial (v := v59) rfl (hH.1 122 (0, 403) rfl) (by omega) (by omega) (show (qm_up h.2.1 118 13 2) 122 (ta.toInt.toNat) = _ from ((hk_ot rfl).trans q_v59)) ?_
            refine qm_Ru.go 0 (c' := (23, [.ref 118, .int 2], [.int v59, .ref 118], (h.1, qm_up h.2.1 118 13 2, h.2.2.1, h.2.2.2))) rfl ?_
            refine hk_puti rfl (hH.1 118 (17, 105) rfl) rfl ?_
            refine qm_Ru.go 0 (c' := (26, [.ref 118, .int 2], [], (h.1, qm_up (qm_up h.2.1 118 13 2) 118 14 v59, h.2.2.1, h.2.2.2))) rfl ?_
            refine qm_Ru.rt (v := none) (h' := (h.1, qm_up (qm_up h.2.1 118 13 2) 118 14 v59, h.2.2.1, h.2.2.2)) rfl ?_
            refine qm_Ru.go 1 (c' := (28, [.ref 118], [], (h.1, qm_up (qm_up h.2.1 118 13 2) 118 14 v59, h.2.2.1, h.2.2.2))) rfl ?_
            refine qm_Ru.rt (v := none) (h' := (h.1, qm_up (qm_up h.2.1 118 13 2) 118 14 v59, h.2.2.1, h.2.2.2)) rfl ?_
            refine qm_Ru.go 2 (c' := (57, [.ref 118, .int lo, .int hi, .int v8], [.int lo, .int v8], (h.1, qm_up (qm_up h.2.1 118 13 2) 118 14 v59, h.2.2.1, h.2.2.2))) rfl ?_
            refine hk_cge (ix := v8.toInt) (iy := lo.toInt) rfl rfl rfl (fun z60 => ?_) (fun z60 => ?_)
            · refine qm_Ru.go 2 (c' := (66, [.ref 118, .int lo, .int hi, .int v8], [.int hi, .int v8], (h.1, qm_up (qm_up h.2.1 118 13 2) 118 14 v59, h.2.2.1, h.2.2.2))) rfl ?_
              refine hk_cle (ix := v8.toInt) (iy := hi.toInt) rfl rfl rfl (fun z61 => ?_) (fun z61 => ?_)
              · refine qm_Ru.go 1 (c' := (74, [.ref 118, .int lo, .int hi, .int v8], [.int v8], (h.1, qm_up (qm_up h.2.1 118 13 2) 118 14 v59, h.2.2.1, h.2.2.2))) rfl ?_
                refine qm_Ru.rt (v := (some (.int v8))) (h' := (h.1, qm_up (qm_up h.2.1 118 13 2) 118 14 v59, h.2.2.1, h.2.2.2)) rfl ?_
                exact k (qm_up (qm_up h.2.1 118 13 2) 118 14 v59) (h.2.2.1) v8 ta 2 (hb_up (o := 118) (k := 14) (x := v59) (hb_up (o := 118) (k := 13) (x := 2) hB (qa_in_full _)) (qa_in_full _)) (fun o ho i => ((hk_mod ho rfl).trans ((hk_mod ho rfl).trans rfl))) (fun i hi => ((hk_neq (fun z => by subst z; cases hi)).trans ((hk_neq (fun z => by subst z; cases hi)).trans rfl))) (show (qm_up (qm_up h.2.1 118 13 2) 118 14 v59) 118 11 = _ from ((hk_neq (by decide)).trans ((hk_neq (by decide)).trans q_ta))) (show (qm_up (qm_up h.2.1 118 13 2) 118 14 v59) 118 13 = _ from ((hk_neq (by decide)).trans (hk_same))) (by omega) (by omega)
              · refine qm_Ru.go 2 (c' := (74, [.ref 118, .int lo, .int hi, .int v8], [.int hi], (h.1, qm_up (qm_up h.2.1 118 13 2) 118 14 v59, h.2.2.1, h.2.2.2))) rfl ?_
                refine qm_Ru.rt (v := (some (.int hi))) (h' := (h.1, qm_up (qm_up h.2.1 118 13 2) 118 14 v59, h.2.2.1, h.2.2.2)) rfl ?_
                exact k (qm_up (qm_up h.2.1 118 13 2) 118 14 v59) (h.2.2.1) hi ta 2 (hb_up (o := 118) (k := 14) (x := v59) (hb_up (o := 118) (k := 13) (x := 2) hB (qa_in_full _)) (qa_in_full _)) (fun o ho i => ((hk_mod ho rfl).trans ((hk_mod ho rfl).trans rfl))) (fun i hi => ((hk_neq (fun z => by subst z; cases hi)).trans ((hk_neq (fun z => by subst z; cases hi)).trans rfl))) (show (qm_up (qm_up h.2.1 118 13 2) 118 14 v59) 118 11 = _ from ((hk_neq (by decide)).trans ((hk_neq (by decide)).trans q_ta))) (show (qm_up (qm_up h.2.1 118 13 2) 118 14 v59) 118 13 = _ from ((hk_neq (by decide)).trans (hk_same))) (by omega) (by omega)
            · refine qm_Ru.go 2 (c' := (74, [.ref 118, .int lo, .int hi, .int v8], [.int lo], (h.1, qm_up (qm_up h.2.1 118 13 2) 118 14 v59, h.2.2.1, h.2.2.2))) rfl ?_
              refine qm_Ru.rt (v := (some (.int lo))) (h' := (h.1, qm_up (qm_up h.2.1 118 13 2) 118 14 v59, h.2.2.1, h.2.2.2)) rfl ?_
              exact k (qm_up (qm_up h.2.1 118 13 2) 118 14 v59) (h.2.2.1) lo ta 2 (hb_up (o := 118) (k := 14) (x := v59) (hb_up (o := 118) (k := 13) (x := 2) hB (qa_in_full _)) (qa_in_full _)) (fun o ho i => ((hk_mod ho rfl).trans ((hk_mod ho rfl).trans rfl))) (fun i hi => ((hk_neq (fun z => by subst z; cases hi)).trans ((hk_neq (fun z => by subst z; cases hi)).trans rfl))) (show (qm_up (qm_up h.2.1 118 13 2) 118 14 v59) 118 11 = _ from ((hk_neq (by decide)).trans ((hk_neq (by decide)).trans q_ta))) (show (qm_up (qm_up h.2.1 118 13 2) 118 14 v59) 118 13 = _ from ((hk_neq (by decide)).trans (hk_same))) (by omega) (by omega)
        · refine qm_Ru.go 3 (c' := (45, [.ref 118, .int lo, .int hi, .int v8], [.ref 118, .int 5, .ref 118], h)) rfl ?_
          refine hk_geti (v := ta) rfl (hH.1 118 (17, 105) rfl) rfl q_ta ?_
          refine qm_Ru.go 0 (c' := (48, [.ref 118, .int lo, .int hi, .int v8], [.int ta, .int 5, .ref 118], h)) rfl ?_
          refine hk_inv (o := 118) (r := []) (as := [.ref 118, .int 5, .int ta]) rfl rfl (hH.1 118 (17, 105) rfl) rfl rfl rfl rfl ?_
          refine qm_Ru.go 1 (c' := (1, [.ref 118, .int 5, .int ta, .float 0], [.ref 118], h)) rfl ?_
          refine hk_getr rfl (hH.1 118 (17, 105) rfl) rfl (hH.2 118 6 (some 122) rfl) ?_
          refine qm_Ru.go 1 (c' := (5, [.ref 118, .int 5, .int ta, .float 0], [.int ta, .ref 122], h)) rfl ?_
          obtain ⟨v62, q_v62⟩ : ∃ v, h.2.1 122 (ta.toInt.toNat) = v := ⟨_, rfl⟩
          refine hk_ial (v := v62) rfl (hH.1 122 (0, 403) rfl) (by omega) (by omega) q_v62 ?_
          refine qm_Ru.go 2 (c' := (8, [.ref 118, .int 5, .int ta, .int v62], [.ref 118], h)) rfl ?_
          refine hk_geti (v := fa) rfl (hH.1 118 (17, 105) rfl) rfl q_fa ?_
          refine qm_Ru.go 0 (c' := (11, [.ref 118, .int 5, .int ta, .int v62], [.int fa], h)) rfl ?_
          refine hk_zgt (ix := fa.toInt) rfl rfl (fun z63 => by exfalso; omega) (fun z63 => ?_)
          refine qm_Ru.go 1 (c' := (15, [.ref 118, .int 5, .int ta, .int v62], [.ref 118], h)) rfl ?_
          obtain ⟨v64, q_v64⟩ : ∃ v, h.2.1 118 15 = v := ⟨_, rfl⟩
          refine hk_geti (v := v64) rfl (hH.1 118 (17, 105) rfl) rfl q_v64 ?_
          refine qm_Ru.go 0 (c' := (18, [.ref 118, .int 5, .int ta, .int v62], [.int v64], h)) rfl ?_
          refine hk_zeq (ix := v64.toInt) rfl rfl (fun z65 => ?_) (fun z65 => ?_)
          · refine qm_Ru.go 2 (c' := (48, [.ref 118, .int 5, .int ta, .int v62], [.int 5, .ref 118], h)) rfl ?_
            refine hk_puti rfl (hH.1 118 (17, 105) rfl) rfl ?_
            refine qm_Ru.go 2 (c' := (53, [.ref 118, .int 5, .int ta, .int v62], [.int v62, .ref 118], (h.1, qm_up h.2.1 118 15 5, h.2.2.1, h.2.2.2))) rfl ?_
            refine hk_puti rfl (hH.1 118 (17, 105) rfl) rfl ?_
            refine qm_Ru.go 0 (c' := (56, [.ref 118, .int 5, .int ta, .int v62], [], (h.1, qm_up (qm_up h.2.1 118 15 5) 118 16 v62, h.2.2.1, h.2.2.2))) rfl ?_
            refine qm_Ru.rt (v := none) (h' := (h.1, qm_up (qm_up h.2.1 118 15 5) 118 16 v62, h.2.2.1, h.2.2.2)) rfl ?_
            refine qm_Ru.go 1 (c' := (52, [.ref 118, .int lo, .int hi, .int v8], [.ref 118], (h.1, qm_up (qm_up h.2.1 118 15 5) 118 16 v62, h.2.2.1, h.2.2.2))) rfl ?_
            refine hk_inv (o := 118) (r := []) (as := [.ref 118]) rfl rfl (hH.1 118 (17, 105) rfl) rfl rfl rfl rfl ?_
            refine qm_Ru.go 1 (c' := (1, [.ref 118], [.ref 118], (h.1, qm_up (qm_up h.2.1 118 15 5) 118 16 v62, h.2.2.1, h.2.2.2))) rfl ?_
            refine hk_geti (v := ta) rfl (hH.1 118 (17, 105) rfl) rfl (show (qm_up (qm_up h.2.1 118 15 5) 118 16 v62) 118 11 = _ from ((hk_neq (by decide)).trans ((hk_neq (by decide)).trans q_ta))) ?_
            refine qm_Ru.go 1 (c' := (7, [.ref 118], [.int 400, .int ta], (h.1, qm_up (qm_up h.2.1 118 15 5) 118 16 v62, h.2.2.1, h.2.2.2))) rfl ?_
            refine hk_cne (ix := ta.toInt) (iy := 400) rfl rfl rfl (fun z66 => ?_) (fun z66 => ?_)
            · refine qm_Ru.go 2 (c' := (20, [.ref 118], [.ref 118, .ref 118], (h.1, qm_up (qm_up h.2.1 118 15 5) 118 16 v62, h.2.2.1, h.2.2.2))) rfl ?_
              refine hk_geti (v := ta) rfl (hH.1 118 (17, 105) rfl) rfl (show (qm_up (qm_up h.2.1 118 15 5) 118 16 v62) 118 11 = _ from ((hk_neq (by decide)).trans ((hk_neq (by decide)).trans q_ta))) ?_
              refine qm_Ru.go 2 (c' := (25, [.ref 118], [.int (ta + 1), .ref 118], (h.1, qm_up (qm_up h.2.1 118 15 5) 118 16 v62, h.2.2.1, h.2.2.2))) rfl ?_
              obtain ⟨v67, q_v67, e_v67⟩ := hk_add (x := ta) (y := 1) (a := ta.toInt) (b := 1) rfl rfl (by omega) (by omega)
              rw [q_v67]
              refine hk_puti rfl (hH.1 118 (17, 105) rfl) rfl ?_
              refine qm_Ru.go 0 (c' := (28, [.ref 118], [], (h.1, qm_up (qm_up (qm_up h.2.1 118 15 5) 118 16 v62) 118 11 v67, h.2.2.1, h.2.2.2))) rfl ?_
              refine qm_Ru.rt (v := none) (h' := (h.1, qm_up (qm_up (qm_up h.2.1 118 15 5) 118 16 v62) 118 11 v67, h.2.2.1, h.2.2.2)) rfl ?_
              refine qm_Ru.go 2 (c' := (57, [.ref 118, .int lo, .int hi, .int v8], [.int lo, .int v8], (h.1, qm_up (qm_up (qm_up h.2.1 118 15 5) 118 16 v62) 118 11 v67, h.2.2.1, h.2.2.2))) rfl ?_
              refine hk_cge (ix := v8.toInt) (iy := lo.toInt) rfl rfl rfl (fun z68 => ?_) (fun z68 => ?_)
              · refine qm_Ru.go 2 (c' := (66, [.ref 118, .int lo, .int hi, .int v8], [.int hi, .int v8], (h.1, qm_up (qm_up (qm_up h.2.1 118 15 5) 118 16 v62) 118 11 v67, h.2.2.1, h.2.2.2))) rfl ?_
                refine hk_cle (ix := v8.toInt) (iy := hi.toInt) rfl rfl rfl (fun z69 => ?_) (fun z69 => ?_)
                · refine qm_Ru.go 1 (c' := (74, [.ref 118, .int lo, .int hi, .int v8], [.int v8], (h.1, qm_up (qm_up (qm_up h.2.1 118 15 5) 118 16 v62) 118 11 v67, h.2.2.1, h.2.2.2))) rfl ?_
                  refine qm_Ru.rt (v := (some (.int v8))) (h' := (h.1, qm_up (qm_up (qm_up h.2.1 118 15 5) 118 16 v62) 118 11 v67, h.2.2.1, h.2.2.2)) rfl ?_
                  exact k (qm_up (qm_up (qm_up h.2.1 118 15 5) 118 16 v62) 118 11 v67) (h.2.2.1) v8 v67 fa (hb_up (o := 118) (k := 11) (x := v67) (hb_up (o := 118) (k := 16) (x := v62) (hb_up (o := 118) (k := 15) (x := 5) hB (qa_in_full _)) (qa_in_full _)) ⟨by show (0 : Int) ≤ v67.toInt; omega, by show v67.toInt ≤ (400 : Int); omega⟩) (fun o ho i => ((hk_mod ho rfl).trans ((hk_mod ho rfl).trans ((hk_mod ho rfl).trans rfl)))) (fun i hi => ((hk_neq (fun z => by subst z; cases hi)).trans ((hk_neq (fun z => by subst z; cases hi)).trans ((hk_neq (fun z => by subst z; cases hi)).trans rfl)))) (show (qm_up (qm_up (qm_up h.2.1 118 15 5) 118 16 v62) 118 11 v67) 118 11 = _ from (hk_same)) (show (qm_up (qm_up (qm_up h.2.1 118 15 5) 118 16 v62) 118 11 v67) 118 13 = _ from ((hk_neq (by decide)).trans ((hk_neq (by decide)).trans ((hk_neq (by decide)).trans q_fa)))) (by omega) (by omega)
                · refine qm_Ru.go 2 (c' := (74, [.ref 118, .int lo, .int hi, .int v8], [.int hi], (h.1, qm_up (qm_up (qm_up h.2.1 118 15 5) 118 16 v62) 118 11 v67, h.2.2.1, h.2.2.2))) rfl ?_
                  refine qm_Ru.rt (v := (some (.int hi))) (h' := (h.1, qm_up (qm_up (qm_up h.2.1 118 15 5) 118 16 v62) 118 11 v67, h.2.2.1, h.2.2.2)) rfl ?_
                  exact k (qm_up (qm_up (qm_up h.2.1 118 15 5) 118 16 v62) 118 11 v67) (h.2.2.1) hi v67 fa (hb_up (o := 118) (k := 11) (x := v67) (hb_up (o := 118) (k := 16) (x := v62) (hb_up (o := 118) (k := 15) (x := 5) hB (qa_in_full _)) (qa_in_full _)) ⟨by show (0 : Int) ≤ v67.toInt; omega, by show v67.toInt ≤ (400 : Int); omega⟩) (fun o ho i => ((hk_mod ho rfl).trans ((hk_mod ho rfl).trans ((hk_mod ho rfl).trans rfl)))) (fun i hi => ((hk_neq (fun z => by subst z; cases hi)).trans ((hk_neq (fun z => by subst z; cases hi)).trans ((hk_neq (fun z => by subst z; cases hi)).trans rfl)))) (show (qm_up (qm_up (qm_up h.2.1 118 15 5) 118 16 v62) 118 11 v67) 118 11 = _ from (hk_same)) (show (qm_up (qm_up (qm_up h.2.1 118 15 5) 118 16 v62) 118 11 v67) 118 13 = _ from ((hk_neq (by decide)).trans ((hk_neq (by decide)).trans ((hk_neq (by decide)).trans q_fa)))) (by omega) (by omega)
              · refine qm_Ru.go 2 (c' := (74, [.ref 118, .int lo, .int hi, .int v8], [.int lo], (h.1, qm_up (qm_up (qm_up h.2.1 118 15 5) 118 16 v62) 118 11 v67, h.2.2.1, h.2.2.2))) rfl ?_
                refine qm_Ru.rt (v := (some (.int lo))) (h' := (h.1, qm_up (qm_up (qm_up h.2.1 118 15 5) 118 16 v62) 118 11 v67, h.2.2.1, h.2.2.2)) rfl ?_
                exact k (qm_up (qm_up (qm_up h.2.1 118 15 5) 118 16 v62) 118 11 v67) (h.2.2.1) lo v67 fa (hb_up (o := 118) (k := 11) (x := v67) (hb_up (o := 118) (k := 16) (x := v62) (hb_up (o := 118) (k := 15) (x := 5) hB (qa_in_full _)) (qa_in_full _)) ⟨by show (0 : Int) ≤ v67.toInt; omega, by show v67.toInt ≤ (400 : Int); omega⟩) (fun o ho i => ((hk_mod ho rfl).trans ((hk_mod ho rfl).trans ((hk_mod ho rfl).trans rfl)))) (fun i hi => ((hk_neq (fun z => by subst z; cases hi)).trans ((hk_neq (fun z => by subst z; cases hi)).trans ((hk_neq (fun z => by subst z; cases hi)).trans rfl)))) (show (qm_up (qm_up (qm_up h.2.1 118 15 5) 118 16 v62) 118 11 v67) 118 11 = _ from (hk_same)) (show (qm_up (qm_up (qm_up h.2.1 118 15 5) 118 16 v62) 118 11 v67) 118 13 = _ from ((hk_neq (by decide)).trans ((hk_neq (by decide)).trans ((hk_neq (by decide)).trans q_fa)))) (by omega) (by omega)
            · refine qm_Ru.go 2 (c' := (12, [.ref 118], [.int 2, .ref 118], (h.1, qm_up (qm_up h.2.1 118 15 5) 118 16 v62, h.2.2.1, h.2.2.2))) rfl ?_
              refine hk_inv (o := 118) (r := []) (as := [.ref 118, .int 2]) rfl rfl (hH.1 118 (17, 105) rfl) rfl rfl rfl rfl ?_
              refine qm_Ru.go 1 (c' := (1, [.ref 118, .int 2], [.ref 118], (h.1, qm_up (qm_up h.2.1 118 15 5) 118 16 v62, h.2.2.1, h.2.2.2))) rfl ?_
              refine hk_geti (v := fa) rfl (hH.1 118 (17, 105) rfl) rfl (show (qm_up (qm_up h.2.1 118 15 5) 118 16 v62) 118 13 = _ from ((hk_neq (by decide)).trans ((hk_neq (by decide)).trans q_fa))) ?_
              refine qm_Ru.go 0 (c' := (4, [.ref 118, .int 2], [.int fa], (h.1, qm_up (qm_up h.2.1 118 15 5) 118 16 v62, h.2.2.1, h.2.2.2))) rfl ?_
              refine hk_zle (ix := fa.toInt) rfl rfl (fun z70 => ?_) (fun z70 => by exfalso; omega)
              refine qm_Ru.go 2 (c' := (10, [.ref 118, .int 2], [.int 2, .ref 118], (h.1, qm_up (qm_up h.2.1 118 15 5) 118 16 v62, h.2.2.1, h.2.2.2))) rfl ?_
              refine hk_puti rfl (hH.1 118 (17, 105) rfl) rfl ?_
              refine qm_Ru.go 2 (c' := (15, [.ref 118, .int 2], [.ref 118, .ref 118], (h.1, qm_up (qm_up (qm_up h.2.1 118 15 5) 118 16 v62) 118 13 2, h.2.2.1, h.2.2.2))) rfl ?_
              refine hk_getr rfl (hH.1 118 (17, 105) rfl) rfl (hH.2 118 6 (some 122) rfl) ?_
              refine qm_Ru.go 1 (c' := (19, [.ref 118, .int 2], [.ref 118, .ref 122, .ref 118], (h.1, qm_up (qm_up (qm_up h.2.1 118 15 5) 118 16 v62) 118 13 2, h.2.2.1, h.2.2.2))) rfl ?_
              refine hk_geti (v := ta) rfl (hH.1 118 (17, 105) rfl) rfl (show (qm_up (qm_up (qm_up h.2.1 118 15 5) 118 16 v62) 118 13 2) 118 11 = _ from ((hk_neq (by decide)).trans ((hk_neq (by decide)).trans ((hk_neq (by decide)).trans q_ta)))) ?_
              refine qm_Ru.go 0 (c' := (22, [.ref 118, .int 2], [.int ta, .ref 122, .ref 118], (h.1, qm_up (qm_up (qm_up h.2.1 118 15 5) 118 16 v62) 118 13 2, h.2.2.1, h.2.2.2))) rfl ?_
              refine hk_ial (v := v62) rfl (hH.1 122 (0, 403) rfl) (by omega) (by omega) (show (qm_up (qm_up (qm_up h.2.1 118 15 5) 118 16 v62) 118 13 2) 122 (ta.toInt.toNat) = _ from ((hk_ot rfl).trans ((hk_ot rfl).trans ((hk_ot rfl).trans q_v62)))) ?_
              refine qm_Ru.go 0 (c' := (23, [.ref 118, .int 2], [.int v62, .ref 118], (h.1, qm_up (qm_up (qm_up h.2.1 118 15 5) 118 16 v62) 118 13 2, h.2.2.1, h.2.2.2))) rfl ?_
              refine hk_puti rfl (hH.1 118 (17, 105) rfl) rfl ?_
              refine qm_Ru.go 0 (c' := (26, [.ref 118, .int 2], [], (h.1, qm_up (qm_up (qm_up (qm_up h.2.1 118 15 5) 118 16 v62) 118 13 2) 118 14 v62, h.2.2.1, h.2.2.2))) rfl ?_
              refine qm_Ru.rt (v := none) (h' := (h.1, qm_up (qm_up (qm_up (qm_up h.2.1 118 15 5) 118 16 v62) 118 13 2) 118 14 v62, h.2.2.1, h.2.2.2)) rfl ?_
              refine qm_Ru.go 1 (c' := (28, [.ref 118], [], (h.1, qm_up (qm_up (qm_up (qm_up h.2.1 118 15 5) 118 16 v62) 118 13 2) 118 14 v62, h.2.2.1, h.2.2.2))) rfl ?_
              refine qm_Ru.rt (v := none) (h' := (h.1, qm_up (qm_up (qm_up (qm_up h.2.1 118 15 5) 118 16 v62) 118 13 2) 118 14 v62, h.2.2.1, h.2.2.2)) rfl ?_
              refine qm_Ru.go 2 (c' := (57, [.ref 118, .int lo, .int hi, .int v8], [.int lo, .int v8], (h.1, qm_up (qm_up (qm_up (qm_up h.2.1 118 15 5) 118 16 v62) 118 13 2) 118 14 v62, h.2.2.1, h.2.2.2))) rfl ?_
              refine hk_cge (ix := v8.toInt) (iy := lo.toInt) rfl rfl rfl (fun z71 => ?_) (fun z71 => ?_)
              · refine qm_Ru.go 2 (c' := (66, [.ref 118, .int lo, .int hi, .int v8], [.int hi, .int v8], (h.1, qm_up (qm_up (qm_up (qm_up h.2.1 118 15 5) 118 16 v62) 118 13 2) 118 14 v62, h.2.2.1, h.2.2.2))) rfl ?_
                refine hk_cle (ix := v8.toInt) (iy := hi.toInt) rfl rfl rfl (fun z72 => ?_) (fun z72 => ?_)
                · refine qm_Ru.go 1 (c' := (74, [.ref 118, .int lo, .int hi, .int v8], [.int v8], (h.1, qm_up (qm_up (qm_up (qm_up h.2.1 118 15 5) 118 16 v62) 118 13 2) 118 14 v62, h.2.2.1, h.2.2.2))) rfl ?_
                  refine qm_Ru.rt (v := (some (.int v8))) (h' := (h.1, qm_up (qm_up (qm_up (qm_up h.2.1 118 15 5) 118 16 v62) 118 13 2) 118 14 v62, h.2.2.1, h.2.2.2)) rfl ?_
                  exact k (qm_up (qm_up (qm_up (qm_up h.2.1 118 15 5) 118 16 v62) 118 13 2) 118 14 v62) (h.2.2.1) v8 ta 2 (hb_up (o := 118) (k := 14) (x := v62) (hb_up (o := 118) (k := 13) (x := 2) (hb_up (o := 118) (k := 16) (x := v62) (hb_up (o := 118) (k := 15) (x := 5) hB (qa_in_full _)) (qa_in_full _)) (qa_in_full _)) (qa_in_full _)) (fun o ho i => ((hk_mod ho rfl).trans ((hk_mod ho rfl).trans ((hk_mod ho rfl).trans ((hk_mod ho rfl).trans rfl))))) (fun i hi => ((hk_neq (fun z => by subst z; cases hi)).trans ((hk_neq (fun z => by subst z; cases hi)).trans ((hk_neq (fun z => by subst z; cases hi)).trans ((hk_neq (fun z => by subst z; cases hi)).trans rfl))))) (show (qm_up (qm_up (qm_up (qm_up h.2.1 118 15 5) 118 16 v62) 118 13 2) 118 14 v62) 118 11 = _ from ((hk_neq (by decide)).trans ((hk_neq (by decide)).trans ((hk_neq (by decide)).trans ((hk_neq (by decide)).trans q_ta))))) (show (qm_up (qm_up (qm_up (qm_up h.2.1 118 15 5) 118 16 v62) 118 13 2) 118 14 v62) 118 13 = _ from ((hk_neq (by decide)).trans (hk_same))) (by omega) (by omega)
                · refine qm_Ru.go 2 (c' := (74, [.ref 118, .int lo, .int hi, .int v8], [.int hi], (h.1, qm_up (qm_up (qm_up (qm_up h.2.1 118 15 5) 118 16 v62) 118 13 2) 118 14 v62, h.2.2.1, h.2.2.2))) rfl ?_
                  refine qm_Ru.rt (v := (some (.int hi))) (h' := (h.1, qm_up (qm_up (qm_up (qm_up h.2.1 118 15 5) 118 16 v62) 118 13 2) 118 14 v62, h.2.2.1, h.2.2.2)) rfl ?_
                  exact k (qm_up (qm_up (qm_up (qm_up h.2.1 118 15 5) 118 16 v62) 118 13 2) 118 14 v62) (h.2.2.1) hi ta 2 (hb_up (o := 118) (k := 14) (x := v62) (hb_up (o := 118) (k := 13) (x := 2) (hb_up (o := 118) (k := 16) (x := v62) (hb_up (o := 118) (k := 15) (x := 5) hB (qa_in_full _)) (qa_in_full _)) (qa_in_full _)) (qa_in_full _)) (fun o ho i => ((hk_mod ho rfl).trans ((hk_mod ho rfl).trans ((hk_mod ho rfl).trans ((hk_mod ho rfl).trans rfl))))) (fun i hi => ((hk_neq (fun z => by subst z; cases hi)).trans ((hk_neq (fun z => by subst z; cases hi)).trans ((hk_neq (fun z => by subst z; cases hi)).trans ((hk_neq (fun z => by subst z; cases hi)).trans rfl))))) (show (qm_up (qm_up (qm_up (qm_up h.2.1 118 15 5) 118 16 v62) 118 13 2) 118 14 v62) 118 11 = _ from ((hk_neq (by decide)).trans ((hk_neq (by decide)).trans ((hk_neq (by decide)).trans ((hk_neq (by decide)).trans q_ta))))) (show (qm_up (qm_up (qm_up (qm_up h.2.1 118 15 5) 118 16 v62) 118 13 2) 118 14 v62) 118 13 = _ from ((hk_neq (by decide)).trans (hk_same))) (by omega) (by omega)
              · refine qm_Ru.go 2 (c' := (74, [.ref 118, .int lo, .int hi, .int v8], [.int lo], (h.1, qm_up (qm_up (qm_up (qm_up h.2.1 118 15 5) 118 16 v62) 118 13 2) 118 14 v62, h.2.2.1, h.2.2.2))) rfl ?_
                refine qm_Ru.rt (v := (some (.int lo))) (h' := (h.1, qm_up (qm_up (qm_up (qm_up h.2.1 118 15 5) 118 16 v62) 118 13 2) 118 14 v62, h.2.2.1, h.2.2.2)) rfl ?_
                exact k (qm_up (qm_up (qm_up (qm_up h.2.1 118 15 5) 118 16 v62) 118 13 2) 118 14 v62) (h.2.2.1) lo ta 2 (hb_up (o := 118) (k := 14) (x := v62) (hb_up (o := 118) (k := 13) (x := 2) (hb_up (o := 118) (k := 16) (x := v62) (hb_up (o := 118) (k := 15) (x := 5) hB (qa_in_full _)) (qa_in_full _)) (qa_in_full _)) (qa_in_full _)) (fun o ho i => ((hk_mod ho rfl).trans ((hk_mod ho rfl).trans ((hk_mod ho rfl).trans ((hk_mod ho rfl).trans rfl))))) (fun i hi => ((hk_neq (fun z => by subst z; cases hi)).trans ((hk_neq (fun z => by subst z; cases hi)).trans ((hk_neq (fun z => by subst z; cases hi)).trans ((hk_neq (fun z => by subst z; cases hi)).trans rfl))))) (show (qm_up (qm_up (qm_up (qm_up h.2.1 118 15 5) 118 16 v62) 118 13 2) 118 14 v62) 118 11 = _ from ((hk_neq (by decide)).trans ((hk_neq (by decide)).trans ((hk_neq (by decide)).trans ((hk_neq (by decide)).trans q_ta))))) (show (qm_up (qm_up (qm_up (qm_up h.2.1 118 15 5) 118 16 v62) 118 13 2) 118 14 v62) 118 13 = _ from ((hk_neq (by decide)).trans (hk_same))) (by omega) (by omega)
          · refine qm_Ru.go 2 (c' := (23, [.ref 118, .int 5, .int ta, .int v62], [.ref 118, .int v62], h)) rfl ?_
            obtain ⟨v73, q_v73⟩ : ∃ v, h.2.1 118 16 = v := ⟨_, rfl⟩
            refine hk_geti (v := v73) rfl (hH.1 118 (17, 105) rfl) rfl q_v73 ?_
            refine qm_Ru.go 0 (c' := (26, [.ref 118, .int 5, .int ta, .int v62], [.int v73, .int v62], h)) rfl ?_
            refine hk_cgt (ix := v62.toInt) (iy := v73.toInt) rfl rfl rfl (fun z74 => ?_) (fun z74 => ?_)
            · refine qm_Ru.go 0 (c' := (45, [.ref 118, .int 5, .int ta, .int v62], [], h)) rfl ?_
              refine qm_Ru.rt (v := none) (h' := h) rfl ?_
              refine qm_Ru.go 1 (c' := (52, [.ref 118, .int lo, .int hi, .int v8], [.ref 118], h)) rfl ?_
              refine hk_inv (o := 118) (r := []) (as := [.ref 118]) rfl rfl (hH.1 118 (17, 105) rfl) rfl rfl rfl rfl ?_
              refine qm_Ru.go 1 (c' := (1, [.ref 118], [.ref 118], h)) rfl ?_
              refine hk_geti (v := ta) rfl (hH.1 118 (17, 105) rfl) rfl q_ta ?_
              refine qm_Ru.go 1 (c' := (7, [.ref 118], [.int 400, .int ta], h)) rfl ?_
              refine hk_cne (ix := ta.toInt) (iy := 400) rfl rfl rfl (fun z75 => ?_) (fun z75 => ?_)
              · refine qm_Ru.go 2 (c' := (20, [.ref 118], [.ref 118, .ref 118], h)) rfl ?_
                refine hk_geti (v := ta) rfl (hH.1 118 (17, 105) rfl) rfl q_ta ?_
                refine qm_Ru.go 2 (c' := (25, [.ref 118], [.int (ta + 1), .ref 118], h)) rfl ?_
                obtain ⟨v76, q_v76, e_v76⟩ := hk_add (x := ta) (y := 1) (a := ta.toInt) (b := 1) rfl rfl (by omega) (by omega)
                rw [q_v76]
                refine hk_puti rfl (hH.1 118 (17, 105) rfl) rfl ?_
                refine qm_Ru.go 0 (c' := (28, [.ref 118], [], (h.1, qm_up h.2.1 118 11 v76, h.2.2.1, h.2.2.2))) rfl ?_
                refine qm_Ru.rt (v := none) (h' := (h.1, qm_up h.2.1 118 11 v76, h.2.2.1, h.2.2.2)) rfl ?_
                refine qm_Ru.go 2 (c' := (57, [.ref 118, .int lo, .int hi, .int v8], [.int lo, .int v8], (h.1, qm_up h.2.1 118 11 v76, h.2.2.1, h.2.2.2))) rfl ?_
                refine hk_cge (ix := v8.toInt) (iy := lo.toInt) rfl rfl rfl (fun z77 => ?_) (fun z77 => ?_)
                · refine qm_Ru.go 2 (c' := (66, [.ref 118, .int lo, .int hi, .int v8], [.int hi, .int v8], (h.1, qm_up h.2.1 118 11 v76, h.2.2.1, h.2.2.2))) rfl ?_
                  refine hk_cle (ix := v8.toInt) (iy := hi.toInt) rfl rfl rfl (fun z78 => ?_) (fun z78 => ?_)
                  · refine qm_Ru.go 1 (c' := (74, [.ref 118, .int lo, .int hi, .int v8], [.int v8], (h.1, qm_up h.2.1 118 11 v76, h.2.2.1, h.2.2.2))) rfl ?_
                    refine qm_Ru.rt (v := (some (.int v8))) (h' := (h.1, qm_up h.2.1 118 11 v76, h.2.2.1, h.2.2.2)) rfl ?_
                    exact k (qm_up h.2.1 118 11 v76) (h.2.2.1) v8 v76 fa (hb_up (o := 118) (k := 11) (x := v76) hB ⟨by show (0 : Int) ≤ v76.toInt; omega, by show v76.toInt ≤ (400 : Int); omega⟩) (fun o ho i => ((hk_mod ho rfl).trans rfl)) (fun i hi => ((hk_neq (fun z => by subst z; cases hi)).trans rfl)) (show (qm_up h.2.1 118 11 v76) 118 11 = _ from (hk_same)) (show (qm_up h.2.1 118 11 v76) 118 13 = _ from ((hk_neq (by decide)).trans q_fa)) (by omega) (by omega)
                  · refine qm_Ru.go 2 (c' := (74, [.ref 118, .int lo, .int hi, .int v8], [.int hi], (h.1, qm_up h.2.1 118 11 v76, h.2.2.1, h.2.2.2))) rfl ?_
                    refine qm_Ru.rt (v := (some (.int hi))) (h' := (h.1, qm_up h.2.1 118 11 v76, h.2.2.1, h.2.2.2)) rfl ?_
                    exact k (qm_up h.2.1 118 11 v76) (h.2.2.1) hi v76 fa (hb_up (o := 118) (k := 11) (x := v76) hB ⟨by show (0 : Int) ≤ v76.toInt; omega, by show v76.toInt ≤ (400 : Int); omega⟩) (fun o ho i => ((hk_mod ho rfl).trans rfl)) (fun i hi => ((hk_neq (fun z => by subst z; cases hi)).trans rfl)) (show (qm_up h.2.1 118 11 v76) 118 11 = _ from (hk_same)) (show (qm_up h.2.1 118 11 v76) 118 13 = _ from ((hk_neq (by decide)).trans q_fa)) (by omega) (by omega)
                · refine qm_Ru.go 2 (c' := (74, [.ref 118, .int lo, .int hi, .int v8], [.int lo], (h.1, qm_up h.2.1 118 11 v76, h.2.2.1, h.2.2.2))) rfl ?_
                  refine qm_Ru.rt (v := (some (.int lo))) (h' := (h.1, qm_up h.2.1 118 11 v76, h.2.2.1, h.2.2.2)) rfl ?_
                  exact k (qm_up h.2.1 118 11 v76) (h.2.2.1) lo v76 fa (hb_up (o := 118) (k := 11) (x := v76) hB ⟨by show (0 : Int) ≤ v76.toInt; omega, by show v76.toInt ≤ (400 : Int); omega⟩) (fun o ho i => ((hk_mod ho rfl).trans rfl)) (fun i hi => ((hk_neq (fun z => by subst z; cases hi)).trans rfl)) (show (qm_up h.2.1 118 11 v76) 118 11 = _ from (hk_same)) (show (qm_up h.2.1 118 11 v76) 118 13 = _ from ((hk_neq (by decide)).trans q_fa)) (by omega) (by omega)
              · refine qm_Ru.go 2 (c' := (12, [.ref 118], [.int 2, .ref 118], h)) rfl ?_
                refine hk_inv (o := 118) (r := []) (as := [.ref 118, .int 2]) rfl rfl (hH.1 118 (17, 105) rfl) rfl rfl rfl rfl ?_
                refine qm_Ru.go 1 (c' := (1, [.ref 118, .int 2], [.ref 118], h)) rfl ?_
                refine hk_geti (v := fa) rfl (hH.1 118 (17, 105) rfl) rfl q_fa ?_
                refine qm_Ru.go 0 (c' := (4, [.ref 118, .int 2], [.int fa], h)) rfl ?_
                refine hk_zle (ix := fa.toInt) rfl rfl (fun z79 => ?_) (fun z79 => by exfalso; omega)
                refine qm_Ru.go 2 (c' := (10, [.ref 118, .int 2], [.int 2, .ref 118], h)) rfl ?_
                refine hk_puti rfl (hH.1 118 (17, 105) rfl) rfl ?_
                refine qm_Ru.go 2 (c' := (15, [.ref 118, .int 2], [.ref 118, .ref 118], (h.1, qm_up h.2.1 118 13 2, h.2.2.1, h.2.2.2))) rfl ?_
                refine hk_getr rfl (hH.1 118 (17, 105) rfl) rfl (hH.2 118 6 (some 122) rfl) ?_
                refine qm_Ru.go 1 (c' := (19, [.ref 118, .int 2], [.ref 118, .ref 122, .ref 118], (h.1, qm_up h.2.1 118 13 2, h.2.2.1, h.2.2.2))) rfl ?_
                refine hk_geti (v := ta) rfl (hH.1 118 (17, 105) rfl) rfl (show (qm_up h.2.1 118 13 2) 118 11 = _ from ((hk_neq (by decide)).trans q_ta)) ?_
                refine qm_Ru.go 0 (c' := (22, [.ref 118, .int 2], [.int ta, .ref 122, .ref 118], (h.1, qm_up h.2.1 118 13 2, h.2.2.1, h.2.2.2))) rfl ?_
                refine hk_ial (v := v62) rfl (hH.1 122 (0, 403) rfl) (by omega) (by omega) (show (qm_up h.2.1 118 13 2) 122 (ta.toInt.toNat) = _ from ((hk_ot rfl).trans q_v62)) ?_
                refine qm_Ru.go 0 (c' := (23, [.ref 118, .int 2], [.int v62, .ref 118], (h.1, qm_up h.2.1 118 13 2, h.2.2.1, h.2.2.2))) rfl ?_
                refine hk_puti rfl (hH.1 118 (17, 105) rfl) rfl ?_
                refine qm_Ru.go 0 (c' := (26, [.ref 118, .int 2], [], (h.1, qm_up (qm_up h.2.1 118 13 2) 118 14 v62, h.2.2.1, h.2.2.2))) rfl ?_
                refine qm_Ru.rt (v := none) (h' := (h.1, qm_up (qm_up h.2.1 118 13 2) 118 14 v62, h.2.2.1, h.2.2.2)) rfl ?_
                refine qm_Ru.go 1 (c' := (28, [.ref 118], [], (h.1, qm_up (qm_up h.2.1 118 13 2) 118 14 v62, h.2.2.1, h.2.2.2))) rfl ?_
                refine qm_Ru.rt (v := none) (h' := (h.1, qm_up (qm_up h.2.1 118 13 2) 118 14 v62, h.2.2.1, h.2.2.2)) rfl ?_
                refine qm_Ru.go 2 (c' := (57, [.ref 118, .int lo, .int hi, .int v8], [.int lo, .int v8], (h.1, qm_up (qm_up h.2.1 118 13 2) 118 14 v62, h.2.2.1, h.2.2.2))) rfl ?_
                refine hk_cge (ix := v8.toInt) (iy := lo.toInt) rfl rfl rfl (fun z80 => ?_) (fun z80 => ?_)
                · refine qm_Ru.go 2 (c' := (66, [.ref 118, .int lo, .int hi, .int v8], [.int hi, .int v8], (h.1, qm_up (qm_up h.2.1 118 13 2) 118 14 v62, h.2.2.1, h.2.2.2))) rfl ?_
                  refine hk_cle (ix := v8.toInt) (iy := hi.toInt) rfl rfl rfl (fun z81 => ?_) (fun z81 => ?_)
                  · refine qm_Ru.go 1 (c' := (74, [.ref 118, .int lo, .int hi, .int v8], [.int v8], (h.1, qm_up (qm_up h.2.1 118 13 2) 118 14 v62, h.2.2.1, h.2.2.2))) rfl ?_
                    refine qm_Ru.rt (v := (some (.int v8))) (h' := (h.1, qm_up (qm_up h.2.1 118 13 2) 118 14 v62, h.2.2.1, h.2.2.2)) rfl ?_
                    exact k (qm_up (qm_up h.2.1 118 13 2) 118 14 v62) (h.2.2.1) v8 ta 2 (hb_up (o := 118) (k := 14) (x := v62) (hb_up (o := 118) (k := 13) (x := 2) hB (qa_in_full _)) (qa_in_full _)) (fun o ho i => ((hk_mod ho rfl).trans ((hk_mod ho rfl).trans rfl))) (fun i hi => ((hk_neq (fun z => by subst z; cases hi)).trans ((hk_neq (fun z => by subst z; cases hi)).trans rfl))) (show (qm_up (qm_up h.2.1 118 13 2) 118 14 v62) 118 11 = _ from ((hk_neq (by decide)).trans ((hk_neq (by decide)).trans q_ta))) (show (qm_up (qm_up h.2.1 118 13 2) 118 14 v62) 118 13 = _ from ((hk_neq (by decide)).trans (hk_same))) (by omega) (by omega)
                  · refine qm_Ru.go 2 (c' := (74, [.ref 118, .int lo, .int hi, .int v8], [.int hi], (h.1, qm_up (qm_up h.2.1 118 13 2) 118 14 v62, h.2.2.1, h.2.2.2))) rfl ?_
                    refine qm_Ru.rt (v := (some (.int hi))) (h' := (h.1, qm_up (qm_up h.2.1 118 13 2) 118 14 v62, h.2.2.1, h.2.2.2)) rfl ?_
                    exact k (qm_up (qm_up h.2.1 118 13 2) 118 14 v62) (h.2.2.1) hi ta 2 (hb_up (o := 118) (k := 14) (x := v62) (hb_up (o := 118) (k := 13) (x := 2) hB (qa_in_full _)) (qa_in_full _)) (fun o ho i => ((hk_mod ho rfl).trans ((hk_mod ho rfl).trans rfl))) (fun i hi => ((hk_neq (fun z => by subst z; cases hi)).trans ((hk_neq (fun z => by subst z; cases hi)).trans rfl))) (show (qm_up (qm_up h.2.1 118 13 2) 118 14 v62) 118 11 = _ from ((hk_neq (by decide)).trans ((hk_neq (by decide)).trans q_ta))) (show (qm_up (qm_up h.2.1 118 13 2) 118 14 v62) 118 13 = _ from ((hk_neq (by decide)).trans (hk_same))) (by omega) (by omega)
                · refine qm_Ru.go 2 (c' := (74, [.ref 118, .int lo, .int hi, .int v8], [.int lo], (h.1, qm_up (qm_up h.2.1 118 13 2) 118 14 v62, h.2.2.1, h.2.2.2))) rfl ?_
                  refine qm_Ru.rt (v := (some (.int lo))) (h' := (h.1, qm_up (qm_up h.2.1 118 13 2) 118 14 v62, h.2.2.1, h.2.2.2)) rfl ?_
                  exact k (qm_up (qm_up h.2.1 118 13 2) 118 14 v62) (h.2.2.1) lo ta 2 (hb_up (o := 118) (k := 14) (x := v62) (hb_up (o := 118) (k := 13) (x := 2) hB (qa_in_full _)) (qa_in_full _)) (fun o ho i => ((hk_mod ho rfl).trans ((hk_mod ho rfl).trans rfl))) (fun i hi => ((hk_neq (fun z => by subst z; cases hi)).trans ((hk_neq (fun z => by subst z; cases hi)).trans rfl))) (show (qm_up (qm_up h.2.1 118 13 2) 118 14 v62) 118 11 = _ from ((hk_neq (by decide)).trans ((hk_neq (by decide)).trans q_ta))) (show (qm_up (qm_up h.2.1 118 13 2) 118 14 v62) 118 13 = _ from ((hk_neq (by decide)).trans (hk_same))) (by omega) (by omega)
            · refine qm_Ru.go 2 (c' := (31, [.ref 118, .int 5, .int ta, .int v62], [.ref 118, .int v62], h)) rfl ?_
              refine hk_geti (v := v73) rfl (hH.1 118 (17, 105) rfl) rfl q_v73 ?_
              refine qm_Ru.go 0 (c' := (34, [.ref 118, .int 5, .int ta, .int v62], [.int v73, .int v62], h)) rfl ?_
              refine hk_cne (ix := v62.toInt) (iy := v73.toInt) rfl rfl rfl (fun z82 => ?_) (fun z82 => ?_)
              · refine qm_Ru.go 2 (c' := (48, [.ref 118, .int 5, .int ta, .int v62], [.int 5, .ref 118], h)) rfl ?_
                refine hk_puti rfl (hH.1 118 (17, 105) rfl) rfl ?_
                refine qm_Ru.go 2 (c' := (53, [.ref 118, .int 5, .int ta, .int v62], [.int v62, .ref 118], (h.1, qm_up h.2.1 118 15 5, h.2.2.1, h.2.2.2))) rfl ?_
                refine hk_puti rfl (hH.1 118 (17, 105) rfl) rfl ?_
                refine qm_Ru.go 0 (c' := (56, [.ref 118, .int 5, .int ta, .int v62], [], (h.1, qm_up (qm_up h.2.1 118 15 5) 118 16 v62, h.2.2.1, h.2.2.2))) rfl ?_
                refine qm_Ru.rt (v := none) (h' := (h.1, qm_up (qm_up h.2.1 118 15 5) 118 16 v62, h.2.2.1, h.2.2.2)) rfl ?_
                refine qm_Ru.go 1 (c' := (52, [.ref 118, .int lo, .int hi, .int v8], [.ref 118], (h.1, qm_up (qm_up h.2.1 118 15 5) 118 16 v62, h.2.2.1, h.2.2.2))) rfl ?_
                refine hk_inv (o := 118) (r := []) (as := [.ref 118]) rfl rfl (hH.1 118 (17, 105) rfl) rfl rfl rfl rfl ?_
                refine qm_Ru.go 1 (c' := (1, [.ref 118], [.ref 118], (h.1, qm_up (qm_up h.2.1 118 15 5) 118 16 v62, h.2.2.1, h.2.2.2))) rfl ?_
                refine hk_geti (v := ta) rfl (hH.1 118 (17, 105) rfl) rfl (show (qm_up (qm_up h.2.1 118 15 5) 118 16 v62) 118 11 = _ from ((hk_neq (by decide)).trans ((hk_neq (by decide)).trans q_ta))) ?_
                refine qm_Ru.go 1 (c' := (7, [.ref 118], [.int 400, .int ta], (h.1, qm_up (qm_up h.2.1 118 15 5) 118 16 v62, h.2.2.1, h.2.2.2))) rfl ?_
                refine hk_cne (ix := ta.toInt) (iy := 400) rfl rfl rfl (fun z83 => ?_) (fun z83 => ?_)
                · refine qm_Ru.go 2 (c' := (20, [.ref 118], [.ref 118, .ref 118], (h.1, qm_up (qm_up h.2.1 118 15 5) 118 16 v62, h.2.2.1, h.2.2.2))) rfl ?_
                  refine hk_geti (v := ta) rfl (hH.1 118 (17, 105) rfl) rfl (show (qm_up (qm_up h.2.1 118 15 5) 118 16 v62) 118 11 = _ from ((hk_neq (by decide)).trans ((hk_neq (by decide)).trans q_ta))) ?_
                  refine qm_Ru.go 2 (c' := (25, [.ref 118], [.int (ta + 1), .ref 118], (h.1, qm_up (qm_up h.2.1 118 15 5) 118 16 v62, h.2.2.1, h.2.2.2))) rfl ?_
                  obtain ⟨v84, q_v84, e_v84⟩ := hk_add (x := ta) (y := 1) (a := ta.toInt) (b := 1) rfl rfl (by omega) (by omega)
                  rw [q_v84]
                  refine hk_puti rfl (hH.1 118 (17, 105) rfl) rfl ?_
                  refine qm_Ru.go 0 (c' := (28, [.ref 118], [], (h.1, qm_up (qm_up (qm_up h.2.1 118 15 5) 118 16 v62) 118 11 v84, h.2.2.1, h.2.2.2))) rfl ?_
                  refine qm_Ru.rt (v := none) (h' := (h.1, qm_up (qm_up (qm_up h.2.1 118 15 5) 118 16 v62) 118 11 v84, h.2.2.1, h.2.2.2)) rfl ?_
                  refine qm_Ru.go 2 (c' := (57, [.ref 118, .int lo, .int hi, .int v8], [.int lo, .int v8], (h.1, qm_up (qm_up (qm_up h.2.1 118 15 5) 118 16 v62) 118 11 v84, h.2.2.1, h.2.2.2))) rfl ?_
                  refine hk_cge (ix := v8.toInt) (iy := lo.toInt) rfl rfl rfl (fun z85 => ?_) (fun z85 => ?_)
                  · refine qm_Ru.go 2 (c' := (66, [.ref 118, .int lo, .int hi, .int v8], [.int hi, .int v8], (h.1, qm_up (qm_up (qm_up h.2.1 118 15 5) 118 16 v62) 118 11 v84, h.2.2.1, h.2.2.2))) rfl ?_
                    refine hk_cle (ix := v8.toInt) (iy := hi.toInt) rfl rfl rfl (fun z86 => ?_) (fun z86 => ?_)
                    · refine qm_Ru.go 1 (c' := (74, [.ref 118, .int lo, .int hi, .int v8], [.int v8], (h.1, qm_up (qm_up (qm_up h.2.1 118 15 5) 118 16 v62) 118 11 v84, h.2.2.1, h.2.2.2))) rfl ?_
                      refine qm_Ru.rt (v := (some (.int v8))) (h' := (h.1, qm_up (qm_up (qm_up h.2.1 118 15 5) 118 16 v62) 118 11 v84, h.2.2.1, h.2.2.2)) rfl ?_
                      exact k (qm_up (qm_up (qm_up h.2.1 118 15 5) 118 16 v62) 118 11 v84) (h.2.2.1) v8 v84 fa (hb_up (o := 118) (k := 11) (x := v84) (hb_up (o := 118) (k := 16) (x := v62) (hb_up (o := 118) (k := 15) (x := 5) hB (qa_in_full _)) (qa_in_full _)) ⟨by show (0 : Int) ≤ v84.toInt; omega, by show v84.toInt ≤ (400 : Int); omega⟩) (fun o ho i => ((hk_mod ho rfl).trans ((hk_mod ho rfl).trans ((hk_mod ho rfl).trans rfl)))) (fun i hi => ((hk_neq (fun z => by subst z; cases hi)).trans ((hk_neq (fun z => by subst z; cases hi)).trans ((hk_neq (fun z => by subst z; cases hi)).trans rfl)))) (show (qm_up (qm_up (qm_up h.2.1 118 15 5) 118 16 v62) 118 11 v84) 118 11 = _ from (hk_same)) (show (qm_up (qm_up (qm_up h.2.1 118 15 5) 118 16 v62) 118 11 v84) 118 13 = _ from ((hk_neq (by decide)).trans ((hk_neq (by decide)).trans ((hk_neq (by decide)).trans q_fa)))) (by omega) (by omega)
                    · refine qm_Ru.go 2 (c' := (74, [.ref 118, .int lo, .int hi, .int v8], [.int hi], (h.1, qm_up (qm_up (qm_up h.2.1 118 15 5) 118 16 v62) 118 11 v84, h.2.2.1, h.2.2.2))) rfl ?_
                      refine qm_Ru.rt (v := (some (.int hi))) (h' := (h.1, qm_up (qm_up (qm_up h.2.1 118 15 5) 118 16 v62) 118 11 v84, h.2.2.1, h.2.2.2)) rfl ?_
                      exact k (qm_up (qm_up (qm_up h.2.1 118 15 5) 118 16 v62) 118 11 v84) (h.2.2.1) hi v84 fa (hb_up (o := 118) (k := 11) (x := v84) (hb_up (o := 118) (k := 16) (x := v62) (hb_up (o := 118) (k := 15) (x := 5) hB (qa_in_full _)) (qa_in_full _)) ⟨by show (0 : Int) ≤ v84.toInt; omega, by show v84.toInt ≤ (400 : Int); omega⟩) (fun o ho i => ((hk_mod ho rfl).trans ((hk_mod ho rfl).trans ((hk_mod ho rfl).trans rfl)))) (fun i hi => ((hk_neq (fun z => by subst z; cases hi)).trans ((hk_neq (fun z => by subst z; cases hi)).trans ((hk_neq (fun z => by subst z; cases hi)).trans rfl)))) (show (qm_up (qm_up (qm_up h.2.1 118 15 5) 118 16 v62) 118 11 v84) 118 11 = _ from (hk_same)) (show (qm_up (qm_up (qm_up h.2.1 118 15 5) 118 16 v62) 118 11 v84) 118 13 = _ from ((hk_neq (by decide)).trans ((hk_neq (by decide)).trans ((hk_neq (by decide)).trans q_fa)))) (by omega) (by omega)
                  · refine qm_Ru.go 2 (c' := (74, [.ref 118, .int lo, .int hi, .int v8], [.int lo], (h.1, qm_up (qm_up (qm_up h.2.1 118 15 5) 118 16 v62) 118 11 v84, h.2.2.1, h.2.2.2))) rfl ?_
                    refine qm_Ru.rt (v := (some (.int lo))) (h' := (h.1, qm_up (qm_up (qm_up h.2.1 118 15 5) 118 16 v62) 118 11 v84, h.2.2.1, h.2.2.2)) rfl ?_
                    exact k (qm_up (qm_up (qm_up h.2.1 118 15 5) 118 16 v62) 118 11 v84) (h.2.2.1) lo v84 fa (hb_up (o := 118) (k := 11) (x := v84) (hb_up (o := 118) (k := 16) (x := v62) (hb_up (o := 118) (k := 15) (x := 5) hB (qa_in_full _)) (qa_in_full _)) ⟨by show (0 : Int) ≤ v84.toInt; omega, by show v84.toInt ≤ (400 : Int); omega⟩) (fun o ho i => ((hk_mod ho rfl).trans ((hk_mod ho rfl).trans ((hk_mod ho rfl).trans rfl)))) (fun i hi => ((hk_neq (fun z => by subst z; cases hi)).trans ((hk_neq (fun z => by subst z; cases hi)).trans ((hk_neq (fun z => by subst z; cases hi)).trans rfl)))) (show (qm_up (qm_up (qm_up h.2.1 118 15 5) 118 16 v62) 118 11 v84) 118 11 = _ from (hk_same)) (show (qm_up (qm_up (qm_up h.2.1 118 15 5) 118 16 v62) 118 11 v84) 118 13 = _ from ((hk_neq (by decide)).trans ((hk_neq (by decide)).trans ((hk_neq (by decide)).trans q_fa)))) (by omega) (by omega)
                · refine qm_Ru.go 2 (c' := (12, [.ref 118], [.int 2, .ref 118], (h.1, qm_up (qm_up h.2.1 118 15 5) 118 16 v62, h.2.2.1, h.2.2.2))) rfl ?_
                  refine hk_inv (o := 118) (r := []) (as := [.ref 118, .int 2]) rfl rfl (hH.1 118 (17, 105) rfl) rfl rfl rfl rfl ?_
                  refine qm_Ru.go 1 (c' := (1, [.ref 118, .int 2], [.ref 118], (h.1, qm_up (qm_up h.2.1 118 15 5) 118 16 v62, h.2.2.1, h.2.2.2))) rfl ?_
                  refine hk_geti (v := fa) rfl (hH.1 118 (17, 105) rfl) rfl (show (qm_up (qm_up h.2.1 118 15 5) 118 16 v62) 118 13 = _ from ((hk_neq (by decide)).trans ((hk_neq (by decide)).trans q_fa))) ?_
                  refine qm_Ru.go 0 (c' := (4, [.ref 118, .int 2], [.int fa], (h.1, qm_up (qm_up h.2.1 118 15 5) 118 16 v62, h.2.2.1, h.2.2.2))) rfl ?_
                  refine hk_zle (ix := fa.toInt) rfl rfl (fun z87 => ?_) (fun z87 => by exfalso; omega)
                  refine qm_Ru.go 2 (c' := (10, [.ref 118, .int 2], [.int 2, .ref 118], (h.1, qm_up (qm_up h.2.1 118 15 5) 118 16 v62, h.2.2.1, h.2.2.2))) rfl ?_
                  refine hk_puti rfl (hH.1 118 (17, 105) rfl) rfl ?_
                  refine qm_Ru.go 2 (c' := (15, [.ref 118, .int 2], [.ref 118, .ref 118], (h.1, qm_up (qm_up (qm_up h.2.1 118 15 5) 118 16 v62) 118 13 2, h.2.2.1, h.2.2.2))) rfl ?_
                  refine hk_getr rfl (hH.1 118 (17, 105) rfl) rfl (hH.2 118 6 (some 122) rfl) ?_
                  refine qm_Ru.go 1 (c' := (19, [.ref 118, .int 2], [.ref 118, .ref 122, .ref 118], (h.1, qm_up (qm_up (qm_up h.2.1 118 15 5) 118 16 v62) 118 13 2, h.2.2.1, h.2.2.2))) rfl ?_
                  refine hk_geti (v := ta) rfl (hH.1 118 (17, 105) rfl) rfl (show (qm_up (qm_up (qm_up h.2.1 118 15 5) 118 16 v62) 118 13 2) 118 11 = _ from ((hk_neq (by decide)).trans ((hk_neq (by decide)).trans ((hk_neq (by decide)).trans q_ta)))) ?_
                  refine qm_Ru.go 0 (c' := (22, [.ref 118, .int 2], [.int ta, .ref 122, .ref 118], (h.1, qm_up (qm_up (qm_up h.2.1 118 15 5) 118 16 v62) 118 13 2, h.2.2.1, h.2.2.2))) rfl ?_
                  refine hk_ial (v := v62) rfl (hH.1 122 (0, 403) rfl) (by omega) (by omega) (show (qm_up (qm_up (qm_up h.2.1 118 15 5) 118 16 v62) 118 13 2) 122 (ta.toInt.toNat) = _ from ((hk_ot rfl).trans ((hk_ot rfl).trans ((hk_ot rfl).trans q_v62)))) ?_
                  refine qm_Ru.go 0 (c' := (23, [.ref 118, .int 2], [.int v62, .ref 118], (h.1, qm_up (qm_up (qm_up h.2.1 118 15 5) 118 16 v62) 118 13 2, h.2.2.1, h.2.2.2))) rfl ?_
                  refine hk_puti rfl (hH.1 118 (17, 105) rfl) rfl ?_
                  refine qm_Ru.go 0 (c' := (26, [.ref 118, .int 2], [], (h.1, qm_up (qm_up (qm_up (qm_up h.2.1 118 15 5) 118 16 v62) 118 13 2) 118 14 v62, h.2.2.1, h.2.2.2))) rfl ?_
                  refine qm_Ru.rt (v := none) (h' := (h.1, qm_up (qm_up (qm_up (qm_up h.2.1 118 15 5) 118 16 v62) 118 13 2) 118 14 v62, h.2.2.1, h.2.2.2)) rfl ?_
                  refine qm_Ru.go 1 (c' := (28, [.ref 118], [], (h.1, qm_up (qm_up (qm_up (qm_up h.2.1 118 15 5) 118 16 v62) 118 13 2) 118 14 v62, h.2.2.1, h.2.2.2))) rfl ?_
                  refine qm_Ru.rt (v := none) (h' := (h.1, qm_up (qm_up (qm_up (qm_up h.2.1 118 15 5) 118 16 v62) 118 13 2) 118 14 v62, h.2.2.1, h.2.2.2)) rfl ?_
                  refine qm_Ru.go 2 (c' := (57, [.ref 118, .int lo, .int hi, .int v8], [.int lo, .int v8], (h.1, qm_up (qm_up (qm_up (qm_up h.2.1 118 15 5) 118 16 v62) 118 13 2) 118 14 v62, h.2.2.1, h.2.2.2))) rfl ?_
                  refine hk_cge (ix := v8.toInt) (iy := lo.toInt) rfl rfl rfl (fun z88 => ?_) (fun z88 => ?_)
                  · refine qm_Ru.go 2 (c' := (66, [.ref 118, .int lo, .int hi, .int v8], [.int hi, .int v8], (h.1, qm_up (qm_up (qm_up (qm_up h.2.1 118 15 5) 118 16 v62) 118 13 2) 118 14 v62, h.2.2.1, h.2.2.2))) rfl ?_
                    refine hk_cle (ix := v8.toInt) (iy := hi.toInt) rfl rfl rfl (fun z89 => ?_) (fun z89 => ?_)
                    · refine qm_Ru.go 1 (c' := (74, [.ref 118, .int lo, .int hi, .int v8], [.int v8], (h.1, qm_up (qm_up (qm_up (qm_up h.2.1 118 15 5) 118 16 v62) 118 13 2) 118 14 v62, h.2.2.1, h.2.2.2))) rfl ?_
                      refine qm_Ru.rt (v := (some (.int v8))) (h' := (h.1, qm_up (qm_up (qm_up (qm_up h.2.1 118 15 5) 118 16 v62) 118 13 2) 118 14 v62, h.2.2.1, h.2.2.2)) rfl ?_
                      exact k (qm_up (qm_up (qm_up (qm_up h.2.1 118 15 5) 118 16 v62) 118 13 2) 118 14 v62) (h.2.2.1) v8 ta 2 (hb_up (o := 118) (k := 14) (x := v62) (hb_up (o := 118) (k := 13) (x := 2) (hb_up (o := 118) (k := 16) (x := v62) (hb_up (o := 118) (k := 15) (x := 5) hB (qa_in_full _)) (qa_in_full _)) (qa_in_full _)) (qa_in_full _)) (fun o ho i => ((hk_mod ho rfl).trans ((hk_mod ho rfl).trans ((hk_mod ho rfl).trans ((hk_mod ho rfl).trans rfl))))) (fun i hi => ((hk_neq (fun z => by subst z; cases hi)).trans ((hk_neq (fun z => by subst z; cases hi)).trans ((hk_neq (fun z => by subst z; cases hi)).trans ((hk_neq (fun z => by subst z; cases hi)).trans rfl))))) (show (qm_up (qm_up (qm_up (qm_up h.2.1 118 15 5) 118 16 v62) 118 13 2) 118 14 v62) 118 11 = _ from ((hk_neq (by decide)).trans ((hk_neq (by decide)).trans ((hk_neq (by decide)).trans ((hk_neq (by decide)).trans q_ta))))) (show (qm_up (qm_up (qm_up (qm_up h.2.1 118 15 5) 118 16 v62) 118 13 2) 118 14 v62) 118 13 = _ from ((hk_neq (by decide)).trans (hk_same))) (by omega) (by omega)
                    · refine qm_Ru.go 2 (c' := (74, [.ref 118, .int lo, .int hi, .int v8], [.int hi], (h.1, qm_up (qm_up (qm_up (qm_up h.2.1 118 15 5) 118 16 v62) 118 13 2) 118 14 v62, h.2.2.1, h.2.2.2))) rfl ?_
                      refine qm_Ru.rt (v := (some (.int hi))) (h' := (h.1, qm_up (qm_up (qm_up (qm_up h.2.1 118 15 5) 118 16 v62) 118 13 2) 118 14 v62, h.2.2.1, h.2.2.2)) rfl ?_
                      exact k (qm_up (qm_up (qm_up (qm_up h.2.1 118 15 5) 118 16 v62) 118 13 2) 118 14 v62) (h.2.2.1) hi ta 2 (hb_up (o := 118) (k := 14) (x := v62) (hb_up (o := 118) (k := 13) (x := 2) (hb_up (o := 118) (k := 16) (x := v62) (hb_up (o := 118) (k := 15) (x := 5) hB (qa_in_full _)) (qa_in_full _)) (qa_in_full _)) (qa_in_full _)) (fun o ho i => ((hk_mod ho rfl).trans ((hk_mod ho rfl).trans ((hk_mod ho rfl).trans ((hk_mod ho rfl).trans rfl))))) (fun i hi => ((hk_neq (fun z => by subst z; cases hi)).trans ((hk_neq (fun z => by subst z; cases hi)).trans ((hk_neq (fun z => by subst z; cases hi)).trans ((hk_neq (fun z => by subst z; cases hi)).trans rfl))))) (show (qm_up (qm_up (qm_up (qm_up h.2.1 118 15 5) 118 16 v62) 118 13 2) 118 14 v62) 118 11 = _ from ((hk_neq (by decide)).trans ((hk_neq (by decide)).trans ((hk_neq (by decide)).trans ((hk_neq (by decide)).trans q_ta))))) (show (qm_up (qm_up (qm_up (qm_up h.2.1 118 15 5) 118 16 v62) 118 13 2) 118 14 v62) 118 13 = _ from ((hk_neq (by decide)).trans (hk_same))) (by omega) (by omega)
                  · refine qm_Ru.go 2 (c' := (74, [.ref 118, .int lo, .int hi, .int v8], [.int lo], (h.1, qm_up (qm_up (qm_up (qm_up h.2.1 118 15 5) 118 16 v62) 118 13 2) 118 14 v62, h.2.2.1, h.2.2.2))) rfl ?_
                    refine qm_Ru.rt (v := (some (.int lo))) (h' := (h.1, qm_up (qm_up (qm_up (qm_up h.2.1 118 15 5) 118 16 v62) 118 13 2) 118 14 v62, h.2.2.1, h.2.2.2)) rfl ?_
                    exact k (qm_up (qm_up (qm_up (qm_up h.2.1 118 15 5) 118 16 v62) 118 13 2) 118 14 v62) (h.2.2.1) lo ta 2 (hb_up (o := 118) (k := 14) (x := v62) (hb_up (o := 118) (k := 13) (x := 2) (hb_up (o := 118) (k := 16) (x := v62) (hb_up (o := 118) (k := 15) (x := 5) hB (qa_in_full _)) (qa_in_full _)) (qa_in_full _)) (qa_in_full _)) (fun o ho i => ((hk_mod ho rfl).trans ((hk_mod ho rfl).trans ((hk_mod ho rfl).trans ((hk_mod ho rfl).trans rfl))))) (fun i hi => ((hk_neq (fun z => by subst z; cases hi)).trans ((hk_neq (fun z => by subst z; cases hi)).trans ((hk_neq (fun z => by subst z; cases hi)).trans ((hk_neq (fun z => by subst z; cases hi)).trans rfl))))) (show (qm_up (qm_up (qm_up (qm_up h.2.1 118 15 5) 118 16 v62) 118 13 2) 118 14 v62) 118 11 = _ from ((hk_neq (by decide)).trans ((hk_neq (by decide)).trans ((hk_neq (by decide)).trans ((hk_neq (by decide)).trans q_ta))))) (show (qm_up (qm_up (qm_up (qm_up h.2.1 118 15 5) 118 16 v62) 118 13 2) 118 14 v62) 118 13 = _ from ((hk_neq (by decide)).trans (hk_same))) (by omega) (by omega)
              · refine qm_Ru.go 2 (c' := (39, [.ref 118, .int 5, .int ta, .int v62], [.ref 118, .int 5], h)) rfl ?_
                refine hk_geti (v := v64) rfl (hH.1 118 (17, 105) rfl) rfl q_v64 ?_
                refine qm_Ru.go 0 (c' := (42, [.ref 118, .int 5, .int ta, .int v62], [.int v64, .int 5], h)) rfl ?_
                refine hk_clt (ix := 5) (iy := v64.toInt) rfl rfl rfl (fun z90 => ?_) (fun z90 => ?_)
                · refine qm_Ru.go 2 (c' := (48, [.ref 118, .int 5, .int ta, .int v62], [.int 5, .ref 118], h)) rfl ?_
                  refine hk_puti rfl (hH.1 118 (17, 105) rfl) rfl ?_
                  refine qm_Ru.go 2 (c' := (53, [.ref 118, .int 5, .int ta, .int v62], [.int v62, .ref 118], (h.1, qm_up h.2.1 118 15 5, h.2.2.1, h.2.2.2))) rfl ?_
                  refine hk_puti rfl (hH.1 118 (17, 105) rfl) rfl ?_
                  refine qm_Ru.go 0 (c' := (56, [.ref 118, .int 5, .int ta, .int v62], [], (h.1, qm_up (qm_up h.2.1 118 15 5) 118 16 v62, h.2.2.1, h.2.2.2))) rfl ?_
                  refine qm_Ru.rt (v := none) (h' := (h.1, qm_up (qm_up h.2.1 118 15 5) 118 16 v62, h.2.2.1, h.2.2.2)) rfl ?_
                  refine qm_Ru.go 1 (c' := (52, [.ref 118, .int lo, .int hi, .int v8], [.ref 118], (h.1, qm_up (qm_up h.2.1 118 15 5) 118 16 v62, h.2.2.1, h.2.2.2))) rfl ?_
                  refine hk_inv (o := 118) (r := []) (as := [.ref 118]) rfl rfl (hH.1 118 (17, 105) rfl) rfl rfl rfl rfl ?_
                  refine qm_Ru.go 1 (c' := (1, [.ref 118], [.ref 118], (h.1, qm_up (qm_up h.2.1 118 15 5) 118 16 v62, h.2.2.1, h.2.2.2))) rfl ?_
                  refine hk_geti (v := ta) rfl (hH.1 118 (17, 105) rfl) rfl (show (qm_up (qm_up h.2.1 118 15 5) 118 16 v62) 118 11 = _ from ((hk_neq (by decide)).trans ((hk_neq (by decide)).trans q_ta))) ?_
                  refine qm_Ru.go 1 (c' := (7, [.ref 118], [.int 400, .int ta], (h.1, qm_up (qm_up h.2.1 118 15 5) 118 16 v62, h.2.2.1, h.2.2.2))) rfl ?_
                  refine hk_cne (ix := ta.toInt) (iy := 400) rfl rfl rfl (fun z91 => ?_) (fun z91 => ?_)
                  · refine qm_Ru.go 2 (c' := (20, [.ref 118], [.ref 118, .ref 118], (h.1, qm_up (qm_up h.2.1 118 15 5) 118 16 v62, h.2.2.1, h.2.2.2))) rfl ?_
                    refine hk_geti (v := ta) rfl (hH.1 118 (17, 105) rfl) rfl (show (qm_up (qm_up h.2.1 118 15 5) 118 16 v62) 118 11 = _ from ((hk_neq (by decide)).trans ((hk_neq (by decide)).trans q_ta))) ?_
                    refine qm_Ru.go 2 (c' := (25, [.ref 118], [.int (ta + 1), .ref 118], (h.1, qm_up (qm_up h.2.1 118 15 5) 118 16 v62, h.2.2.1, h.2.2.2))) rfl ?_
                    obtain ⟨v92, q_v92, e_v92⟩ := hk_add (x := ta) (y := 1) (a := ta.toInt) (b := 1) rfl rfl (by omega) (by omega)
                    rw [q_v92]
                    refine hk_puti rfl (hH.1 118 (17, 105) rfl) rfl ?_
                    refine qm_Ru.go 0 (c' := (28, [.ref 118], [], (h.1, qm_up (qm_up (qm_up h.2.1 118 15 5) 118 16 v62) 118 11 v92, h.2.2.1, h.2.2.2))) rfl ?_
                    refine qm_Ru.rt (v := none) (h' := (h.1, qm_up (qm_up (qm_up h.2.1 118 15 5) 118 16 v62) 118 11 v92, h.2.2.1, h.2.2.2)) rfl ?_
                    refine qm_Ru.go 2 (c' := (57, [.ref 118, .int lo, .int hi, .int v8], [.int lo, .int v8], (h.1, qm_up (qm_up (qm_up h.2.1 118 15 5) 118 16 v62) 118 11 v92, h.2.2.1, h.2.2.2))) rfl ?_
                    refine hk_cge (ix := v8.toInt) (iy := lo.toInt) rfl rfl rfl (fun z93 => ?_) (fun z93 => ?_)
                    · refine qm_Ru.go 2 (c' := (66, [.ref 118, .int lo, .int hi, .int v8], [.int hi, .int v8], (h.1, qm_up (qm_up (qm_up h.2.1 118 15 5) 118 16 v62) 118 11 v92, h.2.2.1, h.2.2.2))) rfl ?_
                      refine hk_cle (ix := v8.toInt) (iy := hi.toInt) rfl rfl rfl (fun z94 => ?_) (fun z94 => ?_)
                      · refine qm_Ru.go 1 (c' := (74, [.ref 118, .int lo, .int hi, .int v8], [.int v8], (h.1, qm_up (qm_up (qm_up h.2.1 118 15 5) 118 16 v62) 118 11 v92, h.2.2.1, h.2.2.2))) rfl ?_
                        refine qm_Ru.rt (v := (some (.int v8))) (h' := (h.1, qm_up (qm_up (qm_up h.2.1 118 15 5) 118 16 v62) 118 11 v92, h.2.2.1, h.2.2.2)) rfl ?_
                        exact k (qm_up (qm_up (qm_up h.2.1 118 15 5) 118 16 v62) 118 11 v92) (h.2.2.1) v8 v92 fa (hb_up (o := 118) (k := 11) (x := v92) (hb_up (o := 118) (k := 16) (x := v62) (hb_up (o := 118) (k := 15) (x := 5) hB (qa_in_full _)) (qa_in_full _)) ⟨by show (0 : Int) ≤ v92.toInt; omega, by show v92.toInt ≤ (400 : Int); omega⟩) (fun o ho i => ((hk_mod ho rfl).trans ((hk_mod ho rfl).trans ((hk_mod ho rfl).trans rfl)))) (fun i hi => ((hk_neq (fun z => by subst z; cases hi)).trans ((hk_neq (fun z => by subst z; cases hi)).trans ((hk_neq (fun z => by subst z; cases hi)).trans rfl)))) (show (qm_up (qm_up (qm_up h.2.1 118 15 5) 118 16 v62) 118 11 v92) 118 11 = _ from (hk_same)) (show (qm_up (qm_up (qm_up h.2.1 118 15 5) 118 16 v62) 118 11 v92) 118 13 = _ from ((hk_neq (by decide)).trans ((hk_neq (by decide)).trans ((hk_neq (by decide)).trans q_fa)))) (by omega) (by omega)
                      · refine qm_Ru.go 2 (c' := (74, [.ref 118, .int lo, .int hi, .int v8], [.int hi], (h.1, qm_up (qm_up (qm_up h.2.1 118 15 5) 118 16 v62) 118 11 v92, h.2.2.1, h.2.2.2))) rfl ?_
                        refine qm_Ru.rt (v := (some (.int hi))) (h' := (h.1, qm_up (qm_up (qm_up h.2.1 118 15 5) 118 16 v62) 118 11 v92, h.2.2.1, h.2.2.2)) rfl ?_
                        exact k (qm_up (qm_up (qm_up h.2.1 118 15 5) 118 16 v62) 118 11 v92) (h.2.2.1) hi v92 fa (hb_up (o := 118) (k := 11) (x := v92) (hb_up (o := 118) (k := 16) (x := v62) (hb_up (o := 118) (k := 15) (x := 5) hB (qa_in_full _)) (qa_in_full _)) ⟨by show (0 : Int) ≤ v92.toInt; omega, by show v92.toInt ≤ (400 : Int); omega⟩) (fun o ho i => ((hk_mod ho rfl).trans ((hk_mod ho rfl).trans ((hk_mod ho rfl).trans rfl)))) (fun i hi => ((hk_neq (fun z => by subst z; cases hi)).trans ((hk_neq (fun z => by subst z; cases hi)).trans ((hk_neq (fun z => by subst z; cases hi)).trans rfl)))) (show (qm_up (qm_up (qm_up h.2.1 118 15 5) 118 16 v62) 118 11 v92) 118 11 = _ from (hk_same)) (show (qm_up (qm_up (qm_up h.2.1 118 15 5) 118 16 v62) 118 11 v92) 118 13 = _ from ((hk_neq (by decide)).trans ((hk_neq (by decide)).trans ((hk_neq (by decide)).trans q_fa)))) (by omega) (by omega)
                    · refine qm_Ru.go 2 (c' := (74, [.ref 118, .int lo, .int hi, .int v8], [.int lo], (h.1, qm_up (qm_up (qm_up h.2.1 118 15 5) 118 16 v62) 118 11 v92, h.2.2.1, h.2.2.2))) rfl ?_
                      refine qm_Ru.rt (v := (some (.int lo))) (h' := (h.1, qm_up (qm_up (qm_up h.2.1 118 15 5) 118 16 v62) 118 11 v92, h.2.2.1, h.2.2.2)) rfl ?_
                      exact k (qm_up (qm_up (qm_up h.2.1 118 15 5) 118 16 v62) 118 11 v92) (h.2.2.1) lo v92 fa (hb_up (o := 118) (k := 11) (x := v92) (hb_up (o := 118) (k := 16) (x := v62) (hb_up (o := 118) (k := 15) (x := 5) hB (qa_in_full _)) (qa_in_full _)) ⟨by show (0 : Int) ≤ v92.toInt; omega, by show v92.toInt ≤ (400 : Int); omega⟩) (fun o ho i => ((hk_mod ho rfl).trans ((hk_mod ho rfl).trans ((hk_mod ho rfl).trans rfl)))) (fun i hi => ((hk_neq (fun z => by subst z; cases hi)).trans ((hk_neq (fun z => by subst z; cases hi)).trans ((hk_neq (fun z => by subst z; cases hi)).trans rfl)))) (show (qm_up (qm_up (qm_up h.2.1 118 15 5) 118 16 v62) 118 11 v92) 118 11 = _ from (hk_same)) (show (qm_up (qm_up (qm_up h.2.1 118 15 5) 118 16 v62) 118 11 v92) 118 13 = _ from ((hk_neq (by decide)).trans ((hk_neq (by decide)).trans ((hk_neq (by decide)).trans q_fa)))) (by omega) (by omega)
                  · refine qm_Ru.go 2 (c' := (12, [.ref 118], [.int 2, .ref 118], (h.1, qm_up (qm_up h.2.1 118 15 5) 118 16 v62, h.2.2.1, h.2.2.2))) rfl ?_
                    refine hk_inv (o := 118) (r := []) (as := [.ref 118, .int 2]) rfl rfl (hH.1 118 (17, 105) rfl) rfl rfl rfl rfl ?_
                    refine qm_Ru.go 1 (c' := (1, [.ref 118, .int 2], [.ref 118], (h.1, qm_up (qm_up h.2.1 118 15 5) 118 16 v62, h.2.2.1, h.2.2.2))) rfl ?_
                    refine hk_geti (v := fa) rfl (hH.1 118 (17, 105) rfl) rfl (show (qm_up (qm_up h.2.1 118 15 5) 118 16 v62) 118 13 = _ from ((hk_neq (by decide)).trans ((hk_neq (by decide)).trans q_fa))) ?_
                    refine qm_Ru.go 0 (c' := (4, [.ref 118, .int 2], [.int fa], (h.1, qm_up (qm_up h.2.1 118 15 5) 118 16 v62, h.2.2.1, h.2.2.2))) rfl ?_
                    refine hk_zle (ix := fa.toInt) rfl rfl (fun z95 => ?_) (fun z95 => by exfalso; omega)
                    refine qm_Ru.go 2 (c' := (10, [.ref 118, .int 2], [.int 2, .ref 118], (h.1, qm_up (qm_up h.2.1 118 15 5) 118 16 v62, h.2.2.1, h.2.2.2))) rfl ?_
                    refine hk_puti rfl (hH.1 118 (17, 105) rfl) rfl ?_
                    refine qm_Ru.go 2 (c' := (15, [.ref 118, .int 2], [.ref 118, .ref 118], (h.1, qm_up (qm_up (qm_up h.2.1 118 15 5) 118 16 v62) 118 13 2, h.2.2.1, h.2.2.2))) rfl ?_
                    refine hk_getr rfl (hH.1 118 (17, 105) rfl) rfl (hH.2 118 6 (some 122) rfl) ?_
                    refine qm_Ru.go 1 (c' := (19, [.ref 118, .int 2], [.ref 118, .ref 122, .ref 118], (h.1, qm_up (qm_up (qm_up h.2.1 118 15 5) 118 16 v62) 118 13 2, h.2.2.1, h.2.2.2))) rfl ?_
                    refine hk_geti (v := ta) rfl (hH.1 118 (17, 105) rfl) rfl (show (qm_up (qm_up (qm_up h.2.1 118 15 5) 118 16 v62) 118 13 2) 118 11 = _ from ((hk_neq (by decide)).trans ((hk_neq (by decide)).trans ((hk_neq (by decide)).trans q_ta)))) ?_
                    refine qm_Ru.go 0 (c' := (22, [.ref 118, .int 2], [.int ta, .ref 122, .ref 118], (h.1, qm_up (qm_up (qm_up h.2.1 118 15 5) 118 16 v62) 118 13 2, h.2.2.1, h.2.2.2))) rfl ?_
                    refine hk_ial (v := v62) rfl (hH.1 122 (0, 403) rfl) (by omega) (by omega) (show (qm_up (qm_up (qm_up h.2.1 118 15 5) 118 16 v62) 118 13 2) 122 (ta.toInt.toNat) = _ from ((hk_ot rfl).trans ((hk_ot rfl).trans ((hk_ot rfl).trans q_v62)))) ?_
                    refine qm_Ru.go 0 (c' := (23, [.ref 118, .int 2], [.int v62, .ref 118], (h.1, qm_up (qm_up (qm_up h.2.1 118 15 5) 118 16 v62) 118 13 2, h.2.2.1, h.2.2.2))) rfl ?_
                    refine hk_puti rfl (hH.1 118 (17, 105) rfl) rfl ?_
                    refine qm_Ru.go 0 (c' := (26, [.ref 118, .int 2], [], (h.1, qm_up (qm_up (qm_up (qm_up h.2.1 118 15 5) 118 16 v62) 118 13 2) 118 14 v62, h.2.2.1, h.2.2.2))) rfl ?_
                    refine qm_Ru.rt (v := none) (h' := (h.1, qm_up (qm_up (qm_up (qm_up h.2.1 118 15 5) 118 16 v62) 118 13 2) 118 14 v62, h.2.2.1, h.2.2.2)) rfl ?_
                    refine qm_Ru.go 1 (c' := (28, [.ref 118], [], (h.1, qm_up (qm_up (qm_up (qm_up h.2.1 118 15 5) 118 16 v62) 118 13 2) 118 14 v62, h.2.2.1, h.2.2.2))) rfl ?_
                    refine qm_Ru.rt (v := none) (h' := (h.1, qm_up (qm_up (qm_up (qm_up h.2.1 118 15 5) 118 16 v62) 118 13 2) 118 14 v62, h.2.2.1, h.2.2.2)) rfl ?_
                    refine qm_Ru.go 2 (c' := (57, [.ref 118, .int lo, .int hi, .int v8], [.int lo, .int v8], (h.1, qm_up (qm_up (qm_up (qm_up h.2.1 118 15 5) 118 16 v62) 118 13 2) 118 14 v62, h.2.2.1, h.2.2.2))) rfl ?_
                    refine hk_cge (ix := v8.toInt) (iy := lo.toInt) rfl rfl rfl (fun z96 => ?_) (fun z96 => ?_)
                    · refine qm_Ru.go 2 (c' := (66, [.ref 118, .int lo, .int hi, .int v8], [.int hi, .int v8], (h.1, qm_up (qm_up (qm_up (qm_up h.2.1 118 15 5) 118 16 v62) 118 13 2) 118 14 v62, h.2.2.1, h.2.2.2))) rfl ?_
                      refine hk_cle (ix := v8.toInt) (iy := hi.toInt) rfl rfl rfl (fun z97 => ?_) (fun z97 => ?_)
                      · refine qm_Ru.go 1 (c' := (74, [.ref 118, .int lo, .int hi, .int v8], [.int v8], (h.1, qm_up (qm_up (qm_up (qm_up h.2.1 118 15 5) 118 16 v62) 118 13 2) 118 14 v62, h.2.2.1, h.2.2.2))) rfl ?_
                        refine qm_Ru.rt (v := (some (.int v8))) (h' := (h.1, qm_up (qm_up (qm_up (qm_up h.2.1 118 15 5) 118 16 v62) 118 13 2) 118 14 v62, h.2.2.1, h.2.2.2)) rfl ?_
                        exact k (qm_up (qm_up (qm_up (qm_up h.2.1 118 15 5) 118 16 v62) 118 13 2) 118 14 v62) (h.2.2.1) v8 ta 2 (hb_up (o := 118) (k := 14) (x := v62) (hb_up (o := 118) (k := 13) (x := 2) (hb_up (o := 118) (k := 16) (x := v62) (hb_up (o := 118) (k := 15) (x := 5) hB (qa_in_full _)) (qa_in_full _)) (qa_in_full _)) (qa_in_full _)) (fun o ho i => ((hk_mod ho rfl).trans ((hk_mod ho rfl).trans ((hk_mod ho rfl).trans ((hk_mod ho rfl).trans rfl))))) (fun i hi => ((hk_neq (fun z => by subst z; cases hi)).trans ((hk_neq (fun z => by subst z; cases hi)).trans ((hk_neq (fun z => by subst z; cases hi)).trans ((hk_neq (fun z => by subst z; cases hi)).trans rfl))))) (show (qm_up (qm_up (qm_up (qm_up h.2.1 118 15 5) 118 16 v62) 118 13 2) 118 14 v62) 118 11 = _ from ((hk_neq (by decide)).trans ((hk_neq (by decide)).trans ((hk_neq (by decide)).trans ((hk_neq (by decide)).trans q_ta))))) (show (qm_up (qm_up (qm_up (qm_up h.2.1 118 15 5) 118 16 v62) 118 13 2) 118 14 v62) 118 13 = _ from ((hk_neq (by decide)).trans (hk_same))) (by omega) (by omega)
                      · refine qm_Ru.go 2 (c' := (74, [.ref 118, .int lo, .int hi, .int v8], [.int hi], (h.1, qm_up (qm_up (qm_up (qm_up h.2.1 118 15 5) 118 16 v62) 118 13 2) 118 14 v62, h.2.2.1, h.2.2.2))) rfl ?_
                        refine qm_Ru.rt (v := (some (.int hi))) (h' := (h.1, qm_up (qm_up (qm_up (qm_up h.2.1 118 15 5) 118 16 v62) 118 13 2) 118 14 v62, h.2.2.1, h.2.2.2)) rfl ?_
                        exact k (qm_up (qm_up (qm_up (qm_up h.2.1 118 15 5) 118 16 v62) 118 13 2) 118 14 v62) (h.2.2.1) hi ta 2 (hb_up (o := 118) (k := 14) (x := v62) (hb_up (o := 118) (k := 13) (x := 2) (hb_up (o := 118) (k := 16) (x := v62) (hb_up (o := 118) (k := 15) (x := 5) hB (qa_in_full _)) (qa_in_full _)) (qa_in_full _)) (qa_in_full _)) (fun o ho i => ((hk_mod ho rfl).trans ((hk_mod ho rfl).trans ((hk_mod ho rfl).trans ((hk_mod ho rfl).trans rfl))))) (fun i hi => ((hk_neq (fun z => by subst z; cases hi)).trans ((hk_neq (fun z => by subst z; cases hi)).trans ((hk_neq (fun z => by subst z; cases hi)).trans ((hk_neq (fun z => by subst z; cases hi)).trans rfl))))) (show (qm_up (qm_up (qm_up (qm_up h.2.1 118 15 5) 118 16 v62) 118 13 2) 118 14 v62) 118 11 = _ from ((hk_neq (by decide)).trans ((hk_neq (by decide)).trans ((hk_neq (by decide)).trans ((hk_neq (by decide)).trans q_ta))))) (show (qm_up (qm_up (qm_up (qm_up h.2.1 118 15 5) 118 16 v62) 118 13 2) 118 14 v62) 118 13 = _ from ((hk_neq (by decide)).trans (hk_same))) (by omega) (by omega)
                    · refine qm_Ru.go 2 (c' := (74, [.ref 118, .int lo, .int hi, .int v8], [.int lo], (h.1, qm_up (qm_up (qm_up (qm_up h.2.1 118 15 5) 118 16 v62) 118 13 2) 118 14 v62, h.2.2.1, h.2.2.2))) rfl ?_
                      refine qm_Ru.rt (v := (some (.int lo))) (h' := (h.1, qm_up (qm_up (qm_up (qm_up h.2.1 118 15 5) 118 16 v62) 118 13 2) 118 14 v62, h.2.2.1, h.2.2.2)) rfl ?_
                      exact k (qm_up (qm_up (qm_up (qm_up h.2.1 118 15 5) 118 16 v62) 118 13 2) 118 14 v62) (h.2.2.1) lo ta 2 (hb_up (o := 118) (k := 14) (x := v62) (hb_up (o := 118) (k := 13) (x := 2) (hb_up (o := 118) (k := 16) (x := v62) (hb_up (o := 118) (k := 15) (x := 5) hB (qa_in_full _)) (qa_in_full _)) (qa_in_full _)) (qa_in_full _)) (fun o ho i => ((hk_mod ho rfl).trans ((hk_mod ho rfl).trans ((hk_mod ho rfl).trans ((hk_mod ho rfl).trans rfl))))) (fun i hi => ((hk_neq (fun z => by subst z; cases hi)).trans ((hk_neq (fun z => by subst z; cases hi)).trans ((hk_neq (fun z => by subst z; cases hi)).trans ((hk_neq (fun z => by subst z; cases hi)).trans rfl))))) (show (qm_up (qm_up (qm_up (qm_up h.2.1 118 15 5) 118 16 v62) 118 13 2) 118 14 v62) 118 11 = _ from ((hk_neq (by decide)).trans ((hk_neq (by decide)).trans ((hk_neq (by decide)).trans ((hk_neq (by decide)).trans q_ta))))) (show (qm_up (qm_up (qm_up (qm_up h.2.1 118 15 5) 118 16 v62) 118 13 2) 118 14 v62) 118 13 = _ from ((hk_neq (by decide)).trans (hk_same))) (by omega) (by omega)
                · refine qm_Ru.go 0 (c' := (45, [.ref 118, .int 5, .int ta, .int v62], [], h)) rfl ?_
                  refine qm_Ru.rt (v := none) (h' := h) rfl ?_
                  refine qm_Ru.go 1 (c' := (52, [.ref 118, .int lo, .int hi, .int v8], [.ref 118], h)) rfl ?_
                  refine hk_inv (o := 118) (r := []) (as := [.ref 118]) rfl rfl (hH.1 118 (17, 105) rfl) rfl rfl rfl rfl ?_
                  refine qm_Ru.go 1 (c' := (1, [.ref 118], [.ref 118], h)) rfl ?_
                  refine hk_geti (v := ta) rfl (hH.1 118 (17, 105) rfl) rfl q_ta ?_
                  refine qm_Ru.go 1 (c' := (7, [.ref 118], [.int 400, .int ta], h)) rfl ?_
                  refine hk_cne (ix := ta.toInt) (iy := 400) rfl rfl rfl (fun z98 => ?_) (fun z98 => ?_)
                  · refine qm_Ru.go 2 (c' := (20, [.ref 118], [.ref 118, .ref 118], h)) rfl ?_
                    refine hk_geti (v := ta) rfl (hH.1 118 (17, 105) rfl) rfl q_ta ?_
                    refine qm_Ru.go 2 (c' := (25, [.ref 118], [.int (ta + 1), .ref 118], h)) rfl ?_
                    obtain ⟨v99, q_v99, e_v99⟩ := hk_add (x := ta) (y := 1) (a := ta.toInt) (b := 1) rfl rfl (by omega) (by omega)
                    rw [q_v99]
                    refine hk_puti rfl (hH.1 118 (17, 105) rfl) rfl ?_
                    refine qm_Ru.go 0 (c' := (28, [.ref 118], [], (h.1, qm_up h.2.1 118 11 v99, h.2.2.1, h.2.2.2))) rfl ?_
                    refine qm_Ru.rt (v := none) (h' := (h.1, qm_up h.2.1 118 11 v99, h.2.2.1, h.2.2.2)) rfl ?_
                    refine qm_Ru.go 2 (c' := (57, [.ref 118, .int lo, .int hi, .int v8], [.int lo, .int v8], (h.1, qm_up h.2.1 118 11 v99, h.2.2.1, h.2.2.2))) rfl ?_
                    refine hk_cge (ix := v8.toInt) (iy := lo.toInt) rfl rfl rfl (fun z100 => ?_) (fun z100 => ?_)
                    · refine qm_Ru.go 2 (c' := (66, [.ref 118, .int lo, .int hi, .int v8], [.int hi, .int v8], (h.1, qm_up h.2.1 118 11 v99, h.2.2.1, h.2.2.2))) rfl ?_
                      refine hk_cle (ix := v8.toInt) (iy := hi.toInt) rfl rfl rfl (fun z101 => ?_) (fun z101 => ?_)
                      · refine qm_Ru.go 1 (c' := (74, [.ref 118, .int lo, .int hi, .int v8], [.int v8], (h.1, qm_up h.2.1 118 11 v99, h.2.2.1, h.2.2.2))) rfl ?_
                        refine qm_Ru.rt (v := (some (.int v8))) (h' := (h.1, qm_up h.2.1 118 11 v99, h.2.2.1, h.2.2.2)) rfl ?_
                        exact k (qm_up h.2.1 118 11 v99) (h.2.2.1) v8 v99 fa (hb_up (o := 118) (k := 11) (x := v99) hB ⟨by show (0 : Int) ≤ v99.toInt; omega, by show v99.toInt ≤ (400 : Int); omega⟩) (fun o ho i => ((hk_mod ho rfl).trans rfl)) (fun i hi => ((hk_neq (fun z => by subst z; cases hi)).trans rfl)) (show (qm_up h.2.1 118 11 v99) 118 11 = _ from (hk_same)) (show (qm_up h.2.1 118 11 v99) 118 13 = _ from ((hk_neq (by decide)).trans q_fa)) (by omega) (by omega)
                      · refine qm_Ru.go 2 (c' := (74, [.ref 118, .int lo, .int hi, .int v8], [.int hi], (h.1, qm_up h.2.1 118 11 v99, h.2.2.1, h.2.2.2))) rfl ?_
                        refine qm_Ru.rt (v := (some (.int hi))) (h' := (h.1, qm_up h.2.1 118 11 v99, h.2.2.1, h.2.2.2)) rfl ?_
                        exact k (qm_up h.2.1 118 11 v99) (h.2.2.1) hi v99 fa (hb_up (o := 118) (k := 11) (x := v99) hB ⟨by show (0 : Int) ≤ v99.toInt; omega, by show v99.toInt ≤ (400 : Int); omega⟩) (fun o ho i => ((hk_mod ho rfl).trans rfl)) (fun i hi => ((hk_neq (fun z => by subst z; cases hi)).trans rfl)) (show (qm_up h.2.1 118 11 v99) 118 11 = _ from (hk_same)) (show (qm_up h.2.1 118 11 v99) 118 13 = _ from ((hk_neq (by decide)).trans q_fa)) (by omega) (by omega)
                    · refine qm_Ru.go 2 (c' := (74, [.ref 118, .int lo, .int hi, .int v8], [.int lo], (h.1, qm_up h.2.1 118 11 v99, h.2.2.1, h.2.2.2))) rfl ?_
                      refine qm_Ru.rt (v := (some (.int lo))) (h' := (h.1, qm_up h.2.1 118 11 v99, h.2.2.1, h.2.2.2)) rfl ?_
                      exact k (qm_up h.2.1 118 11 v99) (h.2.2.1) lo v99 fa (hb_up (o := 118) (k := 11) (x := v99) hB ⟨by show (0 : Int) ≤ v99.toInt; omega, by show v99.toInt ≤ (400 : Int); omega⟩) (fun o ho i => ((hk_mod ho rfl).trans rfl)) (fun i hi => ((hk_neq (fun z => by subst z; cases hi)).trans rfl)) (show (qm_up h.2.1 118 11 v99) 118 11 = _ from (hk_same)) (show (qm_up h.2.1 118 11 v99) 118 13 = _ from ((hk_neq (by decide)).trans q_fa)) (by omega) (by omega)
                  · refine qm_Ru.go 2 (c' := (12, [.ref 118], [.int 2, .ref 118], h)) rfl ?_
                    refine hk_inv (o := 118) (r := []) (as := [.ref 118, .int 2]) rfl rfl (hH.1 118 (17, 105) rfl) rfl rfl rfl rfl ?_
                    refine qm_Ru.go 1 (c' := (1, [.ref 118, .int 2], [.ref 118], h)) rfl ?_
                    refine hk_geti (v := fa) rfl (hH.1 118 (17, 105) rfl) rfl q_fa ?_
                    refine qm_Ru.go 0 (c' := (4, [.ref 118, .int 2], [.int fa], h)) rfl ?_
                    refine hk_zle (ix := fa.toInt) rfl rfl (fun z102 => ?_) (fun z102 => by exfalso; omega)
                    refine qm_Ru.go 2 (c' := (10, [.ref 118, .int 2], [.int 2, .ref 118], h)) rfl ?_
                    refine hk_puti rfl (hH.1 118 (17, 105) rfl) rfl ?_
                    refine qm_Ru.go 2 (c' := (15, [.ref 118, .int 2], [.ref 118, .ref 118], (h.1, qm_up h.2.1 118 13 2, h.2.2.1, h.2.2.2))) rfl ?_
                    refine hk_getr rfl (hH.1 118 (17, 105) rfl) rfl (hH.2 118 6 (some 122) rfl) ?_
                    refine qm_Ru.go 1 (c' := (19, [.ref 118, .int 2], [.ref 118, .ref 122, .ref 118], (h.1, qm_up h.2.1 118 13 2, h.2.2.1, h.2.2.2))) rfl ?_
                    refine hk_geti (v := ta) rfl (hH.1 118 (17, 105) rfl) rfl (show (qm_up h.2.1 118 13 2) 118 11 = _ from ((hk_neq (by decide)).trans q_ta)) ?_
                    refine qm_Ru.go 0 (c' := (22, [.ref 118, .int 2], [.int ta, .ref 122, .ref 118], (h.1, qm_up h.2.1 118 13 2, h.2.2.1, h.2.2.2))) rfl ?_
                    refine hk_ial (v := v62) rfl (hH.1 122 (0, 403) rfl) (by omega) (by omega) (show (qm_up h.2.1 118 13 2) 122 (ta.toInt.toNat) = _ from ((hk_ot rfl).trans q_v62)) ?_
                    refine qm_Ru.go 0 (c' := (23, [.ref 118, .int 2], [.int v62, .ref 118], (h.1, qm_up h.2.1 118 13 2, h.2.2.1, h.2.2.2))) rfl ?_
                    refine hk_puti rfl (hH.1 118 (17, 105) rfl) rfl ?_
                    refine qm_Ru.go 0 (c' := (26, [.ref 118, .int 2], [], (h.1, qm_up (qm_up h.2.1 118 13 2) 118 14 v62, h.2.2.1, h.2.2.2))) rfl ?_
                    refine qm_Ru.rt (v := none) (h' := (h.1, qm_up (qm_up h.2.1 118 13 2) 118 14 v62, h.2.2.1, h.2.2.2)) rfl ?_
                    refine qm_Ru.go 1 (c' := (28, [.ref 118], [], (h.1, qm_up (qm_up h.2.1 118 13 2) 118 14 v62, h.2.2.1, h.2.2.2))) rfl ?_
                    refine qm_Ru.rt (v := none) (h' := (h.1, qm_up (qm_up h.2.1 118 13 2) 118 14 v62, h.2.2.1, h.2.2.2)) rfl ?_
                    refine qm_Ru.go 2 (c' := (57, [.ref 118, .int lo, .int hi, .int v8], [.int lo, .int v8], (h.1, qm_up (qm_up h.2.1 118 13 2) 118 14 v62, h.2.2.1, h.2.2.2))) rfl ?_
                    refine hk_cge (ix := v8.toInt) (iy := lo.toInt) rfl rfl rfl (fun z103 => ?_) (fun z103 => ?_)
                    · refine qm_Ru.go 2 (c' := (66, [.ref 118, .int lo, .int hi, .int v8], [.int hi, .int v8], (h.1, qm_up (qm_up h.2.1 118 13 2) 118 14 v62, h.2.2.1, h.2.2.2))) rfl ?_
                      refine hk_cle (ix := v8.toInt) (iy := hi.toInt) rfl rfl rfl (fun z104 => ?_) (fun z104 => ?_)
                      · refine qm_Ru.go 1 (c' := (74, [.ref 118, .int lo, .int hi, .int v8], [.int v8], (h.1, qm_up (qm_up h.2.1 118 13 2) 118 14 v62, h.2.2.1, h.2.2.2))) rfl ?_
                        refine qm_Ru.rt (v := (some (.int v8))) (h' := (h.1, qm_up (qm_up h.2.1 118 13 2) 118 14 v62, h.2.2.1, h.2.2.2)) rfl ?_
                        exact k (qm_up (qm_up h.2.1 118 13 2) 118 14 v62) (h.2.2.1) v8 ta 2 (hb_up (o := 118) (k := 14) (x := v62) (hb_up (o := 118) (k := 13) (x := 2) hB (qa_in_full _)) (qa_in_full _)) (fun o ho i => ((hk_mod ho rfl).trans ((hk_mod ho rfl).trans rfl))) (fun i hi => ((hk_neq (fun z => by subst z; cases hi)).trans ((hk_neq (fun z => by subst z; cases hi)).trans rfl))) (show (qm_up (qm_up h.2.1 118 13 2) 118 14 v62) 118 11 = _ from ((hk_neq (by decide)).trans ((hk_neq (by decide)).trans q_ta))) (show (qm_up (qm_up h.2.1 118 13 2) 118 14 v62) 118 13 = _ from ((hk_neq (by decide)).trans (hk_same))) (by omega) (by omega)
                      · refine qm_Ru.go 2 (c' := (74, [.ref 118, .int lo, .int hi, .int v8], [.int hi], (h.1, qm_up (qm_up h.2.1 118 13 2) 118 14 v62, h.2.2.1, h.2.2.2))) rfl ?_
                        refine qm_Ru.rt (v := (some (.int hi))) (h' := (h.1, qm_up (qm_up h.2.1 118 13 2) 118 14 v62, h.2.2.1, h.2.2.2)) rfl ?_
                        exact k (qm_up (qm_up h.2.1 118 13 2) 118 14 v62) (h.2.2.1) hi ta 2 (hb_up (o := 118) (k := 14) (x := v62) (hb_up (o := 118) (k := 13) (x := 2) hB (qa_in_full _)) (qa_in_full _)) (fun o ho i => ((hk_mod ho rfl).trans ((hk_mod ho rfl).trans rfl))) (fun i hi => ((hk_neq (fun z => by subst z; cases hi)).trans ((hk_neq (fun z => by subst z; cases hi)).trans rfl))) (show (qm_up (qm_up h.2.1 118 13 2) 118 14 v62) 118 11 = _ from ((hk_neq (by decide)).trans ((hk_neq (by decide)).trans q_ta))) (show (qm_up (qm_up h.2.1 118 13 2) 118 14 v62) 118 13 = _ from ((hk_neq (by decide)).trans (hk_same))) (by omega) (by omega)
                    · refine qm_Ru.go 2 (c' := (74, [.ref 118, .int lo, .int hi, .int v8], [.int lo], (h.1, qm_up (qm_up h.2.1 118 13 2) 118 14 v62, h.2.2.1, h.2.2.2))) rfl ?_
                      refine qm_Ru.rt (v := (some (.int lo))) (h' := (h.1, qm_up (qm_up h.2.1 118 13 2) 118 14 v62, h.2.2.1, h.2.2.2)) rfl ?_
                      exact k (qm_up (qm_up h.2.1 118 13 2) 118 14 v62) (h.2.2.1) lo ta 2 (hb_up (o := 118) (k := 14) (x := v62) (hb_up (o := 118) (k := 13) (x := 2) hB (qa_in_full _)) (qa_in_full _)) (fun o ho i => ((hk_mod ho rfl).trans ((hk_mod ho rfl).trans rfl))) (fun i hi => ((hk_neq (fun z => by subst z; cases hi)).trans ((hk_neq (fun z => by subst z; cases hi)).trans rfl))) (show (qm_up (qm_up h.2.1 118 13 2) 118 14 v62) 118 11 = _ from ((hk_neq (by decide)).trans ((hk_neq (by decide)).trans q_ta))) (show (qm_up (qm_up h.2.1 118 13 2) 118 14 v62) 118 13 = _ from ((hk_neq (by decide)).trans (hk_same))) (by omega) (by omega)
theorem hs_tell {L : Nat} {xs : Nat → Int32} {d : Nat} {Z : Option Value → qm_H → Prop} {h : qm_H} (hH : hk_H h) (hB : hk_B h.2.1) {ta fa ca bs la nm sd pr pp : Int32} {c0 l0 : Int} (q_ta : h.2.1 118 11 = ta) (q_fa : h.2.1 118 13 = fa) (q_ca : h.2.1 118 37 = ca) (q_bs : h.2.1 118 12 = bs) (q_la : h.2.1 118 30 = la) (q_nm : h.2.1 118 20 = nm) (q_sd : h.2.1 118 19 = sd) (q_pr : h.2.1 131 (sd.toInt.toNat) = pr) (q_pp : h.2.1 132 (sd.toInt.toNat) = pp) (hsd : 0 ≤ sd.toInt ∧ sd.toInt ≤ 1) (hta : 0 ≤ ta.toInt ∧ ta.toInt ≤ 400 ∧ fa.toInt = 0) (hc0 : c0 = 420 * sd.toInt ∧ l0 = 150 * sd.toInt) (hca : c0 ≤ ca.toInt ∧ ca.toInt ≤ c0 + ta.toInt) (hbs : bs.toInt = 0) (hla : l0 ≤ la.toInt ∧ 3 * (la.toInt - l0) ≤ ta.toInt) (hnm : nm.toInt = pr.toInt + pp.toInt ∧ 0 ≤ pr.toInt ∧ pr.toInt ≤ 8 ∧ 0 ≤ pp.toInt ∧ pp.toInt ≤ 8) (hrs : rs h.2.1 (sd.toInt.toNat) pr.toInt pp.toInt l0 la.toInt c0 ca.toInt) (k : ∀ (I : Nat → Nat → Int32) (J : Nat → Nat → Int64) (t f cd op li nn p1 p2 : Int32), hk_B I → (∀ o, [118, 127, 128, 129, 130, 131, 132, 133, 134, 135, 136, 137, 138, 139, 140, 141, 142, 143].contains o = false → ∀ i, I o i = h.2.1 o i) → (∀ i, [11, 12, 13, 14, 15, 16, 20, 30, 37, 41].contains i = false → I 118 i = h.2.1 118 i) → I 118 11 = t → I 118 13 = f → I 118 37 = cd → I 118 12 = op → I 118 30 = li → I 118 20 = nn → I 131 (sd.toInt.toNat) = p1 → I 132 (sd.toInt.toNat) = p2 → (ta.toInt ≤ t.toInt ∧ t.toInt ≤ 400 ∧ 0 ≤ f.toInt) → (f.toInt = 0 → ta.toInt + 1 ≤ t.toInt ∧ c0 ≤ cd.toInt ∧ cd.toInt ≤ c0 + t.toInt ∧ op.toInt = 0 ∧ l0 ≤ li.toInt ∧ 3 * (li.toInt - l0) ≤ t.toInt ∧ 0 ≤ p1.toInt ∧ p1.toInt ≤ 8 ∧ 0 ≤ p2.toInt ∧ p2.toInt ≤ 8 ∧ nn.toInt = p1.toInt + p2.toInt) → td (sd.toInt.toNat) h.2.1 I → (f.toInt = 0 → rs I (sd.toInt.toNat) p1.toInt p2.toInt l0 li.toInt c0 cd.toInt) → Z none (h.1, I, J, h.2.2.2)) : qm_Ru (some (L, xs)) (d + 9) cd_256 (qm_ent 4 [.ref 118] h) Z := by
  have k0 : (0 : Int32).toInt = 0 := rfl
  have k1 : (1 : Int32).toInt = 1 := rfl
  have k2 : (2 : Int32).toInt = 2 := rfl
  have k3 : (3 : Int32).toInt = 3 := rfl
  have k6 : (6 : Int32).toInt = 6 := rfl
  refine qm_Ru.go 1 (c' := (1, [.ref 118, .float 0, .float 0, .float 0], [.ref 118], h)) rfl ?_
  refine hk_getr rfl (hH.1 118 (17, 105) rfl) rfl (hH.2 118 5 (some 121) rfl) ?_
  refine qm_Ru.go 1 (c' := (5, [.ref 118, .float 0, .float 0, .float 0], [.ref 118, .ref 121], h)) rfl ?_
  refine hk_geti (v := ta) rfl (hH.1 118 (17, 105) rfl) rfl q_ta ?_
  refine qm_Ru.go 0 (c' := (8, [.ref 118, .float 0, .float 0, .float 0], [.int ta, .ref 121], h)) rfl ?_
  obtain ⟨v1, q_v1⟩ : ∃ v, h.2.1 121 (ta.toInt.toNat) = v := ⟨_, rfl⟩
  have b_v1 : (0 : Int) ≤ v1.toInt ∧ v1.toInt ≤ 44 := by rw [← q_v1]; exact hB 121 (ta.toInt.toNat)
  refine hk_ial (v := v1) rfl (hH.1 121 (0, 403) rfl) (by omega) (by omega) q_v1 ?_
  refine qm_Ru.go 2 (c' := (11, [.ref 118, .int v1, .float 0, .float 0], [.int v1], h)) rfl ?_
  refine hk_tsw rfl (by decide) (fun off ho => ?_)
  have g2 : off = 220 ∨ off = 25 ∨ off = 77 ∨ off = 147 := by
    simpa using ho
  rcases g2 with rfl | rfl | rfl | rfl
  · refine qm_Ru.go 2 (c' := (234, [.ref 118, .int v1, .float 0, .float 0], [.int 20, .int v1], h)) rfl ?_
    refine hk_clt (ix := v1.toInt) (iy := 20) rfl rfl rfl (fun z3 => ?_) (fun z3 => ?_)
    · refine qm_Ru.go 2 (c' := (245, [.ref 118, .int v1, .float 0, .float 0], [.int 1, .ref 118], h)) rfl ?_
      refine hk_inv (o := 118) (r := []) (as := [.ref 118, .int 1]) rfl rfl (hH.1 118 (17, 105) rfl) rfl rfl rfl rfl ?_
      refine qm_Ru.go 1 (c' := (1, [.ref 118, .int 1], [.ref 118], h)) rfl ?_
      refine hk_geti (v := fa) rfl (hH.1 118 (17, 105) rfl) rfl q_fa ?_
      refine qm_Ru.go 0 (c' := (4, [.ref 118, .int 1], [.int fa], h)) rfl ?_
      refine hk_zle (ix := fa.toInt) rfl rfl (fun z4 => ?_) (fun z4 => by exfalso; omega)
      refine qm_Ru.go 2 (c' := (10, [.ref 118, .int 1], [.int 1, .ref 118], h)) rfl ?_
      refine hk_puti rfl (hH.1 118 (17, 105) rfl) rfl ?_
      refine qm_Ru.go 2 (c' := (15, [.ref 118, .int 1], [.ref 118, .ref 118], (h.1, qm_up h.2.1 118 13 1, h.2.2.1, h.2.2.2))) rfl ?_
      refine hk_getr rfl (hH.1 118 (17, 105) rfl) rfl (hH.2 118 6 (some 122) rfl) ?_
      refine qm_Ru.go 1 (c' := (19, [.ref 118, .int 1], [.ref 118, .ref 122, .ref 118], (h.1, qm_up h.2.1 118 13 1, h.2.2.1, h.2.2.2))) rfl ?_
      refine hk_geti (v := ta) rfl (hH.1 118 (17, 105) rfl) rfl (show (qm_up h.2.1 118 13 1) 118 11 = _ from ((hk_neq (by decide)).trans q_ta)) ?_
      refine qm_Ru.go 0 (c' := (22, [.ref 118, .int 1], [.int ta, .ref 122, .ref 118], (h.1, qm_up h.2.1 118 13 1, h.2.2.1, h.2.2.2))) rfl ?_
      obtain ⟨v5, q_v5⟩ : ∃ v, h.2.1 122 (ta.toInt.toNat) = v := ⟨_, rfl⟩
      refine hk_ial (v := v5) rfl (hH.1 122 (0, 403) rfl) (by omega) (by omega) (show (qm_up h.2.1 118 13 1) 122 (ta.toInt.toNat) = _ from ((hk_ot rfl).trans q_v5)) ?_
      refine qm_Ru.go 0 (c' := (23, [.ref 118, .int 1], [.int v5, .ref 118], (h.1, qm_up h.2.1 118 13 1, h.2.2.1, h.2.2.2))) rfl ?_
      refine hk_puti rfl (hH.1 118 (17, 105) rfl) rfl ?_
      refine qm_Ru.go 0 (c' := (26, [.ref 118, .int 1], [], (h.1, qm_up (qm_up h.2.1 118 13 1) 118 14 v5, h.2.2.1, h.2.2.2))) rfl ?_
      refine qm_Ru.rt (v := none) (h' := (h.1, qm_up (qm_up h.2.1 118 13 1) 118 14 v5, h.2.2.1, h.2.2.2)) rfl ?_
      refine qm_Ru.go 0 (c' := (248, [.ref 118, .int v1, .float 0, .float 0], [], (h.1, qm_up (qm_up h.2.1 118 13 1) 118 14 v5, h.2.2.1, h.2.2.2))) rfl ?_
      refine qm_Ru.rt (v := none) (h' := (h.1, qm_up (qm_up h.2.1 118 13 1) 118 14 v5, h.2.2.1, h.2.2.2)) rfl ?_
      have s131_y6 : ∀ i, (qm_up (qm_up h.2.1 118 13 1) 118 14 v5) 131 i = h.2.1 131 i := fun i => ((hk_ot rfl).trans ((hk_ot rfl).trans rfl))
      have s132_y6 : ∀ i, (qm_up (qm_up h.2.1 118 13 1) 118 14 v5) 132 i = h.2.1 132 i := fun i => ((hk_ot rfl).trans ((hk_ot rfl).trans rfl))
      have s133_y6 : ∀ i, (qm_up (qm_up h.2.1 118 13 1) 118 14 v5) 133 i = h.2.1 133 i := fun i => ((hk_ot rfl).trans ((hk_ot rfl).trans rfl))
      have s134_y6 : ∀ i, (qm_up (qm_up h.2.1 118 13 1) 118 14 v5) 134 i = h.2.1 134 i := fun i => ((hk_ot rfl).trans ((hk_ot rfl).trans rfl))
      have s138_y6 : ∀ i, (qm_up (qm_up h.2.1 118 13 1) 118 14 v5) 138 i = h.2.1 138 i := fun i => ((hk_ot rfl).trans ((hk_ot rfl).trans rfl))
      have s139_y6 : ∀ i, (qm_up (qm_up h.2.1 118 13 1) 118 14 v5) 139 i = h.2.1 139 i := fun i => ((hk_ot rfl).trans ((hk_ot rfl).trans rfl))
      have s140_y6 : ∀ i, (qm_up (qm_up h.2.1 118 13 1) 118 14 v5) 140 i = h.2.1 140 i := fun i => ((hk_ot rfl).trans ((hk_ot rfl).trans rfl))
      have s141_y6 : ∀ i, (qm_up (qm_up h.2.1 118 13 1) 118 14 v5) 141 i = h.2.1 141 i := fun i => ((hk_ot rfl).trans ((hk_ot rfl).trans rfl))
      have s142_y6 : ∀ i, (qm_up (qm_up h.2.1 118 13 1) 118 14 v5) 142 i = h.2.1 142 i := fun i => ((hk_ot rfl).trans ((hk_ot rfl).trans rfl))
      have td_y6 : td (sd.toInt.toNat) h.2.1 (qm_up (qm_up h.2.1 118 13 1) 118 14 v5) := ⟨fun i _ => ⟨s141_y6 i, s142_y6 i⟩, fun i _ => ⟨s138_y6 i, s139_y6 i, s140_y6 i⟩, fun i _ => ⟨s133_y6 i, s134_y6 i⟩, fun i _ => ⟨s131_y6 i, s132_y6 i⟩⟩
      exact k (qm_up (qm_up h.2.1 118 13 1) 118 14 v5) (h.2.2.1) ta 1 ca bs la nm pr pp (hb_up (o := 118) (k := 14) (x := v5) (hb_up (o := 118) (k := 13) (x := 1) hB (qa_in_full _)) (qa_in_full _)) (fun o ho i => ((hk_mod ho rfl).trans ((hk_mod ho rfl).trans rfl))) (fun i hi => ((hk_neq (fun z => by subst z; cases hi)).trans ((hk_neq (fun z => by subst z; cases hi)).trans rfl))) (show (qm_up (qm_up h.2.1 118 13 1) 118 14 v5) 118 11 = _ from ((hk_neq (by decide)).trans ((hk_neq (by decide)).trans q_ta))) (show (qm_up (qm_up h.2.1 118 13 1) 118 14 v5) 118 13 = _ from ((hk_neq (by decide)).trans (hk_same))) (show (qm_up (qm_up h.2.1 118 13 1) 118 14 v5) 118 37 = _ from ((hk_neq (by decide)).trans ((hk_neq (by decide)).trans q_ca))) (show (qm_up (qm_up h.2.1 118 13 1) 118 14 v5) 118 12 = _ from ((hk_neq (by decide)).trans ((hk_neq (by decide)).trans q_bs))) (show (qm_up (qm_up h.2.1 118 13 1) 118 14 v5) 118 30 = _ from ((hk_neq (by decide)).trans ((hk_neq (by decide)).trans q_la))) (show (qm_up (qm_up h.2.1 118 13 1) 118 14 v5) 118 20 = _ from ((hk_neq (by decide)).trans ((hk_neq (by decide)).trans q_nm))) (show (qm_up (qm_up h.2.1 118 13 1) 118 14 v5) 131 (sd.toInt.toNat) = _ from ((hk_ot rfl).trans ((hk_ot rfl).trans q_pr))) (show (qm_up (qm_up h.2.1 118 13 1) 118 14 v5) 132 (sd.toInt.toNat) = _ from ((hk_ot rfl).trans ((hk_ot rfl).trans q_pp))) (by omega) (fun z => by omega) td_y6 (fun z => rs_sm hrs s133_y6 s134_y6 s138_y6 s139_y6 s140_y6 s141_y6 s142_y6 (by omega))
    · refine qm_Ru.go 2 (c' := (240, [.ref 118, .int v1, .float 0, .float 0], [.int 24, .int v1], h)) rfl ?_
      refine hk_cle (ix := v1.toInt) (iy := 24) rfl rfl rfl (fun z7 => ?_) (fun z7 => ?_)
      · refine qm_Ru.go 1 (c' := (250, [.ref 118, .int v1, .float 0, .float 0], [.ref 118], h)) rfl ?_
        refine hk_inv (o := 118) (r := []) (as := [.ref 118]) rfl rfl (hH.1 118 (17, 105) rfl) rfl rfl rfl rfl ?_
        refine qm_Ru.go 1 (c' := (1, [.ref 118], [.ref 118], h)) rfl ?_
        refine hk_geti (v := ta) rfl (hH.1 118 (17, 105) rfl) rfl q_ta ?_
        refine qm_Ru.go 1 (c' := (7, [.ref 118], [.int 400, .int ta], h)) rfl ?_
        refine hk_cne (ix := ta.toInt) (iy := 400) rfl rfl rfl (fun z8 => ?_) (fun z8 => ?_)
        · refine qm_Ru.go 2 (c' := (20, [.ref 118], [.ref 118, .ref 118], h)) rfl ?_
          refine hk_geti (v := ta) rfl (hH.1 118 (17, 105) rfl) rfl q_ta ?_
          refine qm_Ru.go 2 (c' := (25, [.ref 118], [.int (ta + 1), .ref 118], h)) rfl ?_
          obtain ⟨v9, q_v9, e_v9⟩ := hk_add (x := ta) (y := 1) (a := ta.toInt) (b := 1) rfl rfl (by omega) (by omega)
          rw [q_v9]
          refine hk_puti rfl (hH.1 118 (17, 105) rfl) rfl ?_
          refine qm_Ru.go 0 (c' := (28, [.ref 118], [], (h.1, qm_up h.2.1 118 11 v9, h.2.2.1, h.2.2.2))) rfl ?_
          refine qm_Ru.rt (v := none) (h' := (h.1, qm_up h.2.1 118 11 v9, h.2.2.1, h.2.2.2)) rfl ?_
          refine qm_Ru.go 3 (c' := (257, [.ref 118, .int v1, .float 0, .float 0], [.int 20, .int v1, .ref 118], (h.1, qm_up h.2.1 118 11 v9, h.2.2.1, h.2.2.2))) rfl ?_
          refine hk_cne (ix := v1.toInt) (iy := 20) rfl rfl rfl (fun z10 => ?_) (fun z10 => ?_)
          · refine qm_Ru.go 2 (c' := (267, [.ref 118, .int v1, .float 0, .float 0], [.int 24, .int v1, .ref 118], (h.1, qm_up h.2.1 118 11 v9, h.2.2.1, h.2.2.2))) rfl ?_
            refine hk_cne (ix := v1.toInt) (iy := 24) rfl rfl rfl (fun z11 => ?_) (fun z11 => ?_)
            · refine qm_Ru.go 3 (c' := (278, [.ref 118, .int v1, .float 0, .float 0], [.int 20, .int v1, .int 0, .ref 118], (h.1, qm_up h.2.1 118 11 v9, h.2.2.1, h.2.2.2))) rfl ?_
              refine hk_cne (ix := v1.toInt) (iy := 20) rfl rfl rfl (fun z12 => ?_) (fun z12 => by exfalso; omega)
              refine qm_Ru.go 1 (c' := (288, [.ref 118, .int v1, .float 0, .float 0], [.int 9999, .int 0, .ref 118], (h.1, qm_up h.2.1 118 11 v9, h.2.2.1, h.2.2.2))) rfl ?_
              refine hk_inv (o := 118) (r := []) (as := [.ref 118, .int 0, .int 9999]) rfl rfl (hH.1 118 (17, 105) rfl) rfl rfl rfl rfl (hs_told (d := d + 4) (h := (h.1, qm_up h.2.1 118 11 v9, h.2.2.1, h.2.2.2)) hH (hb_up (o := 118) (k := 11) (x := v9) hB ⟨by show (0 : Int) ≤ v9.toInt; omega, by show v9.toInt ≤ (400 : Int); omega⟩) (ta := v9) (fa := fa) (lo := 0) (hi := 9999) (show (qm_up h.2.1 118 11 v9) 118 11 = _ from (hk_same)) (show (qm_up h.2.1 118 11 v9) 118 13 = _ from ((hk_neq (by decide)).trans q_fa)) (by omega) (by decide) (fun I13 J14 v15 t16 f17 hB_I13 e_I13 e8_I13 q_t16 q_f17 b1_I13 b2_I13 => ?_))
              have b2_I13 : (0 : Int) ≤ v15.toInt ∧ v15.toInt ≤ 9999 := b2_I13
              have e_I13 : ∀ o, [118].contains o = false → ∀ i, I13 o i = (qm_up h.2.1 118 11 v9) o i := e_I13
              have e8_I13 : ∀ i, [11, 13, 14, 15, 16].contains i = false → I13 118 i = (qm_up h.2.1 118 11 v9) 118 i := e8_I13
              refine qm_Ru.go 3 (c' := (295, [.ref 118, .int v1, .int v15, .float 0], [.int 20, .int v1], (h.1, I13, J14, h.2.2.2))) rfl ?_
              refine hk_cne (ix := v1.toInt) (iy := 20) rfl rfl rfl (fun z18 => ?_) (fun z18 => by exfalso; omega)
              refine qm_Ru.go 2 (c' := (314, [.ref 118, .int v1, .int v15, .float 0], [.int 24, .int v1], (h.1, I13, J14, h.2.2.2))) rfl ?_
              refine hk_cne (ix := v1.toInt) (iy := 24) rfl rfl rfl (fun z19 => ?_) (fun z19 => by exfalso; omega)
              refine qm_Ru.go 1 (c' := (331, [.ref 118, .int v1, .int v15, .float 0], [.ref 118], (h.1, I13, J14, h.2.2.2))) rfl ?_
              refine hk_getr rfl (hH.1 118 (17, 105) rfl) rfl (hH.2 118 23 (some 128) rfl) ?_
              refine qm_Ru.go 2 (c' := (336, [.ref 118, .int v1, .int v15, .float 0], [.ref 118, .int 3, .ref 128], (h.1, I13, J14, h.2.2.2))) rfl ?_
              refine hk_geti (v := sd) rfl (hH.1 118 (17, 105) rfl) rfl (show (I13) 118 19 = _ from ((e8_I13 19 rfl).trans ((hk_neq (by decide)).trans q_sd))) ?_
              refine qm_Ru.go 1 (c' := (340, [.ref 118, .int v1, .int v15, .float 0], [.int (3 * sd), .ref 128], (h.1, I13, J14, h.2.2.2))) rfl ?_
              obtain ⟨v20, q_v20, e_v20⟩ := hk_mul (x := 3) (y := sd) (a := 3) (b := sd.toInt) rfl rfl (by omega) (by omega)
              rw [q_v20]
              refine qm_Ru.go 2 (c' := (342, [.ref 118, .int v1, .int v15, .float 0], [.int (v20 + v1), .ref 128], (h.1, I13, J14, h.2.2.2))) rfl ?_
              obtain ⟨v21, q_v21, e_v21⟩ := hk_add (x := v20) (y := v1) (a := v20.toInt) (b := v1.toInt) rfl rfl (by omega) (by omega)
              rw [q_v21]
              refine qm_Ru.go 2 (c' := (345, [.ref 118, .int v1, .int v15, .float 0], [.int (v21 - 21), .ref 128], (h.1, I13, J14, h.2.2.2))) rfl ?_
              obtain ⟨v22, q_v22, e_v22⟩ := hk_sub (x := v21) (y := 21) (a := v21.toInt) (b := 21) rfl rfl (by omega) (by omega)
              rw [q_v22]
              refine qm_Ru.go 1 (c' := (346, [.ref 118, .int v1, .int v15, .float 0], [.int v15, .int v22, .ref 128], (h.1, I13, J14, h.2.2.2))) rfl ?_
              refine hk_ias rfl (hH.1 128 (0, 6) rfl) (by omega) (by omega) ?_
              refine qm_Ru.go 2 (c' := (349, [.ref 118, .int v1, .int v15, .float 0], [.int 4, .ref 118], (h.1, qm_up I13 128 (v22.toInt.toNat) v15, J14, h.2.2.2))) rfl ?_
              refine hk_inv (o := 118) (r := []) (as := [.ref 118, .int 4]) rfl rfl (hH.1 118 (17, 105) rfl) rfl rfl rfl rfl ?_
              refine qm_Ru.go 2 (c' := (2, [.ref 118, .int 4], [.int 4, .ref 118], (h.1, qm_up I13 128 (v22.toInt.toNat) v15, J14, h.2.2.2))) rfl ?_
              refine hk_inv (o := 118) (r := []) (as := [.ref 118, .int 4]) rfl rfl (hH.1 118 (17, 105) rfl) rfl rfl rfl rfl ?_
              refine qm_Ru.go 1 (c' := (1, [.ref 118, .int 4], [.ref 118], (h.1, qm_up I13 128 (v22.toInt.toNat) v15, J14, h.2.2.2))) rfl ?_
              refine hk_geti (v := f17) rfl (hH.1 118 (17, 105) rfl) rfl (show (qm_up I13 128 (v22.toInt.toNat) v15) 118 13 = _ from ((hk_ot rfl).trans q_f17)) ?_
              refine qm_Ru.go 0 (c' := (4, [.ref 118, .int 4], [.int f17], (h.1, qm_up I13 128 (v22.toInt.toNat) v15, J14, h.2.2.2))) rfl ?_
              refine hk_zne (ix := f17.toInt) rfl rfl (fun z23 => ?_) (fun z23 => ?_)
              · refine qm_Ru.go 1 (c' := (25, [.ref 118, .int 4], [.int 0], (h.1, qm_up I13 128 (v22.toInt.toNat) v15, J14, h.2.2.2))) rfl ?_
                refine qm_Ru.rt (v := (some (.int 0))) (h' := (h.1, qm_up I13 128 (v22.toInt.toNat) v15, J14, h.2.2.2)) rfl ?_
                refine qm_Ru.go 3 (c' := (17, [.ref 118, .int 4], [.int 1, .ref 118], (h.1, qm_up I13 128 (v22.toInt.toNat) v15, J14, h.2.2.2))) rfl ?_
                refine hk_inv (o := 118) (r := []) (as := [.ref 118, .int 1]) rfl rfl (hH.1 118 (17, 105) rfl) rfl rfl rfl rfl ?_
                refine qm_Ru.go 1 (c' := (1, [.ref 118, .int 1], [.ref 118], (h.1, qm_up I13 128 (v22.toInt.toNat) v15, J14, h.2.2.2))) rfl ?_
                refine hk_geti (v := f17) rfl (hH.1 118 (17, 105) rfl) rfl (show (qm_up I13 128 (v22.toInt.toNat) v15) 118 13 = _ from ((hk_ot rfl).trans q_f17)) ?_
                refine qm_Ru.go 0 (c' := (4, [.ref 118, .int 1], [.int f17], (h.1, qm_up I13 128 (v22.toInt.toNat) v15, J14, h.2.2.2))) rfl ?_
                refine hk_zle (ix := f17.toInt) rfl rfl (fun z24 => by exfalso; omega) (fun z24 => ?_)
                refine qm_Ru.go 0 (c' := (7, [.ref 118, .int 1], [], (h.1, qm_up I13 128 (v22.toInt.toNat) v15, J14, h.2.2.2))) rfl ?_
                refine qm_Ru.rt (v := none) (h' := (h.1, qm_up I13 128 (v22.toInt.toNat) v15, J14, h.2.2.2)) rfl ?_
                refine qm_Ru.go 0 (c' := (20, [.ref 118, .int 4], [], (h.1, qm_up I13 128 (v22.toInt.toNat) v15, J14, h.2.2.2))) rfl ?_
                refine qm_Ru.rt (v := none) (h' := (h.1, qm_up I13 128 (v22.toInt.toNat) v15, J14, h.2.2.2)) rfl ?_
                refine qm_Ru.go 0 (c' := (352, [.ref 118, .int v1, .int v15, .float 0], [], (h.1, qm_up I13 128 (v22.toInt.toNat) v15, J14, h.2.2.2))) rfl ?_
                refine qm_Ru.rt (v := none) (h' := (h.1, qm_up I13 128 (v22.toInt.toNat) v15, J14, h.2.2.2)) rfl ?_
                have s131_y25 : ∀ i, (qm_up I13 128 (v22.toInt.toNat) v15) 131 i = h.2.1 131 i := fun i => ((hk_ot rfl).trans ((e_I13 131 rfl i).trans ((hk_ot rfl).trans rfl)))
                have s132_y25 : ∀ i, (qm_up I13 128 (v22.toInt.toNat) v15) 132 i = h.2.1 132 i := fun i => ((hk_ot rfl).trans ((e_I13 132 rfl i).trans ((hk_ot rfl).trans rfl)))
                have s133_y25 : ∀ i, (qm_up I13 128 (v22.toInt.toNat) v15) 133 i = h.2.1 133 i := fun i => ((hk_ot rfl).trans ((e_I13 133 rfl i).trans ((hk_ot rfl).trans rfl)))
                have s134_y25 : ∀ i, (qm_up I13 128 (v22.toInt.toNat) v15) 134 i = h.2.1 134 i := fun i => ((hk_ot rfl).trans ((e_I13 134 rfl i).trans ((hk_ot rfl).trans rfl)))
                have s138_y25 : ∀ i, (qm_up I13 128 (v22.toInt.toNat) v15) 138 i = h.2.1 138 i := fun i => ((hk_ot rfl).trans ((e_I13 138 rfl i).trans ((hk_ot rfl).trans rfl)))
                have s139_y25 : ∀ i, (qm_up I13 128 (v22.toInt.toNat) v15) 139 i = h.2.1 139 i := fun i => ((hk_ot rfl).trans ((e_I13 139 rfl i).trans ((hk_ot rfl).trans rfl)))
                have s140_y25 : ∀ i, (qm_up I13 128 (v22.toInt.toNat) v15) 140 i = h.2.1 140 i := fun i => ((hk_ot rfl).trans ((e_I13 140 rfl i).trans ((hk_ot rfl).trans rfl)))
                have s141_y25 : ∀ i, (qm_up I13 128 (v22.toInt.toNat) v15) 141 i = h.2.1 141 i := fun i => ((hk_ot rfl).trans ((e_I13 141 rfl i).trans ((hk_ot rfl).trans rfl)))
                have s142_y25 : ∀ i, (qm_up I13 128 (v22.toInt.toNat) v15) 142 i = h.2.1 142 i := fun i => ((hk_ot rfl).trans ((e_I13 142 rfl i).trans ((hk_ot rfl).trans rfl)))
                have td_y25 : td (sd.toInt.toNat) h.2.1 (qm_up I13 128 (v22.toInt.toNat) v15) := ⟨fun i _ => ⟨s141_y25 i, s142_y25 i⟩, fun i _ => ⟨s138_y25 i, s139_y25 i, s140_y25 i⟩, fun i _ => ⟨s133_y25 i, s134_y25 i⟩, fun i _ => ⟨s131_y25 i, s132_y25 i⟩⟩
                exact k (qm_up I13 128 (v22.toInt.toNat) v15) (J14) t16 f17 ca bs la nm pr pp (hb_up (o := 128) (k := v22.toInt.toNat) (x := v15) hB_I13 (qa_in_full _)) (fun o ho i => ((hk_mod ho rfl).trans ((e_I13 o (hk_ms rfl ho) i).trans ((hk_mod ho rfl).trans rfl)))) (fun i hi => ((hk_ot rfl).trans ((e8_I13 i (hk_ms rfl hi)).trans ((hk_neq (fun z => by subst z; cases hi)).trans rfl)))) (show (qm_up I13 128 (v22.toInt.toNat) v15) 118 11 = _ from ((hk_ot rfl).trans q_t16)) (show (qm_up I13 128 (v22.toInt.toNat) v15) 118 13 = _ from ((hk_ot rfl).trans q_f17)) (show (qm_up I13 128 (v22.toInt.toNat) v15) 118 37 = _ from ((hk_ot rfl).trans ((e8_I13 37 rfl).trans ((hk_neq (by decide)).trans q_ca)))) (show (qm_up I13 128 (v22.toInt.toNat) v15) 118 12 = _ from ((hk_ot rfl).trans ((e8_I13 12 rfl).trans ((hk_neq (by decide)).trans q_bs)))) (show (qm_up I13 128 (v22.toInt.toNat) v15) 118 30 = _ from ((hk_ot rfl).trans ((e8_I13 30 rfl).trans ((hk_neq (by decide)).trans q_la)))) (show (qm_up I13 128 (v22.toInt.toNat) v15) 118 20 = _ from ((hk_ot rfl).trans ((e8_I13 20 rfl).trans ((hk_neq (by decide)).trans q_nm)))) (show (qm_up I13 128 (v22.toInt.toNat) v15) 131 (sd.toInt.toNat) = _ from ((hk_ot rfl).trans ((e_I13 131 rfl (sd.toInt.toNat)).trans ((hk_ot rfl).trans q_pr)))) (show (qm_up I13 128 (v22.toInt.toNat) v15) 132 (sd.toInt.toNat) = _ from ((hk_ot rfl).trans ((e_I13 132 rfl (sd.toInt.toNat)).trans ((hk_ot rfl).trans q_pp)))) (by omega) (fun z => by omega) td_y25 (fun z => rs_sm hrs s133_y25 s134_y25 s138_y25 s139_y25 s140_y25 s141_y25 s142_y25 (by omega))
              · refine qm_Ru.go 1 (c' := (8, [.ref 118, .int 4], [.ref 118], (h.1, qm_up I13 128 (v22.toInt.toNat) v15, J14, h.2.2.2))) rfl ?_
                refine hk_getr rfl (hH.1 118 (17, 105) rfl) rfl (hH.2 118 5 (some 121) rfl) ?_
                refine qm_Ru.go 1 (c' := (12, [.ref 118, .int 4], [.ref 118, .ref 121], (h.1, qm_up I13 128 (v22.toInt.toNat) v15, J14, h.2.2.2))) rfl ?_
                refine hk_geti (v := t16) rfl (hH.1 118 (17, 105) rfl) rfl (show (qm_up I13 128 (v22.toInt.toNat) v15) 118 11 = _ from ((hk_ot rfl).trans q_t16)) ?_
                refine qm_Ru.go 0 (c' := (15, [.ref 118, .int 4], [.int t16, .ref 121], (h.1, qm_up I13 128 (v22.toInt.toNat) v15, J14, h.2.2.2))) rfl ?_
                obtain ⟨v26, q_v26⟩ : ∃ v, h.2.1 121 (t16.toInt.toNat) = v := ⟨_, rfl⟩
                have b_v26 : (0 : Int) ≤ v26.toInt ∧ v26.toInt ≤ 44 := by rw [← q_v26]; exact hB 121 (t16.toInt.toNat)
                refine hk_ial (v := v26) rfl (hH.1 121 (0, 403) rfl) (by omega) (by omega) (show (qm_up I13 128 (v22.toInt.toNat) v15) 121 (t16.toInt.toNat) = _ from ((hk_ot rfl).trans ((e_I13 121 rfl (t16.toInt.toNat)).trans ((hk_ot rfl).trans q_v26)))) ?_
                refine qm_Ru.go 1 (c' := (17, [.ref 118, .int 4], [.int 4, .int v26], (h.1, qm_up I13 128 (v22.toInt.toNat) v15, J14, h.2.2.2))) rfl ?_
                refine hk_cne (ix := v26.toInt) (iy := 4) rfl rfl rfl (fun z27 => ?_) (fun z27 => ?_)
                · refine qm_Ru.go 1 (c' := (25, [.ref 118, .int 4], [.int 0], (h.1, qm_up I13 128 (v22.toInt.toNat) v15, J14, h.2.2.2))) rfl ?_
                  refine qm_Ru.rt (v := (some (.int 0))) (h' := (h.1, qm_up I13 128 (v22.toInt.toNat) v15, J14, h.2.2.2)) rfl ?_
                  refine qm_Ru.go 3 (c' := (17, [.ref 118, .int 4], [.int 1, .ref 118], (h.1, qm_up I13 128 (v22.toInt.toNat) v15, J14, h.2.2.2))) rfl ?_
                  refine hk_inv (o := 118) (r := []) (as := [.ref 118, .int 1]) rfl rfl (hH.1 118 (17, 105) rfl) rfl rfl rfl rfl ?_
                  refine qm_Ru.go 1 (c' := (1, [.ref 118, .int 1], [.ref 118], (h.1, qm_up I13 128 (v22.toInt.toNat) v15, J14, h.2.2.2))) rfl ?_
                  refine hk_geti (v := f17) rfl (hH.1 118 (17, 105) rfl) rfl (show (qm_up I13 128 (v22.toInt.toNat) v15) 118 13 = _ from ((hk_ot rfl).trans q_f17)) ?_
                  refine qm_Ru.go 0 (c' := (4, [.ref 118, .int 1], [.int f17], (h.1, qm_up I13 128 (v22.toInt.toNat) v15, J14, h.2.2.2))) rfl ?_
                  refine hk_zle (ix := f17.toInt) rfl rfl (fun z28 => ?_) (fun z28 => by exfalso; omega)
                  refine qm_Ru.go 2 (c' := (10, [.ref 118, .int 1], [.int 1, .ref 118], (h.1, qm_up I13 128 (v22.toInt.toNat) v15, J14, h.2.2.2))) rfl ?_
                  refine hk_puti rfl (hH.1 118 (17, 105) rfl) rfl ?_
                  refine qm_Ru.go 2 (c' := (15, [.ref 118, .int 1], [.ref 118, .ref 118], (h.1, qm_up (qm_up I13 128 (v22.toInt.toNat) v15) 118 13 1, J14, h.2.2.2))) rfl ?_
                  refine hk_getr rfl (hH.1 118 (17, 105) rfl) rfl (hH.2 118 6 (some 122) rfl) ?_
                  refine qm_Ru.go 1 (c' := (19, [.ref 118, .int 1], [.ref 118, .ref 122, .ref 118], (h.1, qm_up (qm_up I13 128 (v22.toInt.toNat) v15) 118 13 1, J14, h.2.2.2))) rfl ?_
                  refine hk_geti (v := t16) rfl (hH.1 118 (17, 105) rfl) rfl (show (qm_up (qm_up I13 128 (v22.toInt.toNat) v15) 118 13 1) 118 11 = _ from ((hk_neq (by decide)).trans ((hk_ot rfl).trans q_t16))) ?_
                  refine qm_Ru.go 0 (c' := (22, [.ref 118, .int 1], [.int t16, .ref 122, .ref 118], (h.1, qm_up (qm_up I13 128 (v22.toInt.toNat) v15) 118 13 1, J14, h.2.2.2))) rfl ?_
                  obtain ⟨v29, q_v29⟩ : ∃ v, h.2.1 122 (t16.toInt.toNat) = v := ⟨_, rfl⟩
                  refine hk_ial (v := v29) rfl (hH.1 122 (0, 403) rfl) (by omega) (by omega) (show (qm_up (qm_up I13 128 (v22.toInt.toNat) v15) 118 13 1) 122 (t16.toInt.toNat) = _ from ((hk_ot rfl).trans ((hk_ot rfl).trans ((e_I13 122 rfl (t16.toInt.toNat)).trans ((hk_ot rfl).trans q_v29))))) ?_
                  refine qm_Ru.go 0 (c' := (23, [.ref 118, .int 1], [.int v29, .ref 118], (h.1, qm_up (qm_up I13 128 (v22.toInt.toNat) v15) 118 13 1, J14, h.2.2.2))) rfl ?_
                  refine hk_puti rfl (hH.1 118 (17, 105) rfl) rfl ?_
                  refine qm_Ru.go 0 (c' := (26, [.ref 118, .int 1], [], (h.1, qm_up (qm_up (qm_up I13 128 (v22.toInt.toNat) v15) 118 13 1) 118 14 v29, J14, h.2.2.2))) rfl ?_
                  refine qm_Ru.rt (v := none) (h' := (h.1, qm_up (qm_up (qm_up I13 128 (v22.toInt.toNat) v15) 118 13 1) 118 14 v29, J14, h.2.2.2)) rfl ?_
                  refine qm_Ru.go 0 (c' := (20, [.ref 118, .int 4], [], (h.1, qm_up (qm_up (qm_up I13 128 (v22.toInt.toNat) v15) 118 13 1) 118 14 v29, J14, h.2.2.2))) rfl ?_
                  refine qm_Ru.rt (v := none) (h' := (h.1, qm_up (qm_up (qm_up I13 128 (v22.toInt.toNat) v15) 118 13 1) 118 14 v29, J14, h.2.2.2)) rfl ?_
                  refine qm_Ru.go 0 (c' := (352, [.ref 118, .int v1, .int v15, .float 0], [], (h.1, qm_up (qm_up (qm_up I13 128 (v22.toInt.toNat) v15) 118 13 1) 118 14 v29, J14, h.2.2.2))) rfl ?_
                  refine qm_Ru.rt (v := none) (h' := (h.1, qm_up (qm_up (qm_up I13 128 (v22.toInt.toNat) v15) 118 13 1) 118 14 v29, J14, h.2.2.2)) rfl ?_
                  have s131_y30 : ∀ i, (qm_up (qm_up (qm_up I13 128 (v22.toInt.toNat) v15) 118 13 1) 118 14 v29) 131 i = h.2.1 131 i := fun i => ((hk_ot rfl).trans ((hk_ot rfl).trans ((hk_ot rfl).trans ((e_I13 131 rfl i).trans ((hk_ot rfl).trans rfl)))))
                  have s132_y30 : ∀ i, (qm_up (qm_up (qm_up I13 128 (v22.toInt.toNat) v15) 118 13 1) 118 14 v29) 132 i = h.2.1 132 i := fun i => ((hk_ot rfl).trans ((hk_ot rfl).trans ((hk_ot rfl).trans ((e_I13 132 rfl i).trans ((hk_ot rfl).trans rfl)))))
                  have s133_y30 : ∀ i, (qm_up (qm_up (qm_up I13 128 (v22.toInt.toNat) v15) 118 13 1) 118 14 v29) 133 i = h.2.1 133 i := fun i => ((hk_ot rfl).trans ((hk_ot rfl).trans ((hk_ot rfl).trans ((e_I13 133 rfl i).trans ((hk_ot rfl).trans rfl)))))
                  have s134_y30 : ∀ i, (qm_up (qm_up (qm_up I13 128 (v22.toInt.toNat) v15) 118 13 1) 118 14 v29) 134 i = h.2.1 134 i := fun i => ((hk_ot rfl).trans ((hk_ot rfl).trans ((hk_ot rfl).trans ((e_I13 134 rfl i).trans ((hk_ot rfl).trans rfl)))))
                  have s138_y30 : ∀ i, (qm_up (qm_up (qm_up I13 128 (v22.toInt.toNat) v15) 118 13 1) 118 14 v29) 138 i = h.2.1 138 i := fun i => ((hk_ot rfl).trans ((hk_ot rfl).trans ((hk_ot rfl).trans ((e_I13 138 rfl i).trans ((hk_ot rfl).trans rfl)))))
                  have s139_y30 : ∀ i, (qm_up (qm_up (qm_up I13 128 (v22.toInt.toNat) v15) 118 13 1) 118 14 v29) 139 i = h.2.1 139 i := fun i => ((hk_ot rfl).trans ((hk_ot rfl).trans ((hk_ot rfl).trans ((e_I13 139 rfl i).trans ((hk_ot rfl).trans rfl)))))
                  have s140_y30 : ∀ i, (qm_up (qm_up (qm_up I13 128 (v22.toInt.toNat) v15) 118 13 1) 118 14 v29) 140 i = h.2.1 140 i := fun i => ((hk_ot rfl).trans ((hk_ot rfl).trans ((hk_ot rfl).trans ((e_I13 140 rfl i).trans ((hk_ot rfl).trans rfl)))))
                  have s141_y30 : ∀ i, (qm_up (qm_up (qm_up I13 128 (v22.toInt.toNat) v15) 118 13 1) 118 14 v29) 141 i = h.2.1 141 i := fun i => ((hk_ot rfl).trans ((hk_ot rfl).trans ((hk_ot rfl).trans ((e_I13 141 rfl i).trans ((hk_ot rfl).trans rfl)))))
                  have s142_y30 : ∀ i, (qm_up (qm_up (qm_up I13 128 (v22.toInt.toNat) v15) 118 13 1) 118 14 v29) 142 i = h.2.1 142 i := fun i => ((hk_ot rfl).trans ((hk_ot rfl).trans ((hk_ot rfl).trans ((e_I13 142 rfl i).trans ((hk_ot rfl).trans rfl)))))
                  have td_y30 : td (sd.toInt.toNat) h.2.1 (qm_up (qm_up (qm_up I13 128 (v22.toInt.toNat) v15) 118 13 1) 118 14 v29) := ⟨fun i _ => ⟨s141_y30 i, s142_y30 i⟩, fun i _ => ⟨s138_y30 i, s139_y30 i, s140_y30 i⟩, fun i _ => ⟨s133_y30 i, s134_y30 i⟩, fun i _ => ⟨s131_y30 i, s132_y30 i⟩⟩
                  exact k (qm_up (qm_up (qm_up I13 128 (v22.toInt.toNat) v15) 118 13 1) 118 14 v29) (J14) t16 1 ca bs la nm pr pp (hb_up (o := 118) (k := 14) (x := v29) (hb_up (o := 118) (k := 13) (x := 1) (hb_up (o := 128) (k := v22.toInt.toNat) (x := v15) hB_I13 (qa_in_full _)) (qa_in_full _)) (qa_in_full _)) (fun o ho i => ((hk_mod ho rfl).trans ((hk_mod ho rfl).trans ((hk_mod ho rfl).trans ((e_I13 o (hk_ms rfl ho) i).trans ((hk_mod ho rfl).trans rfl)))))) (fun i hi => ((hk_neq (fun z => by subst z; cases hi)).trans ((hk_neq (fun z => by subst z; cases hi)).trans ((hk_ot rfl).trans ((e8_I13 i (hk_ms rfl hi)).trans ((hk_neq (fun z => by subst z; cases hi)).trans rfl)))))) (show (qm_up (qm_up (qm_up I13 128 (v22.toInt.toNat) v15) 118 13 1) 118 14 v29) 118 11 = _ from ((hk_neq (by decide)).trans ((hk_neq (by decide)).trans ((hk_ot rfl).trans q_t16)))) (show (qm_up (qm_up (qm_up I13 128 (v22.toInt.toNat) v15) 118 13 1) 118 14 v29) 118 13 = _ from ((hk_neq (by decide)).trans (hk_same))) (show (qm_up (qm_up (qm_up I13 128 (v22.toInt.toNat) v15) 118 13 1) 118 14 v29) 118 37 = _ from ((hk_neq (by decide)).trans ((hk_neq (by decide)).trans ((hk_ot rfl).trans ((e8_I13 37 rfl).trans ((hk_neq (by decide)).trans q_ca)))))) (show (qm_up (qm_up (qm_up I13 128 (v22.toInt.toNat) v15) 118 13 1) 118 14 v29) 118 12 = _ from ((hk_neq (by decide)).trans ((hk_neq (by decide)).trans ((hk_ot rfl).trans ((e8_I13 12 rfl).trans ((hk_neq (by decide)).trans q_bs)))))) (show (qm_up (qm_up (qm_up I13 128 (v22.toInt.toNat) v15) 118 13 1) 118 14 v29) 118 30 = _ from ((hk_neq (by decide)).trans ((hk_neq (by decide)).trans ((hk_ot rfl).trans ((e8_I13 30 rfl).trans ((hk_neq (by decide)).trans q_la)))))) (show (qm_up (qm_up (qm_up I13 128 (v22.toInt.toNat) v15) 118 13 1) 118 14 v29) 118 20 = _ from ((hk_neq (by decide)).trans ((hk_neq (by decide)).trans ((hk_ot rfl).trans ((e8_I13 20 rfl).trans ((hk_neq (by decide)).trans q_nm)))))) (show (qm_up (qm_up (qm_up I13 128 (v22.toInt.toNat) v15) 118 13 1) 118 14 v29) 131 (sd.toInt.toNat) = _ from ((hk_ot rfl).trans ((hk_ot rfl).trans ((hk_ot rfl).trans ((e_I13 131 rfl (sd.toInt.toNat)).trans ((hk_ot rfl).trans q_pr)))))) (show (qm_up (qm_up (qm_up I13 128 (v22.toInt.toNat) v15) 118 13 1) 118 14 v29) 132 (sd.toInt.toNat) = _ from ((hk_ot rfl).trans ((hk_ot rfl).trans ((hk_ot rfl).trans ((e_I13 132 rfl (sd.toInt.toNat)).trans ((hk_ot rfl).trans q_pp)))))) (by omega) (fun z => by omega) td_y30 (fun z => rs_sm hrs s133_y30 s134_y30 s138_y30 s139_y30 s140_y30 s141_y30 s142_y30 (by omega))
                · refine qm_Ru.go 2 (c' := (25, [.ref 118, .int 4], [.int 1], (h.1, qm_up I13 128 (v22.toInt.toNat) v15, J14, h.2.2.2))) rfl ?_
                  refine qm_Ru.rt (v := (some (.int 1))) (h' := (h.1, qm_up I13 128 (v22.toInt.toNat) v15, J14, h.2.2.2)) rfl ?_
                  refine qm_Ru.go 2 (c' := (9, [.ref 118, .int 4], [.ref 118], (h.1, qm_up I13 128 (v22.toInt.toNat) v15, J14, h.2.2.2))) rfl ?_
                  refine hk_inv (o := 118) (r := []) (as := [.ref 118]) rfl rfl (hH.1 118 (17, 105) rfl) rfl rfl rfl rfl ?_
                  refine qm_Ru.go 1 (c' := (1, [.ref 118], [.ref 118], (h.1, qm_up I13 128 (v22.toInt.toNat) v15, J14, h.2.2.2))) rfl ?_
                  refine hk_geti (v := t16) rfl (hH.1 118 (17, 105) rfl) rfl (show (qm_up I13 128 (v22.toInt.toNat) v15) 118 11 = _ from ((hk_ot rfl).trans q_t16)) ?_
                  refine qm_Ru.go 1 (c' := (7, [.ref 118], [.int 400, .int t16], (h.1, qm_up I13 128 (v22.toInt.toNat) v15, J14, h.2.2.2))) rfl ?_
                  refine hk_cne (ix := t16.toInt) (iy := 400) rfl rfl rfl (fun z31 => ?_) (fun z31 => ?_)
                  · refine qm_Ru.go 2 (c' := (20, [.ref 118], [.ref 118, .ref 118], (h.1, qm_up I13 128 (v22.toInt.toNat) v15, J14, h.2.2.2))) rfl ?_
                    refine hk_geti (v := t16) rfl (hH.1 118 (17, 105) rfl) rfl (show (qm_up I13 128 (v22.toInt.toNat) v15) 118 11 = _ from ((hk_ot rfl).trans q_t16)) ?_
                    refine qm_Ru.go 2 (c' := (25, [.ref 118], [.int (t16 + 1), .ref 118], (h.1, qm_up I13 128 (v22.toInt.toNat) v15, J14, h.2.2.2))) rfl ?_
                    obtain ⟨v32, q_v32, e_v32⟩ := hk_add (x := t16) (y := 1) (a := t16.toInt) (b := 1) rfl rfl (by omega) (by omega)
                    rw [q_v32]
                    refine hk_puti rfl (hH.1 118 (17, 105) rfl) rfl ?_
                    refine qm_Ru.go 0 (c' := (28, [.ref 118], [], (h.1, qm_up (qm_up I13 128 (v22.toInt.toNat) v15) 118 11 v32, J14, h.2.2.2))) rfl ?_
                    refine qm_Ru.rt (v := none) (h' := (h.1, qm_up (qm_up I13 128 (v22.toInt.toNat) v15) 118 11 v32, J14, h.2.2.2)) rfl ?_
                    refine qm_Ru.go 1 (c' := (20, [.ref 118, .int 4], [], (h.1, qm_up (qm_up I13 128 (v22.toInt.toNat) v15) 118 11 v32, J14, h.2.2.2))) rfl ?_
                    refine qm_Ru.rt (v := none) (h' := (h.1, qm_up (qm_up I13 128 (v22.toInt.toNat) v15) 118 11 v32, J14, h.2.2.2)) rfl ?_
                    refine qm_Ru.go 0 (c' := (352, [.ref 118, .int v1, .int v15, .float 0], [], (h.1, qm_up (qm_up I13 128 (v22.toInt.toNat) v15) 118 11 v32, J14, h.2.2.2))) rfl ?_
                    refine qm_Ru.rt (v := none) (h' := (h.1, qm_up (qm_up I13 128 (v22.toInt.toNat) v15) 118 11 v32, J14, h.2.2.2)) rfl ?_
                    have s131_y33 : ∀ i, (qm_up (qm_up I13 128 (v22.toInt.toNat) v15) 118 11 v32) 131 i = h.2.1 131 i := fun i => ((hk_ot rfl).trans ((hk_ot rfl).trans ((e_I13 131 rfl i).trans ((hk_ot rfl).trans rfl))))
                    have s132_y33 : ∀ i, (qm_up (qm_up I13 128 (v22.toInt.toNat) v15) 118 11 v32) 132 i = h.2.1 132 i := fun i => ((hk_ot rfl).trans ((hk_ot rfl).trans ((e_I13 132 rfl i).trans ((hk_ot rfl).trans rfl))))
                    have s133_y33 : ∀ i, (qm_up (qm_up I13 128 (v22.toInt.toNat) v15) 118 11 v32) 133 i = h.2.1 133 i := fun i => ((hk_ot rfl).trans ((hk_ot rfl).trans ((e_I13 133 rfl i).trans ((hk_ot rfl).trans rfl))))
                    have s134_y33 : ∀ i, (qm_up (qm_up I13 128 (v22.toInt.toNat) v15) 118 11 v32) 134 i = h.2.1 134 i := fun i => ((hk_ot rfl).trans ((hk_ot rfl).trans ((e_I13 134 rfl i).trans ((hk_ot rfl).trans rfl))))
                    have s138_y33 : ∀ i, (qm_up (qm_up I13 128 (v22.toInt.toNat) v15) 118 11 v32) 138 i = h.2.1 138 i := fun i => ((hk_ot rfl).trans ((hk_ot rfl).trans ((e_I13 138 rfl i).trans ((hk_ot rfl).trans rfl))))
                    have s139_y33 : ∀ i, (qm_up (qm_up I13 128 (v22.toInt.toNat) v15) 118 11 v32) 139 i = h.2.1 139 i := fun i => ((hk_ot rfl).trans ((hk_ot rfl).trans ((e_I13 139 rfl i).trans ((hk_ot rfl).trans rfl))))
                    have s140_y33 : ∀ i, (qm_up (qm_up I13 128 (v22.toInt.toNat) v15) 118 11 v32) 140 i = h.2.1 140 i := fun i => ((hk_ot rfl).trans ((hk_ot rfl).trans ((e_I13 140 rfl i).trans ((hk_ot rfl).trans rfl))))
                    have s141_y33 : ∀ i, (qm_up (qm_up I13 128 (v22.toInt.toNat) v15) 118 11 v32) 141 i = h.2.1 141 i := fun i => ((hk_ot rfl).trans ((hk_ot rfl).trans ((e_I13 141 rfl i).trans ((hk_ot rfl).trans rfl))))
                    have s142_y33 : ∀ i, (qm_up (qm_up I13 128 (v22.toInt.toNat) v15) 118 11 v32) 142 i = h.2.1 142 i := fun i => ((hk_ot rfl).trans ((hk_ot rfl).trans ((e_I13 142 rfl i).trans ((hk_ot rfl).trans rfl))))
                    have td_y33 : td (sd.toInt.toNat) h.2.1 (qm_up (qm_up I13 128 (v22.toInt.toNat) v15) 118 11 v32) := ⟨fun i _ => ⟨s141_y33 i, s142_y33 i⟩, fun i _ => ⟨s138_y33 i, s139_y33 i, s140_y33 i⟩, fun i _ => ⟨s133_y33 i, s134_y33 i⟩, fun i _ => ⟨s131_y33 i, s132_y33 i⟩⟩
                    exact k (qm_up (qm_up I13 128 (v22.toInt.toNat) v15) 118 11 v32) (J14) v32 f17 ca bs la nm pr pp (hb_up (o := 118) (k := 11) (x := v32) (hb_up (o := 128) (k := v22.toInt.toNat) (x := v15) hB_I13 (qa_in_full _)) ⟨by show (0 : Int) ≤ v32.toInt; omega, by show v32.toInt ≤ (400 : Int); omega⟩) (fun o ho i => ((hk_mod ho rfl).trans ((hk_mod ho rfl).trans ((e_I13 o (hk_ms rfl ho) i).trans ((hk_mod ho rfl).trans rfl))))) (fun i hi => ((hk_neq (fun z => by subst z; cases hi)).trans ((hk_ot rfl).trans ((e8_I13 i (hk_ms rfl hi)).trans ((hk_neq (fun z => by subst z; cases hi)).trans rfl))))) (show (qm_up (qm_up I13 128 (v22.toInt.toNat) v15) 118 11 v32) 118 11 = _ from (hk_same)) (show (qm_up (qm_up I13 128 (v22.toInt.toNat) v15) 118 11 v32) 118 13 = _ from ((hk_neq (by decide)).trans ((hk_ot rfl).trans q_f17))) (show (qm_up (qm_up I13 128 (v22.toInt.toNat) v15) 118 11 v32) 118 37 = _ from ((hk_neq (by decide)).trans ((hk_ot rfl).trans ((e8_I13 37 rfl).trans ((hk_neq (by decide)).trans q_ca))))) (show (qm_up (qm_up I13 128 (v22.toInt.toNat) v15) 118 11 v32) 118 12 = _ from ((hk_neq (by decide)).trans ((hk_ot rfl).trans ((e8_I13 12 rfl).trans ((hk_neq (by decide)).trans q_bs))))) (show (qm_up (qm_up I13 128 (v22.toInt.toNat) v15) 118 11 v32) 118 30 = _ from ((hk_neq (by decide)).trans ((hk_ot rfl).trans ((e8_I13 30 rfl).trans ((hk_neq (by decide)).trans q_la))))) (show (qm_up (qm_up I13 128 (v22.toInt.toNat) v15) 118 11 v32) 118 20 = _ from ((hk_neq (by decide)).trans ((hk_ot rfl).trans ((e8_I13 20 rfl).trans ((hk_neq (by decide)).trans q_nm))))) (show (qm_up (qm_up I13 128 (v22.toInt.toNat) v15) 118 11 v32) 131 (sd.toInt.toNat) = _ from ((hk_ot rfl).trans ((hk_ot rfl).trans ((e_I13 131 rfl (sd.toInt.toNat)).trans ((hk_ot rfl).trans q_pr))))) (show (qm_up (qm_up I13 128 (v22.toInt.toNat) v15) 118 11 v32) 132 (sd.toInt.toNat) = _ from ((hk_ot rfl).trans ((hk_ot rfl).trans ((e_I13 132 rfl (sd.toInt.toNat)).trans ((hk_ot rfl).trans q_pp))))) (by omega) (fun z => by omega) td_y33 (fun z => rs_sm hrs s133_y33 s134_y33 s138_y33 s139_y33 s140_y33 s141_y33 s142_y33 (by omega))
                  · refine qm_Ru.go 2 (c' := (12, [.ref 118], [.int 2, .ref 118], (h.1, qm_up I13 128 (v22.toInt.toNat) v15, J14, h.2.2.2))) rfl ?_
                    refine hk_inv (o := 118) (r := []) (as := [.ref 118, .int 2]) rfl rfl (hH.1 118 (17, 105) rfl) rfl rfl rfl rfl ?_
                    refine qm_Ru.go 1 (c' := (1, [.ref 118, .int 2], [.ref 118], (h.1, qm_up I13 128 (v22.toInt.toNat) v15, J14, h.2.2.2))) rfl ?_
                    refine hk_geti (v := f17) rfl (hH.1 118 (17, 105) rfl) rfl (show (qm_up I13 128 (v22.toInt.toNat) v15) 118 13 = _ from ((hk_ot rfl).trans q_f17)) ?_
                    refine qm_Ru.go 0 (c' := (4, [.ref 118, .int 2], [.int f17], (h.1, qm_up I13 128 (v22.toInt.toNat) v15, J14, h.2.2.2))) rfl ?_
                    refine hk_zle (ix := f17.toInt) rfl rfl (fun z34 => ?_) (fun z34 => by exfalso; omega)
                    refine qm_Ru.go 2 (c' := (10, [.ref 118, .int 2], [.int 2, .ref 118], (h.1, qm_up I13 128 (v22.toInt.toNat) v15, J14, h.2.2.2))) rfl ?_
                    refine hk_puti rfl (hH.1 118 (17, 105) rfl) rfl ?_
                    refine qm_Ru.go 2 (c' := (15, [.ref 118, .int 2], [.ref 118, .ref 118], (h.1, qm_up (qm_up I13 128 (v22.toInt.toNat) v15) 118 13 2, J14, h.2.2.2))) rfl ?_
                    refine hk_getr rfl (hH.1 118 (17, 105) rfl) rfl (hH.2 118 6 (some 122) rfl) ?_
                    refine qm_Ru.go 1 (c' := (19, [.ref 118, .int 2], [.ref 118, .ref 122, .ref 118], (h.1, qm_up (qm_up I13 128 (v22.toInt.toNat) v15) 118 13 2, J14, h.2.2.2))) rfl ?_
                    refine hk_geti (v := t16) rfl (hH.1 118 (17, 105) rfl) rfl (show (qm_up (qm_up I13 128 (v22.toInt.toNat) v15) 118 13 2) 118 11 = _ from ((hk_neq (by decide)).trans ((hk_ot rfl).trans q_t16))) ?_
                    refine qm_Ru.go 0 (c' := (22, [.ref 118, .int 2], [.int t16, .ref 122, .ref 118], (h.1, qm_up (qm_up I13 128 (v22.toInt.toNat) v15) 118 13 2, J14, h.2.2.2))) rfl ?_
                    obtain ⟨v35, q_v35⟩ : ∃ v, h.2.1 122 (t16.toInt.toNat) = v := ⟨_, rfl⟩
                    refine hk_ial (v := v35) rfl (hH.1 122 (0, 403) rfl) (by omega) (by omega) (show (qm_up (qm_up I13 128 (v22.toInt.toNat) v15) 118 13 2) 122 (t16.toInt.toNat) = _ from ((hk_ot rfl).trans ((hk_ot rfl).trans ((e_I13 122 rfl (t16.toInt.toNat)).trans ((hk_ot rfl).trans q_v35))))) ?_
                    refine qm_Ru.go 0 (c' := (23, [.ref 118, .int 2], [.int v35, .ref 118], (h.1, qm_up (qm_up I13 128 (v22.toInt.toNat) v15) 118 13 2, J14, h.2.2.2))) rfl ?_
                    refine hk_puti rfl (hH.1 118 (17, 105) rfl) rfl ?_
                    refine qm_Ru.go 0 (c' := (26, [.ref 118, .int 2], [], (h.1, qm_up (qm_up (qm_up I13 128 (v22.toInt.toNat) v15) 118 13 2) 118 14 v35, J14, h.2.2.2))) rfl ?_
                    refine qm_Ru.rt (v := none) (h' := (h.1, qm_up (qm_up (qm_up I13 128 (v22.toInt.toNat) v15) 118 13 2) 118 14 v35, J14, h.2.2.2)) rfl ?_
                    refine qm_Ru.go 1 (c' := (28, [.ref 118], [], (h.1, qm_up (qm_up (qm_up I13 128 (v22.toInt.toNat) v15) 118 13 2) 118 14 v35, J14, h.2.2.2))) rfl ?_
                    refine qm_Ru.rt (v := none) (h' := (h.1, qm_up (qm_up (qm_up I13 128 (v22.toInt.toNat) v15) 118 13 2) 118 14 v35, J14, h.2.2.2)) rfl ?_
                    refine qm_Ru.go 1 (c' := (20, [.ref 118, .int 4], [], (h.1, qm_up (qm_up (qm_up I13 128 (v22.toInt.toNat) v15) 118 13 2) 118 14 v35, J14, h.2.2.2))) rfl ?_
                    refine qm_Ru.rt (v := none) (h' := (h.1, qm_up (qm_up (qm_up I13 128 (v22.toInt.toNat) v15) 118 13 2) 118 14 v35, J14, h.2.2.2)) rfl ?_
                    refine qm_Ru.go 0 (c' := (352, [.ref 118, .int v1, .int v15, .float 0], [], (h.1, qm_up (qm_up (qm_up I13 128 (v22.toInt.toNat) v15) 118 13 2) 118 14 v35, J14, h.2.2.2))) rfl ?_
                    refine qm_Ru.rt (v := none) (h' := (h.1, qm_up (qm_up (qm_up I13 128 (v22.toInt.toNat) v15) 118 13 2) 118 14 v35, J14, h.2.2.2)) rfl ?_
                    have s131_y36 : ∀ i, (qm_up (qm_up (qm_up I13 128 (v22.toInt.toNat) v15) 118 13 2) 118 14 v35) 131 i = h.2.1 131 i := fun i => ((hk_ot rfl).trans ((hk_ot rfl).trans ((hk_ot rfl).trans ((e_I13 131 rfl i).trans ((hk_ot rfl).trans rfl)))))
                    have s132_y36 : ∀ i, (qm_up (qm_up (qm_up I13 128 (v22.toInt.toNat) v15) 118 13 2) 118 14 v35) 132 i = h.2.1 132 i := fun i => ((hk_ot rfl).trans ((hk_ot rfl).trans ((hk_ot rfl).trans ((e_I13 132 rfl i).trans ((hk_ot rfl).trans rfl)))))
                    have s133_y36 : ∀ i, (qm_up (qm_up (qm_up I13 128 (v22.toInt.toNat) v15) 118 13 2) 118 14 v35) 133 i = h.2.1 133 i := fun i => ((hk_ot rfl).trans ((hk_ot rfl).trans ((hk_ot rfl).trans ((e_I13 133 rfl i).trans ((hk_ot rfl).trans rfl)))))
                    have s134_y36 : ∀ i, (qm_up (qm_up (qm_up I13 128 (v22.toInt.toNat) v15) 118 13 2) 118 14 v35) 134 i = h.2.1 134 i := fun i => ((hk_ot rfl).trans ((hk_ot rfl).trans ((hk_ot rfl).trans ((e_I13 134 rfl i).trans ((hk_ot rfl).trans rfl)))))
                    have s138_y36 : ∀ i, (qm_up (qm_up (qm_up I13 128 (v22.toInt.toNat) v15) 118 13 2) 118 14 v35) 138 i = h.2.1 138 i := fun i => ((hk_ot rfl).trans ((hk_ot rfl).trans ((hk_ot rfl).trans ((e_I13 138 rfl i).trans ((hk_ot rfl).trans rfl)))))
                    have s139_y36 : ∀ i, (qm_up (qm_up (qm_up I13 128 (v22.toInt.toNat) v15) 118 13 2) 118 14 v35) 139 i = h.2.1 139 i := fun i => ((hk_ot rfl).trans ((hk_ot rfl).trans ((hk_ot rfl).trans ((e_I13 139 rfl i).trans ((hk_ot rfl).trans rfl)))))
                    have s140_y36 : ∀ i, (qm_up (qm_up (qm_up I13 128 (v22.toInt.toNat) v15) 118 13 2) 118 14 v35) 140 i = h.2.1 140 i := fun i => ((hk_ot rfl).trans ((hk_ot rfl).trans ((hk_ot rfl).trans ((e_I13 140 rfl i).trans ((hk_ot rfl).trans rfl)))))
                    have s141_y36 : ∀ i, (qm_up (qm_up (qm_up I13 128 (v22.toInt.toNat) v15) 118 13 2) 118 14 v35) 141 i = h.2.1 141 i := fun i => ((hk_ot rfl).trans ((hk_ot rfl).trans ((hk_ot rfl).trans ((e_I13 141 rfl i).trans ((hk_ot rfl).trans rfl)))))
                    have s142_y36 : ∀ i, (qm_up (qm_up (qm_up I13 128 (v22.toInt.toNat) v15) 118 13 2) 118 14 v35) 142 i = h.2.1 142 i := fun i => ((hk_ot rfl).trans ((hk_ot rfl).trans ((hk_ot rfl).trans ((e_I13 142 rfl i).trans ((hk_ot rfl).trans rfl)))))
                    have td_y36 : td (sd.toInt.toNat) h.2.1 (qm_up (qm_up (qm_up I13 128 (v22.toInt.toNat) v15) 118 13 2) 118 14 v35) := ⟨fun i _ => ⟨s141_y36 i, s142_y36 i⟩, fun i _ => ⟨s138_y36 i, s139_y36 i, s140_y36 i⟩, fun i _ => ⟨s133_y36 i, s134_y36 i⟩, fun i _ => ⟨s131_y36 i, s132_y36 i⟩⟩
                    exact k (qm_up (qm_up (qm_up I13 128 (v22.toInt.toNat) v15) 118 13 2) 118 14 v35) (J14) t16 2 ca bs la nm pr pp (hb_up (o := 118) (k := 14) (x := v35) (hb_up (o := 118) (k := 13) (x := 2) (hb_up (o := 128) (k := v22.toInt.toNat) (x := v15) hB_I13 (qa_in_full _)) (qa_in_full _)) (qa_in_full _)) (fun o ho i => ((hk_mod ho rfl).trans ((hk_mod ho rfl).trans ((hk_mod ho rfl).trans ((e_I13 o (hk_ms rfl ho) i).trans ((hk_mod ho rfl).trans rfl)))))) (fun i hi => ((hk_neq (fun z => by subst z; cases hi)).trans ((hk_neq (fun z => by subst z; cases hi)).trans ((hk_ot rfl).trans ((e8_I13 i (hk_ms rfl hi)).trans ((hk_neq (fun z => by subst z; cases hi)).trans rfl)))))) (show (qm_up (qm_up (qm_up I13 128 (v22.toInt.toNat) v15) 118 13 2) 118 14 v35) 118 11 = _ from ((hk_neq (by decide)).trans ((hk_neq (by decide)).trans ((hk_ot rfl).trans q_t16)))) (show (qm_up (qm_up (qm_up I13 128 (v22.toInt.toNat) v15) 118 13 2) 118 14 v35) 118 13 = _ from ((hk_neq (by decide)).trans (hk_same))) (show (qm_up (qm_up (qm_up I13 128 (v22.toInt.toNat) v15) 118 13 2) 118 14 v35) 118 37 = _ from ((hk_neq (by decide)).trans ((hk_neq (by decide)).trans ((hk_ot rfl).trans ((e8_I13 37 rfl).trans ((hk_neq (by decide)).trans q_ca)))))) (show (qm_up (qm_up (qm_up I13 128 (v22.toInt.toNat) v15) 118 13 2) 118 14 v35) 118 12 = _ from ((hk_neq (by decide)).trans ((hk_neq (by decide)).trans ((hk_ot rfl).trans ((e8_I13 12 rfl).trans ((hk_neq (by decide)).trans q_bs)))))) (show (qm_up (qm_up (qm_up I13 128 (v22.toInt.toNat) v15) 118 13 2) 118 14 v35) 118 30 = _ from ((hk_neq (by decide)).trans ((hk_neq (by decide)).trans ((hk_ot rfl).trans ((e8_I13 30 rfl).trans ((hk_neq (by decide)).trans q_la)))))) (show (qm_up (qm_up (qm_up I13 128 (v22.toInt.toNat) v15) 118 13 2) 118 14 v35) 118 20 = _ from ((hk_neq (by decide)).trans ((hk_neq (by decide)).trans ((hk_ot rfl).trans ((e8_I13 20 rfl).trans ((hk_neq (by decide)).trans q_nm)))))) (show (qm_up (qm_up (qm_up I13 128 (v22.toInt.toNat) v15) 118 13 2) 118 14 v35) 131 (sd.toInt.toNat) = _ from ((hk_ot rfl).trans ((hk_ot rfl).trans ((hk_ot rfl).trans ((e_I13 131 rfl (sd.toInt.toNat)).trans ((hk_ot rfl).trans q_pr)))))) (show (qm_up (qm_up (qm_up I13 128 (v22.toInt.toNat) v15) 118 13 2) 118 14 v35) 132 (sd.toInt.toNat) = _ from ((hk_ot rfl).trans ((hk_ot rfl).trans ((hk_ot rfl).trans ((e_I13 132 rfl (sd.toInt.toNat)).trans ((hk_ot rfl).trans q_pp)))))) (by omega) (fun z => by omega) td_y36 (fun z => rs_sm hrs s133_y36 s134_y36 s138_y36 s139_y36 s140_y36 s141_y36 s142_y36 (by omega))
            · refine qm_Ru.go 4 (c' := (278, [.ref 118, .int v1, .float 0, .float 0], [.int 20, .int v1, .int 1, .ref 118], (h.1, qm_up h.2.1 118 11 v9, h.2.2.1, h.2.2.2))) rfl ?_
              refine hk_cne (ix := v1.toInt) (iy := 20) rfl rfl rfl (fun z37 => ?_) (fun z37 => by exfalso; omega)
              refine qm_Ru.go 1 (c' := (288, [.ref 118, .int v1, .float 0, .float 0], [.int 9999, .int 1, .ref 118], (h.1, qm_up h.2.1 118 11 v9, h.2.2.1, h.2.2.2))) rfl ?_
              refine hk_inv (o := 118) (r := []) (as := [.ref 118, .int 1, .int 9999]) rfl rfl (hH.1 118 (17, 105) rfl) rfl rfl rfl rfl (hs_told (d := d + 4) (h := (h.1, qm_up h.2.1 118 11 v9, h.2.2.1, h.2.2.2)) hH (hb_up (o := 118) (k := 11) (x := v9) hB ⟨by show (0 : Int) ≤ v9.toInt; omega, by show v9.toInt ≤ (400 : Int); omega⟩) (ta := v9) (fa := fa) (lo := 1) (hi := 9999) (show (qm_up h.2.1 118 11 v9) 118 11 = _ from (hk_same)) (show (qm_up h.2.1 118 11 v9) 118 13 = _ from ((hk_neq (by decide)).trans q_fa)) (by omega) (by decide) (fun I38 J39 v40 t41 f42 hB_I38 e_I38 e8_I38 q_t41 q_f42 b1_I38 b2_I38 => ?_))
              have b2_I38 : (1 : Int) ≤ v40.toInt ∧ v40.toInt ≤ 9999 := b2_I38
              have e_I38 : ∀ o, [118].contains o = false → ∀ i, I38 o i = (qm_up h.2.1 118 11 v9) o i := e_I38
              have e8_I38 : ∀ i, [11, 13, 14, 15, 16].contains i = false → I38 118 i = (qm_up h.2.1 118 11 v9) 118 i := e8_I38
              refine qm_Ru.go 3 (c' := (295, [.ref 118, .int v1, .int v40, .float 0], [.int 20, .int v1], (h.1, I38, J39, h.2.2.2))) rfl ?_
              refine hk_cne (ix := v1.toInt) (iy := 20) rfl rfl rfl (fun z43 => ?_) (fun z43 => by exfalso; omega)
              refine qm_Ru.go 2 (c' := (314, [.ref 118, .int v1, .int v40, .float 0], [.int 24, .int v1], (h.1, I38, J39, h.2.2.2))) rfl ?_
              refine hk_cne (ix := v1.toInt) (iy := 24) rfl rfl rfl (fun z44 => by exfalso; omega) (fun z44 => ?_)
              refine qm_Ru.go 1 (c' := (318, [.ref 118, .int v1, .int v40, .float 0], [.ref 118], (h.1, I38, J39, h.2.2.2))) rfl ?_
              refine hk_getr rfl (hH.1 118 (17, 105) rfl) rfl (hH.2 118 24 (some 129) rfl) ?_
              refine qm_Ru.go 1 (c' := (322, [.ref 118, .int v1, .int v40, .float 0], [.ref 118, .ref 129], (h.1, I38, J39, h.2.2.2))) rfl ?_
              refine hk_geti (v := sd) rfl (hH.1 118 (17, 105) rfl) rfl (show (I38) 118 19 = _ from ((e8_I38 19 rfl).trans ((hk_neq (by decide)).trans q_sd))) ?_
              refine qm_Ru.go 1 (c' := (326, [.ref 118, .int v1, .int v40, .float 0], [.int v40, .int sd, .ref 129], (h.1, I38, J39, h.2.2.2))) rfl ?_
              refine hk_ias rfl (hH.1 129 (0, 2) rfl) (by omega) (by omega) ?_
              refine qm_Ru.go 3 (c' := (349, [.ref 118, .int v1, .int v40, .float 0], [.int 4, .ref 118], (h.1, qm_up I38 129 (sd.toInt.toNat) v40, J39, h.2.2.2))) rfl ?_
              refine hk_inv (o := 118) (r := []) (as := [.ref 118, .int 4]) rfl rfl (hH.1 118 (17, 105) rfl) rfl rfl rfl rfl ?_
              refine qm_Ru.go 2 (c' := (2, [.ref 118, .int 4], [.int 4, .ref 118], (h.1, qm_up I38 129 (sd.toInt.toNat) v40, J39, h.2.2.2))) rfl ?_
              refine hk_inv (o := 118) (r := []) (as := [.ref 118, .int 4]) rfl rfl (hH.1 118 (17, 105) rfl) rfl rfl rfl rfl ?_
              refine qm_Ru.go 1 (c' := (1, [.ref 118, .int 4], [.ref 118], (h.1, qm_up I38 129 (sd.toInt.toNat) v40, J39, h.2.2.2))) rfl ?_
              refine hk_geti (v := f42) rfl (hH.1 118 (17, 105) rfl) rfl (show (qm_up I38 129 (sd.toInt.toNat) v40) 118 13 = _ from ((hk_ot rfl).trans q_f42)) ?_
              refine qm_Ru.go 0 (c' := (4, [.ref 118, .int 4], [.int f42], (h.1, qm_up I38 129 (sd.toInt.toNat) v40, J39, h.2.2.2))) rfl ?_
              refine hk_zne (ix := f42.toInt) rfl rfl (fun z45 => ?_) (fun z45 => ?_)
              · refine qm_Ru.go 1 (c' := (25, [.ref 118, .int 4], [.int 0], (h.1, qm_up I38 129 (sd.toInt.toNat) v40, J39, h.2.2.2))) rfl ?_
                refine qm_Ru.rt (v := (some (.int 0))) (h' := (h.1, qm_up I38 129 (sd.toInt.toNat) v40, J39, h.2.2.2)) rfl ?_
                refine qm_Ru.go 3 (c' := (17, [.ref 118, .int 4], [.int 1, .ref 118], (h.1, qm_up I38 129 (sd.toInt.toNat) v40, J39, h.2.2.2))) rfl ?_
                refine hk_inv (o := 118) (r := []) (as := [.ref 118, .int 1]) rfl rfl (hH.1 118 (17, 105) rfl) rfl rfl rfl rfl ?_
                refine qm_Ru.go 1 (c' := (1, [.ref 118, .int 1], [.ref 118], (h.1, qm_up I38 129 (sd.toInt.toNat) v40, J39, h.2.2.2))) rfl ?_
                refine hk_geti (v := f42) rfl (hH.1 118 (17, 105) rfl) rfl (show (qm_up I38 129 (sd.toInt.toNat) v40) 118 13 = _ from ((hk_ot rfl).trans q_f42)) ?_
                refine qm_Ru.go 0 (c' := (4, [.ref 118, .int 1], [.int f42], (h.1, qm_up I38 129 (sd.toInt.toNat) v40, J39, h.2.2.2))) rfl ?_
                refine hk_zle (ix := f42.toInt) rfl rfl (fun z46 => by exfalso; omega) (fun z46 => ?_)
                refine qm_Ru.go 0 (c' := (7, [.ref 118, .int 1], [], (h.1, qm_up I38 129 (sd.toInt.toNat) v40, J39, h.2.2.2))) rfl ?_
                refine qm_Ru.rt (v := none) (h' := (h.1, qm_up I38 129 (sd.toInt.toNat) v40, J39, h.2.2.2)) rfl ?_
                refine qm_Ru.go 0 (c' := (20, [.ref 118, .int 4], [], (h.1, qm_up I38 129 (sd.toInt.toNat) v40, J39, h.2.2.2))) rfl ?_
                refine qm_Ru.rt (v := none) (h' := (h.1, qm_up I38 129 (sd.toInt.toNat) v40, J39, h.2.2.2)) rfl ?_
                refine qm_Ru.go 0 (c' := (352, [.ref 118, .int v1, .int v40, .float 0], [], (h.1, qm_up I38 129 (sd.toInt.toNat) v40, J39, h.2.2.2))) rfl ?_
                refine qm_Ru.rt (v := none) (h' := (h.1, qm_up I38 129 (sd.toInt.toNat) v40, J39, h.2.2.2)) rfl ?_
                have s131_y47 : ∀ i, (qm_up I38 129 (sd.toInt.toNat) v40) 131 i = h.2.1 131 i := fun i => ((hk_ot rfl).trans ((e_I38 131 rfl i).trans ((hk_ot rfl).trans rfl)))
                have s132_y47 : ∀ i, (qm_up I38 129 (sd.toInt.toNat) v40) 132 i = h.2.1 132 i := fun i => ((hk_ot rfl).trans ((e_I38 132 rfl i).trans ((hk_ot rfl).trans rfl)))
                have s133_y47 : ∀ i, (qm_up I38 129 (sd.toInt.toNat) v40) 133 i = h.2.1 133 i := fun i => ((hk_ot rfl).trans ((e_I38 133 rfl i).trans ((hk_ot rfl).trans rfl)))
                have s134_y47 : ∀ i, (qm_up I38 129 (sd.toInt.toNat) v40) 134 i = h.2.1 134 i := fun i => ((hk_ot rfl).trans ((e_I38 134 rfl i).trans ((hk_ot rfl).trans rfl)))
                have s138_y47 : ∀ i, (qm_up I38 129 (sd.toInt.toNat) v40) 138 i = h.2.1 138 i := fun i => ((hk_ot rfl).trans ((e_I38 138 rfl i).trans ((hk_ot rfl).trans rfl)))
                have s139_y47 : ∀ i, (qm_up I38 129 (sd.toInt.toNat) v40) 139 i = h.2.1 139 i := fun i => ((hk_ot rfl).trans ((e_I38 139 rfl i).trans ((hk_ot rfl).trans rfl)))
                have s140_y47 : ∀ i, (qm_up I38 129 (sd.toInt.toNat) v40) 140 i = h.2.1 140 i := fun i => ((hk_ot rfl).trans ((e_I38 140 rfl i).trans ((hk_ot rfl).trans rfl)))
                have s141_y47 : ∀ i, (qm_up I38 129 (sd.toInt.toNat) v40) 141 i = h.2.1 141 i := fun i => ((hk_ot rfl).trans ((e_I38 141 rfl i).trans ((hk_ot rfl).trans rfl)))
                have s142_y47 : ∀ i, (qm_up I38 129 (sd.toInt.toNat) v40) 142 i = h.2.1 142 i := fun i => ((hk_ot rfl).trans ((e_I38 142 rfl i).trans ((hk_ot rfl).trans rfl)))
                have td_y47 : td (sd.toInt.toNat) h.2.1 (qm_up I38 129 (sd.toInt.toNat) v40) := ⟨fun i _ => ⟨s141_y47 i, s142_y47 i⟩, fun i _ => ⟨s138_y47 i, s139_y47 i, s140_y47 i⟩, fun i _ => ⟨s133_y47 i, s134_y47 i⟩, fun i _ => ⟨s131_y47 i, s132_y47 i⟩⟩
                exact k (qm_up I38 129 (sd.toInt.toNat) v40) (J39) t41 f42 ca bs la nm pr pp (hb_up (o := 129) (k := sd.toInt.toNat) (x := v40) hB_I38 (qa_in_full _)) (fun o ho i => ((hk_mod ho rfl).trans ((e_I38 o (hk_ms rfl ho) i).trans ((hk_mod ho rfl).trans rfl)))) (fun i hi => ((hk_ot rfl).trans ((e8_I38 i (hk_ms rfl hi)).trans ((hk_neq (fun z => by subst z; cases hi)).trans rfl)))) (show (qm_up I38 129 (sd.toInt.toNat) v40) 118 11 = _ from ((hk_ot rfl).trans q_t41)) (show (qm_up I38 129 (sd.toInt.toNat) v40) 118 13 = _ from ((hk_ot rfl).trans q_f42)) (show (qm_up I38 129 (sd.toInt.toNat) v40) 118 37 = _ from ((hk_ot rfl).trans ((e8_I38 37 rfl).trans ((hk_neq (by decide)).trans q_ca)))) (show (qm_up I38 129 (sd.toInt.toNat) v40) 118 12 = _ from ((hk_ot rfl).trans ((e8_I38 12 rfl).trans ((hk_neq (by decide)).trans q_bs)))) (show (qm_up I38 129 (sd.toInt.toNat) v40) 118 30 = _ from ((hk_ot rfl).trans ((e8_I38 30 rfl).trans ((hk_neq (by decide)).trans q_la)))) (show (qm_up I38 129 (sd.toInt.toNat) v40) 118 20 = _ from ((hk_ot rfl).trans ((e8_I38 20 rfl).trans ((hk_neq (by decide)).trans q_nm)))) (show (qm_up I38 129 (sd.toInt.toNat) v40) 131 (sd.toInt.toNat) = _ from ((hk_ot rfl).trans ((e_I38 131 rfl (sd.toInt.toNat)).trans ((hk_ot rfl).trans q_pr)))) (show (qm_up I38 129 (sd.toInt.toNat) v40) 132 (sd.toInt.toNat) = _ from ((hk_ot rfl).trans ((e_I38 132 rfl (sd.toInt.toNat)).trans ((hk_ot rfl).trans q_pp)))) (by omega) (fun z => by omega) td_y47 (fun z => rs_sm hrs s133_y47 s134_y47 s138_y47 s139_y47 s140_y47 s141_y47 s142_y47 (by omega))
              · refine qm_Ru.go 1 (c' := (8, [.ref 118, .int 4], [.ref 118], (h.1, qm_up I38 129 (sd.toInt.toNat) v40, J39, h.2.2.2))) rfl ?_
                refine hk_getr rfl (hH.1 118 (17, 105) rfl) rfl (hH.2 118 5 (some 121) rfl) ?_
                refine qm_Ru.go 1 (c' := (12, [.ref 118, .int 4], [.ref 118, .ref 121], (h.1, qm_up I38 129 (sd.toInt.toNat) v40, J39, h.2.2.2))) rfl ?_
                refine hk_geti (v := t41) rfl (hH.1 118 (17, 105) rfl) rfl (show (qm_up I38 129 (sd.toInt.toNat) v40) 118 11 = _ from ((hk_ot rfl).trans q_t41)) ?_
                refine qm_Ru.go 0 (c' := (15, [.ref 118, .int 4], [.int t41, .ref 121], (h.1, qm_up I38 129 (sd.toInt.toNat) v40, J39, h.2.2.2))) rfl ?_
                obtain ⟨v48, q_v48⟩ : ∃ v, h.2.1 121 (t41.toInt.toNat) = v := ⟨_, rfl⟩
                have b_v48 : (0 : Int) ≤ v48.toInt ∧ v48.toInt ≤ 44 := by rw [← q_v48]; exact hB 121 (t41.toInt.toNat)
                refine hk_ial (v := v48) rfl (hH.1 121 (0, 403) rfl) (by omega) (by omega) (show (qm_up I38 129 (sd.toInt.toNat) v40) 121 (t41.toInt.toNat) = _ from ((hk_ot rfl).trans ((e_I38 121 rfl (t41.toInt.toNat)).trans ((hk_ot rfl).trans q_v48)))) ?_
                refine qm_Ru.go 1 (c' := (17, [.ref 118, .int 4], [.int 4, .int v48], (h.1, qm_up I38 129 (sd.toInt.toNat) v40, J39, h.2.2.2))) rfl ?_
                refine hk_cne (ix := v48.toInt) (iy := 4) rfl rfl rfl (fun z49 => ?_) (fun z49 => ?_)
                · refine qm_Ru.go 1 (c' := (25, [.ref 118, .int 4], [.int 0], (h.1, qm_up I38 129 (sd.toInt.toNat) v40, J39, h.2.2.2))) rfl ?_
                  refine qm_Ru.rt (v := (some (.int 0))) (h' := (h.1, qm_up I38 129 (sd.toInt.toNat) v40, J39, h.2.2.2)) rfl ?_
                  refine qm_Ru.go 3 (c' := (17, [.ref 118, .int 4], [.int 1, .ref 118], (h.1, qm_up I38 129 (sd.toInt.toNat) v40, J39, h.2.2.2))) rfl ?_
                  refine hk_inv (o := 118) (r := []) (as := [.ref 118, .int 1]) rfl rfl (hH.1 118 (17, 105) rfl) rfl rfl rfl rfl ?_
                  refine qm_Ru.go 1 (c' := (1, [.ref 118, .int 1], [.ref 118], (h.1, qm_up I38 129 (sd.toInt.toNat) v40, J39, h.2.2.2))) rfl ?_
                  refine hk_geti (v := f42) rfl (hH.1 118 (17, 105) rfl) rfl (show (qm_up I38 129 (sd.toInt.toNat) v40) 118 13 = _ from ((hk_ot rfl).trans q_f42)) ?_
                  refine qm_Ru.go 0 (c' := (4, [.ref 118, .int 1], [.int f42], (h.1, qm_up I38 129 (sd.toInt.toNat) v40, J39, h.2.2.2))) rfl ?_
                  refine hk_zle (ix := f42.toInt) rfl rfl (fun z50 => ?_) (fun z50 => by exfalso; omega)
                  refine qm_Ru.go 2 (c' := (10, [.ref 118, .int 1], [.int 1, .ref 118], (h.1, qm_up I38 129 (sd.toInt.toNat) v40, J39, h.2.2.2))) rfl ?_
                  refine hk_puti rfl (hH.1 118 (17, 105) rfl) rfl ?_
                  refine qm_Ru.go 2 (c' := (15, [.ref 118, .int 1], [.ref 118, .ref 118], (h.1, qm_up (qm_up I38 129 (sd.toInt.toNat) v40) 118 13 1, J39, h.2.2.2))) rfl ?_
                  refine hk_getr rfl (hH.1 118 (17, 105) rfl) rfl (hH.2 118 6 (some 122) rfl) ?_
                  refine qm_Ru.go 1 (c' := (19, [.ref 118, .int 1], [.ref 118, .ref 122, .ref 118], (h.1, qm_up (qm_up I38 129 (sd.toInt.toNat) v40) 118 13 1, J39, h.2.2.2))) rfl ?_
                  refine hk_geti (v := t41) rfl (hH.1 118 (17, 105) rfl) rfl (show (qm_up (qm_up I38 129 (sd.toInt.toNat) v40) 118 13 1) 118 11 = _ from ((hk_neq (by decide)).trans ((hk_ot rfl).trans q_t41))) ?_
                  refine qm_Ru.go 0 (c' := (22, [.ref 118, .int 1], [.int t41, .ref 122, .ref 118], (h.1, qm_up (qm_up I38 129 (sd.toInt.toNat) v40) 118 13 1, J39, h.2.2.2))) rfl ?_
                  obtain ⟨v51, q_v51⟩ : ∃ v, h.2.1 122 (t41.toInt.toNat) = v := ⟨_, rfl⟩
                  refine hk_ial (v := v51) rfl (hH.1 122 (0, 403) rfl) (by omega) (by omega) (show (qm_up (qm_up I38 129 (sd.toInt.toNat) v40) 118 13 1) 122 (t41.toInt.toNat) = _ from ((hk_ot rfl).trans ((hk_ot rfl).trans ((e_I38 122 rfl (t41.toInt.toNat)).trans ((hk_ot rfl).trans q_v51))))) ?_
                  refine qm_Ru.go 0 (c' := (23, [.ref 118, .int 1], [.int v51, .ref 118], (h.1, qm_up (qm_up I38 129 (sd.toInt.toNat) v40) 118 13 1, J39, h.2.2.2))) rfl ?_
                  refine hk_puti rfl (hH.1 118 (17, 105) rfl) rfl ?_
                  refine qm_Ru.go 0 (c' := (26, [.ref 118, .int 1], [], (h.1, qm_up (qm_up (qm_up I38 129 (sd.toInt.toNat) v40) 118 13 1) 118 14 v51, J39, h.2.2.2))) rfl ?_
                  refine qm_Ru.rt (v := none) (h' := (h.1, qm_up (qm_up (qm_up I38 129 (sd.toInt.toNat) v40) 118 13 1) 118 14 v51, J39, h.2.2.2)) rfl ?_
                  refine qm_Ru.go 0 (c' := (20, [.ref 118, .int 4], [], (h.1, qm_up (qm_up (qm_up I38 129 (sd.toInt.toNat) v40) 118 13 1) 118 14 v51, J39, h.2.2.2))) rfl ?_
                  refine qm_Ru.rt (v := none) (h' := (h.1, qm_up (qm_up (qm_up I38 129 (sd.toInt.toNat) v40) 118 13 1) 118 14 v51, J39, h.2.2.2)) rfl ?_
                  refine qm_Ru.go 0 (c' := (352, [.ref 118, .int v1, .int v40, .float 0], [], (h.1, qm_up (qm_up (qm_up I38 129 (sd.toInt.toNat) v40) 118 13 1) 118 14 v51, J39, h.2.2.2))) rfl ?_
                  refine qm_Ru.rt (v := none) (h' := (h.1, qm_up (qm_up (qm_up I38 129 (sd.toInt.toNat) v40) 118 13 1) 118 14 v51, J39, h.2.2.2)) rfl ?_
                  have s131_y52 : ∀ i, (qm_up (qm_up (qm_up I38 129 (sd.toInt.toNat) v40) 118 13 1) 118 14 v51) 131 i = h.2.1 131 i := fun i => ((hk_ot rfl).trans ((hk_ot rfl).trans ((hk_ot rfl).trans ((e_I38 131 rfl i).trans ((hk_ot rfl).trans rfl)))))
                  have s132_y52 : ∀ i, (qm_up (qm_up (qm_up I38 129 (sd.toInt.toNat) v40) 118 13 1) 118 14 v51) 132 i = h.2.1 132 i := fun i => ((hk_ot rfl).trans ((hk_ot rfl).trans ((hk_ot rfl).trans ((e_I38 132 rfl i).trans ((hk_ot rfl).trans rfl)))))
                  have s133_y52 : ∀ i, (qm_up (qm_up (qm_up I38 129 (sd.toInt.toNat) v40) 118 13 1) 118 14 v51) 133 i = h.2.1 133 i := fun i => ((hk_ot rfl).trans ((hk_ot rfl).trans ((hk_ot rfl).trans ((e_I38 133 rfl i).trans ((hk_ot rfl).trans rfl)))))
                  have s134_y52 : ∀ i, (qm_up (qm_up (qm_up I38 129 (sd.toInt.toNat) v40) 118 13 1) 118 14 v51) 134 i = h.2.1 134 i := fun i => ((hk_ot rfl).trans ((hk_ot rfl).trans ((hk_ot rfl).trans ((e_I38 134 rfl i).trans ((hk_ot rfl).trans rfl)))))
                  have s138_y52 : ∀ i, (qm_up (qm_up (qm_up I38 129 (sd.toInt.toNat) v40) 118 13 1) 118 14 v51) 138 i = h.2.1 138 i := fun i => ((hk_ot rfl).trans ((hk_ot rfl).trans ((hk_ot rfl).trans ((e_I38 138 rfl i).trans ((hk_ot rfl).trans rfl)))))
                  have s139_y52 : ∀ i, (qm_up (qm_up (qm_up I38 129 (sd.toInt.toNat) v40) 118 13 1) 118 14 v51) 139 i = h.2.1 139 i := fun i => ((hk_ot rfl).trans ((hk_ot rfl).trans ((hk_ot rfl).trans ((e_I38 139 rfl i).trans ((hk_ot rfl).trans rfl)))))
                  have s140_y52 : ∀ i, (qm_up (qm_up (qm_up I38 129 (sd.toInt.toNat) v40) 118 13 1) 118 14 v51) 140 i = h.2.1 140 i := fun i => ((hk_ot rfl).trans ((hk_ot rfl).trans ((hk_ot rfl).trans ((e_I38 140 rfl i).trans ((hk_ot rfl).trans rfl)))))
                  have s141_y52 : ∀ i, (qm_up (qm_up (qm_up I38 129 (sd.toInt.toNat) v40) 118 13 1) 118 14 v51) 141 i = h.2.1 141 i := fun i => ((hk_ot rfl).trans ((hk_ot rfl).trans ((hk_ot rfl).trans ((e_I38 141 rfl i).trans ((hk_ot rfl).trans rfl)))))
                  have s142_y52 : ∀ i, (qm_up (qm_up (qm_up I38 129 (sd.toInt.toNat) v40) 118 13 1) 118 14 v51) 142 i = h.2.1 142 i := fun i => ((hk_ot rfl).trans ((hk_ot rfl).trans ((hk_ot rfl).trans ((e_I38 142 rfl i).trans ((hk_ot rfl).trans rfl)))))
                  have td_y52 : td (sd.toInt.toNat) h.2.1 (qm_up (qm_up (qm_up I38 129 (sd.toInt.toNat) v40) 118 13 1) 118 14 v51) := ⟨fun i _ => ⟨s141_y52 i, s142_y52 i⟩, fun i _ => ⟨s138_y52 i, s139_y52 i, s140_y52 i⟩, fun i _ => ⟨s133_y52 i, s134_y52 i⟩, fun i _ => ⟨s131_y52 i, s132_y52 i⟩⟩
                  exact k (qm_up (qm_up (qm_up I38 129 (sd.toInt.toNat) v40) 118 13 1) 118 14 v51) (J39) t41 1 ca bs la nm pr pp (hb_up (o := 118) (k := 14) (x := v51) (hb_up (o := 118) (k := 13) (x := 1) (hb_up (o := 129) (k := sd.toInt.toNat) (x := v40) hB_I38 (qa_in_full _)) (qa_in_full _)) (qa_in_full _)) (fun o ho i => ((hk_mod ho rfl).trans ((hk_mod ho rfl).trans ((hk_mod ho rfl).trans ((e_I38 o (hk_ms rfl ho) i).trans ((hk_mod ho rfl).trans rfl)))))) (fun i hi => ((hk_neq (fun z => by subst z; cases hi)).trans ((hk_neq (fun z => by subst z; cases hi)).trans ((hk_ot rfl).trans ((e8_I38 i (hk_ms rfl hi)).trans ((hk_neq (fun z => by subst z; cases hi)).trans rfl)))))) (show (qm_up (qm_up (qm_up I38 129 (sd.toInt.toNat) v40) 118 13 1) 118 14 v51) 118 11 = _ from ((hk_neq (by decide)).trans ((hk_neq (by decide)).trans ((hk_ot rfl).trans q_t41)))) (show (qm_up (qm_up (qm_up I38 129 (sd.toInt.toNat) v40) 118 13 1) 118 14 v51) 118 13 = _ from ((hk_neq (by decide)).trans (hk_same))) (show (qm_up (qm_up (qm_up I38 129 (sd.toInt.toNat) v40) 118 13 1) 118 14 v51) 118 37 = _ from ((hk_neq (by decide)).trans ((hk_neq (by decide)).trans ((hk_ot rfl).trans ((e8_I38 37 rfl).trans ((hk_neq (by decide)).trans q_ca)))))) (show (qm_up (qm_up (qm_up I38 129 (sd.toInt.toNat) v40) 118 13 1) 118 14 v51) 118 12 = _ from ((hk_neq (by decide)).trans ((hk_neq (by decide)).trans ((hk_ot rfl).trans ((e8_I38 12 rfl).trans ((hk_neq (by decide)).trans q_bs)))))) (show (qm_up (qm_up (qm_up I38 129 (sd.toInt.toNat) v40) 118 13 1) 118 14 v51) 118 30 = _ from ((hk_neq (by decide)).trans ((hk_neq (by decide)).trans ((hk_ot rfl).trans ((e8_I38 30 rfl).trans ((hk_neq (by decide)).trans q_la)))))) (show (qm_up (qm_up (qm_up I38 129 (sd.toInt.toNat) v40) 118 13 1) 118 14 v51) 118 20 = _ from ((hk_neq (by decide)).trans ((hk_neq (by decide)).trans ((hk_ot rfl).trans ((e8_I38 20 rfl).trans ((hk_neq (by decide)).trans q_nm)))))) (show (qm_up (qm_up (qm_up I38 129 (sd.toInt.toNat) v40) 118 13 1) 118 14 v51) 131 (sd.toInt.toNat) = _ from ((hk_ot rfl).trans ((hk_ot rfl).trans ((hk_ot rfl).trans ((e_I38 131 rfl (sd.toInt.toNat)).trans ((hk_ot rfl).trans q_pr)))))) (show (qm_up (qm_up (qm_up I38 129 (sd.toInt.toNat) v40) 118 13 1) 118 14 v51) 132 (sd.toInt.toNat) = _ from ((hk_ot rfl).trans ((hk_ot rfl).trans ((hk_ot rfl).trans ((e_I38 132 rfl (sd.toInt.toNat)).trans ((hk_ot rfl).trans q_pp)))))) (by omega) (fun z => by omega) td_y52 (fun z => rs_sm hrs s133_y52 s134_y52 s138_y52 s139_y52 s140_y52 s141_y52 s142_y52 (by omega))
                · refine qm_Ru.go 2 (c' := (25, [.ref 118, .int 4], [.int 1], (h.1, qm_up I38 129 (sd.toInt.toNat) v40, J39, h.2.2.2))) rfl ?_
                  refine qm_Ru.rt (v := (some (.int 1))) (h' := (h.1, qm_up I38 129 (sd.toInt.toNat) v40, J39, h.2.2.2)) rfl ?_
                  refine qm_Ru.go 2 (c' := (9, [.ref 118, .int 4], [.ref 118], (h.1, qm_up I38 129 (sd.toInt.toNat) v40, J39, h.2.2.2))) rfl ?_
                  refine hk_inv (o := 118) (r := []) (as := [.ref 118]) rfl rfl (hH.1 118 (17, 105) rfl) rfl rfl rfl rfl ?_
                  refine qm_Ru.go 1 (c' := (1, [.ref 118], [.ref 118], (h.1, qm_up I38 129 (sd.toInt.toNat) v40, J39, h.2.2.2))) rfl ?_
                  refine hk_geti (v := t41) rfl (hH.1 118 (17, 105) rfl) rfl (show (qm_up I38 129 (sd.toInt.toNat) v40) 118 11 = _ from ((hk_ot rfl).trans q_t41)) ?_
                  refine qm_Ru.go 1 (c' := (7, [.ref 118], [.int 400, .int t41], (h.1, qm_up I38 129 (sd.toInt.toNat) v40, J39, h.2.2.2))) rfl ?_
                  refine hk_cne (ix := t41.toInt) (iy := 400) rfl rfl rfl (fun z53 => ?_) (fun z53 => ?_)
                  · refine qm_Ru.go 2 (c' := (20, [.ref 118], [.ref 118, .ref 118], (h.1, qm_up I38 129 (sd.toInt.toNat) v40, J39, h.2.2.2))) rfl ?_
                    refine hk_geti (v := t41) rfl (hH.1 118 (17, 105) rfl) rfl (show (qm_up I38 129 (sd.toInt.toNat) v40) 118 11 = _ from ((hk_ot rfl).trans q_t41)) ?_
                    refine qm_Ru.go 2 (c' := (25, [.ref 118], [.int (t41 + 1), .ref 118], (h.1, qm_up I38 129 (sd.toInt.toNat) v40, J39, h.2.2.2))) rfl ?_
                    obtain ⟨v54, q_v54, e_v54⟩ := hk_add (x := t41) (y := 1) (a := t41.toInt) (b := 1) rfl rfl (by omega) (by omega)
                    rw [q_v54]
                    refine hk_puti rfl (hH.1 118 (17, 105) rfl) rfl ?_
                    refine qm_Ru.go 0 (c' := (28, [.ref 118], [], (h.1, qm_up (qm_up I38 129 (sd.toInt.toNat) v40) 118 11 v54, J39, h.2.2.2))) rfl ?_
                    refine qm_Ru.rt (v := none) (h' := (h.1, qm_up (qm_up I38 129 (sd.toInt.toNat) v40) 118 11 v54, J39, h.2.2.2)) rfl ?_
                    refine qm_Ru.go 1 (c' := (20, [.ref 118, .int 4], [], (h.1, qm_up (qm_up I38 129 (sd.toInt.toNat) v40) 118 11 v54, J39, h.2.2.2))) rfl ?_
                    refine qm_Ru.rt (v := none) (h' := (h.1, qm_up (qm_up I38 129 (sd.toInt.toNat) v40) 118 11 v54, J39, h.2.2.2)) rfl ?_
                    refine qm_Ru.go 0 (c' := (352, [.ref 118, .int v1, .int v40, .float 0], [], (h.1, qm_up (qm_up I38 129 (sd.toInt.toNat) v40) 118 11 v54, J39, h.2.2.2))) rfl ?_
                    refine qm_Ru.rt (v := none) (h' := (h.1, qm_up (qm_up I38 129 (sd.toInt.toNat) v40) 118 11 v54, J39, h.2.2.2)) rfl ?_
                    have s131_y55 : ∀ i, (qm_up (qm_up I38 129 (sd.toInt.toNat) v40) 118 11 v54) 131 i = h.2.1 131 i := fun i => ((hk_ot rfl).trans ((hk_ot rfl).trans ((e_I38 131 rfl i).trans ((hk_ot rfl).trans rfl))))
                    have s132_y55 : ∀ i, (qm_up (qm_up I38 129 (sd.toInt.toNat) v40) 118 11 v54) 132 i = h.2.1 132 i := fun i => ((hk_ot rfl).trans ((hk_ot rfl).trans ((e_I38 132 rfl i).trans ((hk_ot rfl).trans rfl))))
                    have s133_y55 : ∀ i, (qm_up (qm_up I38 129 (sd.toInt.toNat) v40) 118 11 v54) 133 i = h.2.1 133 i := fun i => ((hk_ot rfl).trans ((hk_ot rfl).trans ((e_I38 133 rfl i).trans ((hk_ot rfl).trans rfl))))
                    have s134_y55 : ∀ i, (qm_up (qm_up I38 129 (sd.toInt.toNat) v40) 118 11 v54) 134 i = h.2.1 134 i := fun i => ((hk_ot rfl).trans ((hk_ot rfl).trans ((e_I38 134 rfl i).trans ((hk_ot rfl).trans rfl))))
                    have s138_y55 : ∀ i, (qm_up (qm_up I38 129 (sd.toInt.toNat) v40) 118 11 v54) 138 i = h.2.1 138 i := fun i => ((hk_ot rfl).trans ((hk_ot rfl).trans ((e_I38 138 rfl i).trans ((hk_ot rfl).trans rfl))))
                    have s139_y55 : ∀ i, (qm_up (qm_up I38 129 (sd.toInt.toNat) v40) 118 11 v54) 139 i = h.2.1 139 i := fun i => ((hk_ot rfl).trans ((hk_ot rfl).trans ((e_I38 139 rfl i).trans ((hk_ot rfl).trans rfl))))
                    have s140_y55 : ∀ i, (qm_up (qm_up I38 129 (sd.toInt.toNat) v40) 118 11 v54) 140 i = h.2.1 140 i := fun i => ((hk_ot rfl).trans ((hk_ot rfl).trans ((e_I38 140 rfl i).trans ((hk_ot rfl).trans rfl))))
                    have s141_y55 : ∀ i, (qm_up (qm_up I38 129 (sd.toInt.toNat) v40) 118 11 v54) 141 i = h.2.1 141 i := fun i => ((hk_ot rfl).trans ((hk_ot rfl).trans ((e_I38 141 rfl i).trans ((hk_ot rfl).trans rfl))))
                    have s142_y55 : ∀ i, (qm_up (qm_up I38 129 (sd.toInt.toNat) v40) 118 11 v54) 142 i = h.2.1 142 i := fun i => ((hk_ot rfl).trans ((hk_ot rfl).trans ((e_I38 142 rfl i).trans ((hk_ot rfl).trans rfl))))
                    have td_y55 : td (sd.toInt.toNat) h.2.1 (qm_up (qm_up I38 129 (sd.toInt.toNat) v40) 118 11 v54) := ⟨fun i _ => ⟨s141_y55 i, s142_y55 i⟩, fun i _ => ⟨s138_y55 i, s139_y55 i, s140_y55 i⟩, fun i _ => ⟨s133_y55 i, s134_y55 i⟩, fun i _ => ⟨s131_y55 i, s132_y55 i⟩⟩
                    exact k (qm_up (qm_up I38 129 (sd.toInt.toNat) v40) 118 11 v54) (J39) v54 f42 ca bs la nm pr pp (hb_up (o := 118) (k := 11) (x := v54) (hb_up (o := 129) (k := sd.toInt.toNat) (x := v40) hB_I38 (qa_in_full _)) ⟨by show (0 : Int) ≤ v54.toInt; omega, by show v54.toInt ≤ (400 : Int); omega⟩) (fun o ho i => ((hk_mod ho rfl).trans ((hk_mod ho rfl).trans ((e_I38 o (hk_ms rfl ho) i).trans ((hk_mod ho rfl).trans rfl))))) (fun i hi => ((hk_neq (fun z => by subst z; cases hi)).trans ((hk_ot rfl).trans ((e8_I38 i (hk_ms rfl hi)).trans ((hk_neq (fun z => by subst z; cases hi)).trans rfl))))) (show (qm_up (qm_up I38 129 (sd.toInt.toNat) v40) 118 11 v54) 118 11 = _ from (hk_same)) (show (qm_up (qm_up I38 129 (sd.toInt.toNat) v40) 118 11 v54) 118 13 = _ from ((hk_neq (by decide)).trans ((hk_ot rfl).trans q_f42))) (show (qm_up (qm_up I38 129 (sd.toInt.toNat) v40) 118 11 v54) 118 37 = _ from ((hk_neq (by decide)).trans ((hk_ot rfl).trans ((e8_I38 37 rfl).trans ((hk_neq (by decide)).trans q_ca))))) (show (qm_up (qm_up I38 129 (sd.toInt.toNat) v40) 118 11 v54) 118 12 = _ from ((hk_neq (by decide)).trans ((hk_ot rfl).trans ((e8_I38 12 rfl).trans ((hk_neq (by decide)).trans q_bs))))) (show (qm_up (qm_up I38 129 (sd.toInt.toNat) v40) 118 11 v54) 118 30 = _ from ((hk_neq (by decide)).trans ((hk_ot rfl).trans ((e8_I38 30 rfl).trans ((hk_neq (by decide)).trans q_la))))) (show (qm_up (qm_up I38 129 (sd.toInt.toNat) v40) 118 11 v54) 118 20 = _ from ((hk_neq (by decide)).trans ((hk_ot rfl).trans ((e8_I38 20 rfl).trans ((hk_neq (by decide)).trans q_nm))))) (show (qm_up (qm_up I38 129 (sd.toInt.toNat) v40) 118 11 v54) 131 (sd.toInt.toNat) = _ from ((hk_ot rfl).trans ((hk_ot rfl).trans ((e_I38 131 rfl (sd.toInt.toNat)).trans ((hk_ot rfl).trans q_pr))))) (show (qm_up (qm_up I38 129 (sd.toInt.toNat) v40) 118 11 v54) 132 (sd.toInt.toNat) = _ from ((hk_ot rfl).trans ((hk_ot rfl).trans ((e_I38 132 rfl (sd.toInt.toNat)).trans ((hk_ot rfl).trans q_pp))))) (by omega) (fun z => by omega) td_y55 (fun z => rs_sm hrs s133_y55 s134_y55 s138_y55 s139_y55 s140_y55 s141_y55 s142_y55 (by omega))
                  · refine qm_Ru.go 2 (c' := (12, [.ref 118], [.int 2, .ref 118], (h.1, qm_up I38 129 (sd.toInt.toNat) v40, J39, h.2.2.2))) rfl ?_
                    refine hk_inv (o := 118) (r := []) (as := [.ref 118, .int 2]) rfl rfl (hH.1 118 (17, 105) rfl) rfl rfl rfl rfl ?_
                    refine qm_Ru.go 1 (c' := (1, [.ref 118, .int 2], [.ref 118], (h.1, qm_up I38 129 (sd.toInt.toNat) v40, J39, h.2.2.2))) rfl ?_
                    refine hk_geti (v := f42) rfl (hH.1 118 (17, 105) rfl) rfl (show (qm_up I38 129 (sd.toInt.toNat) v40) 118 13 = _ from ((hk_ot rfl).trans q_f42)) ?_
                    refine qm_Ru.go 0 (c' := (4, [.ref 118, .int 2], [.int f42], (h.1, qm_up I38 129 (sd.toInt.toNat) v40, J39, h.2.2.2))) rfl ?_
                    refine hk_zle (ix := f42.toInt) rfl rfl (fun z56 => ?_) (fun z56 => by exfalso; omega)
                    refine qm_Ru.go 2 (c' := (10, [.ref 118, .int 2], [.int 2, .ref 118], (h.1, qm_up I38 129 (sd.toInt.toNat) v40, J39, h.2.2.2))) rfl ?_
                    refine hk_puti rfl (hH.1 118 (17, 105) rfl) rfl ?_
                    refine qm_Ru.go 2 (c' := (15, [.ref 118, .int 2], [.ref 118, .ref 118], (h.1, qm_up (qm_up I38 129 (sd.toInt.toNat) v40) 118 13 2, J39, h.2.2.2))) rfl ?_
                    refine hk_getr rfl (hH.1 118 (17, 105) rfl) rfl (hH.2 118 6 (some 122) rfl) ?_
                    refine qm_Ru.go 1 (c' := (19, [.ref 118, .int 2], [.ref 118, .ref 122, .ref 118], (h.1, qm_up (qm_up I38 129 (sd.toInt.toNat) v40) 118 13 2, J39, h.2.2.2))) rfl ?_
                    refine hk_geti (v := t41) rfl (hH.1 118 (17, 105) rfl) rfl (show (qm_up (qm_up I38 129 (sd.toInt.toNat) v40) 118 13 2) 118 11 = _ from ((hk_neq (by decide)).trans ((hk_ot rfl).trans q_t41))) ?_
                    refine qm_Ru.go 0 (c' := (22, [.ref 118, .int 2], [.int t41, .ref 122, .ref 118], (h.1, qm_up (qm_up I38 129 (sd.toInt.toNat) v40) 118 13 2, J39, h.2.2.2))) rfl ?_
                    obtain ⟨v57, q_v57⟩ : ∃ v, h.2.1 122 (t41.toInt.toNat) = v := ⟨_, rfl⟩
                    refine hk_ial (v := v57) rfl (hH.1 122 (0, 403) rfl) (by omega) (by omega) (show (qm_up (qm_up I38 129 (sd.toInt.toNat) v40) 118 13 2) 122 (t41.toInt.toNat) = _ from ((hk_ot rfl).trans ((hk_ot rfl).trans ((e_I38 122 rfl (t41.toInt.toNat)).trans ((hk_ot rfl).trans q_v57))))) ?_
                    refine qm_Ru.go 0 (c' := (23, [.ref 118, .int 2], [.int v57, .ref 118], (h.1, qm_up (qm_up I38 129 (sd.toInt.toNat) v40) 118 13 2, J39, h.2.2.2))) rfl ?_
                    refine hk_puti rfl (hH.1 118 (17, 105) rfl) rfl ?_
                    refine qm_Ru.go 0 (c' := (26, [.ref 118, .int 2], [], (h.1, qm_up (qm_up (qm_up I38 129 (sd.toInt.toNat) v40) 118 13 2) 118 14 v57, J39, h.2.2.2))) rfl ?_
                    refine qm_Ru.rt (v := none) (h' := (h.1, qm_up (qm_up (qm_up I38 129 (sd.toInt.toNat) v40) 118 13 2) 118 14 v57, J39, h.2.2.2)) rfl ?_
                    refine qm_Ru.go 1 (c' := (28, [.ref 118], [], (h.1, qm_up (qm_up (qm_up I38 129 (sd.toInt.toNat) v40) 118 13 2) 118 14 v57, J39, h.2.2.2))) rfl ?_
                    refine qm_Ru.rt (v := none) (h' := (h.1, qm_up (qm_up (qm_up I38 129 (sd.toInt.toNat) v40) 118 13 2) 118 14 v57, J39, h.2.2.2)) rfl ?_
                    refine qm_Ru.go 1 (c' := (20, [.ref 118, .int 4], [], (h.1, qm_up (qm_up (qm_up I38 129 (sd.toInt.toNat) v40) 118 13 2) 118 14 v57, J39, h.2.2.2))) rfl ?_
                    refine qm_Ru.rt (v := none) (h' := (h.1, qm_up (qm_up (qm_up I38 129 (sd.toInt.toNat) v40) 118 13 2) 118 14 v57, J39, h.2.2.2)) rfl ?_
                    refine qm_Ru.go 0 (c' := (352, [.ref 118, .int v1, .int v40, .float 0], [], (h.1, qm_up (qm_up (qm_up I38 129 (sd.toInt.toNat) v40) 118 13 2) 118 14 v57, J39, h.2.2.2))) rfl ?_
                    refine qm_Ru.rt (v := none) (h' := (h.1, qm_up (qm_up (qm_up I38 129 (sd.toInt.toNat) v40) 118 13 2) 118 14 v57, J39, h.2.2.2)) rfl ?_
                    have s131_y58 : ∀ i, (qm_up (qm_up (qm_up I38 129 (sd.toInt.toNat) v40) 118 13 2) 118 14 v57) 131 i = h.2.1 131 i := fun i => ((hk_ot rfl).trans ((hk_ot rfl).trans ((hk_ot rfl).trans ((e_I38 131 rfl i).trans ((hk_ot rfl).trans rfl)))))
                    have s132_y58 : ∀ i, (qm_up (qm_up (qm_up I38 129 (sd.toInt.toNat) v40) 118 13 2) 118 14 v57) 132 i = h.2.1 132 i := fun i => ((hk_ot rfl).trans ((hk_ot rfl).trans ((hk_ot rfl).trans ((e_I38 132 rfl i).trans ((hk_ot rfl).trans rfl)))))
                    have s133_y58 : ∀ i, (qm_up (qm_up (qm_up I38 129 (sd.toInt.toNat) v40) 118 13 2) 118 14 v57) 133 i = h.2.1 133 i := fun i => ((hk_ot rfl).trans ((hk_ot rfl).trans ((hk_ot rfl).trans ((e_I38 133 rfl i).trans ((hk_ot rfl).trans rfl)))))
                    have s134_y58 : ∀ i, (qm_up (qm_up (qm_up I38 129 (sd.toInt.toNat) v40) 118 13 2) 118 14 v57) 134 i = h.2.1 134 i := fun i => ((hk_ot rfl).trans ((hk_ot rfl).trans ((hk_ot rfl).trans ((e_I38 134 rfl i).trans ((hk_ot rfl).trans rfl)))))
                    have s138_y58 : ∀ i, (qm_up (qm_up (qm_up I38 129 (sd.toInt.toNat) v40) 118 13 2) 118 14 v57) 138 i = h.2.1 138 i := fun i => ((hk_ot rfl).trans ((hk_ot rfl).trans ((hk_ot rfl).trans ((e_I38 138 rfl i).trans ((hk_ot rfl).trans rfl)))))
                    have s139_y58 : ∀ i, (qm_up (qm_up (qm_up I38 129 (sd.toInt.toNat) v40) 118 13 2) 118 14 v57) 139 i = h.2.1 139 i := fun i => ((hk_ot rfl).trans ((hk_ot rfl).trans ((hk_ot rfl).trans ((e_I38 139 rfl i).trans ((hk_ot rfl).trans rfl)))))
                    have s140_y58 : ∀ i, (qm_up (qm_up (qm_up I38 129 (sd.toInt.toNat) v40) 118 13 2) 118 14 v57) 140 i = h.2.1 140 i := fun i => ((hk_ot rfl).trans ((hk_ot rfl).trans ((hk_ot rfl).trans ((e_I38 140 rfl i).trans ((hk_ot rfl).trans rfl)))))
                    have s141_y58 : ∀ i, (qm_up (qm_up (qm_up I38 129 (sd.toInt.toNat) v40) 118 13 2) 118 14 v57) 141 i = h.2.1 141 i := fun i => ((hk_ot rfl).trans ((hk_ot rfl).trans ((hk_ot rfl).trans ((e_I38 141 rfl i).trans ((hk_ot rfl).trans rfl)))))
                    have s142_y58 : ∀ i, (qm_up (qm_up (qm_up I38 129 (sd.toInt.toNat) v40) 118 13 2) 118 14 v57) 142 i = h.2.1 142 i := fun i => ((hk_ot rfl).trans ((hk_ot rfl).trans ((hk_ot rfl).trans ((e_I38 142 rfl i).trans ((hk_ot rfl).trans rfl)))))
                    have td_y58 : td (sd.toInt.toNat) h.2.1 (qm_up (qm_up (qm_up I38 129 (sd.toInt.toNat) v40) 118 13 2) 118 14 v57) := ⟨fun i _ => ⟨s141_y58 i, s142_y58 i⟩, fun i _ => ⟨s138_y58 i, s139_y58 i, s140_y58 i⟩, fun i _ => ⟨s133_y58 i, s134_y58 i⟩, fun i _ => ⟨s131_y58 i, s132_y58 i⟩⟩
                    exact k (qm_up (qm_up (qm_up I38 129 (sd.toInt.toNat) v40) 118 13 2) 118 14 v57) (J39) t41 2 ca bs la nm pr pp (hb_up (o := 118) (k := 14) (x := v57) (hb_up (o := 118) (k := 13) (x := 2) (hb_up (o := 129) (k := sd.toInt.toNat) (x := v40) hB_I38 (qa_in_full _)) (qa_in_full _)) (qa_in_full _)) (fun o ho i => ((hk_mod ho rfl).trans ((hk_mod ho rfl).trans ((hk_mod ho rfl).trans ((e_I38 o (hk_ms rfl ho) i).trans ((hk_mod ho rfl).trans rfl)))))) (fun i hi => ((hk_neq (fun z => by subst z; cases hi)).trans ((hk_neq (fun z => by subst z; cases hi)).trans ((hk_ot rfl).trans ((e8_I38 i (hk_ms rfl hi)).trans ((hk_neq (fun z => by subst z; cases hi)).trans rfl)))))) (show (qm_up (qm_up (qm_up I38 129 (sd.toInt.toNat) v40) 118 13 2) 118 14 v57) 118 11 = _ from ((hk_neq (by decide)).trans ((hk_neq (by decide)).trans ((hk_ot rfl).trans q_t41)))) (show (qm_up (qm_up (qm_up I38 129 (sd.toInt.toNat) v40) 118 13 2) 118 14 v57) 118 13 = _ from ((hk_neq (by decide)).trans (hk_same))) (show (qm_up (qm_up (qm_up I38 129 (sd.toInt.toNat) v40) 118 13 2) 118 14 v57) 118 37 = _ from ((hk_neq (by decide)).trans ((hk_neq (by decide)).trans ((hk_ot rfl).trans ((e8_I38 37 rfl).trans ((hk_neq (by decide)).trans q_ca)))))) (show (qm_up (qm_up (qm_up I38 129 (sd.toInt.toNat) v40) 118 13 2) 118 14 v57) 118 12 = _ from ((hk_neq (by decide)).trans ((hk_neq (by decide)).trans ((hk_ot rfl).trans ((e8_I38 12 rfl).trans ((hk_neq (by decide)).trans q_bs)))))) (show (qm_up (qm_up (qm_up I38 129 (sd.toInt.toNat) v40) 118 13 2) 118 14 v57) 118 30 = _ from ((hk_neq (by decide)).trans ((hk_neq (by decide)).trans ((hk_ot rfl).trans ((e8_I38 30 rfl).trans ((hk_neq (by decide)).trans q_la)))))) (show (qm_up (qm_up (qm_up I38 129 (sd.toInt.toNat) v40) 118 13 2) 118 14 v57) 118 20 = _ from ((hk_neq (by decide)).trans ((hk_neq (by decide)).trans ((hk_ot rfl).trans ((e8_I38 20 rfl).trans ((hk_neq (by decide)).trans q_nm)))))) (show (qm_up (qm_up (qm_up I38 129 (sd.toInt.toNat) v40) 118 13 2) 118 14 v57) 131 (sd.toInt.toNat) = _ from ((hk_ot rfl).trans ((hk_ot rfl).trans ((hk_ot rfl).trans ((e_I38 131 rfl (sd.toInt.toNat)).trans ((hk_ot rfl).trans q_pr)))))) (show (qm_up (qm_up (qm_up I38 129 (sd.toInt.toNat) v40) 118 13 2) 118 14 v57) 132 (sd.toInt.toNat) = _ from ((hk_ot rfl).trans ((hk_ot rfl).trans ((hk_ot rfl).trans ((e_I38 132 rfl (sd.toInt.toNat)).trans ((hk_ot rfl).trans q_pp)))))) (by omega) (fun z => by omega) td_y58 (fun z => rs_sm hrs s133_y58 s134_y58 s138_y58 s139_y58 s140_y58 s141_y58 s142_y58 (by omega))
          · refine qm_Ru.go 4 (c' := (278, [.ref 118, .int v1, .float 0, .float 0], [.int 20, .int v1, .int 2, .ref 118], (h.1, qm_up h.2.1 118 11 v9, h.2.2.1, h.2.2.2))) rfl ?_
            refine hk_cne (ix := v1.toInt) (iy := 20) rfl rfl rfl (fun z59 => by exfalso; omega) (fun z59 => ?_)
            refine qm_Ru.go 2 (c' := (288, [.ref 118, .int v1, .float 0, .float 0], [.int 5, .int 2, .ref 118], (h.1, qm_up h.2.1 118 11 v9, h.2.2.1, h.2.2.2))) rfl ?_
            refine hk_inv (o := 118) (r := []) (as := [.ref 118, .int 2, .int 5]) rfl rfl (hH.1 118 (17, 105) rfl) rfl rfl rfl rfl (hs_told (d := d + 4) (h := (h.1, qm_up h.2.1 118 11 v9, h.2.2.1, h.2.2.2)) hH (hb_up (o := 118) (k := 11) (x := v9) hB ⟨by show (0 : Int) ≤ v9.toInt; omega, by show v9.toInt ≤ (400 : Int); omega⟩) (ta := v9) (fa := fa) (lo := 2) (hi := 5) (show (qm_up h.2.1 118 11 v9) 118 11 = _ from (hk_same)) (show (qm_up h.2.1 118 11 v9) 118 13 = _ from ((hk_neq (by decide)).trans q_fa)) (by omega) (by decide) (fun I60 J61 v62 t63 f64 hB_I60 e_I60 e8_I60 q_t63 q_f64 b1_I60 b2_I60 => ?_))
            have b2_I60 : (2 : Int) ≤ v62.toInt ∧ v62.toInt ≤ 5 := b2_I60
            have e_I60 : ∀ o, [118].contains o = false → ∀ i, I60 o i = (qm_up h.2.1 118 11 v9) o i := e_I60
            have e8_I60 : ∀ i, [11, 13, 14, 15, 16].contains i = false → I60 118 i = (qm_up h.2.1 118 11 v9) 118 i := e8_I60
            refine qm_Ru.go 3 (c' := (295, [.ref 118, .int v1, .int v62, .float 0], [.int 20, .int v1], (h.1, I60, J61, h.2.2.2))) rfl ?_
            refine hk_cne (ix := v1.toInt) (iy := 20) rfl rfl rfl (fun z65 => by exfalso; omega) (fun z65 => ?_)
            refine qm_Ru.go 1 (c' := (299, [.ref 118, .int v1, .int v62, .float 0], [.ref 118], (h.1, I60, J61, h.2.2.2))) rfl ?_
            refine hk_getr rfl (hH.1 118 (17, 105) rfl) rfl (hH.2 118 22 (some 127) rfl) ?_
            refine qm_Ru.go 1 (c' := (303, [.ref 118, .int v1, .int v62, .float 0], [.ref 118, .ref 127], (h.1, I60, J61, h.2.2.2))) rfl ?_
            refine hk_geti (v := sd) rfl (hH.1 118 (17, 105) rfl) rfl (show (I60) 118 19 = _ from ((e8_I60 19 rfl).trans ((hk_neq (by decide)).trans q_sd))) ?_
            refine qm_Ru.go 1 (c' := (307, [.ref 118, .int v1, .int v62, .float 0], [.int v62, .int sd, .ref 127], (h.1, I60, J61, h.2.2.2))) rfl ?_
            refine hk_ias rfl (hH.1 127 (0, 2) rfl) (by omega) (by omega) ?_
            refine qm_Ru.go 3 (c' := (349, [.ref 118, .int v1, .int v62, .float 0], [.int 4, .ref 118], (h.1, qm_up I60 127 (sd.toInt.toNat) v62, J61, h.2.2.2))) rfl ?_
            refine hk_inv (o := 118) (r := []) (as := [.ref 118, .int 4]) rfl rfl (hH.1 118 (17, 105) rfl) rfl rfl rfl rfl ?_
            refine qm_Ru.go 2 (c' := (2, [.ref 118, .int 4], [.int 4, .ref 118], (h.1, qm_up I60 127 (sd.toInt.toNat) v62, J61, h.2.2.2))) rfl ?_
            refine hk_inv (o := 118) (r := []) (as := [.ref 118, .int 4]) rfl rfl (hH.1 118 (17, 105) rfl) rfl rfl rfl rfl ?_
            refine qm_Ru.go 1 (c' := (1, [.ref 118, .int 4], [.ref 118], (h.1, qm_up I60 127 (sd.toInt.toNat) v62, J61, h.2.2.2))) rfl ?_
            refine hk_geti (v := f64) rfl (hH.1 118 (17, 105) rfl) rfl (show (qm_up I60 127 (sd.toInt.toNat) v62) 118 13 = _ from ((hk_ot rfl).trans q_f64)) ?_
            refine qm_Ru.go 0 (c' := (4, [.ref 118, .int 4], [.int f64], (h.1, qm_up I60 127 (sd.toInt.toNat) v62, J61, h.2.2.2))) rfl ?_
            refine hk_zne (ix := f64.toInt) rfl rfl (fun z66 => ?_) (fun z66 => ?_)
            · refine qm_Ru.go 1 (c' := (25, [.ref 118, .int 4], [.int 0], (h.1, qm_up I60 127 (sd.toInt.toNat) v62, J61, h.2.2.2))) rfl ?_
              refine qm_Ru.rt (v := (some (.int 0))) (h' := (h.1, qm_up I60 127 (sd.toInt.toNat) v62, J61, h.2.2.2)) rfl ?_
              refine qm_Ru.go 3 (c' := (17, [.ref 118, .int 4], [.int 1, .ref 118], (h.1, qm_up I60 127 (sd.toInt.toNat) v62, J61, h.2.2.2))) rfl ?_
              refine hk_inv (o := 118) (r := []) (as := [.ref 118, .int 1]) rfl rfl (hH.1 118 (17, 105) rfl) rfl rfl rfl rfl ?_
              refine qm_Ru.go 1 (c' := (1, [.ref 118, .int 1], [.ref 118], (h.1, qm_up I60 127 (sd.toInt.toNat) v62, J61, h.2.2.2))) rfl ?_
              refine hk_geti (v := f64) rfl (hH.1 118 (17, 105) rfl) rfl (show (qm_up I60 127 (sd.toInt.toNat) v62) 118 13 = _ from ((hk_ot rfl).trans q_f64)) ?_
              refine qm_Ru.go 0 (c' := (4, [.ref 118, .int 1], [.int f64], (h.1, qm_up I60 127 (sd.toInt.toNat) v62, J61, h.2.2.2))) rfl ?_
              refine hk_zle (ix := f64.toInt) rfl rfl (fun z67 => by exfalso; omega) (fun z67 => ?_)
              refine qm_Ru.go 0 (c' := (7, [.ref 118, .int 1], [], (h.1, qm_up I60 127 (sd.toInt.toNat) v62, J61, h.2.2.2))) rfl ?_
              refine qm_Ru.rt (v := none) (h' := (h.1, qm_up I60 127 (sd.toInt.toNat) v62, J61, h.2.2.2)) rfl ?_
              refine qm_Ru.go 0 (c' := (20, [.ref 118, .int 4], [], (h.1, qm_up I60 127 (sd.toInt.toNat) v62, J61, h.2.2.2))) rfl ?_
              refine qm_Ru.rt (v := none) (h' := (h.1, qm_up I60 127 (sd.toInt.toNat) v62, J61, h.2.2.2)) rfl ?_
              refine qm_Ru.go 0 (c' := (352, [.ref 118, .int v1, .int v62, .float 0], [], (h.1, qm_up I60 127 (sd.toInt.toNat) v62, J61, h.2.2.2))) rfl ?_
              refine qm_Ru.rt (v := none) (h' := (h.1, qm_up I60 127 (sd.toInt.toNat) v62, J61, h.2.2.2)) rfl ?_
              have s131_y68 : ∀ i, (qm_up I60 127 (sd.toInt.toNat) v62) 131 i = h.2.1 131 i := fun i => ((hk_ot rfl).trans ((e_I60 131 rfl i).trans ((hk_ot rfl).trans rfl)))
              have s132_y68 : ∀ i, (qm_up I60 127 (sd.toInt.toNat) v62) 132 i = h.2.1 132 i := fun i => ((hk_ot rfl).trans ((e_I60 132 rfl i).trans ((hk_ot rfl).trans rfl)))
              have s133_y68 : ∀ i, (qm_up I60 127 (sd.toInt.toNat) v62) 133 i = h.2.1 133 i := fun i => ((hk_ot rfl).trans ((e_I60 133 rfl i).trans ((hk_ot rfl).trans rfl)))
              have s134_y68 : ∀ i, (qm_up I60 127 (sd.toInt.toNat) v62) 134 i = h.2.1 134 i := fun i => ((hk_ot rfl).trans ((e_I60 134 rfl i).trans ((hk_ot rfl).trans rfl)))
              have s138_y68 : ∀ i, (qm_up I60 127 (sd.toInt.toNat) v62) 138 i = h.2.1 138 i := fun i => ((hk_ot rfl).trans ((e_I60 138 rfl i).trans ((hk_ot rfl).trans rfl)))
              have s139_y68 : ∀ i, (qm_up I60 127 (sd.toInt.toNat) v62) 139 i = h.2.1 139 i := fun i => ((hk_ot rfl).trans ((e_I60 139 rfl i).trans ((hk_ot rfl).trans rfl)))
              have s140_y68 : ∀ i, (qm_up I60 127 (sd.toInt.toNat) v62) 140 i = h.2.1 140 i := fun i => ((hk_ot rfl).trans ((e_I60 140 rfl i).trans ((hk_ot rfl).trans rfl)))
              have s141_y68 : ∀ i, (qm_up I60 127 (sd.toInt.toNat) v62) 141 i = h.2.1 141 i := fun i => ((hk_ot rfl).trans ((e_I60 141 rfl i).trans ((hk_ot rfl).trans rfl)))
              have s142_y68 : ∀ i, (qm_up I60 127 (sd.toInt.toNat) v62) 142 i = h.2.1 142 i := fun i => ((hk_ot rfl).trans ((e_I60 142 rfl i).trans ((hk_ot rfl).trans rfl)))
              have td_y68 : td (sd.toInt.toNat) h.2.1 (qm_up I60 127 (sd.toInt.toNat) v62) := ⟨fun i _ => ⟨s141_y68 i, s142_y68 i⟩, fun i _ => ⟨s138_y68 i, s139_y68 i, s140_y68 i⟩, fun i _ => ⟨s133_y68 i, s134_y68 i⟩, fun i _ => ⟨s131_y68 i, s132_y68 i⟩⟩
              exact k (qm_up I60 127 (sd.toInt.toNat) v62) (J61) t63 f64 ca bs la nm pr pp (hb_up (o := 127) (k := sd.toInt.toNat) (x := v62) hB_I60 ⟨by show (0 : Int) ≤ v62.toInt; omega, by show v62.toInt ≤ (5 : Int); omega⟩) (fun o ho i => ((hk_mod ho rfl).trans ((e_I60 o (hk_ms rfl ho) i).trans ((hk_mod ho rfl).trans rfl)))) (fun i hi => ((hk_ot rfl).trans ((e8_I60 i (hk_ms rfl hi)).trans ((hk_neq (fun z => by subst z; cases hi)).trans rfl)))) (show (qm_up I60 127 (sd.toInt.toNat) v62) 118 11 = _ from ((hk_ot rfl).trans q_t63)) (show (qm_up I60 127 (sd.toInt.toNat) v62) 118 13 = _ from ((hk_ot rfl).trans q_f64)) (show (qm_up I60 127 (sd.toInt.toNat) v62) 118 37 = _ from ((hk_ot rfl).trans ((e8_I60 37 rfl).trans ((hk_neq (by decide)).trans q_ca)))) (show (qm_up I60 127 (sd.toInt.toNat) v62) 118 12 = _ from ((hk_ot rfl).trans ((e8_I60 12 rfl).trans ((hk_neq (by decide)).trans q_bs)))) (show (qm_up I60 127 (sd.toInt.toNat) v62) 118 30 = _ from ((hk_ot rfl).trans ((e8_I60 30 rfl).trans ((hk_neq (by decide)).trans q_la)))) (show (qm_up I60 127 (sd.toInt.toNat) v62) 118 20 = _ from ((hk_ot rfl).trans ((e8_I60 20 rfl).trans ((hk_neq (by decide)).trans q_nm)))) (show (qm_up I60 127 (sd.toInt.toNat) v62) 131 (sd.toInt.toNat) = _ from ((hk_ot rfl).trans ((e_I60 131 rfl (sd.toInt.toNat)).trans ((hk_ot rfl).trans q_pr)))) (show (qm_up I60 127 (sd.toInt.toNat) v62) 132 (sd.toInt.toNat) = _ from ((hk_ot rfl).trans ((e_I60 132 rfl (sd.toInt.toNat)).trans ((hk_ot rfl).trans q_pp)))) (by omega) (fun z => by omega) td_y68 (fun z => rs_sm hrs s133_y68 s134_y68 s138_y68 s139_y68 s140_y68 s141_y68 s142_y68 (by omega))
            · refine qm_Ru.go 1 (c' := (8, [.ref 118, .int 4], [.ref 118], (h.1, qm_up I60 127 (sd.toInt.toNat) v62, J61, h.2.2.2))) rfl ?_
              refine hk_getr rfl (hH.1 118 (17, 105) rfl) rfl (hH.2 118 5 (some 121) rfl) ?_
              refine qm_Ru.go 1 (c' := (12, [.ref 118, .int 4], [.ref 118, .ref 121], (h.1, qm_up I60 127 (sd.toInt.toNat) v62, J61, h.2.2.2))) rfl ?_
              refine hk_geti (v := t63) rfl (hH.1 118 (17, 105) rfl) rfl (show (qm_up I60 127 (sd.toInt.toNat) v62) 118 11 = _ from ((hk_ot rfl).trans q_t63)) ?_
              refine qm_Ru.go 0 (c' := (15, [.ref 118, .int 4], [.int t63, .ref 121], (h.1, qm_up I60 127 (sd.toInt.toNat) v62, J61, h.2.2.2))) rfl ?_
              obtain ⟨v69, q_v69⟩ : ∃ v, h.2.1 121 (t63.toInt.toNat) = v := ⟨_, rfl⟩
              have b_v69 : (0 : Int) ≤ v69.toInt ∧ v69.toInt ≤ 44 := by rw [← q_v69]; exact hB 121 (t63.toInt.toNat)
              refine hk_ial (v := v69) rfl (hH.1 121 (0, 403) rfl) (by omega) (by omega) (show (qm_up I60 127 (sd.toInt.toNat) v62) 121 (t63.toInt.toNat) = _ from ((hk_ot rfl).trans ((e_I60 121 rfl (t63.toInt.toNat)).trans ((hk_ot rfl).trans q_v69)))) ?_
              refine qm_Ru.go 1 (c' := (17, [.ref 118, .int 4], [.int 4, .int v69], (h.1, qm_up I60 127 (sd.toInt.toNat) v62, J61, h.2.2.2))) rfl ?_
              refine hk_cne (ix := v69.toInt) (iy := 4) rfl rfl rfl (fun z70 => ?_) (fun z70 => ?_)
              · refine qm_Ru.go 1 (c' := (25, [.ref 118, .int 4], [.int 0], (h.1, qm_up I60 127 (sd.toInt.toNat) v62, J61, h.2.2.2))) rfl ?_
                refine qm_Ru.rt (v := (some (.int 0))) (h' := (h.1, qm_up I60 127 (sd.toInt.toNat) v62, J61, h.2.2.2)) rfl ?_
                refine qm_Ru.go 3 (c' := (17, [.ref 118, .int 4], [.int 1, .ref 118], (h.1, qm_up I60 127 (sd.toInt.toNat) v62, J61, h.2.2.2))) rfl ?_
                refine hk_inv (o := 118) (r := []) (as := [.ref 118, .int 1]) rfl rfl (hH.1 118 (17, 105) rfl) rfl rfl rfl rfl ?_
                refine qm_Ru.go 1 (c' := (1, [.ref 118, .int 1], [.ref 118], (h.1, qm_up I60 127 (sd.toInt.toNat) v62, J61, h.2.2.2))) rfl ?_
                refine hk_geti (v := f64) rfl (hH.1 118 (17, 105) rfl) rfl (show (qm_up I60 127 (sd.toInt.toNat) v62) 118 13 = _ from ((hk_ot rfl).trans q_f64)) ?_
                refine qm_Ru.go 0 (c' := (4, [.ref 118, .int 1], [.int f64], (h.1, qm_up I60 127 (sd.toInt.toNat) v62, J61, h.2.2.2))) rfl ?_
                refine hk_zle (ix := f64.toInt) rfl rfl (fun z71 => ?_) (fun z71 => by exfalso; omega)
                refine qm_Ru.go 2 (c' := (10, [.ref 118, .int 1], [.int 1, .ref 118], (h.1, qm_up I60 127 (sd.toInt.toNat) v62, J61, h.2.2.2))) rfl ?_
                refine hk_puti rfl (hH.1 118 (17, 105) rfl) rfl ?_
                refine qm_Ru.go 2 (c' := (15, [.ref 118, .int 1], [.ref 118, .ref 118], (h.1, qm_up (qm_up I60 127 (sd.toInt.toNat) v62) 118 13 1, J61, h.2.2.2))) rfl ?_
                refine hk_getr rfl (hH.1 118 (17, 105) rfl) rfl (hH.2 118 6 (some 122) rfl) ?_
                refine qm_Ru.go 1 (c' := (19, [.ref 118, .int 1], [.ref 118, .ref 122, .ref 118], (h.1, qm_up (qm_up I60 127 (sd.toInt.toNat) v62) 118 13 1, J61, h.2.2.2))) rfl ?_
                refine hk_geti (v := t63) rfl (hH.1 118 (17, 105) rfl) rfl (show (qm_up (qm_up I60 127 (sd.toInt.toNat) v62) 118 13 1) 118 11 = _ from ((hk_neq (by decide)).trans ((hk_ot rfl).trans q_t63))) ?_
                refine qm_Ru.go 0 (c' := (22, [.ref 118, .int 1], [.int t63, .ref 122, .ref 118], (h.1, qm_up (qm_up I60 127 (sd.toInt.toNat) v62) 118 13 1, J61, h.2.2.2))) rfl ?_
                obtain ⟨v72, q_v72⟩ : ∃ v, h.2.1 122 (t63.toInt.toNat) = v := ⟨_, rfl⟩
                refine hk_ial (v := v72) rfl (hH.1 122 (0, 403) rfl) (by omega) (by omega) (show (qm_up (qm_up I60 127 (sd.toInt.toNat) v62) 118 13 1) 122 (t63.toInt.toNat) = _ from ((hk_ot rfl).trans ((hk_ot rfl).trans ((e_I60 122 rfl (t63.toInt.toNat)).trans ((hk_ot rfl).trans q_v72))))) ?_
                refine qm_Ru.go 0 (c' := (23, [.ref 118, .int 1], [.int v72, .ref 118], (h.1, qm_up (qm_up I60 127 (sd.toInt.toNat) v62) 118 13 1, J61, h.2.2.2))) rfl ?_
                refine hk_puti rfl (hH.1 118 (17, 105) rfl) rfl ?_
                refine qm_Ru.go 0 (c' := (26, [.ref 118, .int 1], [], (h.1, qm_up (qm_up (qm_up I60 127 (sd.toInt.toNat) v62) 118 13 1) 118 14 v72, J61, h.2.2.2))) rfl ?_
                refine qm_Ru.rt (v := none) (h' := (h.1, qm_up (qm_up (qm_up I60 127 (sd.toInt.toNat) v62) 118 13 1) 118 14 v72, J61, h.2.2.2)) rfl ?_
                refine qm_Ru.go 0 (c' := (20, [.ref 118, .int 4], [], (h.1, qm_up (qm_up (qm_up I60 127 (sd.toInt.toNat) v62) 118 13 1) 118 14 v72, J61, h.2.2.2))) rfl ?_
                refine qm_Ru.rt (v := none) (h' := (h.1, qm_up (qm_up (qm_up I60 127 (sd.toInt.toNat) v62) 118 13 1) 118 14 v72, J61, h.2.2.2)) rfl ?_
                refine qm_Ru.go 0 (c' := (352, [.ref 118, .int v1, .int v62, .float 0], [], (h.1, qm_up (qm_up (qm_up I60 127 (sd.toInt.toNat) v62) 118 13 1) 118 14 v72, J61, h.2.2.2))) rfl ?_
                refine qm_Ru.rt (v := none) (h' := (h.1, qm_up (qm_up (qm_up I60 127 (sd.toInt.toNat) v62) 118 13 1) 118 14 v72, J61, h.2.2.2)) rfl ?_
                have s131_y73 : ∀ i, (qm_up (qm_up (qm_up I60 127 (sd.toInt.toNat) v62) 118 13 1) 118 14 v72) 131 i = h.2.1 131 i := fun i => ((hk_ot rfl).trans ((hk_ot rfl).trans ((hk_ot rfl).trans ((e_I60 131 rfl i).trans ((hk_ot rfl).trans rfl)))))
                have s132_y73 : ∀ i, (qm_up (qm_up (qm_up I60 127 (sd.toInt.toNat) v62) 118 13 1) 118 14 v72) 132 i = h.2.1 132 i := fun i => ((hk_ot rfl).trans ((hk_ot rfl).trans ((hk_ot rfl).trans ((e_I60 132 rfl i).trans ((hk_ot rfl).trans rfl)))))
                have s133_y73 : ∀ i, (qm_up (qm_up (qm_up I60 127 (sd.toInt.toNat) v62) 118 13 1) 118 14 v72) 133 i = h.2.1 133 i := fun i => ((hk_ot rfl).trans ((hk_ot rfl).trans ((hk_ot rfl).trans ((e_I60 133 rfl i).trans ((hk_ot rfl).trans rfl)))))
                have s134_y73 : ∀ i, (qm_up (qm_up (qm_up I60 127 (sd.toInt.toNat) v62) 118 13 1) 118 14 v72) 134 i = h.2.1 134 i := fun i => ((hk_ot rfl).trans ((hk_ot rfl).trans ((hk_ot rfl).trans ((e_I60 134 rfl i).trans ((hk_ot rfl).trans rfl)))))
                have s138_y73 : ∀ i, (qm_up (qm_up (qm_up I60 127 (sd.toInt.toNat) v62) 118 13 1) 118 14 v72) 138 i = h.2.1 138 i := fun i => ((hk_ot rfl).trans ((hk_ot rfl).trans ((hk_ot rfl).trans ((e_I60 138 rfl i).trans ((hk_ot rfl).trans rfl)))))
                have s139_y73 : ∀ i, (qm_up (qm_up (qm_up I60 127 (sd.toInt.toNat) v62) 118 13 1) 118 14 v72) 139 i = h.2.1 139 i := fun i => ((hk_ot rfl).trans ((hk_ot rfl).trans ((hk_ot rfl).trans ((e_I60 139 rfl i).trans ((hk_ot rfl).trans rfl)))))
                have s140_y73 : ∀ i, (qm_up (qm_up (qm_up I60 127 (sd.toInt.toNat) v62) 118 13 1) 118 14 v72) 140 i = h.2.1 140 i := fun i => ((hk_ot rfl).trans ((hk_ot rfl).trans ((hk_ot rfl).trans ((e_I60 140 rfl i).trans ((hk_ot rfl).trans rfl)))))
                have s141_y73 : ∀ i, (qm_up (qm_up (qm_up I60 127 (sd.toInt.toNat) v62) 118 13 1) 118 14 v72) 141 i = h.2.1 141 i := fun i => ((hk_ot rfl).trans ((hk_ot rfl).trans ((hk_ot rfl).trans ((e_I60 141 rfl i).trans ((hk_ot rfl).trans rfl)))))
                have s142_y73 : ∀ i, (qm_up (qm_up (qm_up I60 127 (sd.toInt.toNat) v62) 118 13 1) 118 14 v72) 142 i = h.2.1 142 i := fun i => ((hk_ot rfl).trans ((hk_ot rfl).trans ((hk_ot rfl).trans ((e_I60 142 rfl i).trans ((hk_ot rfl).trans rfl)))))
                have td_y73 : td (sd.toInt.toNat) h.2.1 (qm_up (qm_up (qm_up I60 127 (sd.toInt.toNat) v62) 118 13 1) 118 14 v72) := ⟨fun i _ => ⟨s141_y73 i, s142_y73 i⟩, fun i _ => ⟨s138_y73 i, s139_y73 i, s140_y73 i⟩, fun i _ => ⟨s133_y73 i, s134_y73 i⟩, fun i _ => ⟨s131_y73 i, s132_y73 i⟩⟩
                exact k (qm_up (qm_up (qm_up I60 127 (sd.toInt.toNat) v62) 118 13 1) 118 14 v72) (J61) t63 1 ca bs la nm pr pp (hb_up (o := 118) (k := 14) (x := v72) (hb_up (o := 118) (k := 13) (x := 1) (hb_up (o := 127) (k := sd.toInt.toNat) (x := v62) hB_I60 ⟨by show (0 : Int) ≤ v62.toInt; omega, by show v62.toInt ≤ (5 : Int); omega⟩) (qa_in_full _)) (qa_in_full _)) (fun o ho i => ((hk_mod ho rfl).trans ((hk_mod ho rfl).trans ((hk_mod ho rfl).trans ((e_I60 o (hk_ms rfl ho) i).trans ((hk_mod ho rfl).trans rfl)))))) (fun i hi => ((hk_neq (fun z => by subst z; cases hi)).trans ((hk_neq (fun z => by subst z; cases hi)).trans ((hk_ot rfl).trans ((e8_I60 i (hk_ms rfl hi)).trans ((hk_neq (fun z => by subst z; cases hi)).trans rfl)))))) (show (qm_up (qm_up (qm_up I60 127 (sd.toInt.toNat) v62) 118 13 1) 118 14 v72) 118 11 = _ from ((hk_neq (by decide)).trans ((hk_neq (by decide)).trans ((hk_ot rfl).trans q_t63)))) (show (qm_up (qm_up (qm_up I60 127 (sd.toInt.toNat) v62) 118 13 1) 118 14 v72) 118 13 = _ from ((hk_neq (by decide)).trans (hk_same))) (show (qm_up (qm_up (qm_up I60 127 (sd.toInt.toNat) v62) 118 13 1) 118 14 v72) 118 37 = _ from ((hk_neq (by decide)).trans ((hk_neq (by decide)).trans ((hk_ot rfl).trans ((e8_I60 37 rfl).trans ((hk_neq (by decide)).trans q_ca)))))) (show (qm_up (qm_up (qm_up I60 127 (sd.toInt.toNat) v62) 118 13 1) 118 14 v72) 118 12 = _ from ((hk_neq (by decide)).trans ((hk_neq (by decide)).trans ((hk_ot rfl).trans ((e8_I60 12 rfl).trans ((hk_neq (by decide)).trans q_bs)))))) (show (qm_up (qm_up (qm_up I60 127 (sd.toInt.toNat) v62) 118 13 1) 118 14 v72) 118 30 = _ from ((hk_neq (by decide)).trans ((hk_neq (by decide)).trans ((hk_ot rfl).trans ((e8_I60 30 rfl).trans ((hk_neq (by decide)).trans q_la)))))) (show (qm_up (qm_up (qm_up I60 127 (sd.toInt.toNat) v62) 118 13 1) 118 14 v72) 118 20 = _ from ((hk_neq (by decide)).trans ((hk_neq (by decide)).trans ((hk_ot rfl).trans ((e8_I60 20 rfl).trans ((hk_neq (by decide)).trans q_nm)))))) (show (qm_up (qm_up (qm_up I60 127 (sd.toInt.toNat) v62) 118 13 1) 118 14 v72) 131 (sd.toInt.toNat) = _ from ((hk_ot rfl).trans ((hk_ot rfl).trans ((hk_ot rfl).trans ((e_I60 131 rfl (sd.toInt.toNat)).trans ((hk_ot rfl).trans q_pr)))))) (show (qm_up (qm_up (qm_up I60 127 (sd.toInt.toNat) v62) 118 13 1) 118 14 v72) 132 (sd.toInt.toNat) = _ from ((hk_ot rfl).trans ((hk_ot rfl).trans ((hk_ot rfl).trans ((e_I60 132 rfl (sd.toInt.toNat)).trans ((hk_ot rfl).trans q_pp)))))) (by omega) (fun z => by omega) td_y73 (fun z => rs_sm hrs s133_y73 s134_y73 s138_y73 s139_y73 s140_y73 s141_y73 s142_y73 (by omega))
              · refine qm_Ru.go 2 (c' := (25, [.ref 118, .int 4], [.int 1], (h.1, qm_up I60 127 (sd.toInt.toNat) v62, J61, h.2.2.2))) rfl ?_
                refine qm_Ru.rt (v := (some (.int 1))) (h' := (h.1, qm_up I60 127 (sd.toInt.toNat) v62, J61, h.2.2.2)) rfl ?_
                refine qm_Ru.go 2 (c' := (9, [.ref 118, .int 4], [.ref 118], (h.1, qm_up I60 127 (sd.toInt.toNat) v62, J61, h.2.2.2))) rfl ?_
                refine hk_inv (o := 118) (r := []) (as := [.ref 118]) rfl rfl (hH.1 118 (17, 105) rfl) rfl rfl rfl rfl ?_
                refine qm_Ru.go 1 (c' := (1, [.ref 118], [.ref 118], (h.1, qm_up I60 127 (sd.toInt.toNat) v62, J61, h.2.2.2))) rfl ?_
                refine hk_geti (v := t63) rfl (hH.1 118 (17, 105) rfl) rfl (show (qm_up I60 127 (sd.toInt.toNat) v62) 118 11 = _ from ((hk_ot rfl).trans q_t63)) ?_
                refine qm_Ru.go 1 (c' := (7, [.ref 118], [.int 400, .int t63], (h.1, qm_up I60 127 (sd.toInt.toNat) v62, J61, h.2.2.2))) rfl ?_
                refine hk_cne (ix := t63.toInt) (iy := 400) rfl rfl rfl (fun z74 => ?_) (fun z74 => ?_)
                · refine qm_Ru.go 2 (c' := (20, [.ref 118], [.ref 118, .ref 118], (h.1, qm_up I60 127 (sd.toInt.toNat) v62, J61, h.2.2.2))) rfl ?_
                  refine hk_geti (v := t63) rfl (hH.1 118 (17, 105) rfl) rfl (show (qm_up I60 127 (sd.toInt.toNat) v62) 118 11 = _ from ((hk_ot rfl).trans q_t63)) ?_
                  refine qm_Ru.go 2 (c' := (25, [.ref 118], [.int (t63 + 1), .ref 118], (h.1, qm_up I60 127 (sd.toInt.toNat) v62, J61, h.2.2.2))) rfl ?_
                  obtain ⟨v75, q_v75, e_v75⟩ := hk_add (x := t63) (y := 1) (a := t63.toInt) (b := 1) rfl rfl (by omega) (by omega)
                  rw [q_v75]
                  refine hk_puti rfl (hH.1 118 (17, 105) rfl) rfl ?_
                  refine qm_Ru.go 0 (c' := (28, [.ref 118], [], (h.1, qm_up (qm_up I60 127 (sd.toInt.toNat) v62) 118 11 v75, J61, h.2.2.2))) rfl ?_
                  refine qm_Ru.rt (v := none) (h' := (h.1, qm_up (qm_up I60 127 (sd.toInt.toNat) v62) 118 11 v75, J61, h.2.2.2)) rfl ?_
                  refine qm_Ru.go 1 (c' := (20, [.ref 118, .int 4], [], (h.1, qm_up (qm_up I60 127 (sd.toInt.toNat) v62) 118 11 v75, J61, h.2.2.2))) rfl ?_
                  refine qm_Ru.rt (v := none) (h' := (h.1, qm_up (qm_up I60 127 (sd.toInt.toNat) v62) 118 11 v75, J61, h.2.2.2)) rfl ?_
                  refine qm_Ru.go 0 (c' := (352, [.ref 118, .int v1, .int v62, .float 0], [], (h.1, qm_up (qm_up I60 127 (sd.toInt.toNat) v62) 118 11 v75, J61, h.2.2.2))) rfl ?_
                  refine qm_Ru.rt (v := none) (h' := (h.1, qm_up (qm_up I60 127 (sd.toInt.toNat) v62) 118 11 v75, J61, h.2.2.2)) rfl ?_
                  have s131_y76 : ∀ i, (qm_up (qm_up I60 127 (sd.toInt.toNat) v62) 118 11 v75) 131 i = h.2.1 131 i := fun i => ((hk_ot rfl).trans ((hk_ot rfl).trans ((e_I60 131 rfl i).trans ((hk_ot rfl).trans rfl))))
                  have s132_y76 : ∀ i, (qm_up (qm_up I60 127 (sd.toInt.toNat) v62) 118 11 v75) 132 i = h.2.1 132 i := fun i => ((hk_ot rfl).trans ((hk_ot rfl).trans ((e_I60 132 rfl i).trans ((hk_ot rfl).trans rfl))))
                  have s133_y76 : ∀ i, (qm_up (qm_up I60 127 (sd.toInt.toNat) v62) 118 11 v75) 133 i = h.2.1 133 i := fun i => ((hk_ot rfl).trans ((hk_ot rfl).trans ((e_I60 133 rfl i).trans ((hk_ot rfl).trans rfl))))
                  have s134_y76 : ∀ i, (qm_up (qm_up I60 127 (sd.toInt.toNat) v62) 118 11 v75) 134 i = h.2.1 134 i := fun i => ((hk_ot rfl).trans ((hk_ot rfl).trans ((e_I60 134 rfl i).trans ((hk_ot rfl).trans rfl))))
                  have s138_y76 : ∀ i, (qm_up (qm_up I60 127 (sd.toInt.toNat) v62) 118 11 v75) 138 i = h.2.1 138 i := fun i => ((hk_ot rfl).trans ((hk_ot rfl).trans ((e_I60 138 rfl i).trans ((hk_ot rfl).trans rfl))))
                  have s139_y76 : ∀ i, (qm_up (qm_up I60 127 (sd.toInt.toNat) v62) 118 11 v75) 139 i = h.2.1 139 i := fun i => ((hk_ot rfl).trans ((hk_ot rfl).trans ((e_I60 139 rfl i).trans ((hk_ot rfl).trans rfl))))
                  have s140_y76 : ∀ i, (qm_up (qm_up I60 127 (sd.toInt.toNat) v62) 118 11 v75) 140 i = h.2.1 140 i := fun i => ((hk_ot rfl).trans ((hk_ot rfl).trans ((e_I60 140 rfl i).trans ((hk_ot rfl).trans rfl))))
                  have s141_y76 : ∀ i, (qm_up (qm_up I60 127 (sd.toInt.toNat) v62) 118 11 v75) 141 i = h.2.1 141 i := fun i => ((hk_ot rfl).trans ((hk_ot rfl).trans ((e_I60 141 rfl i).trans ((hk_ot rfl).trans rfl))))
                  have s142_y76 : ∀ i, (qm_up (qm_up I60 127 (sd.toInt.toNat) v62) 118 11 v75) 142 i = h.2.1 142 i := fun i => ((hk_ot rfl).trans ((hk_ot rfl).trans ((e_I60 142 rfl i).trans ((hk_ot rfl).trans rfl))))
                  have td_y76 : td (sd.toInt.toNat) h.2.1 (qm_up (qm_up I60 127 (sd.toInt.toNat) v62) 118 11 v75) := ⟨fun i _ => ⟨s141_y76 i, s142_y76 i⟩, fun i _ => ⟨s138_y76 i, s139_y76 i, s140_y76 i⟩, fun i _ => ⟨s133_y76 i, s134_y76 i⟩, fun i _ => ⟨s131_y76 i, s132_y76 i⟩⟩
                  exact k (qm_up (qm_up I60 127 (sd.toInt.toNat) v62) 118 11 v75) (J61) v75 f64 ca bs la nm pr pp (hb_up (o := 118) (k := 11) (x := v75) (hb_up (o := 127) (k := sd.toInt.toNat) (x := v62) hB_I60 ⟨by show (0 : Int) ≤ v62.toInt; omega, by show v62.toInt ≤ (5 : Int); omega⟩) ⟨by show (0 : Int) ≤ v75.toInt; omega, by show v75.toInt ≤ (400 : Int); omega⟩) (fun o ho i => ((hk_mod ho rfl).trans ((hk_mod ho rfl).trans ((e_I60 o (hk_ms rfl ho) i).trans ((hk_mod ho rfl).trans rfl))))) (fun i hi => ((hk_neq (fun z => by subst z; cases hi)).trans ((hk_ot rfl).trans ((e8_I60 i (hk_ms rfl hi)).trans ((hk_neq (fun z => by subst z; cases hi)).trans rfl))))) (show (qm_up (qm_up I60 127 (sd.toInt.toNat) v62) 118 11 v75) 118 11 = _ from (hk_same)) (show (qm_up (qm_up I60 127 (sd.toInt.toNat) v62) 118 11 v75) 118 13 = _ from ((hk_neq (by decide)).trans ((hk_ot rfl).trans q_f64))) (show (qm_up (qm_up I60 127 (sd.toInt.toNat) v62) 118 11 v75) 118 37 = _ from ((hk_neq (by decide)).trans ((hk_ot rfl).trans ((e8_I60 37 rfl).trans ((hk_neq (by decide)).trans q_ca))))) (show (qm_up (qm_up I60 127 (sd.toInt.toNat) v62) 118 11 v75) 118 12 = _ from ((hk_neq (by decide)).trans ((hk_ot rfl).trans ((e8_I60 12 rfl).trans ((hk_neq (by decide)).trans q_bs))))) (show (qm_up (qm_up I60 127 (sd.toInt.toNat) v62) 118 11 v75) 118 30 = _ from ((hk_neq (by decide)).trans ((hk_ot rfl).trans ((e8_I60 30 rfl).trans ((hk_neq (by decide)).trans q_la))))) (show (qm_up (qm_up I60 127 (sd.toInt.toNat) v62) 118 11 v75) 118 20 = _ from ((hk_neq (by decide)).trans ((hk_ot rfl).trans ((e8_I60 20 rfl).trans ((hk_neq (by decide)).trans q_nm))))) (show (qm_up (qm_up I60 127 (sd.toInt.toNat) v62) 118 11 v75) 131 (sd.toInt.toNat) = _ from ((hk_ot rfl).trans ((hk_ot rfl).trans ((e_I60 131 rfl (sd.toInt.toNat)).trans ((hk_ot rfl).trans q_pr))))) (show (qm_up (qm_up I60 127 (sd.toInt.toNat) v62) 118 11 v75) 132 (sd.toInt.toNat) = _ from ((hk_ot rfl).trans ((hk_ot rfl).trans ((e_I60 132 rfl (sd.toInt.toNat)).trans ((hk_ot rfl).trans q_pp))))) (by omega) (fun z => by omega) td_y76 (fun z => rs_sm hrs s133_y76 s134_y76 s138_y76 s139_y76 s140_y76 s141_y76 s142_y76 (by omega))
                · refine qm_Ru.go 2 (c' := (12, [.ref 118], [.int 2, .ref 118], (h.1, qm_up I60 127 (sd.toInt.toNat) v62, J61, h.2.2.2))) rfl ?_
                  refine hk_inv (o := 118) (r := []) (as := [.ref 118, .int 2]) rfl rfl (hH.1 118 (17, 105) rfl) rfl rfl rfl rfl ?_
                  refine qm_Ru.go 1 (c' := (1, [.ref 118, .int 2], [.ref 118], (h.1, qm_up I60 127 (sd.toInt.toNat) v62, J61, h.2.2.2))) rfl ?_
                  refine hk_geti (v := f64) rfl (hH.1 118 (17, 105) rfl) rfl (show (qm_up I60 127 (sd.toInt.toNat) v62) 118 13 = _ from ((hk_ot rfl).trans q_f64)) ?_
                  refine qm_Ru.go 0 (c' := (4, [.ref 118, .int 2], [.int f64], (h.1, qm_up I60 127 (sd.toInt.toNat) v62, J61, h.2.2.2))) rfl ?_
                  refine hk_zle (ix := f64.toInt) rfl rfl (fun z77 => ?_) (fun z77 => by exfalso; omega)
                  refine qm_Ru.go 2 (c' := (10, [.ref 118, .int 2], [.int 2, .ref 118], (h.1, qm_up I60 127 (sd.toInt.toNat) v62, J61, h.2.2.2))) rfl ?_
                  refine hk_puti rfl (hH.1 118 (17, 105) rfl) rfl ?_
                  refine qm_Ru.go 2 (c' := (15, [.ref 118, .int 2], [.ref 118, .ref 118], (h.1, qm_up (qm_up I60 127 (sd.toInt.toNat) v62) 118 13 2, J61, h.2.2.2))) rfl ?_
                  refine hk_getr rfl (hH.1 118 (17, 105) rfl) rfl (hH.2 118 6 (some 122) rfl) ?_
                  refine qm_Ru.go 1 (c' := (19, [.ref 118, .int 2], [.ref 118, .ref 122, .ref 118], (h.1, qm_up (qm_up I60 127 (sd.toInt.toNat) v62) 118 13 2, J61, h.2.2.2))) rfl ?_
                  refine hk_geti (v := t63) rfl (hH.1 118 (17, 105) rfl) rfl (show (qm_up (qm_up I60 127 (sd.toInt.toNat) v62) 118 13 2) 118 11 = _ from ((hk_neq (by decide)).trans ((hk_ot rfl).trans q_t63))) ?_
                  refine qm_Ru.go 0 (c' := (22, [.ref 118, .int 2], [.int t63, .ref 122, .ref 118], (h.1, qm_up (qm_up I60 127 (sd.toInt.toNat) v62) 118 13 2, J61, h.2.2.2))) rfl ?_
                  obtain ⟨v78, q_v78⟩ : ∃ v, h.2.1 122 (t63.toInt.toNat) = v := ⟨_, rfl⟩
                  refine hk_ial (v := v78) rfl (hH.1 122 (0, 403) rfl) (by omega) (by omega) (show (qm_up (qm_up I60 127 (sd.toInt.toNat) v62) 118 13 2) 122 (t63.toInt.toNat) = _ from ((hk_ot rfl).trans ((hk_ot rfl).trans ((e_I60 122 rfl (t63.toInt.toNat)).trans ((hk_ot rfl).trans q_v78))))) ?_
                  refine qm_Ru.go 0 (c' := (23, [.ref 118, .int 2], [.int v78, .ref 118], (h.1, qm_up (qm_up I60 127 (sd.toInt.toNat) v62) 118 13 2, J61, h.2.2.2))) rfl ?_
                  refine hk_puti rfl (hH.1 118 (17, 105) rfl) rfl ?_
                  refine qm_Ru.go 0 (c' := (26, [.ref 118, .int 2], [], (h.1, qm_up (qm_up (qm_up I60 127 (sd.toInt.toNat) v62) 118 13 2) 118 14 v78, J61, h.2.2.2))) rfl ?_
                  refine qm_Ru.rt (v := none) (h' := (h.1, qm_up (qm_up (qm_up I60 127 (sd.toInt.toNat) v62) 118 13 2) 118 14 v78, J61, h.2.2.2)) rfl ?_
                  refine qm_Ru.go 1 (c' := (28, [.ref 118], [], (h.1, qm_up (qm_up (qm_up I60 127 (sd.toInt.toNat) v62) 118 13 2) 118 14 v78, J61, h.2.2.2))) rfl ?_
                  refine qm_Ru.rt (v := none) (h' := (h.1, qm_up (qm_up (qm_up I60 127 (sd.toInt.toNat) v62) 118 13 2) 118 14 v78, J61, h.2.2.2)) rfl ?_
                  refine qm_Ru.go 1 (c' := (20, [.ref 118, .int 4], [], (h.1, qm_up (qm_up (qm_up I60 127 (sd.toInt.toNat) v62) 118 13 2) 118 14 v78, J61, h.2.2.2))) rfl ?_
                  refine qm_Ru.rt (v := none) (h' := (h.1, qm_up (qm_up (qm_up I60 127 (sd.toInt.toNat) v62) 118 13 2) 118 14 v78, J61, h.2.2.2)) rfl ?_
                  refine qm_Ru.go 0 (c' := (352, [.ref 118, .int v1, .int v62, .float 0], [], (h.1, qm_up (qm_up (qm_up I60 127 (sd.toInt.toNat) v62) 118 13 2) 118 14 v78, J61, h.2.2.2))) rfl ?_
                  refine qm_Ru.rt (v := none) (h' := (h.1, qm_up (qm_up (qm_up I60 127 (sd.toInt.toNat) v62) 118 13 2) 118 14 v78, J61, h.2.2.2)) rfl ?_
                  have s131_y79 : ∀ i, (qm_up (qm_up (qm_up I60 127 (sd.toInt.toNat) v62) 118 13 2) 118 14 v78) 131 i = h.2.1 131 i := fun i => ((hk_ot rfl).trans ((hk_ot rfl).trans ((hk_ot rfl).trans ((e_I60 131 rfl i).trans ((hk_ot rfl).trans rfl)))))
                  have s132_y79 : ∀ i, (qm_up (qm_up (qm_up I60 127 (sd.toInt.toNat) v62) 118 13 2) 118 14 v78) 132 i = h.2.1 132 i := fun i => ((hk_ot rfl).trans ((hk_ot rfl).trans ((hk_ot rfl).trans ((e_I60 132 rfl i).trans ((hk_ot rfl).trans rfl)))))
                  have s133_y79 : ∀ i, (qm_up (qm_up (qm_up I60 127 (sd.toInt.toNat) v62) 118 13 2) 118 14 v78) 133 i = h.2.1 133 i := fun i => ((hk_ot rfl).trans ((hk_ot rfl).trans ((hk_ot rfl).trans ((e_I60 133 rfl i).trans ((hk_ot rfl).trans rfl)))))
                  have s134_y79 : ∀ i, (qm_up (qm_up (qm_up I60 127 (sd.toInt.toNat) v62) 118 13 2) 118 14 v78) 134 i = h.2.1 134 i := fun i => ((hk_ot rfl).trans ((hk_ot rfl).trans ((hk_ot rfl).trans ((e_I60 134 rfl i).trans ((hk_ot rfl).trans rfl)))))
                  have s138_y79 : ∀ i, (qm_up (qm_up (qm_up I60 127 (sd.toInt.toNat) v62) 118 13 2) 118 14 v78) 138 i = h.2.1 138 i := fun i => ((hk_ot rfl).trans ((hk_ot rfl).trans ((hk_ot rfl).trans ((e_I60 138 rfl i).trans ((hk_ot rfl).trans rfl)))))
                  have s139_y79 : ∀ i, (qm_up (qm_up (qm_up I60 127 (sd.toInt.toNat) v62) 118 13 2) 118 14 v78) 139 i = h.2.1 139 i := fun i => ((hk_ot rfl).trans ((hk_ot rfl).trans ((hk_ot rfl).trans ((e_I60 139 rfl i).trans ((hk_ot rfl).trans rfl)))))
                  have s140_y79 : ∀ i, (qm_up (qm_up (qm_up I60 127 (sd.toInt.toNat) v62) 118 13 2) 118 14 v78) 140 i = h.2.1 140 i := fun i => ((hk_ot rfl).trans ((hk_ot rfl).trans ((hk_ot rfl).trans ((e_I60 140 rfl i).trans ((hk_ot rfl).trans rfl)))))
                  have s141_y79 : ∀ i, (qm_up (qm_up (qm_up I60 127 (sd.toInt.toNat) v62) 118 13 2) 118 14 v78) 141 i = h.2.1 141 i := fun i => ((hk_ot rfl).trans ((hk_ot rfl).trans ((hk_ot rfl).trans ((e_I60 141 rfl i).trans ((hk_ot rfl).trans rfl)))))
                  have s142_y79 : ∀ i, (qm_up (qm_up (qm_up I60 127 (sd.toInt.toNat) v62) 118 13 2) 118 14 v78) 142 i = h.2.1 142 i := fun i => ((hk_ot rfl).trans ((hk_ot rfl).trans ((hk_ot rfl).trans ((e_I60 142 rfl i).trans ((hk_ot rfl).trans rfl)))))
                  have td_y79 : td (sd.toInt.toNat) h.2.1 (qm_up (qm_up (qm_up I60 127 (sd.toInt.toNat) v62) 118 13 2) 118 14 v78) := ⟨fun i _ => ⟨s141_y79 i, s142_y79 i⟩, fun i _ => ⟨s138_y79 i, s139_y79 i, s140_y79 i⟩, fun i _ => ⟨s133_y79 i, s134_y79 i⟩, fun i _ => ⟨s131_y79 i, s132_y79 i⟩⟩
                  exact k (qm_up (qm_up (qm_up I60 127 (sd.toInt.toNat) v62) 118 13 2) 118 14 v78) (J61) t63 2 ca bs la nm pr pp (hb_up (o := 118) (k := 14) (x := v78) (hb_up (o := 118) (k := 13) (x := 2) (hb_up (o := 127) (k := sd.toInt.toNat) (x := v62) hB_I60 ⟨by show (0 : Int) ≤ v62.toInt; omega, by show v62.toInt ≤ (5 : Int); omega⟩) (qa_in_full _)) (qa_in_full _)) (fun o ho i => ((hk_mod ho rfl).trans ((hk_mod ho rfl).trans ((hk_mod ho rfl).trans ((e_I60 o (hk_ms rfl ho) i).trans ((hk_mod ho rfl).trans rfl)))))) (fun i hi => ((hk_neq (fun z => by subst z; cases hi)).trans ((hk_neq (fun z => by subst z; cases hi)).trans ((hk_ot rfl).trans ((e8_I60 i (hk_ms rfl hi)).trans ((hk_neq (fun z => by subst z; cases hi)).trans rfl)))))) (show (qm_up (qm_up (qm_up I60 127 (sd.toInt.toNat) v62) 118 13 2) 118 14 v78) 118 11 = _ from ((hk_neq (by decide)).trans ((hk_neq (by decide)).trans ((hk_ot rfl).trans q_t63)))) (show (qm_up (qm_up (qm_up I60 127 (sd.toInt.toNat) v62) 118 13 2) 118 14 v78) 118 13 = _ from ((hk_neq (by decide)).trans (hk_same))) (show (qm_up (qm_up (qm_up I60 127 (sd.toInt.toNat) v62) 118 13 2) 118 14 v78) 118 37 = _ from ((hk_neq (by decide)).trans ((hk_neq (by decide)).trans ((hk_ot rfl).trans ((e8_I60 37 rfl).trans ((hk_neq (by decide)).trans q_ca)))))) (show (qm_up (qm_up (qm_up I60 127 (sd.toInt.toNat) v62) 118 13 2) 118 14 v78) 118 12 = _ from ((hk_neq (by decide)).trans ((hk_neq (by decide)).trans ((hk_ot rfl).trans ((e8_I60 12 rfl).trans ((hk_neq (by decide)).trans q_bs)))))) (show (qm_up (qm_up (qm_up I60 127 (sd.toInt.toNat) v62) 118 13 2) 118 14 v78) 118 30 = _ from ((hk_neq (by decide)).trans ((hk_neq (by decide)).trans ((hk_ot rfl).trans ((e8_I60 30 rfl).trans ((hk_neq (by decide)).trans q_la)))))) (show (qm_up (qm_up (qm_up I60 127 (sd.toInt.toNat) v62) 118 13 2) 118 14 v78) 118 20 = _ from ((hk_neq (by decide)).trans ((hk_neq (by decide)).trans ((hk_ot rfl).trans ((e8_I60 20 rfl).trans ((hk_neq (by decide)).trans q_nm)))))) (show (qm_up (qm_up (qm_up I60 127 (sd.toInt.toNat) v62) 118 13 2) 118 14 v78) 131 (sd.toInt.toNat) = _ from ((hk_ot rfl).trans ((hk_ot rfl).trans ((hk_ot rfl).trans ((e_I60 131 rfl (sd.toInt.toNat)).trans ((hk_ot rfl).trans q_pr)))))) (show (qm_up (qm_up (qm_up I60 127 (sd.toInt.toNat) v62) 118 13 2) 118 14 v78) 132 (sd.toInt.toNat) = _ from ((hk_ot rfl).trans ((hk_ot rfl).trans ((hk_ot rfl).trans ((e_I60 132 rfl (sd.toInt.toNat)).trans ((hk_ot rfl).trans q_pp)))))) (by omega) (fun z => by omega) td_y79 (fun z => rs_sm hrs s133_y79 s134_y79 s138_y79 s139_y79 s140_y79 s141_y79 s142_y79 (by omega))
        · refine qm_Ru.go 2 (c' := (12, [.ref 118], [.int 2, .ref 118], h)) rfl ?_
          refine hk_inv (o := 118) (r := []) (as := [.ref 118, .int 2]) rfl rfl (hH.1 118 (17, 105) rfl) rfl rfl rfl rfl ?_
          refine qm_Ru.go 1 (c' := (1, [.ref 118, .int 2], [.ref 118], h)) rfl ?_
          refine hk_geti (v := fa) rfl (hH.1 118 (17, 105) rfl) rfl q_fa ?_
          refine qm_Ru.go 0 (c' := (4, [.ref 118, .int 2], [.int fa], h)) rfl ?_
          refine hk_zle (ix := fa.toInt) rfl rfl (fun z80 => ?_) (fun z80 => by exfalso; omega)
          refine qm_Ru.go 2 (c' := (10, [.ref 118, .int 2], [.int 2, .ref 118], h)) rfl ?_
          refine hk_puti rfl (hH.1 118 (17, 105) rfl) rfl ?_
          refine qm_Ru.go 2 (c' := (15, [.ref 118, .int 2], [.ref 118, .ref 118], (h.1, qm_up h.2.1 118 13 2, h.2.2.1, h.2.2.2))) rfl ?_
          refine hk_getr rfl (hH.1 118 (17, 105) rfl) rfl (hH.2 118 6 (some 122) rfl) ?_
          refine qm_Ru.go 1 (c' := (19, [.ref 118, .int 2], [.ref 118, .ref 122, .ref 118], (h.1, qm_up h.2.1 118 13 2, h.2.2.1, h.2.2.2))) rfl ?_
          refine hk_geti (v := ta) rfl (hH.1 118 (17, 105) rfl) rfl (show (qm_up h.2.1 118 13 2) 118 11 = _ from ((hk_neq (by decide)).trans q_ta)) ?_
          refine qm_Ru.go 0 (c' := (22, [.ref 118, .int 2], [.int ta, .ref 122, .ref 118], (h.1, qm_up h.2.1 118 13 2, h.2.2.1, h.2.2.2))) rfl ?_
          obtain ⟨v81, q_v81⟩ : ∃ v, h.2.1 122 (ta.toInt.toNat) = v := ⟨_, rfl⟩
          refine hk_ial (v := v81) rfl (hH.1 122 (0, 403) rfl) (by omega) (by omega) (show (qm_up h.2.1 118 13 2) 122 (ta.toInt.toNat) = _ from ((hk_ot rfl).trans q_v81)) ?_
          refine qm_Ru.go 0 (c' := (23, [.ref 118, .int 2], [.int v81, .ref 118], (h.1, qm_up h.2.1 118 13 2, h.2.2.1, h.2.2.2))) rfl ?_
          refine hk_puti rfl (hH.1 118 (17, 105) rfl) rfl ?_
          refine qm_Ru.go 0 (c' := (26, [.ref 118, .int 2], [], (h.1, qm_up (qm_up h.2.1 118 13 2) 118 14 v81, h.2.2.1, h.2.2.2))) rfl ?_
          refine qm_Ru.rt (v := none) (h' := (h.1, qm_up (qm_up h.2.1 118 13 2) 118 14 v81, h.2.2.1, h.2.2.2)) rfl ?_
          refine qm_Ru.go 1 (c' := (28, [.ref 118], [], (h.1, qm_up (qm_up h.2.1 118 13 2) 118 14 v81, h.2.2.1, h.2.2.2))) rfl ?_
          refine qm_Ru.rt (v := none) (h' := (h.1, qm_up (qm_up h.2.1 118 13 2) 118 14 v81, h.2.2.1, h.2.2.2)) rfl ?_
          refine qm_Ru.go 3 (c' := (257, [.ref 118, .int v1, .float 0, .float 0], [.int 20, .int v1, .ref 118], (h.1, qm_up (qm_up h.2.1 118 13 2) 118 14 v81, h.2.2.1, h.2.2.2))) rfl ?_
          refine hk_cne (ix := v1.toInt) (iy := 20) rfl rfl rfl (fun z82 => ?_) (fun z82 => ?_)
          · refine qm_Ru.go 2 (c' := (267, [.ref 118, .int v1, .float 0, .float 0], [.int 24, .int v1, .ref 118], (h.1, qm_up (qm_up h.2.1 118 13 2) 118 14 v81, h.2.2.1, h.2.2.2))) rfl ?_
            refine hk_cne (ix := v1.toInt) (iy := 24) rfl rfl rfl (fun z83 => ?_) (fun z83 => ?_)
            · refine qm_Ru.go 3 (c' := (278, [.ref 118, .int v1, .float 0, .float 0], [.int 20, .int v1, .int 0, .ref 118], (h.1, qm_up (qm_up h.2.1 118 13 2) 118 14 v81, h.2.2.1, h.2.2.2))) rfl ?_
              refine hk_cne (ix := v1.toInt) (iy := 20) rfl rfl rfl (fun z84 => ?_) (fun z84 => by exfalso; omega)
              refine qm_Ru.go 1 (c' := (288, [.ref 118, .int v1, .float 0, .float 0], [.int 9999, .int 0, .ref 118], (h.1, qm_up (qm_up h.2.1 118 13 2) 118 14 v81, h.2.2.1, h.2.2.2))) rfl ?_
              refine hk_inv (o := 118) (r := []) (as := [.ref 118, .int 0, .int 9999]) rfl rfl (hH.1 118 (17, 105) rfl) rfl rfl rfl rfl (hs_told (d := d + 4) (h := (h.1, qm_up (qm_up h.2.1 118 13 2) 118 14 v81, h.2.2.1, h.2.2.2)) hH (hb_up (o := 118) (k := 14) (x := v81) (hb_up (o := 118) (k := 13) (x := 2) hB (qa_in_full _)) (qa_in_full _)) (ta := ta) (fa := 2) (lo := 0) (hi := 9999) (show (qm_up (qm_up h.2.1 118 13 2) 118 14 v81) 118 11 = _ from ((hk_neq (by decide)).trans ((hk_neq (by decide)).trans q_ta))) (show (qm_up (qm_up h.2.1 118 13 2) 118 14 v81) 118 13 = _ from ((hk_neq (by decide)).trans (hk_same))) (by omega) (by decide) (fun I85 J86 v87 t88 f89 hB_I85 e_I85 e8_I85 q_t88 q_f89 b1_I85 b2_I85 => ?_))
              have b2_I85 : (0 : Int) ≤ v87.toInt ∧ v87.toInt ≤ 9999 := b2_I85
              have e_I85 : ∀ o, [118].contains o = false → ∀ i, I85 o i = (qm_up (qm_up h.2.1 118 13 2) 118 14 v81) o i := e_I85
              have e8_I85 : ∀ i, [11, 13, 14, 15, 16].contains i = false → I85 118 i = (qm_up (qm_up h.2.1 118 13 2) 118 14 v81) 118 i := e8_I85
              refine qm_Ru.go 3 (c' := (295, [.ref 118, .int v1, .int v87, .float 0], [.int 20, .int v1], (h.1, I85, J86, h.2.2.2))) rfl ?_
              refine hk_cne (ix := v1.toInt) (iy := 20) rfl rfl rfl (fun z90 => ?_) (fun z90 => by exfalso; omega)
              refine qm_Ru.go 2 (c' := (314, [.ref 118, .int v1, .int v87, .float 0], [.int 24, .int v1], (h.1, I85, J86, h.2.2.2))) rfl ?_
              refine hk_cne (ix := v1.toInt) (iy := 24) rfl rfl rfl (fun z91 => ?_) (fun z91 => by exfalso; omega)
              refine qm_Ru.go 1 (c' := (331, [.ref 118, .int v1, .int v87, .float 0], [.ref 118], (h.1, I85, J86, h.2.2.2))) rfl ?_
              refine hk_getr rfl (hH.1 118 (17, 105) rfl) rfl (hH.2 118 23 (some 128) rfl) ?_
              refine qm_Ru.go 2 (c' := (336, [.ref 118, .int v1, .int v87, .float 0], [.ref 118, .int 3, .ref 128], (h.1, I85, J86, h.2.2.2))) rfl ?_
              refine hk_geti (v := sd) rfl (hH.1 118 (17, 105) rfl) rfl (show (I85) 118 19 = _ from ((e8_I85 19 rfl).trans ((hk_neq (by decide)).trans ((hk_neq (by decide)).trans q_sd)))) ?_
              refine qm_Ru.go 1 (c' := (340, [.ref 118, .int v1, .int v87, .float 0], [.int (3 * sd), .ref 128], (h.1, I85, J86, h.2.2.2))) rfl ?_
              obtain ⟨v92, q_v92, e_v92⟩ := hk_mul (x := 3) (y := sd) (a := 3) (b := sd.toInt) rfl rfl (by omega) (by omega)
              rw [q_v92]
              refine qm_Ru.go 2 (c' := (342, [.ref 118, .int v1, .int v87, .float 0], [.int (v92 + v1), .ref 128], (h.1, I85, J86, h.2.2.2))) rfl ?_
              obtain ⟨v93, q_v93, e_v93⟩ := hk_add (x := v92) (y := v1) (a := v92.toInt) (b := v1.toInt) rfl rfl (by omega) (by omega)
              rw [q_v93]
              refine qm_Ru.go 2 (c' := (345, [.ref 118, .int v1, .int v87, .float 0], [.int (v93 - 21), .ref 128], (h.1, I85, J86, h.2.2.2))) rfl ?_
              obtain ⟨v94, q_v94, e_v94⟩ := hk_sub (x := v93) (y := 21) (a := v93.toInt) (b := 21) rfl rfl (by omega) (by omega)
              rw [q_v94]
              refine qm_Ru.go 1 (c' := (346, [.ref 118, .int v1, .int v87, .float 0], [.int v87, .int v94, .ref 128], (h.1, I85, J86, h.2.2.2))) rfl ?_
              refine hk_ias rfl (hH.1 128 (0, 6) rfl) (by omega) (by omega) ?_
              refine qm_Ru.go 2 (c' := (349, [.ref 118, .int v1, .int v87, .float 0], [.int 4, .ref 118], (h.1, qm_up I85 128 (v94.toInt.toNat) v87, J86, h.2.2.2))) rfl ?_
              refine hk_inv (o := 118) (r := []) (as := [.ref 118, .int 4]) rfl rfl (hH.1 118 (17, 105) rfl) rfl rfl rfl rfl ?_
              refine qm_Ru.go 2 (c' := (2, [.ref 118, .int 4], [.int 4, .ref 118], (h.1, qm_up I85 128 (v94.toInt.toNat) v87, J86, h.2.2.2))) rfl ?_
              refine hk_inv (o := 118) (r := []) (as := [.ref 118, .int 4]) rfl rfl (hH.1 118 (17, 105) rfl) rfl rfl rfl rfl ?_
              refine qm_Ru.go 1 (c' := (1, [.ref 118, .int 4], [.ref 118], (h.1, qm_up I85 128 (v94.toInt.toNat) v87, J86, h.2.2.2))) rfl ?_
              refine hk_geti (v := f89) rfl (hH.1 118 (17, 105) rfl) rfl (show (qm_up I85 128 (v94.toInt.toNat) v87) 118 13 = _ from ((hk_ot rfl).trans q_f89)) ?_
              refine qm_Ru.go 0 (c' := (4, [.ref 118, .int 4], [.int f89], (h.1, qm_up I85 128 (v94.toInt.toNat) v87, J86, h.2.2.2))) rfl ?_
              refine hk_zne (ix := f89.toInt) rfl rfl (fun z95 => ?_) (fun z95 => ?_)
              · refine qm_Ru.go 1 (c' := (25, [.ref 118, .int 4], [.int 0], (h.1, qm_up I85 128 (v94.toInt.toNat) v87, J86, h.2.2.2))) rfl ?_
                refine qm_Ru.rt (v := (some (.int 0))) (h' := (h.1, qm_up I85 128 (v94.toInt.toNat) v87, J86, h.2.2.2)) rfl ?_
                refine qm_Ru.go 3 (c' := (17, [.ref 118, .int 4], [.int 1, .ref 118], (h.1, qm_up I85 128 (v94.toInt.toNat) v87, J86, h.2.2.2))) rfl ?_
                refine hk_inv (o := 118) (r := []) (as := [.ref 118, .int 1]) rfl rfl (hH.1 118 (17, 105) rfl) rfl rfl rfl rfl ?_
                refine qm_Ru.go 1 (c' := (1, [.ref 118, .int 1], [.ref 118], (h.1, qm_up I85 128 (v94.toInt.toNat) v87, J86, h.2.2.2))) rfl ?_
                refine hk_geti (v := f89) rfl (hH.1 118 (17, 105) rfl) rfl (show (qm_up I85 128 (v94.toInt.toNat) v87) 118 13 = _ from ((hk_ot rfl).trans q_f89)) ?_
                refine qm_Ru.go 0 (c' := (4, [.ref 118, .int 1], [.int f89], (h.1, qm_up I85 128 (v94.toInt.toNat) v87, J86, h.2.2.2))) rfl ?_
                refine hk_zle (ix := f89.toInt) rfl rfl (fun z96 => by exfalso; omega) (fun z96 => ?_)
                refine qm_Ru.go 0 (c' := (7, [.ref 118, .int 1], [], (h.1, qm_up I85 128 (v94.toInt.toNat) v87, J86, h.2.2.2))) rfl ?_
                refine qm_Ru.rt (v := none) (h' := (h.1, qm_up I85 128 (v94.toInt.toNat) v87, J86, h.2.2.2)) rfl ?_
                refine qm_Ru.go 0 (c' := (20, [.ref 118, .int 4], [], (h.1, qm_up I85 128 (v94.toInt.toNat) v87, J86, h.2.2.2))) rfl ?_
                refine qm_Ru.rt (v := none) (h' := (h.1, qm_up I85 128 (v94.toInt.toNat) v87, J86, h.2.2.2)) rfl ?_
                refine qm_Ru.go 0 (c' := (352, [.ref 118, .int v1, .int v87, .float 0], [], (h.1, qm_up I85 128 (v94.toInt.toNat) v87, J86, h.2.2.2))) rfl ?_
                refine qm_Ru.rt (v := none) (h' := (h.1, qm_up I85 128 (v94.toInt.toNat) v87, J86, h.2.2.2)) rfl ?_
                have s131_y97 : ∀ i, (qm_up I85 128 (v94.toInt.toNat) v87) 131 i = h.2.1 131 i := fun i => ((hk_ot rfl).trans ((e_I85 131 rfl i).trans ((hk_ot rfl).trans ((hk_ot rfl).trans rfl))))
                have s132_y97 : ∀ i, (qm_up I85 128 (v94.toInt.toNat) v87) 132 i = h.2.1 132 i := fun i => ((hk_ot rfl).trans ((e_I85 132 rfl i).trans ((hk_ot rfl).trans ((hk_ot rfl).trans rfl))))
                have s133_y97 : ∀ i, (qm_up I85 128 (v94.toInt.toNat) v87) 133 i = h.2.1 133 i := fun i => ((hk_ot rfl).trans ((e_I85 133 rfl i).trans ((hk_ot rfl).trans ((hk_ot rfl).trans rfl))))
                have s134_y97 : ∀ i, (qm_up I85 128 (v94.toInt.toNat) v87) 134 i = h.2.1 134 i := fun i => ((hk_ot rfl).trans ((e_I85 134 rfl i).trans ((hk_ot rfl).trans ((hk_ot rfl).trans rfl))))
                have s138_y97 : ∀ i, (qm_up I85 128 (v94.toInt.toNat) v87) 138 i = h.2.1 138 i := fun i => ((hk_ot rfl).trans ((e_I85 138 rfl i).trans ((hk_ot rfl).trans ((hk_ot rfl).trans rfl))))
                have s139_y97 : ∀ i, (qm_up I85 128 (v94.toInt.toNat) v87) 139 i = h.2.1 139 i := fun i => ((hk_ot rfl).trans ((e_I85 139 rfl i).trans ((hk_ot rfl).trans ((hk_ot rfl).trans rfl))))
                have s140_y97 : ∀ i, (qm_up I85 128 (v94.toInt.toNat) v87) 140 i = h.2.1 140 i := fun i => ((hk_ot rfl).trans ((e_I85 140 rfl i).trans ((hk_ot rfl).trans ((hk_ot rfl).trans rfl))))
                have s141_y97 : ∀ i, (qm_up I85 128 (v94.toInt.toNat) v87) 141 i = h.2.1 141 i := fun i => ((hk_ot rfl).trans ((e_I85 141 rfl i).trans ((hk_ot rfl).trans ((hk_ot rfl).trans rfl))))
                have s142_y97 : ∀ i, (qm_up I85 128 (v94.toInt.toNat) v87) 142 i = h.2.1 142 i := fun i => ((hk_ot rfl).trans ((e_I85 142 rfl i).trans ((hk_ot rfl).trans ((hk_ot rfl).trans rfl))))
                have td_y97 : td (sd.toInt.toNat) h.2.1 (qm_up I85 128 (v94.toInt.toNat) v87) := ⟨fun i _ => ⟨s141_y97 i, s142_y97 i⟩, fun i _ => ⟨s138_y97 i, s139_y97 i, s140_y97 i⟩, fun i _ => ⟨s133_y97 i, s134_y97 i⟩, fun i _ => ⟨s131_y97 i, s132_y97 i⟩⟩
                exact k (qm_up I85 128 (v94.toInt.toNat) v87) (J86) t88 f89 ca bs la nm pr pp (hb_up (o := 128) (k := v94.toInt.toNat) (x := v87) hB_I85 (qa_in_full _)) (fun o ho i => ((hk_mod ho rfl).trans ((e_I85 o (hk_ms rfl ho) i).trans ((hk_mod ho rfl).trans ((hk_mod ho rfl).trans rfl))))) (fun i hi => ((hk_ot rfl).trans ((e8_I85 i (hk_ms rfl hi)).trans ((hk_neq (fun z => by subst z; cases hi)).trans ((hk_neq (fun z => by subst z; cases hi)).trans rfl))))) (show (qm_up I85 128 (v94.toInt.toNat) v87) 118 11 = _ from ((hk_ot rfl).trans q_t88)) (show (qm_up I85 128 (v94.toInt.toNat) v87) 118 13 = _ from ((hk_ot rfl).trans q_f89)) (show (qm_up I85 128 (v94.toInt.toNat) v87) 118 37 = _ from ((hk_ot rfl).trans ((e8_I85 37 rfl).trans ((hk_neq (by decide)).trans ((hk_neq (by decide)).trans q_ca))))) (show (qm_up I85 128 (v94.toInt.toNat) v87) 118 12 = _ from ((hk_ot rfl).trans ((e8_I85 12 rfl).trans ((hk_neq (by decide)).trans ((hk_neq (by decide)).trans q_bs))))) (show (qm_up I85 128 (v94.toInt.toNat) v87) 118 30 = _ from ((hk_ot rfl).trans ((e8_I85 30 rfl).trans ((hk_neq (by decide)).trans ((hk_neq (by decide)).trans q_la))))) (show (qm_up I85 128 (v94.toInt.toNat) v87) 118 20 = _ from ((hk_ot rfl).trans ((e8_I85 20 rfl).trans ((hk_neq (by decide)).trans ((hk_neq (by decide)).trans q_nm))))) (show (qm_up I85 128 (v94.toInt.toNat) v87) 131 (sd.toInt.toNat) = _ from ((hk_ot rfl).trans ((e_I85 131 rfl (sd.toInt.toNat)).trans ((hk_ot rfl).trans ((hk_ot rfl).trans q_pr))))) (show (qm_up I85 128 (v94.toInt.toNat) v87) 132 (sd.toInt.toNat) = _ from ((hk_ot rfl).trans ((e_I85 132 rfl (sd.toInt.toNat)).trans ((hk_ot rfl).trans ((hk_ot rfl).trans q_pp))))) (by omega) (fun z => by omega) td_y97 (fun z => rs_sm hrs s133_y97 s134_y97 s138_y97 s139_y97 s140_y97 s141_y97 s142_y97 (by omega))
              · refine qm_Ru.go 1 (c' := (8, [.ref 118, .int 4], [.ref 118], (h.1, qm_up I85 128 (v94.toInt.toNat) v87, J86, h.2.2.2))) rfl ?_
                refine hk_getr rfl (hH.1 118 (17, 105) rfl) rfl (hH.2 118 5 (some 121) rfl) ?_
                refine qm_Ru.go 1 (c' := (12, [.ref 118, .int 4], [.ref 118, .ref 121], (h.1, qm_up I85 128 (v94.toInt.toNat) v87, J86, h.2.2.2))) rfl ?_
                refine hk_geti (v := t88) rfl (hH.1 118 (17, 105) rfl) rfl (show (qm_up I85 128 (v94.toInt.toNat) v87) 118 11 = _ from ((hk_ot rfl).trans q_t88)) ?_
                refine qm_Ru.go 0 (c' := (15, [.ref 118, .int 4], [.int t88, .ref 121], (h.1, qm_up I85 128 (v94.toInt.toNat) v87, J86, h.2.2.2))) rfl ?_
                obtain ⟨v98, q_v98⟩ : ∃ v, h.2.1 121 (t88.toInt.toNat) = v := ⟨_, rfl⟩
                have b_v98 : (0 : Int) ≤ v98.toInt ∧ v98.toInt ≤ 44 := by rw [← q_v98]; exact hB 121 (t88.toInt.toNat)
                refine hk_ial (v := v98) rfl (hH.1 121 (0, 403) rfl) (by omega) (by omega) (show (qm_up I85 128 (v94.toInt.toNat) v87) 121 (t88.toInt.toNat) = _ from ((hk_ot rfl).trans ((e_I85 121 rfl (t88.toInt.toNat)).trans ((hk_ot rfl).trans ((hk_ot rfl).trans q_v98))))) ?_
                refine qm_Ru.go 1 (c' := (17, [.ref 118, .int 4], [.int 4, .int v98], (h.1, qm_up I85 128 (v94.toInt.toNat) v87, J86, h.2.2.2))) rfl ?_
                refine hk_cne (ix := v98.toInt) (iy := 4) rfl rfl rfl (fun z99 => ?_) (fun z99 => ?_)
                · refine qm_Ru.go 1 (c' := (25, [.ref 118, .int 4], [.int 0], (h.1, qm_up I85 128 (v94.toInt.toNat) v87, J86, h.2.2.2))) rfl ?_
                  refine qm_Ru.rt (v := (some (.int 0))) (h' := (h.1, qm_up I85 128 (v94.toInt.toNat) v87, J86, h.2.2.2)) rfl ?_
                  refine qm_Ru.go 3 (c' := (17, [.ref 118, .int 4], [.int 1, .ref 118], (h.1, qm_up I85 128 (v94.toInt.toNat) v87, J86, h.2.2.2))) rfl ?_
                  refine hk_inv (o := 118) (r := []) (as := [.ref 118, .int 1]) rfl rfl (hH.1 118 (17, 105) rfl) rfl rfl rfl rfl ?_
                  refine qm_Ru.go 1 (c' := (1, [.ref 118, .int 1], [.ref 118], (h.1, qm_up I85 128 (v94.toInt.toNat) v87, J86, h.2.2.2))) rfl ?_
                  refine hk_geti (v := f89) rfl (hH.1 118 (17, 105) rfl) rfl (show (qm_up I85 128 (v94.toInt.toNat) v87) 118 13 = _ from ((hk_ot rfl).trans q_f89)) ?_
                  refine qm_Ru.go 0 (c' := (4, [.ref 118, .int 1], [.int f89], (h.1, qm_up I85 128 (v94.toInt.toNat) v87, J86, h.2.2.2))) rfl ?_
                  refine hk_zle (ix := f89.toInt) rfl rfl (fun z100 => ?_) (fun z100 => by exfalso; omega)
                  refine qm_Ru.go 2 (c' := (10, [.ref 118, .int 1], [.int 1, .ref 118], (h.1, qm_up I85 128 (v94.toInt.toNat) v87, J86, h.2.2.2))) rfl ?_
                  refine hk_puti rfl (hH.1 118 (17, 105) rfl) rfl ?_
                  refine qm_Ru.go 2 (c' := (15, [.ref 118, .int 1], [.ref 118, .ref 118], (h.1, qm_up (qm_up I85 128 (v94.toInt.toNat) v87) 118 13 1, J86, h.2.2.2))) rfl ?_
                  refine hk_getr rfl (hH.1 118 (17, 105) rfl) rfl (hH.2 118 6 (some 122) rfl) ?_
                  refine qm_Ru.go 1 (c' := (19, [.ref 118, .int 1], [.ref 118, .ref 122, .ref 118], (h.1, qm_up (qm_up I85 128 (v94.toInt.toNat) v87) 118 13 1, J86, h.2.2.2))) rfl ?_
                  refine hk_geti (v := t88) rfl (hH.1 118 (17, 105) rfl) rfl (show (qm_up (qm_up I85 128 (v94.toInt.toNat) v87) 118 13 1) 118 11 = _ from ((hk_neq (by decide)).trans ((hk_ot rfl).trans q_t88))) ?_
                  refine qm_Ru.go 0 (c' := (22, [.ref 118, .int 1], [.int t88, .ref 122, .ref 118], (h.1, qm_up (qm_up I85 128 (v94.toInt.toNat) v87) 118 13 1, J86, h.2.2.2))) rfl ?_
                  obtain ⟨v101, q_v101⟩ : ∃ v, h.2.1 122 (t88.toInt.toNat) = v := ⟨_, rfl⟩
                  refine hk_ial (v := v101) rfl (hH.1 122 (0, 403) rfl) (by omega) (by omega) (show (qm_up (qm_up I85 128 (v94.toInt.toNat) v87) 118 13 1) 122 (t88.toInt.toNat) = _ from ((hk_ot rfl).trans ((hk_ot rfl).trans ((e_I85 122 rfl (t88.toInt.toNat)).trans ((hk_ot rfl).trans ((hk_ot rfl).trans q_v101)))))) ?_
                  refine qm_Ru.go 0 (c' := (23, [.ref 118, .int 1], [.int v101, .ref 118], (h.1, qm_up (qm_up I85 128 (v94.toInt.toNat) v87) 118 13 1, J86, h.2.2.2))) rfl ?_
                  refine hk_puti rfl (hH.1 118 (17, 105) rfl) rfl ?_
                  refine qm_Ru.go 0 (c' := (26, [.ref 118, .int 1], [], (h.1, qm_up (qm_up (qm_up I85 128 (v94.toInt.toNat) v87) 118 13 1) 118 14 v101, J86, h.2.2.2))) rfl ?_
                  refine qm_Ru.rt (v := none) (h' := (h.1, qm_up (qm_up (qm_up I85 128 (v94.toInt.toNat) v87) 118 13 1) 118 14 v101, J86, h.2.2.2)) rfl ?_
                  refine qm_Ru.go 0 (c' := (20, [.ref 118, .int 4], [], (h.1, qm_up (qm_up (qm_up I85 128 (v94.toInt.toNat) v87) 118 13 1) 118 14 v101, J86, h.2.2.2))) rfl ?_
                  refine qm_Ru.rt (v := none) (h' := (h.1, qm_up (qm_up (qm_up I85 128 (v94.toInt.toNat) v87) 118 13 1) 118 14 v101, J86, h.2.2.2)) rfl ?_
                  refine qm_Ru.go 0 (c' := (352, [.ref 118, .int v1, .int v87, .float 0], [], (h.1, qm_up (qm_up (qm_up I85 128 (v94.toInt.toNat) v87) 118 13 1) 118 14 v101, J86, h.2.2.2))) rfl ?_
                  refine qm_Ru.rt (v := none) (h' := (h.1, qm_up (qm_up (qm_up I85 128 (v94.toInt.toNat) v87) 118 13 1) 118 14 v101, J86, h.2.2.2)) rfl ?_
                  have s131_y102 : ∀ i, (qm_up (qm_up (qm_up I85 128 (v94.toInt.toNat) v87) 118 13 1) 118 14 v101) 131 i = h.2.1 131 i := fun i => ((hk_ot rfl).trans ((hk_ot rfl).trans ((hk_ot rfl).trans ((e_I85 131 rfl i).trans ((hk_ot rfl).trans ((hk_ot rfl).trans rfl))))))
                  have s132_y102 : ∀ i, (qm_up (qm_up (qm_up I85 128 (v94.toInt.toNat) v87) 118 13 1) 118 14 v101) 132 i = h.2.1 132 i := fun i => ((hk_ot rfl).trans ((hk_ot rfl).trans ((hk_ot rfl).trans ((e_I85 132 rfl i).trans ((hk_ot rfl).trans ((hk_ot rfl).trans rfl))))))
                  have s133_y102 : ∀ i, (qm_up (qm_up (qm_up I85 128 (v94.toInt.toNat) v87) 118 13 1) 118 14 v101) 133 i = h.2.1 133 i := fun i => ((hk_ot rfl).trans ((hk_ot rfl).trans ((hk_ot rfl).trans ((e_I85 133 rfl i).trans ((hk_ot rfl).trans ((hk_ot rfl).trans rfl))))))
                  have s134_y102 : ∀ i, (qm_up (qm_up (qm_up I85 128 (v94.toInt.toNat) v87) 118 13 1) 118 14 v101) 134 i = h.2.1 134 i := fun i => ((hk_ot rfl).trans ((hk_ot rfl).trans ((hk_ot rfl).trans ((e_I85 134 rfl i).trans ((hk_ot rfl).trans ((hk_ot rfl).trans rfl))))))
                  have s138_y102 : ∀ i, (qm_up (qm_up (qm_up I85 128 (v94.toInt.toNat) v87) 118 13 1) 118 14 v101) 138 i = h.2.1 138 i := fun i => ((hk_ot rfl).trans ((hk_ot rfl).trans ((hk_ot rfl).trans ((e_I85 138 rfl i).trans ((hk_ot rfl).trans ((hk_ot rfl).trans rfl))))))
                  have s139_y102 : ∀ i, (qm_up (qm_up (qm_up I85 128 (v94.toInt.toNat) v87) 118 13 1) 118 14 v101) 139 i = h.2.1 139 i := fun i => ((hk_ot rfl).trans ((hk_ot rfl).trans ((hk_ot rfl).trans ((e_I85 139 rfl i).trans ((hk_ot rfl).trans ((hk_ot rfl).trans rfl))))))
                  have s140_y102 : ∀ i, (qm_up (qm_up (qm_up I85 128 (v94.toInt.toNat) v87) 118 13 1) 118 14 v101) 140 i = h.2.1 140 i := fun i => ((hk_ot rfl).trans ((hk_ot rfl).trans ((hk_ot rfl).trans ((e_I85 140 rfl i).trans ((hk_ot rfl).trans ((hk_ot rfl).trans rfl))))))
                  have s141_y102 : ∀ i, (qm_up (qm_up (qm_up I85 128 (v94.toInt.toNat) v87) 118 13 1) 118 14 v101) 141 i = h.2.1 141 i := fun i => ((hk_ot rfl).trans ((hk_ot rfl).trans ((hk_ot rfl).trans ((e_I85 141 rfl i).trans ((hk_ot rfl).trans ((hk_ot rfl).trans rfl))))))
                  have s142_y102 : ∀ i, (qm_up (qm_up (qm_up I85 128 (v94.toInt.toNat) v87) 118 13 1) 118 14 v101) 142 i = h.2.1 142 i := fun i => ((hk_ot rfl).trans ((hk_ot rfl).trans ((hk_ot rfl).trans ((e_I85 142 rfl i).trans ((hk_ot rfl).trans ((hk_ot rfl).trans rfl))))))
                  have td_y102 : td (sd.toInt.toNat) h.2.1 (qm_up (qm_up (qm_up I85 128 (v94.toInt.toNat) v87) 118 13 1) 118 14 v101) := ⟨fun i _ => ⟨s141_y102 i, s142_y102 i⟩, fun i _ => ⟨s138_y102 i, s139_y102 i, s140_y102 i⟩, fun i _ => ⟨s133_y102 i, s134_y102 i⟩, fun i _ => ⟨s131_y102 i, s132_y102 i⟩⟩
                  exact k (qm_up (qm_up (qm_up I85 128 (v94.toInt.toNat) v87) 118 13 1) 118 14 v101) (J86) t88 1 ca bs la nm pr pp (hb_up (o := 118) (k := 14) (x := v101) (hb_up (o := 118) (k := 13) (x := 1) (hb_up (o := 128) (k := v94.toInt.toNat) (x := v87) hB_I85 (qa_in_full _)) (qa_in_full _)) (qa_in_full _)) (fun o ho i => ((hk_mod ho rfl).trans ((hk_mod ho rfl).trans ((hk_mod ho rfl).trans ((e_I85 o (hk_ms rfl ho) i).trans ((hk_mod ho rfl).trans ((hk_mod ho rfl).trans rfl))))))) (fun i hi => ((hk_neq (fun z => by subst z; cases hi)).trans ((hk_neq (fun z => by subst z; cases hi)).trans ((hk_ot rfl).trans ((e8_I85 i (hk_ms rfl hi)).trans ((hk_neq (fun z => by subst z; cases hi)).trans ((hk_neq (fun z => by subst z; cases hi)).trans rfl))))))) (show (qm_up (qm_up (qm_up I85 128 (v94.toInt.toNat) v87) 118 13 1) 118 14 v101) 118 11 = _ from ((hk_neq (by decide)).trans ((hk_neq (by decide)).trans ((hk_ot rfl).trans q_t88)))) (show (qm_up (qm_up (qm_up I85 128 (v94.toInt.toNat) v87) 118 13 1) 118 14 v101) 118 13 = _ from ((hk_neq (by decide)).trans (hk_same))) (show (qm_up (qm_up (qm_up I85 128 (v94.toInt.toNat) v87) 118 13 1) 118 14 v101) 118 37 = _ from ((hk_neq (by decide)).trans ((hk_neq (by decide)).trans ((hk_ot rfl).trans ((e8_I85 37 rfl).trans ((hk_neq (by decide)).trans ((hk_neq (by decide)).trans q_ca))))))) (show (qm_up (qm_up (qm_up I85 128 (v94.toInt.toNat) v87) 118 13 1) 118 14 v101) 118 12 = _ from ((hk_neq (by decide)).trans ((hk_neq (by decide)).trans ((hk_ot rfl).trans ((e8_I85 12 rfl).trans ((hk_neq (by decide)).trans ((hk_neq (by decide)).trans q_bs))))))) (show (qm_up (qm_up (qm_up I85 128 (v94.toInt.toNat) v87) 118 13 1) 118 14 v101) 118 30 = _ from ((hk_neq (by decide)).trans ((hk_neq (by decide)).trans ((hk_ot rfl).trans ((e8_I85 30 rfl).trans ((hk_neq (by decide)).trans ((hk_neq (by decide)).trans q_la))))))) (show (qm_up (qm_up (qm_up I85 128 (v94.toInt.toNat) v87) 118 13 1) 118 14 v101) 118 20 = _ from ((hk_neq (by decide)).trans ((hk_neq (by decide)).trans ((hk_ot rfl).trans ((e8_I85 20 rfl).trans ((hk_neq (by decide)).trans ((hk_neq (by decide)).trans q_nm))))))) (show (qm_up (qm_up (qm_up I85 128 (v94.toInt.toNat) v87) 118 13 1) 118 14 v101) 131 (sd.toInt.toNat) = _ from ((hk_ot rfl).trans ((hk_ot rfl).trans ((hk_ot rfl).trans ((e_I85 131 rfl (sd.toInt.toNat)).trans ((hk_ot rfl).trans ((hk_ot rfl).trans q_pr))))))) (show (qm_up (qm_up (qm_up I85 128 (v94.toInt.toNat) v87) 118 13 1) 118 14 v101) 132 (sd.toInt.toNat) = _ from ((hk_ot rfl).trans ((hk_ot rfl).trans ((hk_ot rfl).trans ((e_I85 132 rfl (sd.toInt.toNat)).trans ((hk_ot rfl).trans ((hk_ot rfl).trans q_pp))))))) (by omega) (fun z => by omega) td_y102 (fun z => rs_sm hrs s133_y102 s134_y102 s138_y102 s139_y102 s140_y102 s141_y102 s142_y102 (by omega))
                · refine qm_Ru.go 2 (c' := (25, [.ref 118, .int 4], [.int 1], (h.1, qm_up I85 128 (v94.toInt.toNat) v87, J86, h.2.2.2))) rfl ?_
                  refine qm_Ru.rt (v := (some (.int 1))) (h' := (h.1, qm_up I85 128 (v94.toInt.toNat) v87, J86, h.2.2.2)) rfl ?_
                  refine qm_Ru.go 2 (c' := (9, [.ref 118, .int 4], [.ref 118], (h.1, qm_up I85 128 (v94.toInt.toNat) v87, J86, h.2.2.2))) rfl ?_
                  refine hk_inv (o := 118) (r := []) (as := [.ref 118]) rfl rfl (hH.1 118 (17, 105) rfl) rfl rfl rfl rfl ?_
                  refine qm_Ru.go 1 (c' := (1, [.ref 118], [.ref 118], (h.1, qm_up I85 128 (v94.toInt.toNat) v87, J86, h.2.2.2))) rfl ?_
                  refine hk_geti (v := t88) rfl (hH.1 118 (17, 105) rfl) rfl (show (qm_up I85 128 (v94.toInt.toNat) v87) 118 11 = _ from ((hk_ot rfl).trans q_t88)) ?_
                  refine qm_Ru.go 1 (c' := (7, [.ref 118], [.int 400, .int t88], (h.1, qm_up I85 128 (v94.toInt.toNat) v87, J86, h.2.2.2))) rfl ?_
                  refine hk_cne (ix := t88.toInt) (iy := 400) rfl rfl rfl (fun z103 => ?_) (fun z103 => ?_)
                  · refine qm_Ru.go 2 (c' := (20, [.ref 118], [.ref 118, .ref 118], (h.1, qm_up I85 128 (v94.toInt.toNat) v87, J86, h.2.2.2))) rfl ?_
                    refine hk_geti (v := t88) rfl (hH.1 118 (17, 105) rfl) rfl (show (qm_up I85 128 (v94.toInt.toNat) v87) 118 11 = _ from ((hk_ot rfl).trans q_t88)) ?_
                    refine qm_Ru.go 2 (c' := (25, [.ref 118], [.int (t88 + 1), .ref 118], (h.1, qm_up I85 128 (v94.toInt.toNat) v87, J86, h.2.2.2))) rfl ?_
                    obtain ⟨v104, q_v104, e_v104⟩ := hk_add (x := t88) (y := 1) (a := t88.toInt) (b := 1) rfl rfl (by omega) (by omega)
                    rw [q_v104]
                    refine hk_puti rfl (hH.1 118 (17, 105) rfl) rfl ?_
                    refine qm_Ru.go 0 (c' := (28, [.ref 118], [], (h.1, qm_up (qm_up I85 128 (v94.toInt.toNat) v87) 118 11 v104, J86, h.2.2.2))) rfl ?_
                    refine qm_Ru.rt (v := none) (h' := (h.1, qm_up (qm_up I85 128 (v94.toInt.toNat) v87) 118 11 v104, J86, h.2.2.2)) rfl ?_
                    refine qm_Ru.go 1 (c' := (20, [.ref 118, .int 4], [], (h.1, qm_up (qm_up I85 128 (v94.toInt.toNat) v87) 118 11 v104, J86, h.2.2.2))) rfl ?_
                    refine qm_Ru.rt (v := none) (h' := (h.1, qm_up (qm_up I85 128 (v94.toInt.toNat) v87) 118 11 v104, J86, h.2.2.2)) rfl ?_
                    refine qm_Ru.go 0 (c' := (352, [.ref 118, .int v1, .int v87, .float 0], [], (h.1, qm_up (qm_up I85 128 (v94.toInt.toNat) v87) 118 11 v104, J86, h.2.2.2))) rfl ?_
                    refine qm_Ru.rt (v := none) (h' := (h.1, qm_up (qm_up I85 128 (v94.toInt.toNat) v87) 118 11 v104, J86, h.2.2.2)) rfl ?_
                    have s131_y105 : ∀ i, (qm_up (qm_up I85 128 (v94.toInt.toNat) v87) 118 11 v104) 131 i = h.2.1 131 i := fun i => ((hk_ot rfl).trans ((hk_ot rfl).trans ((e_I85 131 rfl i).trans ((hk_ot rfl).trans ((hk_ot rfl).trans rfl)))))
                    have s132_y105 : ∀ i, (qm_up (qm_up I85 128 (v94.toInt.toNat) v87) 118 11 v104) 132 i = h.2.1 132 i := fun i => ((hk_ot rfl).trans ((hk_ot rfl).trans ((e_I85 132 rfl i).trans ((hk_ot rfl).trans ((hk_ot rfl).trans rfl)))))
                    have s133_y105 : ∀ i, (qm_up (qm_up I85 128 (v94.toInt.toNat) v87) 118 11 v104) 133 i = h.2.1 133 i := fun i => ((hk_ot rfl).trans ((hk_ot rfl).trans ((e_I85 133 rfl i).trans ((hk_ot rfl).trans ((hk_ot rfl).trans rfl)))))
                    have s134_y105 : ∀ i, (qm_up (qm_up I85 128 (v94.toInt.toNat) v87) 118 11 v104) 134 i = h.2.1 134 i := fun i => ((hk_ot rfl).trans ((hk_ot rfl).trans ((e_I85 134 rfl i).trans ((hk_ot rfl).trans ((hk_ot rfl).trans rfl)))))
                    have s138_y105 : ∀ i, (qm_up (qm_up I85 128 (v94.toInt.toNat) v87) 118 11 v104) 138 i = h.2.1 138 i := fun i => ((hk_ot rfl).trans ((hk_ot rfl).trans ((e_I85 138 rfl i).trans ((hk_ot rfl).trans ((hk_ot rfl).trans rfl)))))
                    have s139_y105 : ∀ i, (qm_up (qm_up I85 128 (v94.toInt.toNat) v87) 118 11 v104) 139 i = h.2.1 139 i := fun i => ((hk_ot rfl).trans ((hk_ot rfl).trans ((e_I85 139 rfl i).trans ((hk_ot rfl).trans ((hk_ot rfl).trans rfl)))))
                    have s140_y105 : ∀ i, (qm_up (qm_up I85 128 (v94.toInt.toNat) v87) 118 11 v104) 140 i = h.2.1 140 i := fun i => ((hk_ot rfl).trans ((hk_ot rfl).trans ((e_I85 140 rfl i).trans ((hk_ot rfl).trans ((hk_ot rfl).trans rfl)))))
                    have s141_y105 : ∀ i, (qm_up (qm_up I85 128 (v94.toInt.toNat) v87) 118 11 v104) 141 i = h.2.1 141 i := fun i => ((hk_ot rfl).trans ((hk_ot rfl).trans ((e_I85 141 rfl i).trans ((hk_ot rfl).trans ((hk_ot rfl).trans rfl)))))
                    have s142_y105 : ∀ i, (qm_up (qm_up I85 128 (v94.toInt.toNat) v87) 118 11 v104) 142 i = h.2.1 142 i := fun i => ((hk_ot rfl).trans ((hk_ot rfl).trans ((e_I85 142 rfl i).trans ((hk_ot rfl).trans ((hk_ot rfl).trans rfl)))))
                    have td_y105 : td (sd.toInt.toNat) h.2.1 (qm_up (qm_up I85 128 (v94.toInt.toNat) v87) 118 11 v104) := ⟨fun i _ => ⟨s141_y105 i, s142_y105 i⟩, fun i _ => ⟨s138_y105 i, s139_y105 i, s140_y105 i⟩, fun i _ => ⟨s133_y105 i, s134_y105 i⟩, fun i _ => ⟨s131_y105 i, s132_y105 i⟩⟩
                    exact k (qm_up (qm_up I85 128 (v94.toInt.toNat) v87) 118 11 v104) (J86) v104 f89 ca bs la nm pr pp (hb_up (o := 118) (k := 11) (x := v104) (hb_up (o := 128) (k := v94.toInt.toNat) (x := v87) hB_I85 (qa_in_full _)) ⟨by show (0 : Int) ≤ v104.toInt; omega, by show v104.toInt ≤ (400 : Int); omega⟩) (fun o ho i => ((hk_mod ho rfl).trans ((hk_mod ho rfl).trans ((e_I85 o (hk_ms rfl ho) i).trans ((hk_mod ho rfl).trans ((hk_mod ho rfl).trans rfl)))))) (fun i hi => ((hk_neq (fun z => by subst z; cases hi)).trans ((hk_ot rfl).trans ((e8_I85 i (hk_ms rfl hi)).trans ((hk_neq (fun z => by subst z; cases hi)).trans ((hk_neq (fun z => by subst z; cases hi)).trans rfl)))))) (show (qm_up (qm_up I85 128 (v94.toInt.toNat) v87) 118 11 v104) 118 11 = _ from (hk_same)) (show (qm_up (qm_up I85 128 (v94.toInt.toNat) v87) 118 11 v104) 118 13 = _ from ((hk_neq (by decide)).trans ((hk_ot rfl).trans q_f89))) (show (qm_up (qm_up I85 128 (v94.toInt.toNat) v87) 118 11 v104) 118 37 = _ from ((hk_neq (by decide)).trans ((hk_ot rfl).trans ((e8_I85 37 rfl).trans ((hk_neq (by decide)).trans ((hk_neq (by decide)).trans q_ca)))))) (show (qm_up (qm_up I85 128 (v94.toInt.toNat) v87) 118 11 v104) 118 12 = _ from ((hk_neq (by decide)).trans ((hk_ot rfl).trans ((e8_I85 12 rfl).trans ((hk_neq (by decide)).trans ((hk_neq (by decide)).trans q_bs)))))) (show (qm_up (qm_up I85 128 (v94.toInt.toNat) v87) 118 11 v104) 118 30 = _ from ((hk_neq (by decide)).trans ((hk_ot rfl).trans ((e8_I85 30 rfl).trans ((hk_neq (by decide)).trans ((hk_neq (by decide)).trans q_la)))))) (show (qm_up (qm_up I85 128 (v94.toInt.toNat) v87) 118 11 v104) 118 20 = _ from ((hk_neq (by decide)).trans ((hk_ot rfl).trans ((e8_I85 20 rfl).trans ((hk_neq (by decide)).trans ((hk_neq (by decide)).trans q_nm)))))) (show (qm_up (qm_up I85 128 (v94.toInt.toNat) v87) 118 11 v104) 131 (sd.toInt.toNat) = _ from ((hk_ot rfl).trans ((hk_ot rfl).trans ((e_I85 131 rfl (sd.toInt.toNat)).trans ((hk_ot rfl).trans ((hk_ot rfl).trans q_pr)))))) (show (qm_up (qm_up I85 128 (v94.toInt.toNat) v87) 118 11 v104) 132 (sd.toInt.toNat) = _ from ((hk_ot rfl).trans ((hk_ot rfl).trans ((e_I85 132 rfl (sd.toInt.toNat)).trans ((hk_ot rfl).trans ((hk_ot rfl).trans q_pp)))))) (by omega) (fun z => by omega) td_y105 (fun z => rs_sm hrs s133_y105 s134_y105 s138_y105 s139_y105 s140_y105 s141_y105 s142_y105 (by omega))
                  · refine qm_Ru.go 2 (c' := (12, [.ref 118], [.int 2, .ref 118], (h.1, qm_up I85 128 (v94.toInt.toNat) v87, J86, h.2.2.2))) rfl ?_
                    refine hk_inv (o := 118) (r := []) (as := [.ref 118, .int 2]) rfl rfl (hH.1 118 (17, 105) rfl) rfl rfl rfl rfl ?_
                    refine qm_Ru.go 1 (c' := (1, [.ref 118, .int 2], [.ref 118], (h.1, qm_up I85 128 (v94.toInt.toNat) v87, J86, h.2.2.2))) rfl ?_
                    refine hk_geti (v := f89) rfl (hH.1 118 (17, 105) rfl) rfl (show (qm_up I85 128 (v94.toInt.toNat) v87) 118 13 = _ from ((hk_ot rfl).trans q_f89)) ?_
                    refine qm_Ru.go 0 (c' := (4, [.ref 118, .int 2], [.int f89], (h.1, qm_up I85 128 (v94.toInt.toNat) v87, J86, h.2.2.2))) rfl ?_
                    refine hk_zle (ix := f89.toInt) rfl rfl (fun z106 => ?_) (fun z106 => by exfalso; omega)
                    refine qm_Ru.go 2 (c' := (10, [.ref 118, .int 2], [.int 2, .ref 118], (h.1, qm_up I85 128 (v94.toInt.toNat) v87, J86, h.2.2.2))) rfl ?_
                    refine hk_puti rfl (hH.1 118 (17, 105) rfl) rfl ?_
                    refine qm_Ru.go 2 (c' := (15, [.ref 118, .int 2], [.ref 118, .ref 118], (h.1, qm_up (qm_up I85 128 (v94.toInt.toNat) v87) 118 13 2, J86, h.2.2.2))) rfl ?_
                    refine hk_getr rfl (hH.1 118 (17, 105) rfl) rfl (hH.2 118 6 (some 122) rfl) ?_
                    refine qm_Ru.go 1 (c' := (19, [.ref 118, .int 2], [.ref 118, .ref 122, .ref 118], (h.1, qm_up (qm_up I85 128 (v94.toInt.toNat) v87) 118 13 2, J86, h.2.2.2))) rfl ?_
                    refine hk_geti (v := t88) rfl (hH.1 118 (17, 105) rfl) rfl (show (qm_up (qm_up I85 128 (v94.toInt.toNat) v87) 118 13 2) 118 11 = _ from ((hk_neq (by decide)).trans ((hk_ot rfl).trans q_t88))) ?_
                    refine qm_Ru.go 0 (c' := (22, [.ref 118, .int 2], [.int t88, .ref 122, .ref 118], (h.1, qm_up (qm_up I85 128 (v94.toInt.toNat) v87) 118 13 2, J86, h.2.2.2))) rfl ?_
                    obtain ⟨v107, q_v107⟩ : ∃ v, h.2.1 122 (t88.toInt.toNat) = v := ⟨_, rfl⟩
                    refine hk_ial (v := v107) rfl (hH.1 122 (0, 403) rfl) (by omega) (by omega) (show (qm_up (qm_up I85 128 (v94.toInt.toNat) v87) 118 13 2) 122 (t88.toInt.toNat) = _ from ((hk_ot rfl).trans ((hk_ot rfl).trans ((e_I85 122 rfl (t88.toInt.toNat)).trans ((hk_ot rfl).trans ((hk_ot rfl).trans q_v107)))))) ?_
                    refine qm_Ru.go 0 (c' := (23, [.ref 118, .int 2], [.int v107, .ref 118], (h.1, qm_up (qm_up I85 128 (v94.toInt.toNat) v87) 118 13 2, J86, h.2.2.2))) rfl ?_
                    refine hk_puti rfl (hH.1 118 (17, 105) rfl) rfl ?_
                    refine qm_Ru.go 0 (c' := (26, [.ref 118, .int 2], [], (h.1, qm_up (qm_up (qm_up I85 128 (v94.toInt.toNat) v87) 118 13 2) 118 14 v107, J86, h.2.2.2))) rfl ?_
                    refine qm_Ru.rt (v := none) (h' := (h.1, qm_up (qm_up (qm_up I85 128 (v94.toInt.toNat) v87) 118 13 2) 118 14 v107, J86, h.2.2.2)) rfl ?_
                    refine qm_Ru.go 1 (c' := (28, [.ref 118], [], (h.1, qm_up (qm_up (qm_up I85 128 (v94.toInt.toNat) v87) 118 13 2) 118 14 v107, J86, h.2.2.2))) rfl ?_
                    refine qm_Ru.rt (v := none) (h' := (h.1, qm_up (qm_up (qm_up I85 128 (v94.toInt.toNat) v87) 118 13 2) 118 14 v107, J86, h.2.2.2)) rfl ?_
                    refine qm_Ru.go 1 (c' := (20, [.ref 118, .int 4], [], (h.1, qm_up (qm_up (qm_up I85 128 (v94.toInt.toNat) v87) 118 13 2) 118 14 v107, J86, h.2.2.2))) rfl ?_
                    refine qm_Ru.rt (v := none) (h' := (h.1, qm_up (qm_up (qm_up I85 128 (v94.toInt.toNat) v87) 118 13 2) 118 14 v107, J86, h.2.2.2)) rfl ?_
                    refine qm_Ru.go 0 (c' := (352, [.ref 118, .int v1, .int v87, .float 0], [], (h.1, qm_up (qm_up (qm_up I85 128 (v94.toInt.toNat) v87) 118 13 2) 118 14 v107, J86, h.2.2.2))) rfl ?_
                    refine qm_Ru.rt (v := none) (h' := (h.1, qm_up (qm_up (qm_up I85 128 (v94.toInt.toNat) v87) 118 13 2) 118 14 v107, J86, h.2.2.2)) rfl ?_
                    have s131_y108 : ∀ i, (qm_up (qm_up (qm_up I85 128 (v94.toInt.toNat) v87) 118 13 2) 118 14 v107) 131 i = h.2.1 131 i := fun i => ((hk_ot rfl).trans ((hk_ot rfl).trans ((hk_ot rfl).trans ((e_I85 131 rfl i).trans ((hk_ot rfl).trans ((hk_ot rfl).trans rfl))))))
                    have s132_y108 : ∀ i, (qm_up (qm_up (qm_up I85 128 (v94.toInt.toNat) v87) 118 13 2) 118 14 v107) 132 i = h.2.1 132 i := fun i => ((hk_ot rfl).trans ((hk_ot rfl).trans ((hk_ot rfl).trans ((e_I85 132 rfl i).trans ((hk_ot rfl).trans ((hk_ot rfl).trans rfl))))))
                    have s133_y108 : ∀ i, (qm_up (qm_up (qm_up I85 128 (v94.toInt.toNat) v87) 118 13 2) 118 14 v107) 133 i = h.2.1 133 i := fun i => ((hk_ot rfl).trans ((hk_ot rfl).trans ((hk_ot rfl).trans ((e_I85 133 rfl i).trans ((hk_ot rfl).trans ((hk_ot rfl).trans rfl))))))
                    have s134_y108 : ∀ i, (qm_up (qm_up (qm_up I85 128 (v94.toInt.toNat) v87) 118 13 2) 118 14 v107) 134 i = h.2.1 134 i := fun i => ((hk_ot rfl).trans ((hk_ot rfl).trans ((hk_ot rfl).trans ((e_I85 134 rfl i).trans ((hk_ot rfl).trans ((hk_ot rfl).trans rfl))))))
                    have s138_y108 : ∀ i, (qm_up (qm_up (qm_up I85 128 (v94.toInt.toNat) v87) 118 13 2) 118 14 v107) 138 i = h.2.1 138 i := fun i => ((hk_ot rfl).trans ((hk_ot rfl).trans ((hk_ot rfl).trans ((e_I85 138 rfl i).trans ((hk_ot rfl).trans ((hk_ot rfl).trans rfl))))))
                    have s139_y108 : ∀ i, (qm_up (qm_up (qm_up I85 128 (v94.toInt.toNat) v87) 118 13 2) 118 14 v107) 139 i = h.2.1 139 i := fun i => ((hk_ot rfl).trans ((hk_ot rfl).trans ((hk_ot rfl).trans ((e_I85 139 rfl i).trans ((hk_ot rfl).trans ((hk_ot rfl).trans rfl))))))
                    have s140_y108 : ∀ i, (qm_up (qm_up (qm_up I85 128 (v94.toInt.toNat) v87) 118 13 2) 118 14 v107) 140 i = h.2.1 140 i := fun i => ((hk_ot rfl).trans ((hk_ot rfl).trans ((hk_ot rfl).trans ((e_I85 140 rfl i).trans ((hk_ot rfl).trans ((hk_ot rfl).trans rfl))))))
                    have s141_y108 : ∀ i, (qm_up (qm_up (qm_up I85 128 (v94.toInt.toNat) v87) 118 13 2) 118 14 v107) 141 i = h.2.1 141 i := fun i => ((hk_ot rfl).trans ((hk_ot rfl).trans ((hk_ot rfl).trans ((e_I85 141 rfl i).trans ((hk_ot rfl).trans ((hk_ot rfl).trans rfl))))))
                    have s142_y108 : ∀ i, (qm_up (qm_up (qm_up I85 128 (v94.toInt.toNat) v87) 118 13 2) 118 14 v107) 142 i = h.2.1 142 i := fun i => ((hk_ot rfl).trans ((hk_ot rfl).trans ((hk_ot rfl).trans ((e_I85 142 rfl i).trans ((hk_ot rfl).trans ((hk_ot rfl).trans rfl))))))
                    have td_y108 : td (sd.toInt.toNat) h.2.1 (qm_up (qm_up (qm_up I85 128 (v94.toInt.toNat) v87) 118 13 2) 118 14 v107) := ⟨fun i _ => ⟨s141_y108 i, s142_y108 i⟩, fun i _ => ⟨s138_y108 i, s139_y108 i, s140_y108 i⟩, fun i _ => ⟨s133_y108 i, s134_y108 i⟩, fun i _ => ⟨s131_y108 i, s132_y108 i⟩⟩
                    exact k (qm_up (qm_up (qm_up I85 128 (v94.toInt.toNat) v87) 118 13 2) 118 14 v107) (J86) t88 2 ca bs la nm pr pp (hb_up (o := 118) (k := 14) (x := v107) (hb_up (o := 118) (k := 13) (x := 2) (hb_up (o := 128) (k := v94.toInt.toNat) (x := v87) hB_I85 (qa_in_full _)) (qa_in_full _)) (qa_in_full _)) (fun o ho i => ((hk_mod ho rfl).trans ((hk_mod ho rfl).trans ((hk_mod ho rfl).trans ((e_I85 o (hk_ms rfl ho) i).trans ((hk_mod ho rfl).trans ((hk_mod ho rfl).trans rfl))))))) (fun i hi => ((hk_neq (fun z => by subst z; cases hi)).trans ((hk_neq (fun z => by subst z; cases hi)).trans ((hk_ot rfl).trans ((e8_I85 i (hk_ms rfl hi)).trans ((hk_neq (fun z => by subst z; cases hi)).trans ((hk_neq (fun z => by subst z; cases hi)).trans rfl))))))) (show (qm_up (qm_up (qm_up I85 128 (v94.toInt.toNat) v87) 118 13 2) 118 14 v107) 118 11 = _ from ((hk_neq (by decide)).trans ((hk_neq (by decide)).trans ((hk_ot rfl).trans q_t88)))) (show (qm_up (qm_up (qm_up I85 128 (v94.toInt.toNat) v87) 118 13 2) 118 14 v107) 118 13 = _ from ((hk_neq (by decide)).trans (hk_same))) (show (qm_up (qm_up (qm_up I85 128 (v94.toInt.toNat) v87) 118 13 2) 118 14 v107) 118 37 = _ from ((hk_neq (by decide)).trans ((hk_neq (by decide)).trans ((hk_ot rfl).trans ((e8_I85 37 rfl).trans ((hk_neq (by decide)).trans ((hk_neq (by decide)).trans q_ca))))))) (show (qm_up (qm_up (qm_up I85 128 (v94.toInt.toNat) v87) 118 13 2) 118 14 v107) 118 12 = _ from ((hk_neq (by decide)).trans ((hk_neq (by decide)).trans ((hk_ot rfl).trans ((e8_I85 12 rfl).trans ((hk_neq (by decide)).trans ((hk_neq (by decide)).trans q_bs))))))) (show (qm_up (qm_up (qm_up I85 128 (v94.toInt.toNat) v87) 118 13 2) 118 14 v107) 118 30 = _ from ((hk_neq (by decide)).trans ((hk_neq (by decide)).trans ((hk_ot rfl).trans ((e8_I85 30 rfl).trans ((hk_neq (by decide)).trans ((hk_neq (by decide)).trans q_la))))))) (show (qm_up (qm_up (qm_up I85 128 (v94.toInt.toNat) v87) 118 13 2) 118 14 v107) 118 20 = _ from ((hk_neq (by decide)).trans ((hk_neq (by decide)).trans ((hk_ot rfl).trans ((e8_I85 20 rfl).trans ((hk_neq (by decide)).trans ((hk_neq (by decide)).trans q_nm))))))) (show (qm_up (qm_up (qm_up I85 128 (v94.toInt.toNat) v87) 118 13 2) 118 14 v107) 131 (sd.toInt.toNat) = _ from ((hk_ot rfl).trans ((hk_ot rfl).trans ((hk_ot rfl).trans ((e_I85 131 rfl (sd.toInt.toNat)).trans ((hk_ot rfl).trans ((hk_ot rfl).trans q_pr))))))) (show (qm_up (qm_up (qm_up I85 128 (v94.toInt.toNat) v87) 118 13 2) 118 14 v107) 132 (sd.toInt.toNat) = _ from ((hk_ot rfl).trans ((hk_ot rfl).trans ((hk_ot rfl).trans ((e_I85 132 rfl (sd.toInt.toNat)).trans ((hk_ot rfl).trans ((hk_ot rfl).trans q_pp))))))) (by omega) (fun z => by omega) td_y108 (fun z => rs_sm hrs s133_y108 s134_y108 s138_y108 s139_y108 s140_y108 s141_y108 s142_y108 (by omega))
            · refine qm_Ru.go 4 (c' := (278, [.ref 118, .int v1, .float 0, .float 0], [.int 20, .int v1, .int 1, .ref 118], (h.1, qm_up (qm_up h.2.1 118 13 2) 118 14 v81, h.2.2.1, h.2.2.2))) rfl ?_
              refine hk_cne (ix := v1.toInt) (iy := 20) rfl rfl rfl (fun z109 => ?_) (fun z109 => by exfalso; omega)
              refine qm_Ru.go 1 (c' := (288, [.ref 118, .int v1, .float 0, .float 0], [.int 9999, .int 1, .ref 118], (h.1, qm_up (qm_up h.2.1 118 13 2) 118 14 v81, h.2.2.1, h.2.2.2))) rfl ?_
              refine hk_inv (o := 118) (r := []) (as := [.ref 118, .int 1, .int 9999]) rfl rfl (hH.1 118 (17, 105) rfl) rfl rfl rfl rfl (hs_told (d := d + 4) (h := (h.1, qm_up (qm_up h.2.1 118 13 2) 118 14 v81, h.2.2.1, h.2.2.2)) hH (hb_up (o := 118) (k := 14) (x := v81) (hb_up (o := 118) (k := 13) (x := 2) hB (qa_in_full _)) (qa_in_full _)) (ta := ta) (fa := 2) (lo := 1) (hi := 9999) (show (qm_up (qm_up h.2.1 118 13 2) 118 14 v81) 118 11 = _ from ((hk_neq (by decide)).trans ((hk_neq (by decide)).trans q_ta))) (show (qm_up (qm_up h.2.1 118 13 2) 118 14 v81) 118 13 = _ from ((hk_neq (by decide)).trans (hk_same))) (by omega) (by decide) (fun I110 J111 v112 t113 f114 hB_I110 e_I110 e8_I110 q_t113 q_f114 b1_I110 b2_I110 => ?_))
              have b2_I110 : (1 : Int) ≤ v112.toInt ∧ v112.toInt ≤ 9999 := b2_I110
              have e_I110 : ∀ o, [118].contains o = false → ∀ i, I110 o i = (qm_up (qm_up h.2.1 118 13 2) 118 14 v81) o i := e_I110
              have e8_I110 : ∀ i, [11, 13, 14, 15, 16].contains i = false → I110 118 i = (qm_up (qm_up h.2.1 118 13 2) 118 14 v81) 118 i := e8_I110
              refine qm_Ru.go 3 (c' := (295, [.ref 118, .int v1, .int v112, .float 0], [.int 20, .int v1], (h.1, I110, J111, h.2.2.2))) rfl ?_
              refine hk_cne (ix := v1.toInt) (iy := 20) rfl rfl rfl (fun z115 => ?_) (fun z115 => by exfalso; omega)
              refine qm_Ru.go 2 (c' := (314, [.ref 118, .int v1, .int v112, .float 0], [.int 24, .int v1], (h.1, I110, J111, h.2.2.2))) rfl ?_
              refine hk_cne (ix := v1.toInt) (iy := 24) rfl rfl rfl (fun z116 => by exfalso; omega) (fun z116 => ?_)
              refine qm_Ru.go 1 (c' := (318, [.ref 118, .int v1, .int v112, .float 0], [.ref 118], (h.1, I110, J111, h.2.2.2))) rfl ?_
              refine hk_getr rfl (hH.1 118 (17, 105) rfl) rfl (hH.2 118 24 (some 129) rfl) ?_
              refine qm_Ru.go 1 (c' := (322, [.ref 118, .int v1, .int v112, .float 0], [.ref 118, .ref 129], (h.1, I110, J111, h.2.2.2))) rfl ?_
              refine hk_geti (v := sd) rfl (hH.1 118 (17, 105) rfl) rfl (show (I110) 118 19 = _ from ((e8_I110 19 rfl).trans ((hk_neq (by decide)).trans ((hk_neq (by decide)).trans q_sd)))) ?_
              refine qm_Ru.go 1 (c' := (326, [.ref 118, .int v1, .int v112, .float 0], [.int v112, .int sd, .ref 129], (h.1, I110, J111, h.2.2.2))) rfl ?_
              refine hk_ias rfl (hH.1 129 (0, 2) rfl) (by omega) (by omega) ?_
              refine qm_Ru.go 3 (c' := (349, [.ref 118, .int v1, .int v112, .float 0], [.int 4, .ref 118], (h.1, qm_up I110 129 (sd.toInt.toNat) v112, J111, h.2.2.2))) rfl ?_
              refine hk_inv (o := 118) (r := []) (as := [.ref 118, .int 4]) rfl rfl (hH.1 118 (17, 105) rfl) rfl rfl rfl rfl ?_
              refine qm_Ru.go 2 (c' := (2, [.ref 118, .int 4], [.int 4, .ref 118], (h.1, qm_up I110 129 (sd.toInt.toNat) v112, J111, h.2.2.2))) rfl ?_
              refine hk_inv (o := 118) (r := []) (as := [.ref 118, .int 4]) rfl rfl (hH.1 118 (17, 105) rfl) rfl rfl rfl rfl ?_
              refine qm_Ru.go 1 (c' := (1, [.ref 118, .int 4], [.ref 118], (h.1, qm_up I110 129 (sd.toInt.toNat) v112, J111, h.2.2.2))) rfl ?_
              refine hk_geti (v := f114) rfl (hH.1 118 (17, 105) rfl) rfl (show (qm_up I110 129 (sd.toInt.toNat) v112) 118 13 = _ from ((hk_ot rfl).trans q_f114)) ?_
              refine qm_Ru.go 0 (c' := (4, [.ref 118, .int 4], [.int f114], (h.1, qm_up I110 129 (sd.toInt.toNat) v112, J111, h.2.2.2))) rfl ?_
              refine hk_zne (ix := f114.toInt) rfl rfl (fun z117 => ?_) (fun z117 => ?_)
              · refine qm_Ru.go 1 (c' := (25, [.ref 118, .int 4], [.int 0], (h.1, qm_up I110 129 (sd.toInt.toNat) v112, J111, h.2.2.2))) rfl ?_
                refine qm_Ru.rt (v := (some (.int 0))) (h' := (h.1, qm_up I110 129 (sd.toInt.toNat) v112, J111, h.2.2.2)) rfl ?_
                refine qm_Ru.go 3 (c' := (17, [.ref 118, .int 4], [.int 1, .ref 118], (h.1, qm_up I110 129 (sd.toInt.toNat) v112, J111, h.2.2.2))) rfl ?_
                refine hk_inv (o := 118) (r := []) (as := [.ref 118, .int 1]) rfl rfl (hH.1 118 (17, 105) rfl) rfl rfl rfl rfl ?_
                refine qm_Ru.go 1 (c' := (1, [.ref 118, .int 1], [.ref 118], (h.1, qm_up I110 129 (sd.toInt.toNat) v112, J111, h.2.2.2))) rfl ?_
                refine hk_geti (v := f114) rfl (hH.1 118 (17, 105) rfl) rfl (show (qm_up I110 129 (sd.toInt.toNat) v112) 118 13 = _ from ((hk_ot rfl).trans q_f114)) ?_
                refine qm_Ru.go 0 (c' := (4, [.ref 118, .int 1], [.int f114], (h.1, qm_up I110 129 (sd.toInt.toNat) v112, J111, h.2.2.2))) rfl ?_
                refine hk_zle (ix := f114.toInt) rfl rfl (fun z118 => by exfalso; omega) (fun z118 => ?_)
                refine qm_Ru.go 0 (c' := (7, [.ref 118, .int 1], [], (h.1, qm_up I110 129 (sd.toInt.toNat) v112, J111, h.2.2.2))) rfl ?_
                refine qm_Ru.rt (v := none) (h' := (h.1, qm_up I110 129 (sd.toInt.toNat) v112, J111, h.2.2.2)) rfl ?_
                refine qm_Ru.go 0 (c' := (20, [.ref 118, .int 4], [], (h.1, qm_up I110 129 (sd.toInt.toNat) v112, J111, h.2.2.2))) rfl ?_
                refine qm_Ru.rt (v := none) (h' := (h.1, qm_up I110 129 (sd.toInt.toNat) v112, J111, h.2.2.2)) rfl ?_
                refine qm_Ru.go 0 (c' := (352, [.ref 118, .int v1, .int v112, .float 0], [], (h.1, qm_up I110 129 (sd.toInt.toNat) v112, J111, h.2.2.2))) rfl ?_
                refine qm_Ru.rt (v := none) (h' := (h.1, qm_up I110 129 (sd.toInt.toNat) v112, J111, h.2.2.2)) rfl ?_
                have s131_y119 : ∀ i, (qm_up I110 129 (sd.toInt.toNat) v112) 131 i = h.2.1 131 i := fun i => ((hk_ot rfl).trans ((e_I110 131 rfl i).trans ((hk_ot rfl).trans ((hk_ot rfl).trans rfl))))
                have s132_y119 : ∀ i, (qm_up I110 129 (sd.toInt.toNat) v112) 132 i = h.2.1 132 i := fun i => ((hk_ot rfl).trans ((e_I110 132 rfl i).trans ((hk_ot rfl).trans ((hk_ot rfl).trans rfl))))
                have s133_y119 : ∀ i, (qm_up I110 129 (sd.toInt.toNat) v112) 133 i = h.2.1 133 i := fun i => ((hk_ot rfl).trans ((e_I110 133 rfl i).trans ((hk_ot rfl).trans ((hk_ot rfl).trans rfl))))
                have s134_y119 : ∀ i, (qm_up I110 129 (sd.toInt.toNat) v112) 134 i = h.2.1 134 i := fun i => ((hk_ot rfl).trans ((e_I110 134 rfl i).trans ((hk_ot rfl).trans ((hk_ot rfl).trans rfl))))
                have s138_y119 : ∀ i, (qm_up I110 129 (sd.toInt.toNat) v112) 138 i = h.2.1 138 i := fun i => ((hk_ot rfl).trans ((e_I110 138 rfl i).trans ((hk_ot rfl).trans ((hk_ot rfl).trans rfl))))
                have s139_y119 : ∀ i, (qm_up I110 129 (sd.toInt.toNat) v112) 139 i = h.2.1 139 i := fun i => ((hk_ot rfl).trans ((e_I110 139 rfl i).trans ((hk_ot rfl).trans ((hk_ot rfl).trans rfl))))
                have s140_y119 : ∀ i, (qm_up I110 129 (sd.toInt.toNat) v112) 140 i = h.2.1 140 i := fun i => ((hk_ot rfl).trans ((e_I110 140 rfl i).trans ((hk_ot rfl).trans ((hk_ot rfl).trans rfl))))
                have s141_y119 : ∀ i, (qm_up I110 129 (sd.toInt.toNat) v112) 141 i = h.2.1 141 i := fun i => ((hk_ot rfl).trans ((e_I110 141 rfl i).trans ((hk_ot rfl).trans ((hk_ot rfl).trans rfl))))
                have s142_y119 : ∀ i, (qm_up I110 129 (sd.toInt.toNat) v112) 142 i = h.2.1 142 i := fun i => ((hk_ot rfl).trans ((e_I110 142 rfl i).trans ((hk_ot rfl).trans ((hk_ot rfl).trans rfl))))
                have td_y119 : td (sd.toInt.toNat) h.2.1 (qm_up I110 129 (sd.toInt.toNat) v112) := ⟨fun i _ => ⟨s141_y119 i, s142_y119 i⟩, fun i _ => ⟨s138_y119 i, s139_y119 i, s140_y119 i⟩, fun i _ => ⟨s133_y119 i, s134_y119 i⟩, fun i _ => ⟨s131_y119 i, s132_y119 i⟩⟩
                exact k (qm_up I110 129 (sd.toInt.toNat) v112) (J111) t113 f114 ca bs la nm pr pp (hb_up (o := 129) (k := sd.toInt.toNat) (x := v112) hB_I110 (qa_in_full _)) (fun o ho i => ((hk_mod ho rfl).trans ((e_I110 o (hk_ms rfl ho) i).trans ((hk_mod ho rfl).trans ((hk_mod ho rfl).trans rfl))))) (fun i hi => ((hk_ot rfl).trans ((e8_I110 i (hk_ms rfl hi)).trans ((hk_neq (fun z => by subst z; cases hi)).trans ((hk_neq (fun z => by subst z; cases hi)).trans rfl))))) (show (qm_up I110 129 (sd.toInt.toNat) v112) 118 11 = _ from ((hk_ot rfl).trans q_t113)) (show (qm_up I110 129 (sd.toInt.toNat) v112) 118 13 = _ from ((hk_ot rfl).trans q_f114)) (show (qm_up I110 129 (sd.toInt.toNat) v112) 118 37 = _ from ((hk_ot rfl).trans ((e8_I110 37 rfl).trans ((hk_neq (by decide)).trans ((hk_neq (by decide)).trans q_ca))))) (show (qm_up I110 129 (sd.toInt.toNat) v112) 118 12 = _ from ((hk_ot rfl).trans ((e8_I110 12 rfl).trans ((hk_neq (by decide)).trans ((hk_neq (by decide)).trans q_bs))))) (show (qm_up I110 129 (sd.toInt.toNat) v112) 118 30 = _ from ((hk_ot rfl).trans ((e8_I110 30 rfl).trans ((hk_neq (by decide)).trans ((hk_neq (by decide)).trans q_la))))) (show (qm_up I110 129 (sd.toInt.toNat) v112) 118 20 = _ from ((hk_ot rfl).trans ((e8_I110 20 rfl).trans ((hk_neq (by decide)).trans ((hk_neq (by decide)).trans q_nm))))) (show (qm_up I110 129 (sd.toInt.toNat) v112) 131 (sd.toInt.toNat) = _ from ((hk_ot rfl).trans ((e_I110 131 rfl (sd.toInt.toNat)).trans ((hk_ot rfl).trans ((hk_ot rfl).trans q_pr))))) (show (qm_up I110 129 (sd.toInt.toNat) v112) 132 (sd.toInt.toNat) = _ from ((hk_ot rfl).trans ((e_I110 132 rfl (sd.toInt.toNat)).trans ((hk_ot rfl).trans ((hk_ot rfl).trans q_pp))))) (by omega) (fun z => by omega) td_y119 (fun z => rs_sm hrs s133_y119 s134_y119 s138_y119 s139_y119 s140_y119 s141_y119 s142_y119 (by omega))
              · refine qm_Ru.go 1 (c' := (8, [.ref 118, .int 4], [.ref 118], (h.1, qm_up I110 129 (sd.toInt.toNat) v112, J111, h.2.2.2))) rfl ?_
                refine hk_getr rfl (hH.1 118 (17, 105) rfl) rfl (hH.2 118 5 (some 121) rfl) ?_
                refine qm_Ru.go 1 (c' := (12, [.ref 118, .int 4], [.ref 118, .ref 121], (h.1, qm_up I110 129 (sd.toInt.toNat) v112, J111, h.2.2.2))) rfl ?_
                refine hk_geti (v := t113) rfl (hH.1 118 (17, 105) rfl) rfl (show (qm_up I110 129 (sd.toInt.toNat) v112) 118 11 = _ from ((hk_ot rfl).trans q_t113)) ?_
                refine qm_Ru.go 0 (c' := (15, [.ref 118, .int 4], [.int t113, .ref 121], (h.1, qm_up I110 129 (sd.toInt.toNat) v112, J111, h.2.2.2))) rfl ?_
                obtain ⟨v120, q_v120⟩ : ∃ v, h.2.1 121 (t113.toInt.toNat) = v := ⟨_, rfl⟩
                have b_v120 : (0 : Int) ≤ v120.toInt ∧ v120.toInt ≤ 44 := by rw [← q_v120]; exact hB 121 (t113.toInt.toNat)
                refine hk_ial (v := v120) rfl (hH.1 121 (0, 403) rfl) (by omega) (by omega) (show (qm_up I110 129 (sd.toInt.toNat) v112) 121 (t113.toInt.toNat) = _ from ((hk_ot rfl).trans ((e_I110 121 rfl (t113.toInt.toNat)).trans ((hk_ot rfl).trans ((hk_ot rfl).trans q_v120))))) ?_
                refine qm_Ru.go 1 (c' := (17, [.ref 118, .int 4], [.int 4, .int v120], (h.1, qm_up I110 129 (sd.toInt.toNat) v112, J111, h.2.2.2))) rfl ?_
                refine hk_cne (ix := v120.toInt) (iy := 4) rfl rfl rfl (fun z121 => ?_) (fun z121 => ?_)
                · refine qm_Ru.go 1 (c' := (25, [.ref 118, .int 4], [.int 0], (h.1, qm_up I110 129 (sd.toInt.toNat) v112, J111, h.2.2.2))) rfl ?_
                  refine qm_Ru.rt (v := (some (.int 0))) (h' := (h.1, qm_up I110 129 (sd.toInt.toNat) v112, J111, h.2.2.2)) rfl ?_
                  refine qm_Ru.go 3 (c' := (17, [.ref 118, .int 4], [.int 1, .ref 118], (h.1, qm_up I110 129 (sd.toInt.toNat) v112, J111, h.2.2.2))) rfl ?_
                  refine hk_inv (o := 118) (r := []) (as := [.ref 118, .int 1]) rfl rfl (hH.1 118 (17, 105) rfl) rfl rfl rfl rfl ?_
                  refine qm_Ru.go 1 (c' := (1, [.ref 118, .int 1], [.ref 118], (h.1, qm_up I110 129 (sd.toInt.toNat) v112, J111, h.2.2.2))) rfl ?_
                  refine hk_geti (v := f114) rfl (hH.1 118 (17, 105) rfl) rfl (show (qm_up I110 129 (sd.toInt.toNat) v112) 118 13 = _ from ((hk_ot rfl).trans q_f114)) ?_
                  refine qm_Ru.go 0 (c' := (4, [.ref 118, .int 1], [.int f114], (h.1, qm_up I110 129 (sd.toInt.toNat) v112, J111, h.2.2.2))) rfl ?_
                  refine hk_zle (ix := f114.toInt) rfl rfl (fun z122 => ?_) (fun z122 => by exfalso; omega)
                  refine qm_Ru.go 2 (c' := (10, [.ref 118, .int 1], [.int 1, .ref 118], (h.1, qm_up I110 129 (sd.toInt.toNat) v112, J111, h.2.2.2))) rfl ?_
                  refine hk_puti rfl (hH.1 118 (17, 105) rfl) rfl ?_
                  refine qm_Ru.go 2 (c' := (15, [.ref 118, .int 1], [.ref 118, .ref 118], (h.1, qm_up (qm_up I110 129 (sd.toInt.toNat) v112) 118 13 1, J111, h.2.2.2))) rfl ?_
                  refine hk_getr rfl (hH.1 118 (17, 105) rfl) rfl (hH.2 118 6 (some 122) rfl) ?_
                  refine qm_Ru.go 1 (c' := (19, [.ref 118, .int 1], [.ref 118, .ref 122, .ref 118], (h.1, qm_up (qm_up I110 129 (sd.toInt.toNat) v112) 118 13 1, J111, h.2.2.2))) rfl ?_
                  refine hk_geti (v := t113) rfl (hH.1 118 (17, 105) rfl) rfl (show (qm_up (qm_up I110 129 (sd.toInt.toNat) v112) 118 13 1) 118 11 = _ from ((hk_neq (by decide)).trans ((hk_ot rfl).trans q_t113))) ?_
                  refine qm_Ru.go 0 (c' := (22, [.ref 118, .int 1], [.int t113, .ref 122, .ref 118], (h.1, qm_up (qm_up I110 129 (sd.toInt.toNat) v112) 118 13 1, J111, h.2.2.2))) rfl ?_
                  obtain ⟨v123, q_v123⟩ : ∃ v, h.2.1 122 (t113.toInt.toNat) = v := ⟨_, rfl⟩
                  refine hk_ial (v := v123) rfl (hH.1 122 (0, 403) rfl) (by omega) (by omega) (show (qm_up (qm_up I110 129 (sd.toInt.toNat) v112) 118 13 1) 122 (t113.toInt.toNat) = _ from ((hk_ot rfl).trans ((hk_ot rfl).trans ((e_I110 122 rfl (t113.toInt.toNat)).trans ((hk_ot rfl).trans ((hk_ot rfl).trans q_v123)))))) ?_
                  refine qm_Ru.go 0 (c' := (23, [.ref 118, .int 1], [.int v123, .ref 118], (h.1, qm_up (qm_up I110 129 (sd.toInt.toNat) v112) 118 13 1, J111, h.2.2.2))) rfl ?_
                  refine hk_puti rfl (hH.1 118 (17, 105) rfl) rfl ?_
                  refine qm_Ru.go 0 (c' := (26, [.ref 118, .int 1], [], (h.1, qm_up (qm_up (qm_up I110 129 (sd.toInt.toNat) v112) 118 13 1) 118 14 v123, J111, h.2.2.2))) rfl ?_
                  refine qm_Ru.rt (v := none) (h' := (h.1, qm_up (qm_up (qm_up I110 129 (sd.toInt.toNat) v112) 118 13 1) 118 14 v123, J111, h.2.2.2)) rfl ?_
                  refine qm_Ru.go 0 (c' := (20, [.ref 118, .int 4], [], (h.1, qm_up (qm_up (qm_up I110 129 (sd.toInt.toNat) v112) 118 13 1) 118 14 v123, J111, h.2.2.2))) rfl ?_
                  refine qm_Ru.rt (v := none) (h' := (h.1, qm_up (qm_up (qm_up I110 129 (sd.toInt.toNat) v112) 118 13 1) 118 14 v123, J111, h.2.2.2)) rfl ?_
                  refine qm_Ru.go 0 (c' := (352, [.ref 118, .int v1, .int v112, .float 0], [], (h.1, qm_up (qm_up (qm_up I110 129 (sd.toInt.toNat) v112) 118 13 1) 118 14 v123, J111, h.2.2.2))) rfl ?_
                  refine qm_Ru.rt (v := none) (h' := (h.1, qm_up (qm_up (qm_up I110 129 (sd.toInt.toNat) v112) 118 13 1) 118 14 v123, J111, h.2.2.2)) rfl ?_
                  have s131_y124 : ∀ i, (qm_up (qm_up (qm_up I110 129 (sd.toInt.toNat) v112) 118 13 1) 118 14 v123) 131 i = h.2.1 131 i := fun i => ((hk_ot rfl).trans ((hk_ot rfl).trans ((hk_ot rfl).trans ((e_I110 131 rfl i).trans ((hk_ot rfl).trans ((hk_ot rfl).trans rfl))))))
                  have s132_y124 : ∀ i, (qm_up (qm_up (qm_up I110 129 (sd.toInt.toNat) v112) 118 13 1) 118 14 v123) 132 i = h.2.1 132 i := fun i => ((hk_ot rfl).trans ((hk_ot rfl).trans ((hk_ot rfl).trans ((e_I110 132 rfl i).trans ((hk_ot rfl).trans ((hk_ot rfl).trans rfl))))))
                  have s133_y124 : ∀ i, (qm_up (qm_up (qm_up I110 129 (sd.toInt.toNat) v112) 118 13 1) 118 14 v123) 133 i = h.2.1 133 i := fun i => ((hk_ot rfl).trans ((hk_ot rfl).trans ((hk_ot rfl).trans ((e_I110 133 rfl i).trans ((hk_ot rfl).trans ((hk_ot rfl).trans rfl))))))
                  have s134_y124 : ∀ i, (qm_up (qm_up (qm_up I110 129 (sd.toInt.toNat) v112) 118 13 1) 118 14 v123) 134 i = h.2.1 134 i := fun i => ((hk_ot rfl).trans ((hk_ot rfl).trans ((hk_ot rfl).trans ((e_I110 134 rfl i).trans ((hk_ot rfl).trans ((hk_ot rfl).trans rfl))))))
                  have s138_y124 : ∀ i, (qm_up (qm_up (qm_up I110 129 (sd.toInt.toNat) v112) 118 13 1) 118 14 v123) 138 i = h.2.1 138 i := fun i => ((hk_ot rfl).trans ((hk_ot rfl).trans ((hk_ot rfl).trans ((e_I110 138 rfl i).trans ((hk_ot rfl).trans ((hk_ot rfl).trans rfl))))))
                  have s139_y124 : ∀ i, (qm_up (qm_up (qm_up I110 129 (sd.toInt.toNat) v112) 118 13 1) 118 14 v123) 139 i = h.2.1 139 i := fun i => ((hk_ot rfl).trans ((hk_ot rfl).trans ((hk_ot rfl).trans ((e_I110 139 rfl i).trans ((hk_ot rfl).trans ((hk_ot rfl).trans rfl))))))
                  have s140_y124 : ∀ i, (qm_up (qm_up (qm_up I110 129 (sd.toInt.toNat) v112) 118 13 1) 118 14 v123) 140 i = h.2.1 140 i := fun i => ((hk_ot rfl).trans ((hk_ot rfl).trans ((hk_ot rfl).trans ((e_I110 140 rfl i).trans ((hk_ot rfl).trans ((hk_ot rfl).trans rfl))))))
                  have s141_y124 : ∀ i, (qm_up (qm_up (qm_up I110 129 (sd.toInt.toNat) v112) 118 13 1) 118 14 v123) 141 i = h.2.1 141 i := fun i => ((hk_ot rfl).trans ((hk_ot rfl).trans ((hk_ot rfl).trans ((e_I110 141 rfl i).trans ((hk_ot rfl).trans ((hk_ot rfl).trans rfl))))))
                  have s142_y124 : ∀ i, (qm_up (qm_up (qm_up I110 129 (sd.toInt.toNat) v112) 118 13 1) 118 14 v123) 142 i = h.2.1 142 i := fun i => ((hk_ot rfl).trans ((hk_ot rfl).trans ((hk_ot rfl).trans ((e_I110 142 rfl i).trans ((hk_ot rfl).trans ((hk_ot rfl).trans rfl))))))
                  have td_y124 : td (sd.toInt.toNat) h.2.1 (qm_up (qm_up (qm_up I110 129 (sd.toInt.toNat) v112) 118 13 1) 118 14 v123) := ⟨fun i _ => ⟨s141_y124 i, s142_y124 i⟩, fun i _ => ⟨s138_y124 i, s139_y124 i, s140_y124 i⟩, fun i _ => ⟨s133_y124 i, s134_y124 i⟩, fun i _ => ⟨s131_y124 i, s132_y124 i⟩⟩
                  exact k (qm_up (qm_up (qm_up I110 129 (sd.toInt.toNat) v112) 118 13 1) 118 14 v123) (J111) t113 1 ca bs la nm pr pp (hb_up (o := 118) (k := 14) (x := v123) (hb_up (o := 118) (k := 13) (x := 1) (hb_up (o := 129) (k := sd.toInt.toNat) (x := v112) hB_I110 (qa_in_full _)) (qa_in_full _)) (qa_in_full _)) (fun o ho i => ((hk_mod ho rfl).trans ((hk_mod ho rfl).trans ((hk_mod ho rfl).trans ((e_I110 o (hk_ms rfl ho) i).trans ((hk_mod ho rfl).trans ((hk_mod ho rfl).trans rfl))))))) (fun i hi => ((hk_neq (fun z => by subst z; cases hi)).trans ((hk_neq (fun z => by subst z; cases hi)).trans ((hk_ot rfl).trans ((e8_I110 i (hk_ms rfl hi)).trans ((hk_neq (fun z => by subst z; cases hi)).trans ((hk_neq (fun z => by subst z; cases hi)).trans rfl))))))) (show (qm_up (qm_up (qm_up I110 129 (sd.toInt.toNat) v112) 118 13 1) 118 14 v123) 118 11 = _ from ((hk_neq (by decide)).trans ((hk_neq (by decide)).trans ((hk_ot rfl).trans q_t113)))) (show (qm_up (qm_up (qm_up I110 129 (sd.toInt.toNat) v112) 118 13 1) 118 14 v123) 118 13 = _ from ((hk_neq (by decide)).trans (hk_same))) (show (qm_up (qm_up (qm_up I110 129 (sd.toInt.toNat) v112) 118 13 1) 118 14 v123) 118 37 = _ from ((hk_neq (by decide)).trans ((hk_neq (by decide)).trans ((hk_ot rfl).trans ((e8_I110 37 rfl).trans ((hk_neq (by decide)).trans ((hk_neq (by decide)).trans q_ca))))))) (show (qm_up (qm_up (qm_up I110 129 (sd.toInt.toNat) v112) 118 13 1) 118 14 v123) 118 12 = _ from ((hk_neq (by decide)).trans ((hk_neq (by decide)).trans ((hk_ot rfl).trans ((e8_I110 12 rfl).trans ((hk_neq (by decide)).trans ((hk_neq (by decide)).trans q_bs))))))) (show (qm_up (qm_up (qm_up I110 129 (sd.toInt.toNat) v112) 118 13 1) 118 14 v123) 118 30 = _ from ((hk_neq (by decide)).trans ((hk_neq (by decide)).trans ((hk_ot rfl).trans ((e8_I110 30 rfl).trans ((hk_neq (by decide)).trans ((hk_neq (by decide)).trans q_la))))))) (show (qm_up (qm_up (qm_up I110 129 (sd.toInt.toNat) v112) 118 13 1) 118 14 v123) 118 20 = _ from ((hk_neq (by decide)).trans ((hk_neq (by decide)).trans ((hk_ot rfl).trans ((e8_I110 20 rfl).trans ((hk_neq (by decide)).trans ((hk_neq (by decide)).trans q_nm))))))) (show (qm_up (qm_up (qm_up I110 129 (sd.toInt.toNat) v112) 118 13 1) 118 14 v123) 131 (sd.toInt.toNat) = _ from ((hk_ot rfl).trans ((hk_ot rfl).trans ((hk_ot rfl).trans ((e_I110 131 rfl (sd.toInt.toNat)).trans ((hk_ot rfl).trans ((hk_ot rfl).trans q_pr))))))) (show (qm_up (qm_up (qm_up I110 129 (sd.toInt.toNat) v112) 118 13 1) 118 14 v123) 132 (sd.toInt.toNat) = _ from ((hk_ot rfl).trans ((hk_ot rfl).trans ((hk_ot rfl).trans ((e_I110 132 rfl (sd.toInt.toNat)).trans ((hk_ot rfl).trans ((hk_ot rfl).trans q_pp))))))) (by omega) (fun z => by omega) td_y124 (fun z => rs_sm hrs s133_y124 s134_y124 s138_y124 s139_y124 s140_y124 s141_y124 s142_y124 (by omega))
                · refine qm_Ru.go 2 (c' := (25, [.ref 118, .int 4], [.int 1], (h.1, qm_up I110 129 (sd.toInt.toNat) v112, J111, h.2.2.2))) rfl ?_
                  refine qm_Ru.rt (v := (some (.int 1))) (h' := (h.1, qm_up I110 129 (sd.toInt.toNat) v112, J111, h.2.2.2)) rfl ?_
                  refine qm_Ru.go 2 (c' := (9, [.ref 118, .int 4], [.ref 118], (h.1, qm_up I110 129 (sd.toInt.toNat) v112, J111, h.2.2.2))) rfl ?_
                  refine hk_inv (o := 118) (r := []) (as := [.ref 118]) rfl rfl (hH.1 118 (17, 105) rfl) rfl rfl rfl rfl ?_
                  refine qm_Ru.go 1 (c' := (1, [.ref 118], [.ref 118], (h.1, qm_up I110 129 (sd.toInt.toNat) v112, J111, h.2.2.2))) rfl ?_
                  refine hk_geti (v := t113) rfl (hH.1 118 (17, 105) rfl) rfl (show (qm_up I110 129 (sd.toInt.toNat) v112) 118 11 = _ from ((hk_ot rfl).trans q_t113)) ?_
                  refine qm_Ru.go 1 (c' := (7, [.ref 118], [.int 400, .int t113], (h.1, qm_up I110 129 (sd.toInt.toNat) v112, J111, h.2.2.2))) rfl ?_
                  refine hk_cne (ix := t113.toInt) (iy := 400) rfl rfl rfl (fun z125 => ?_) (fun z125 => ?_)
                  · refine qm_Ru.go 2 (c' := (20, [.ref 118], [.ref 118, .ref 118], (h.1, qm_up I110 129 (sd.toInt.toNat) v112, J111, h.2.2.2))) rfl ?_
                    refine hk_geti (v := t113) rfl (hH.1 118 (17, 105) rfl) rfl (show (qm_up I110 129 (sd.toInt.toNat) v112) 118 11 = _ from ((hk_ot rfl).trans q_t113)) ?_
                    refine qm_Ru.go 2 (c' := (25, [.ref 118], [.int (t113 + 1), .ref 118], (h.1, qm_up I110 129 (sd.toInt.toNat) v112, J111, h.2.2.2))) rfl ?_
                    obtain ⟨v126, q_v126, e_v126⟩ := hk_add (x := t113) (y := 1) (a := t113.toInt) (b := 1) rfl rfl (by omega) (by omega)
                    rw [q_v126]
                    refine hk_puti rfl (hH.1 118 (17, 105) rfl) rfl ?_
                    refine qm_Ru.go 0 (c' := (28, [.ref 118], [], (h.1, qm_up (qm_up I110 129 (sd.toInt.toNat) v112) 118 11 v126, J111, h.2.2.2))) rfl ?_
                    refine qm_Ru.rt (v := none) (h' := (h.1, qm_up (qm_up I110 129 (sd.toInt.toNat) v112) 118 11 v126, J111, h.2.2.2)) rfl ?_
                    refine qm_Ru.go 1 (c' := (20, [.ref 118, .int 4], [], (h.1, qm_up (qm_up I110 129 (sd.toInt.toNat) v112) 118 11 v126, J111, h.2.2.2))) rfl ?_
                    refine qm_Ru.rt (v := none) (h' := (h.1, qm_up (qm_up I110 129 (sd.toInt.toNat) v112) 118 11 v126, J111, h.2.2.2)) rfl ?_
                    refine qm_Ru.go 0 (c' := (352, [.ref 118, .int v1, .int v112, .float 0], [], (h.1, qm_up (qm_up I110 129 (sd.toInt.toNat) v112) 118 11 v126, J111, h.2.2.2))) rfl ?_
                    refine qm_Ru.rt (v := none) (h' := (h.1, qm_up (qm_up I110 129 (sd.toInt.toNat) v112) 118 11 v126, J111, h.2.2.2)) rfl ?_
                    have s131_y127 : ∀ i, (qm_up (qm_up I110 129 (sd.toInt.toNat) v112) 118 11 v126) 131 i = h.2.1 131 i := fun i => ((hk_ot rfl).trans ((hk_ot rfl).trans ((e_I110 131 rfl i).trans ((hk_ot rfl).trans ((hk_ot rfl).trans rfl)))))
                    have s132_y127 : ∀ i, (qm_up (qm_up I110 129 (sd.toInt.toNat) v112) 118 11 v126) 132 i = h.2.1 132 i := fun i => ((hk_ot rfl).trans ((hk_ot rfl).trans ((e_I110 132 rfl i).trans ((hk_ot rfl).trans ((hk_ot rfl).trans rfl)))))
                    have s133_y127 : ∀ i, (qm_up (qm_up I110 129 (sd.toInt.toNat) v112) 118 11 v126) 133 i = h.2.1 133 i := fun i => ((hk_ot rfl).trans ((hk_ot rfl).trans ((e_I110 133 rfl i).trans ((hk_ot rfl).trans ((hk_ot rfl).trans rfl)))))
                    have s134_y127 : ∀ i, (qm_up (qm_up I110 129 (sd.toInt.toNat) v112) 118 11 v126) 134 i = h.2.1 134 i := fun i => ((hk_ot rfl).trans ((hk_ot rfl).trans ((e_I110 134 rfl i).trans ((hk_ot rfl).trans ((hk_ot rfl).trans rfl)))))
                    have s138_y127 : ∀ i, (qm_up (qm_up I110 129 (sd.toInt.toNat) v112) 118 11 v126) 138 i = h.2.1 138 i := fun i => ((hk_ot rfl).trans ((hk_ot rfl).trans ((e_I110 138 rfl i).trans ((hk_ot rfl).trans ((hk_ot rfl).trans rfl)))))
                    have s139_y127 : ∀ i, (qm_up (qm_up I110 129 (sd.toInt.toNat) v112) 118 11 v126) 139 i = h.2.1 139 i := fun i => ((hk_ot rfl).trans ((hk_ot rfl).trans ((e_I110 139 rfl i).trans ((hk_ot rfl).trans ((hk_ot rfl).trans rfl)))))
                    have s140_y127 : ∀ i, (qm_up (qm_up I110 129 (sd.toInt.toNat) v112) 118 11 v126) 140 i = h.2.1 140 i := fun i => ((hk_ot rfl).trans ((hk_ot rfl).trans ((e_I110 140 rfl i).trans ((hk_ot rfl).trans ((hk_ot rfl).trans rfl)))))
                    have s141_y127 : ∀ i, (qm_up (qm_up I110 129 (sd.toInt.toNat) v112) 118 11 v126) 141 i = h.2.1 141 i := fun i => ((hk_ot rfl).trans ((hk_ot rfl).trans ((e_I110 141 rfl i).trans ((hk_ot rfl).trans ((hk_ot rfl).trans rfl)))))
                    have s142_y127 : ∀ i, (qm_up (qm_up I110 129 (sd.toInt.toNat) v112) 118 11 v126) 142 i = h.2.1 142 i := fun i => ((hk_ot rfl).trans ((hk_ot rfl).trans ((e_I110 142 rfl i).trans ((hk_ot rfl).trans ((hk_ot rfl).trans rfl)))))
                    have td_y127 : td (sd.toInt.toNat) h.2.1 (qm_up (qm_up I110 129 (sd.toInt.toNat) v112) 118 11 v126) := ⟨fun i _ => ⟨s141_y127 i, s142_y127 i⟩, fun i _ => ⟨s138_y127 i, s139_y127 i, s140_y127 i⟩, fun i _ => ⟨s133_y127 i, s134_y127 i⟩, fun i _ => ⟨s131_y127 i, s132_y127 i⟩⟩
                    exact k (qm_up (qm_up I110 129 (sd.toInt.toNat) v112) 118 11 v126) (J111) v126 f114 ca bs la nm pr pp (hb_up (o := 118) (k := 11) (x := v126) (hb_up (o := 129) (k := sd.toInt.toNat) (x := v112) hB_I110 (qa_in_full _)) ⟨by show (0 : Int) ≤ v126.toInt; omega, by show v126.toInt ≤ (400 : Int); omega⟩) (fun o ho i => ((hk_mod ho rfl).trans ((hk_mod ho rfl).trans ((e_I110 o (hk_ms rfl ho) i).trans ((hk_mod ho rfl).trans ((hk_mod ho rfl).trans rfl)))))) (fun i hi => ((hk_neq (fun z => by subst z; cases hi)).trans ((hk_ot rfl).trans ((e8_I110 i (hk_ms rfl hi)).trans ((hk_neq (fun z => by subst z; cases hi)).trans ((hk_neq (fun z => by subst z; cases hi)).trans rfl)))))) (show (qm_up (qm_up I110 129 (sd.toInt.toNat) v112) 118 11 v126) 118 11 = _ from (hk_same)) (show (qm_up (qm_up I110 129 (sd.toInt.toNat) v112) 118 11 v126) 118 13 = _ from ((hk_neq (by decide)).trans ((hk_ot rfl).trans q_f114))) (show (qm_up (qm_up I110 129 (sd.toInt.toNat) v112) 118 11 v126) 118 37 = _ from ((hk_neq (by decide)).trans ((hk_ot rfl).trans ((e8_I110 37 rfl).trans ((hk_neq (by decide)).trans ((hk_neq (by decide)).trans q_ca)))))) (show (qm_up (qm_up I110 129 (sd.toInt.toNat) v112) 118 11 v126) 118 12 = _ from ((hk_neq (by decide)).trans ((hk_ot rfl).trans ((e8_I110 12 rfl).trans ((hk_neq (by decide)).trans ((hk_neq (by decide)).trans q_bs)))))) (show (qm_up (qm_up I110 129 (sd.toInt.toNat) v112) 118 11 v126) 118 30 = _ from ((hk_neq (by decide)).trans ((hk_ot rfl).trans ((e8_I110 30 rfl).trans ((hk_neq (by decide)).trans ((hk_neq (by decide)).trans q_la)))))) (show (qm_up (qm_up I110 129 (sd.toInt.toNat) v112) 118 11 v126) 118 20 = _ from ((hk_neq (by decide)).trans ((hk_ot rfl).trans ((e8_I110 20 rfl).trans ((hk_neq (by decide)).trans ((hk_neq (by decide)).trans q_nm)))))) (show (qm_up (qm_up I110 129 (sd.toInt.toNat) v112) 118 11 v126) 131 (sd.toInt.toNat) = _ from ((hk_ot rfl).trans ((hk_ot rfl).trans ((e_I110 131 rfl (sd.toInt.toNat)).trans ((hk_ot rfl).trans ((hk_ot rfl).trans q_pr)))))) (show (qm_up (qm_up I110 129 (sd.toInt.toNat) v112) 118 11 v126) 132 (sd.toInt.toNat) = _ from ((hk_ot rfl).trans ((hk_ot rfl).trans ((e_I110 132 rfl (sd.toInt.toNat)).trans ((hk_ot rfl).trans ((hk_ot rfl).trans q_pp)))))) (by omega) (fun z => by omega) td_y127 (fun z => rs_sm hrs s133_y127 s134_y127 s138_y127 s139_y127 s140_y127 s141_y127 s142_y127 (by omega))
                  · refine qm_Ru.go 2 (c' := (12, [.ref 118], [.int 2, .ref 118], (h.1, qm_up I110 129 (sd.toInt.toNat) v112, J111, h.2.2.2))) rfl ?_
                    refine hk_inv (o := 118) (r := []) (as := [.ref 118, .int 2]) rfl rfl (hH.1 118 (17, 105) rfl) rfl rfl rfl rfl ?_
                    refine qm_Ru.go 1 (c' := (1, [.ref 118, .int 2], [.ref 118], (h.1, qm_up I110 129 (sd.toInt.toNat) v112, J111, h.2.2.2))) rfl ?_
                    refine hk_geti (v := f114) rfl (hH.1 118 (17, 105) rfl) rfl (show (qm_up I110 129 (sd.toInt.toNat) v112) 118 13 = _ from ((hk_ot rfl).trans q_f114)) ?_
                    refine qm_Ru.go 0 (c' := (4, [.ref 118, .int 2], [.int f114], (h.1, qm_up I110 129 (sd.toInt.toNat) v112, J111, h.2.2.2))) rfl ?_
                    refine hk_zle (ix := f114.toInt) rfl rfl (fun z128 => ?_) (fun z128 => by exfalso; omega)
                    refine qm_Ru.go 2 (c' := (10, [.ref 118, .int 2], [.int 2, .ref 118], (h.1, qm_up I110 129 (sd.toInt.toNat) v112, J111, h.2.2.2))) rfl ?_
                    refine hk_puti rfl (hH.1 118 (17, 105) rfl) rfl ?_
                    refine qm_Ru.go 2 (c' := (15, [.ref 118, .int 2], [.ref 118, .ref 118], (h.1, qm_up (qm_up I110 129 (sd.toInt.toNat) v112) 118 13 2, J111, h.2.2.2))) rfl ?_
                    refine hk_getr rfl (hH.1 118 (17, 105) rfl) rfl (hH.2 118 6 (some 122) rfl) ?_
                    refine qm_Ru.go 1 (c' := (19, [.ref 118, .int 2], [.ref 118, .ref 122, .ref 118], (h.1, qm_up (qm_up I110 129 (sd.toInt.toNat) v112) 118 13 2, J111, h.2.2.2))) rfl ?_
                    refine hk_geti (v := t113) rfl (hH.1 118 (17, 105) rfl) rfl (show (qm_up (qm_up I110 129 (sd.toInt.toNat) v112) 118 13 2) 118 11 = _ from ((hk_neq (by decide)).trans ((hk_ot rfl).trans q_t113))) ?_
                    refine qm_Ru.go 0 (c' := (22, [.ref 118, .int 2], [.int t113, .ref 122, .ref 118], (h.1, qm_up (qm_up I110 129 (sd.toInt.toNat) v112) 118 13 2, J111, h.2.2.2))) rfl ?_
                    obtain ⟨v129, q_v129⟩ : ∃ v, h.2.1 122 (t113.toInt.toNat) = v := ⟨_, rfl⟩
                    refine hk_ial (v := v129) rfl (hH.1 122 (0, 403) rfl) (by omega) (by omega) (show (qm_up (qm_up I110 129 (sd.toInt.toNat) v112) 118 13 2) 122 (t113.toInt.toNat) = _ from ((hk_ot rfl).trans ((hk_ot rfl).trans ((e_I110 122 rfl (t113.toInt.toNat)).trans ((hk_ot rfl).trans ((hk_ot rfl).trans q_v129)))))) ?_
                    refine qm_Ru.go 0 (c' := (23, [.ref 118, .int 2], [.int v129, .ref 118], (h.1, qm_up (qm_up I110 129 (sd.toInt.toNat) v112) 118 13 2, J111, h.2.2.2))) rfl ?_
                    refine hk_puti rfl (hH.1 118 (17, 105) rfl) rfl ?_
                    refine qm_Ru.go 0 (c' := (26, [.ref 118, .int 2], [], (h.1, qm_up (qm_up (qm_up I110 129 (sd.toInt.toNat) v112) 118 13 2) 118 14 v129, J111, h.2.2.2))) rfl ?_
                    refine qm_Ru.rt (v := none) (h' := (h.1, qm_up (qm_up (qm_up I110 129 (sd.toInt.toNat) v112) 118 13 2) 118 14 v129, J111, h.2.2.2)) rfl ?_
                    refine qm_Ru.go 1 (c' := (28, [.ref 118], [], (h.1, qm_up (qm_up (qm_up I110 129 (sd.toInt.toNat) v112) 118 13 2) 118 14 v129, J111, h.2.2.2))) rfl ?_
                    refine qm_Ru.rt (v := none) (h' := (h.1, qm_up (qm_up (qm_up I110 129 (sd.toInt.toNat) v112) 118 13 2) 118 14 v129, J111, h.2.2.2)) rfl ?_
                    refine qm_Ru.go 1 (c' := (20, [.ref 118, .int 4], [], (h.1, qm_up (qm_up (qm_up I110 129 (sd.toInt.toNat) v112) 118 13 2) 118 14 v129, J111, h.2.2.2))) rfl ?_
                    refine qm_Ru.rt (v := none) (h' := (h.1, qm_up (qm_up (qm_up I110 129 (sd.toInt.toNat) v112) 118 13 2) 118 14 v129, J111, h.2.2.2)) rfl ?_
                    refine qm_Ru.go 0 (c' := (352, [.ref 118, .int v1, .int v112, .float 0], [], (h.1, qm_up (qm_up (qm_up I110 129 (sd.toInt.toNat) v112) 118 13 2) 118 14 v129, J111, h.2.2.2))) rfl ?_
                    refine qm_Ru.rt (v := none) (h' := (h.1, qm_up (qm_up (qm_up I110 129 (sd.toInt.toNat) v112) 118 13 2) 118 14 v129, J111, h.2.2.2)) rfl ?_
                    have s131_y130 : ∀ i, (qm_up (qm_up (qm_up I110 129 (sd.toInt.toNat) v112) 118 13 2) 118 14 v129) 131 i = h.2.1 131 i := fun i => ((hk_ot rfl).trans ((hk_ot rfl).trans ((hk_ot rfl).trans ((e_I110 131 rfl i).trans ((hk_ot rfl).trans ((hk_ot rfl).trans rfl))))))
                    have s132_y130 : ∀ i, (qm_up (qm_up (qm_up I110 129 (sd.toInt.toNat) v112) 118 13 2) 118 14 v129) 132 i = h.2.1 132 i := fun i => ((hk_ot rfl).trans ((hk_ot rfl).trans ((hk_ot rfl).trans ((e_I110 132 rfl i).trans ((hk_ot rfl).trans ((hk_ot rfl).trans rfl))))))
                    have s133_y130 : ∀ i, (qm_up (qm_up (qm_up I110 129 (sd.toInt.toNat) v112) 118 13 2) 118 14 v129) 133 i = h.2.1 133 i := fun i => ((hk_ot rfl).trans ((hk_ot rfl).trans ((hk_ot rfl).trans ((e_I110 133 rfl i).trans ((hk_ot rfl).trans ((hk_ot rfl).trans rfl))))))
                    have s134_y130 : ∀ i, (qm_up (qm_up (qm_up I110 129 (sd.toInt.toNat) v112) 118 13 2) 118 14 v129) 134 i = h.2.1 134 i := fun i => ((hk_ot rfl).trans ((hk_ot rfl).trans ((hk_ot rfl).trans ((e_I110 134 rfl i).trans ((hk_ot rfl).trans ((hk_ot rfl).trans rfl))))))
                    have s138_y130 : ∀ i, (qm_up (qm_up (qm_up I110 129 (sd.toInt.toNat) v112) 118 13 2) 118 14 v129) 138 i = h.2.1 138 i := fun i => ((hk_ot rfl).trans ((hk_ot rfl).trans ((hk_ot rfl).trans ((e_I110 138 rfl i).trans ((hk_ot rfl).trans ((hk_ot rfl).trans rfl))))))
                    have s139_y130 : ∀ i, (qm_up (qm_up (qm_up I110 129 (sd.toInt.toNat) v112) 118 13 2) 118 14 v129) 139 i = h.2.1 139 i := fun i => ((hk_ot rfl).trans ((hk_ot rfl).trans ((hk_ot rfl).trans ((e_I110 139 rfl i).trans ((hk_ot rfl).trans ((hk_ot rfl).trans rfl))))))
                    have s140_y130 : ∀ i, (qm_up (qm_up (qm_up I110 129 (sd.toInt.toNat) v112) 118 13 2) 118 14 v129) 140 i = h.2.1 140 i := fun i => ((hk_ot rfl).trans ((hk_ot rfl).trans ((hk_ot rfl).trans ((e_I110 140 rfl i).trans ((hk_ot rfl).trans ((hk_ot rfl).trans rfl))))))
                    have s141_y130 : ∀ i, (qm_up (qm_up (qm_up I110 129 (sd.toInt.toNat) v112) 118 13 2) 118 14 v129) 141 i = h.2.1 141 i := fun i => ((hk_ot rfl).trans ((hk_ot rfl).trans ((hk_ot rfl).trans ((e_I110 141 rfl i).trans ((hk_ot rfl).trans ((hk_ot rfl).trans rfl))))))
                    have s142_y130 : ∀ i, (qm_up (qm_up (qm_up I110 129 (sd.toInt.toNat) v112) 118 13 2) 118 14 v129) 142 i = h.2.1 142 i := fun i => ((hk_ot rfl).trans ((hk_ot rfl).trans ((hk_ot rfl).trans ((e_I110 142 rfl i).trans ((hk_ot rfl).trans ((hk_ot rfl).trans rfl))))))
                    have td_y130 : td (sd.toInt.toNat) h.2.1 (qm_up (qm_up (qm_up I110 129 (sd.toInt.toNat) v112) 118 13 2) 118 14 v129) := ⟨fun i _ => ⟨s141_y130 i, s142_y130 i⟩, fun i _ => ⟨s138_y130 i, s139_y130 i, s140_y130 i⟩, fun i _ => ⟨s133_y130 i, s134_y130 i⟩, fun i _ => ⟨s131_y130 i, s132_y130 i⟩⟩
                    exact k (qm_up (qm_up (qm_up I110 129 (sd.toInt.toNat) v112) 118 13 2) 118 14 v129) (J111) t113 2 ca bs la nm pr pp (hb_up (o := 118) (k := 14) (x := v129) (hb_up (o := 118) (k := 13) (x := 2) (hb_up (o := 129) (k := sd.toInt.toNat) (x := v112) hB_I110 (qa_in_full _)) (qa_in_full _)) (qa_in_full _)) (fun o ho i => ((hk_mod ho rfl).trans ((hk_mod ho rfl).trans ((hk_mod ho rfl).trans ((e_I110 o (hk_ms rfl ho) i).trans ((hk_mod ho rfl).trans ((hk_mod ho rfl).trans rfl))))))) (fun i hi => ((hk_neq (fun z => by subst z; cases hi)).trans ((hk_neq (fun z => by subst z; cases hi)).trans ((hk_ot rfl).trans ((e8_I110 i (hk_ms rfl hi)).trans ((hk_neq (fun z => by subst z; cases hi)).trans ((hk_neq (fun z => by subst z; cases hi)).trans rfl))))))) (show (qm_up (qm_up (qm_up I110 129 (sd.toInt.toNat) v112) 118 13 2) 118 14 v129) 118 11 = _ from ((hk_neq (by decide)).trans ((hk_neq (by decide)).trans ((hk_ot rfl).trans q_t113)))) (show (qm_up (qm_up (qm_up I110 129 (sd.toInt.toNat) v112) 118 13 2) 118 14 v129) 118 13 = _ from ((hk_neq (by decide)).trans (hk_same))) (show (qm_up (qm_up (qm_up I110 129 (sd.toInt.toNat) v112) 118 13 2) 118 14 v129) 118 37 = _ from ((hk_neq (by decide)).trans ((hk_neq (by decide)).trans ((hk_ot rfl).trans ((e8_I110 37 rfl).trans ((hk_neq (by decide)).trans ((hk_neq (by decide)).trans q_ca))))))) (show (qm_up (qm_up (qm_up I110 129 (sd.toInt.toNat) v112) 118 13 2) 118 14 v129) 118 12 = _ from ((hk_neq (by decide)).trans ((hk_neq (by decide)).trans ((hk_ot rfl).trans ((e8_I110 12 rfl).trans ((hk_neq (by decide)).trans ((hk_neq (by decide)).trans q_bs))))))) (show (qm_up (qm_up (qm_up I110 129 (sd.toInt.toNat) v112) 118 13 2) 118 14 v129) 118 30 = _ from ((hk_neq (by decide)).trans ((hk_neq (by decide)).trans ((hk_ot rfl).trans ((e8_I110 30 rfl).trans ((hk_neq (by decide)).trans ((hk_neq (by decide)).trans q_la))))))) (show (qm_up (qm_up (qm_up I110 129 (sd.toInt.toNat) v112) 118 13 2) 118 14 v129) 118 20 = _ from ((hk_neq (by decide)).trans ((hk_neq (by decide)).trans ((hk_ot rfl).trans ((e8_I110 20 rfl).trans ((hk_neq (by decide)).trans ((hk_neq (by decide)).trans q_nm))))))) (show (qm_up (qm_up (qm_up I110 129 (sd.toInt.toNat) v112) 118 13 2) 118 14 v129) 131 (sd.toInt.toNat) = _ from ((hk_ot rfl).trans ((hk_ot rfl).trans ((hk_ot rfl).trans ((e_I110 131 rfl (sd.toInt.toNat)).trans ((hk_ot rfl).trans ((hk_ot rfl).trans q_pr))))))) (show (qm_up (qm_up (qm_up I110 129 (sd.toInt.toNat) v112) 118 13 2) 118 14 v129) 132 (sd.toInt.toNat) = _ from ((hk_ot rfl).trans ((hk_ot rfl).trans ((hk_ot rfl).trans ((e_I110 132 rfl (sd.toInt.toNat)).trans ((hk_ot rfl).trans ((hk_ot rfl).trans q_pp))))))) (by omega) (fun z => by omega) td_y130 (fun z => rs_sm hrs s133_y130 s134_y130 s138_y130 s139_y130 s140_y130 s141_y130 s142_y130 (by omega))
          · refine qm_Ru.go 4 (c' := (278, [.ref 118, .int v1, .float 0, .float 0], [.int 20, .int v1, .int 2, .ref 118], (h.1, qm_up (qm_up h.2.1 118 13 2) 118 14 v81, h.2.2.1, h.2.2.2))) rfl ?_
            refine hk_cne (ix := v1.toInt) (iy := 20) rfl rfl rfl (fun z131 => by exfalso; omega) (fun z131 => ?_)
            refine qm_Ru.go 2 (c' := (288, [.ref 118, .int v1, .float 0, .float 0], [.int 5, .int 2, .ref 118], (h.1, qm_up (qm_up h.2.1 118 13 2) 118 14 v81, h.2.2.1, h.2.2.2))) rfl ?_
            refine hk_inv (o := 118) (r := []) (as := [.ref 118, .int 2, .int 5]) rfl rfl (hH.1 118 (17, 105) rfl) rfl rfl rfl rfl (hs_told (d := d + 4) (h := (h.1, qm_up (qm_up h.2.1 118 13 2) 118 14 v81, h.2.2.1, h.2.2.2)) hH (hb_up (o := 118) (k := 14) (x := v81) (hb_up (o := 118) (k := 13) (x := 2) hB (qa_in_full _)) (qa_in_full _)) (ta := ta) (fa := 2) (lo := 2) (hi := 5) (show (qm_up (qm_up h.2.1 118 13 2) 118 14 v81) 118 11 = _ from ((hk_neq (by decide)).trans ((hk_neq (by decide)).trans q_ta))) (show (qm_up (qm_up h.2.1 118 13 2) 118 14 v81) 118 13 = _ from ((hk_neq (by decide)).trans (hk_same))) (by omega) (by decide) (fun I132 J133 v134 t135 f136 hB_I132 e_I132 e8_I132 q_t135 q_f136 b1_I132 b2_I132 => ?_))
            have b2_I132 : (2 : Int) ≤ v134.toInt ∧ v134.toInt ≤ 5 := b2_I132
            have e_I132 : ∀ o, [118].contains o = false → ∀ i, I132 o i = (qm_up (qm_up h.2.1 118 13 2) 118 14 v81) o i := e_I132
            have e8_I132 : ∀ i, [11, 13, 14, 15, 16].contains i = false → I132 118 i = (qm_up (qm_up h.2.1 118 13 2) 118 14 v81) 118 i := e8_I132
            refine qm_Ru.go 3 (c' := (295, [.ref 118, .int v1, .int v134, .float 0], [.int 20, .int v1], (h.1, I132, J133, h.2.2.2))) rfl ?_
            refine hk_cne (ix := v1.toInt) (iy := 20) rfl rfl rfl (fun z137 => by exfalso; omega) (fun z137 => ?_)
            refine qm_Ru.go 1 (c' := (299, [.ref 118, .int v1, .int v134, .float 0], [.ref 118], (h.1, I132, J133, h.2.2.2))) rfl ?_
            refine hk_getr rfl (hH.1 118 (17, 105) rfl) rfl (hH.2 118 22 (some 127) rfl) ?_
            refine qm_Ru.go 1 (c' := (303, [.ref 118, .int v1, .int v134, .float 0], [.ref 118, .ref 127], (h.1, I132, J133, h.2.2.2))) rfl ?_
            refine hk_geti (v := sd) rfl (hH.1 118 (17, 105) rfl) rfl (show (I132) 118 19 = _ from ((e8_I132 19 rfl).trans ((hk_neq (by decide)).trans ((hk_neq (by decide)).trans q_sd)))) ?_
            refine qm_Ru.go 1 (c' := (307, [.ref 118, .int v1, .int v134, .float 0], [.int v134, .int sd, .ref 127], (h.1, I132, J133, h.2.2.2))) rfl ?_
            refine hk_ias rfl (hH.1 127 (0, 2) rfl) (by omega) (by omega) ?_
            refine qm_Ru.go 3 (c' := (349, [.ref 118, .int v1, .int v134, .float 0], [.int 4, .ref 118], (h.1, qm_up I132 127 (sd.toInt.toNat) v134, J133, h.2.2.2))) rfl ?_
            refine hk_inv (o := 118) (r := []) (as := [.ref 118, .int 4]) rfl rfl (hH.1 118 (17, 105) rfl) rfl rfl rfl rfl ?_
            refine qm_Ru.go 2 (c' := (2, [.ref 118, .int 4], [.int 4, .ref 118], (h.1, qm_up I132 127 (sd.toInt.toNat) v134, J133, h.2.2.2))) rfl ?_
            refine hk_inv (o := 118) (r := []) (as := [.ref 118, .int 4]) rfl rfl (hH.1 118 (17, 105) rfl) rfl rfl rfl rfl ?_
            refine qm_Ru.go 1 (c' := (1, [.ref 118, .int 4], [.ref 118], (h.1, qm_up I132 127 (sd.toInt.toNat) v134, J133, h.2.2.2))) rfl ?_
            refine hk_geti (v := f136) rfl (hH.1 118 (17, 105) rfl) rfl (show (qm_up I132 127 (sd.toInt.toNat) v134) 118 13 = _ from ((hk_ot rfl).trans q_f136)) ?_
            refine qm_Ru.go 0 (c' := (4, [.ref 118, .int 4], [.int f136], (h.1, qm_up I132 127 (sd.toInt.toNat) v134, J133, h.2.2.2))) rfl ?_
            refine hk_zne (ix := f136.toInt) rfl rfl (fun z138 => ?_) (fun z138 => ?_)
            · refine qm_Ru.go 1 (c' := (25, [.ref 118, .int 4], [.int 0], (h.1, qm_up I132 127 (sd.toInt.toNat) v134, J133, h.2.2.2))) rfl ?_
              refine qm_Ru.rt (v := (some (.int 0))) (h' := (h.1, qm_up I132 127 (sd.toInt.toNat) v134, J133, h.2.2.2)) rfl ?_
              refine qm_Ru.go 3 (c' := (17, [.ref 118, .int 4], [.int 1, .ref 118], (h.1, qm_up I132 127 (sd.toInt.toNat) v134, J133, h.2.2.2))) rfl ?_
              refine hk_inv (o := 118) (r := []) (as := [.ref 118, .int 1]) rfl rfl (hH.1 118 (17, 105) rfl) rfl rfl rfl rfl ?_
              refine qm_Ru.go 1 (c' := (1, [.ref 118, .int 1], [.ref 118], (h.1, qm_up I132 127 (sd.toInt.toNat) v134, J133, h.2.2.2))) rfl ?_
              refine hk_geti (v := f136) rfl (hH.1 118 (17, 105) rfl) rfl (show (qm_up I132 127 (sd.toInt.toNat) v134) 118 13 = _ from ((hk_ot rfl).trans q_f136)) ?_
              refine qm_Ru.go 0 (c' := (4, [.ref 118, .int 1], [.int f136], (h.1, qm_up I132 127 (sd.toInt.toNat) v134, J133, h.2.2.2))) rfl ?_
              refine hk_zle (ix := f136.toInt) rfl rfl (fun z139 => by exfalso; omega) (fun z139 => ?_)
              refine qm_Ru.go 0 (c' := (7, [.ref 118, .int 1], [], (h.1, qm_up I132 127 (sd.toInt.toNat) v134, J133, h.2.2.2))) rfl ?_
              refine qm_Ru.rt (v := none) (h' := (h.1, qm_up I132 127 (sd.toInt.toNat) v134, J133, h.2.2.2)) rfl ?_
              refine qm_Ru.go 0 (c' := (20, [.ref 118, .int 4], [], (h.1, qm_up I132 127 (sd.toInt.toNat) v134, J133, h.2.2.2))) rfl ?_
              refine qm_Ru.rt (v := none) (h' := (h.1, qm_up I132 127 (sd.toInt.toNat) v134, J133, h.2.2.2)) rfl ?_
              refine qm_Ru.go 0 (c' := (352, [.ref 118, .int v1, .int v134, .float 0], [], (h.1, qm_up I132 127 (sd.toInt.toNat) v134, J133, h.2.2.2))) rfl ?_
              refine qm_Ru.rt (v := none) (h' := (h.1, qm_up I132 127 (sd.toInt.toNat) v134, J133, h.2.2.2)) rfl ?_
              have s131_y140 : ∀ i, (qm_up I132 127 (sd.toInt.toNat) v134) 131 i = h.2.1 131 i := fun i => ((hk_ot rfl).trans ((e_I132 131 rfl i).trans ((hk_ot rfl).trans ((hk_ot rfl).trans rfl))))
              have s132_y140 : ∀ i, (qm_up I132 127 (sd.toInt.toNat) v134) 132 i = h.2.1 132 i := fun i => ((hk_ot rfl).trans ((e_I132 132 rfl i).trans ((hk_ot rfl).trans ((hk_ot rfl).trans rfl))))
              have s133_y140 : ∀ i, (qm_up I132 127 (sd.toInt.toNat) v134) 133 i = h.2.1 133 i := fun i => ((hk_ot rfl).trans ((e_I132 133 rfl i).trans ((hk_ot rfl).trans ((hk_ot rfl).trans rfl))))
              have s134_y140 : ∀ i, (qm_up I132 127 (sd.toInt.toNat) v134) 134 i = h.2.1 134 i := fun i => ((hk_ot rfl).trans ((e_I132 134 rfl i).trans ((hk_ot rfl).trans ((hk_ot rfl).trans rfl))))
              have s138_y140 : ∀ i, (qm_up I132 127 (sd.toInt.toNat) v134) 138 i = h.2.1 138 i := fun i => ((hk_ot rfl).trans ((e_I132 138 rfl i).trans ((hk_ot rfl).trans ((hk_ot rfl).trans rfl))))
              have s139_y140 : ∀ i, (qm_up I132 127 (sd.toInt.toNat) v134) 139 i = h.2.1 139 i := fun i => ((hk_ot rfl).trans ((e_I132 139 rfl i).trans ((hk_ot rfl).trans ((hk_ot rfl).trans rfl))))
              have s140_y140 : ∀ i, (qm_up I132 127 (sd.toInt.toNat) v134) 140 i = h.2.1 140 i := fun i => ((hk_ot rfl).trans ((e_I132 140 rfl i).trans ((hk_ot rfl).trans ((hk_ot rfl).trans rfl))))
              have s141_y140 : ∀ i, (qm_up I132 127 (sd.toInt.toNat) v134) 141 i = h.2.1 141 i := fun i => ((hk_ot rfl).trans ((e_I132 141 rfl i).trans ((hk_ot rfl).trans ((hk_ot rfl).trans rfl))))
              have s142_y140 : ∀ i, (qm_up I132 127 (sd.toInt.toNat) v134) 142 i = h.2.1 142 i := fun i => ((hk_ot rfl).trans ((e_I132 142 rfl i).trans ((hk_ot rfl).trans ((hk_ot rfl).trans rfl))))
              have td_y140 : td (sd.toInt.toNat) h.2.1 (qm_up I132 127 (sd.toInt.toNat) v134) := ⟨fun i _ => ⟨s141_y140 i, s142_y140 i⟩, fun i _ => ⟨s138_y140 i, s139_y140 i, s140_y140 i⟩, fun i _ => ⟨s133_y140 i, s134_y140 i⟩, fun i _ => ⟨s131_y140 i, s132_y140 i⟩⟩
              exact k (qm_up I132 127 (sd.toInt.toNat) v134) (J133) t135 f136 ca bs la nm pr pp (hb_up (o := 127) (k := sd.toInt.toNat) (x := v134) hB_I132 ⟨by show (0 : Int) ≤ v134.toInt; omega, by show v134.toInt ≤ (5 : Int); omega⟩) (fun o ho i => ((hk_mod ho rfl).trans ((e_I132 o (hk_ms rfl ho) i).trans ((hk_mod ho rfl).trans ((hk_mod ho rfl).trans rfl))))) (fun i hi => ((hk_ot rfl).trans ((e8_I132 i (hk_ms rfl hi)).trans ((hk_neq (fun z => by subst z; cases hi)).trans ((hk_neq (fun z => by subst z; cases hi)).trans rfl))))) (show (qm_up I132 127 (sd.toInt.toNat) v134) 118 11 = _ from ((hk_ot rfl).trans q_t135)) (show (qm_up I132 127 (sd.toInt.toNat) v134) 118 13 = _ from ((hk_ot rfl).trans q_f136)) (show (qm_up I132 127 (sd.toInt.toNat) v134) 118 37 = _ from ((hk_ot rfl).trans ((e8_I132 37 rfl).trans ((hk_neq (by decide)).trans ((hk_neq (by decide)).trans q_ca))))) (show (qm_up I132 127 (sd.toInt.toNat) v134) 118 12 = _ from ((hk_ot rfl).trans ((e8_I132 12 rfl).trans ((hk_neq (by decide)).trans ((hk_neq (by decide)).trans q_bs))))) (show (qm_up I132 127 (sd.toInt.toNat) v134) 118 30 = _ from ((hk_ot rfl).trans ((e8_I132 30 rfl).trans ((hk_neq (by decide)).trans ((hk_neq (by decide)).trans q_la))))) (show (qm_up I132 127 (sd.toInt.toNat) v134) 118 20 = _ from ((hk_ot rfl).trans ((e8_I132 20 rfl).trans ((hk_neq (by decide)).trans ((hk_neq (by decide)).trans q_nm))))) (show (qm_up I132 127 (sd.toInt.toNat) v134) 131 (sd.toInt.toNat) = _ from ((hk_ot rfl).trans ((e_I132 131 rfl (sd.toInt.toNat)).trans ((hk_ot rfl).trans ((hk_ot rfl).trans q_pr))))) (show (qm_up I132 127 (sd.toInt.toNat) v134) 132 (sd.toInt.toNat) = _ from ((hk_ot rfl).trans ((e_I132 132 rfl (sd.toInt.toNat)).trans ((hk_ot rfl).trans ((hk_ot rfl).trans q_pp))))) (by omega) (fun z => by omega) td_y140 (fun z => rs_sm hrs s133_y140 s134_y140 s138_y140 s139_y140 s140_y140 s141_y140 s142_y140 (by omega))
            · refine qm_Ru.go 1 (c' := (8, [.ref 118, .int 4], [.ref 118], (h.1, qm_up I132 127 (sd.toInt.toNat) v134, J133, h.2.2.2))) rfl ?_
              refine hk_getr rfl (hH.1 118 (17, 105) rfl) rfl (hH.2 118 5 (some 121) rfl) ?_
              refine qm_Ru.go 1 (c' := (12, [.ref 118, .int 4], [.ref 118, .ref 121], (h.1, qm_up I132 127 (sd.toInt.toNat) v134, J133, h.2.2.2))) rfl ?_
              refine hk_geti (v := t135) rfl (hH.1 118 (17, 105) rfl) rfl (show (qm_up I132 127 (sd.toInt.toNat) v134) 118 11 = _ from ((hk_ot rfl).trans q_t135)) ?_
              refine qm_Ru.go 0 (c' := (15, [.ref 118, .int 4], [.int t135, .ref 121], (h.1, qm_up I132 127 (sd.toInt.toNat) v134, J133, h.2.2.2))) rfl ?_
              obtain ⟨v141, q_v141⟩ : ∃ v, h.2.1 121 (t135.toInt.toNat) = v := ⟨_, rfl⟩
              have b_v141 : (0 : Int) ≤ v141.toInt ∧ v141.toInt ≤ 44 := by rw [← q_v141]; exact hB 121 (t135.toInt.toNat)
              refine hk_ial (v := v141) rfl (hH.1 121 (0, 403) rfl) (by omega) (by omega) (show (qm_up I132 127 (sd.toInt.toNat) v134) 121 (t135.toInt.toNat) = _ from ((hk_ot rfl).trans ((e_I132 121 rfl (t135.toInt.toNat)).trans ((hk_ot rfl).trans ((hk_ot rfl).trans q_v141))))) ?_
              refine qm_Ru.go 1 (c' := (17, [.ref 118, .int 4], [.int 4, .int v141], (h.1, qm_up I132 127 (sd.toInt.toNat) v134, J133, h.2.2.2))) rfl ?_
              refine hk_cne (ix := v141.toInt) (iy := 4) rfl rfl rfl (fun z142 => ?_) (fun z142 => ?_)
              · refine qm_Ru.go 1 (c' := (25, [.ref 118, .int 4], [.int 0], (h.1, qm_up I132 127 (sd.toInt.toNat) v134, J133, h.2.2.2))) rfl ?_
                refine qm_Ru.rt (v := (some (.int 0))) (h' := (h.1, qm_up I132 127 (sd.toInt.toNat) v134, J133, h.2.2.2)) rfl ?_
                refine qm_Ru.go 3 (c' := (17, [.ref 118, .int 4], [.int 1, .ref 118], (h.1, qm_up I132 127 (sd.toInt.toNat) v134, J133, h.2.2.2))) rfl ?_
                refine hk_inv (o := 118) (r := []) (as := [.ref 118, .int 1]) rfl rfl (hH.1 118 (17, 105) rfl) rfl rfl rfl rfl ?_
                refine qm_Ru.go 1 (c' := (1, [.ref 118, .int 1], [.ref 118], (h.1, qm_up I132 127 (sd.toInt.toNat) v134, J133, h.2.2.2))) rfl ?_
                refine hk_geti (v := f136) rfl (hH.1 118 (17, 105) rfl) rfl (show (qm_up I132 127 (sd.toInt.toNat) v134) 118 13 = _ from ((hk_ot rfl).trans q_f136)) ?_
                refine qm_Ru.go 0 (c' := (4, [.ref 118, .int 1], [.int f136], (h.1, qm_up I132 127 (sd.toInt.toNat) v134, J133, h.2.2.2))) rfl ?_
                refine hk_zle (ix := f136.toInt) rfl rfl (fun z143 => ?_) (fun z143 => by exfalso; omega)
                refine qm_Ru.go 2 (c' := (10, [.ref 118, .int 1], [.int 1, .ref 118], (h.1, qm_up I132 127 (sd.toInt.toNat) v134, J133, h.2.2.2))) rfl ?_
                refine hk_puti rfl (hH.1 118 (17, 105) rfl) rfl ?_
                refine qm_Ru.go 2 (c' := (15, [.ref 118, .int 1], [.ref 118, .ref 118], (h.1, qm_up (qm_up I132 127 (sd.toInt.toNat) v134) 118 13 1, J133, h.2.2.2))) rfl ?_
                refine hk_getr rfl (hH.1 118 (17, 105) rfl) rfl (hH.2 118 6 (some 122) rfl) ?_
                refine qm_Ru.go 1 (c' := (19, [.ref 118, .int 1], [.ref 118, .ref 122, .ref 118], (h.1, qm_up (qm_up I132 127 (sd.toInt.toNat) v134) 118 13 1, J133, h.2.2.2))) rfl ?_
                refine hk_geti (v := t135) rfl (hH.1 118 (17, 105) rfl) rfl (show (qm_up (qm_up I132 127 (sd.toInt.toNat) v134) 118 13 1) 118 11 = _ from ((hk_neq (by decide)).trans ((hk_ot rfl).trans q_t135))) ?_
                refine qm_Ru.go 0 (c' := (22, [.ref 118, .int 1], [.int t135, .ref 122, .ref 118], (h.1, qm_up (qm_up I132 127 (sd.toInt.toNat) v134) 118 13 1, J133, h.2.2.2))) rfl ?_
                obtain ⟨v144, q_v144⟩ : ∃ v, h.2.1 122 (t135.toInt.toNat) = v := ⟨_, rfl⟩
                refine hk_ial (v := v144) rfl (hH.1 122 (0, 403) rfl) (by omega) (by omega) (show (qm_up (qm_up I132 127 (sd.toInt.toNat) v134) 118 13 1) 122 (t135.toInt.toNat) = _ from ((hk_ot rfl).trans ((hk_ot rfl).trans ((e_I132 122 rfl (t135.toInt.toNat)).trans ((hk_ot rfl).trans ((hk_ot rfl).trans q_v144)))))) ?_
                refine qm_Ru.go 0 (c' := (23, [.ref 118, .int 1], [.int v144, .ref 118], (h.1, qm_up (qm_up I132 127 (sd.toInt.toNat) v134) 118 13 1, J133, h.2.2.2))) rfl ?_
                refine hk_puti rfl (hH.1 118 (17, 105) rfl) rfl ?_
                refine qm_Ru.go 0 (c' := (26, [.ref 118, .int 1], [], (h.1, qm_up (qm_up (qm_up I132 127 (sd.toInt.toNat) v134) 118 13 1) 118 14 v144, J133, h.2.2.2))) rfl ?_
                refine qm_Ru.rt (v := none) (h' := (h.1, qm_up (qm_up (qm_up I132 127 (sd.toInt.toNat) v134) 118 13 1) 118 14 v144, J133, h.2.2.2)) rfl ?_
                refine qm_Ru.go 0 (c' := (20, [.ref 118, .int 4], [], (h.1, qm_up (qm_up (qm_up I132 127 (sd.toInt.toNat) v134) 118 13 1) 118 14 v144, J133, h.2.2.2))) rfl ?_
                refine qm_Ru.rt (v := none) (h' := (h.1, qm_up (qm_up (qm_up I132 127 (sd.toInt.toNat) v134) 118 13 1) 118 14 v144, J133, h.2.2.2)) rfl ?_
                refine qm_Ru.go 0 (c' := (352, [.ref 118, .int v1, .int v134, .float 0], [], (h.1, qm_up (qm_up (qm_up I132 127 (sd.toInt.toNat) v134) 118 13 1) 118 14 v144, J133, h.2.2.2))) rfl ?_
                refine qm_Ru.rt (v := none) (h' := (h.1, qm_up (qm_up (qm_up I132 127 (sd.toInt.toNat) v134) 118 13 1) 118 14 v144, J133, h.2.2.2)) rfl ?_
                have s131_y145 : ∀ i, (qm_up (qm_up (qm_up I132 127 (sd.toInt.toNat) v134) 118 13 1) 118 14 v144) 131 i = h.2.1 131 i := fun i => ((hk_ot rfl).trans ((hk_ot rfl).trans ((hk_ot rfl).trans ((e_I132 131 rfl i).trans ((hk_ot rfl).trans ((hk_ot rfl).trans rfl))))))
                have s132_y145 : ∀ i, (qm_up (qm_up (qm_up I132 127 (sd.toInt.toNat) v134) 118 13 1) 118 14 v144) 132 i = h.2.1 132 i := fun i => ((hk_ot rfl).trans ((hk_ot rfl).trans ((hk_ot rfl).trans ((e_I132 132 rfl i).trans ((hk_ot rfl).trans ((hk_ot rfl).trans rfl))))))
                have s133_y145 : ∀ i, (qm_up (qm_up (qm_up I132 127 (sd.toInt.toNat) v134) 118 13 1) 118 14 v144) 133 i = h.2.1 133 i := fun i => ((hk_ot rfl).trans ((hk_ot rfl).trans ((hk_ot rfl).trans ((e_I132 133 rfl i).trans ((hk_ot rfl).trans ((hk_ot rfl).trans rfl))))))
                have s134_y145 : ∀ i, (qm_up (qm_up (qm_up I132 127 (sd.toInt.toNat) v134) 118 13 1) 118 14 v144) 134 i = h.2.1 134 i := fun i => ((hk_ot rfl).trans ((hk_ot rfl).trans ((hk_ot rfl).trans ((e_I132 134 rfl i).trans ((hk_ot rfl).trans ((hk_ot rfl).trans rfl))))))
                have s138_y145 : ∀ i, (qm_up (qm_up (qm_up I132 127 (sd.toInt.toNat) v134) 118 13 1) 118 14 v144) 138 i = h.2.1 138 i := fun i => ((hk_ot rfl).trans ((hk_ot rfl).trans ((hk_ot rfl).trans ((e_I132 138 rfl i).trans ((hk_ot rfl).trans ((hk_ot rfl).trans rfl))))))
                have s139_y145 : ∀ i, (qm_up (qm_up (qm_up I132 127 (sd.toInt.toNat) v134) 118 13 1) 118 14 v144) 139 i = h.2.1 139 i := fun i => ((hk_ot rfl).trans ((hk_ot rfl).trans ((hk_ot rfl).trans ((e_I132 139 rfl i).trans ((hk_ot rfl).trans ((hk_ot rfl).trans rfl))))))
                have s140_y145 : ∀ i, (qm_up (qm_up (qm_up I132 127 (sd.toInt.toNat) v134) 118 13 1) 118 14 v144) 140 i = h.2.1 140 i := fun i => ((hk_ot rfl).trans ((hk_ot rfl).trans ((hk_ot rfl).trans ((e_I132 140 rfl i).trans ((hk_ot rfl).trans ((hk_ot rfl).trans rfl))))))
                have s141_y145 : ∀ i, (qm_up (qm_up (qm_up I132 127 (sd.toInt.toNat) v134) 118 13 1) 118 14 v144) 141 i = h.2.1 141 i := fun i => ((hk_ot rfl).trans ((hk_ot rfl).trans ((hk_ot rfl).trans ((e_I132 141 rfl i).trans ((hk_ot rfl).trans ((hk_ot rfl).trans rfl))))))
                have s142_y145 : ∀ i, (qm_up (qm_up (qm_up I132 127 (sd.toInt.toNat) v134) 118 13 1) 118 14 v144) 142 i = h.2.1 142 i := fun i => ((hk_ot rfl).trans ((hk_ot rfl).trans ((hk_ot rfl).trans ((e_I132 142 rfl i).trans ((hk_ot rfl).trans ((hk_ot rfl).trans rfl))))))
                have td_y145 : td (sd.toInt.toNat) h.2.1 (qm_up (qm_up (qm_up I132 127 (sd.toInt.toNat) v134) 118 13 1) 118 14 v144) := ⟨fun i _ => ⟨s141_y145 i, s142_y145 i⟩, fun i _ => ⟨s138_y145 i, s139_y145 i, s140_y145 i⟩, fun i _ => ⟨s133_y145 i, s134_y145 i⟩, fun i _ => ⟨s131_y145 i, s132_y145 i⟩⟩
                exact k (qm_up (qm_up (qm_up I132 127 (sd.toInt.toNat) v134) 118 13 1) 118 14 v144) (J133) t135 1 ca bs la nm pr pp (hb_up (o := 118) (k := 14) (x := v144) (hb_up (o := 118) (k := 13) (x := 1) (hb_up (o := 127) (k := sd.toInt.toNat) (x := v134) hB_I132 ⟨by show (0 : Int) ≤ v134.toInt; omega, by show v134.toInt ≤ (5 : Int); omega⟩) (qa_in_full _)) (qa_in_full _)) (fun o ho i => ((hk_mod ho rfl).trans ((hk_mod ho rfl).trans ((hk_mod ho rfl).trans ((e_I132 o (hk_ms rfl ho) i).trans ((hk_mod ho rfl).trans ((hk_mod ho rfl).trans rfl))))))) (fun i hi => ((hk_neq (fun z => by subst z; cases hi)).trans ((hk_neq (fun z => by subst z; cases hi)).trans ((hk_ot rfl).trans ((e8_I132 i (hk_ms rfl hi)).trans ((hk_neq (fun z => by subst z; cases hi)).trans ((hk_neq (fun z => by subst z; cases hi)).trans rfl))))))) (show (qm_up (qm_up (qm_up I132 127 (sd.toInt.toNat) v134) 118 13 1) 118 14 v144) 118 11 = _ from ((hk_neq (by decide)).trans ((hk_neq (by decide)).trans ((hk_ot rfl).trans q_t135)))) (show (qm_up (qm_up (qm_up I132 127 (sd.toInt.toNat) v134) 118 13 1) 118 14 v144) 118 13 = _ from ((hk_neq (by decide)).trans (hk_same))) (show (qm_up (qm_up (qm_up I132 127 (sd.toInt.toNat) v134) 118 13 1) 118 14 v144) 118 37 = _ from ((hk_neq (by decide)).trans ((hk_neq (by decide)).trans ((hk_ot rfl).trans ((e8_I132 37 rfl).trans ((hk_neq (by decide)).trans ((hk_neq (by decide)).trans q_ca))))))) (show (qm_up (qm_up (qm_up I132 127 (sd.toInt.toNat) v134) 118 13 1) 118 14 v144) 118 12 = _ from ((hk_neq (by decide)).trans ((hk_neq (by decide)).trans ((hk_ot rfl).trans ((e8_I132 12 rfl).trans ((hk_neq (by decide)).trans ((hk_neq (by decide)).trans q_bs))))))) (show (qm_up (qm_up (qm_up I132 127 (sd.toInt.toNat) v134) 118 13 1) 118 14 v144) 118 30 = _ from ((hk_neq (by decide)).trans ((hk_neq (by decide)).trans ((hk_ot rfl).trans ((e8_I132 30 rfl).trans ((hk_neq (by decide)).trans ((hk_neq (by decide)).trans q_la))))))) (show (qm_up (qm_up (qm_up I132 127 (sd.toInt.toNat) v134) 118 13 1) 118 14 v144) 118 20 = _ from ((hk_neq (by decide)).trans ((hk_neq (by decide)).trans ((hk_ot rfl).trans ((e8_I132 20 rfl).trans ((hk_neq (by decide)).trans ((hk_neq (by decide)).trans q_nm))))))) (show (qm_up (qm_up (qm_up I132 127 (sd.toInt.toNat) v134) 118 13 1) 118 14 v144) 131 (sd.toInt.toNat) = _ from ((hk_ot rfl).trans ((hk_ot rfl).trans ((hk_ot rfl).trans ((e_I132 131 rfl (sd.toInt.toNat)).trans ((hk_ot rfl).trans ((hk_ot rfl).trans q_pr))))))) (show (qm_up (qm_up (qm_up I132 127 (sd.toInt.toNat) v134) 118 13 1) 118 14 v144) 132 (sd.toInt.toNat) = _ from ((hk_ot rfl).trans ((hk_ot rfl).trans ((hk_ot rfl).trans ((e_I132 132 rfl (sd.toInt.toNat)).trans ((hk_ot rfl).trans ((hk_ot rfl).trans q_pp))))))) (by omega) (fun z => by omega) td_y145 (fun z => rs_sm hrs s133_y145 s134_y145 s138_y145 s139_y145 s140_y145 s141_y145 s142_y145 (by omega))
              · refine qm_Ru.go 2 (c' := (25, [.ref 118, .int 4], [.int 1], (h.1, qm_up I132 127 (sd.toInt.toNat) v134, J133, h.2.2.2))) rfl ?_
                refine qm_Ru.rt (v := (some (.int 1))) (h' := (h.1, qm_up I132 127 (sd.toInt.toNat) v134, J133, h.2.2.2)) rfl ?_
                refine qm_Ru.go 2 (c' := (9, [.ref 118, .int 4], [.ref 118], (h.1, qm_up I132 127 (sd.toInt.toNat) v134, J133, h.2.2.2))) rfl ?_
                refine hk_inv (o := 118) (r := []) (as := [.ref 118]) rfl rfl (hH.1 118 (17, 105) rfl) rfl rfl rfl rfl ?_
                refine qm_Ru.go 1 (c' := (1, [.ref 118], [.ref 118], (h.1, qm_up I132 127 (sd.toInt.toNat) v134, J133, h.2.2.2))) rfl ?_
                refine hk_geti (v := t135) rfl (hH.1 118 (17, 105) rfl) rfl (show (qm_up I132 127 (sd.toInt.toNat) v134) 118 11 = _ from ((hk_ot rfl).trans q_t135)) ?_
                refine qm_Ru.go 1 (c' := (7, [.ref 118], [.int 400, .int t135], (h.1, qm_up I132 127 (sd.toInt.toNat) v134, J133, h.2.2.2))) rfl ?_
                refine hk_cne (ix := t135.toInt) (iy := 400) rfl rfl rfl (fun z146 => ?_) (fun z146 => ?_)
                · refine qm_Ru.go 2 (c' := (20, [.ref 118], [.ref 118, .ref 118], (h.1, qm_up I132 127 (sd.toInt.toNat) v134, J133, h.2.2.2))) rfl ?_
                  refine hk_geti (v := t135) rfl (hH.1 118 (17, 105) rfl) rfl (show (qm_up I132 127 (sd.toInt.toNat) v134) 118 11 = _ from ((hk_ot rfl).trans q_t135)) ?_
                  refine qm_Ru.go 2 (c' := (25, [.ref 118], [.int (t135 + 1), .ref 118], (h.1, qm_up I132 127 (sd.toInt.toNat) v134, J133, h.2.2.2))) rfl ?_
                  obtain ⟨v147, q_v147, e_v147⟩ := hk_add (x := t135) (y := 1) (a := t135.toInt) (b := 1) rfl rfl (by omega) (by omega)
                  rw [q_v147]
                  refine hk_puti rfl (hH.1 118 (17, 105) rfl) rfl ?_
                  refine qm_Ru.go 0 (c' := (28, [.ref 118], [], (h.1, qm_up (qm_up I132 127 (sd.toInt.toNat) v134) 118 11 v147, J133, h.2.2.2))) rfl ?_
                  refine qm_Ru.rt (v := none) (h' := (h.1, qm_up (qm_up I132 127 (sd.toInt.toNat) v134) 118 11 v147, J133, h.2.2.2)) rfl ?_
                  refine qm_Ru.go 1 (c' := (20, [.ref 118, .int 4], [], (h.1, qm_up (qm_up I132 127 (sd.toInt.toNat) v134) 118 11 v147, J133, h.2.2.2))) rfl ?_
                  refine qm_Ru.rt (v := none) (h' := (h.1, qm_up (qm_up I132 127 (sd.toInt.toNat) v134) 118 11 v147, J133, h.2.2.2)) rfl ?_
                  refine qm_Ru.go 0 (c' := (352, [.ref 118, .int v1, .int v134, .float 0], [], (h.1, qm_up (qm_up I132 127 (sd.toInt.toNat) v134) 118 11 v147, J133, h.2.2.2))) rfl ?_
                  refine qm_Ru.rt (v := none) (h' := (h.1, qm_up (qm_up I132 127 (sd.toInt.toNat) v134) 118 11 v147, J133, h.2.2.2)) rfl ?_
                  have s131_y148 : ∀ i, (qm_up (qm_up I132 127 (sd.toInt.toNat) v134) 118 11 v147) 131 i = h.2.1 131 i := fun i => ((hk_ot rfl).trans ((hk_ot rfl).trans ((e_I132 131 rfl i).trans ((hk_ot rfl).trans ((hk_ot rfl).trans rfl)))))
                  have s132_y148 : ∀ i, (qm_up (qm_up I132 127 (sd.toInt.toNat) v134) 118 11 v147) 132 i = h.2.1 132 i := fun i => ((hk_ot rfl).trans ((hk_ot rfl).trans ((e_I132 132 rfl i).trans ((hk_ot rfl).trans ((hk_ot rfl).trans rfl)))))
                  have s133_y148 : ∀ i, (qm_up (qm_up I132 127 (sd.toInt.toNat) v134) 118 11 v147) 133 i = h.2.1 133 i := fun i => ((hk_ot rfl).trans ((hk_ot rfl).trans ((e_I132 133 rfl i).trans ((hk_ot rfl).trans ((hk_ot rfl).trans rfl)))))
                  have s134_y148 : ∀ i, (qm_up (qm_up I132 127 (sd.toInt.toNat) v134) 118 11 v147) 134 i = h.2.1 134 i := fun i => ((hk_ot rfl).trans ((hk_ot rfl).trans ((e_I132 134 rfl i).trans ((hk_ot rfl).trans ((hk_ot rfl).trans rfl)))))
                  have s138_y148 : ∀ i, (qm_up (qm_up I132 127 (sd.toInt.toNat) v134) 118 11 v147) 138 i = h.2.1 138 i := fun i => ((hk_ot rfl).trans ((hk_ot rfl).trans ((e_I132 138 rfl i).trans ((hk_ot rfl).trans ((hk_ot rfl).trans rfl)))))
                  have s139_y148 : ∀ i, (qm_up (qm_up I132 127 (sd.toInt.toNat) v134) 118 11 v147) 139 i = h.2.1 139 i := fun i => ((hk_ot rfl).trans ((hk_ot rfl).trans ((e_I132 139 rfl i).trans ((hk_ot rfl).trans ((hk_ot rfl).trans rfl)))))
                  have s140_y148 : ∀ i, (qm_up (qm_up I132 127 (sd.toInt.toNat) v134) 118 11 v147) 140 i = h.2.1 140 i := fun i => ((hk_ot rfl).trans ((hk_ot rfl).trans ((e_I132 140 rfl i).trans ((hk_ot rfl).trans ((hk_ot rfl).trans rfl)))))
                  have s141_y148 : ∀ i, (qm_up (qm_up I132 127 (sd.toInt.toNat) v134) 118 11 v147) 141 i = h.2.1 141 i := fun i => ((hk_ot rfl).trans ((hk_ot rfl).trans ((e_I132 141 rfl i).trans ((hk_ot rfl).trans ((hk_ot rfl).trans rfl)))))
                  have s142_y148 : ∀ i, (qm_up (qm_up I132 127 (sd.toInt.toNat) v134) 118 11 v147) 142 i = h.2.1 142 i := fun i => ((hk_ot rfl).trans ((hk_ot rfl).trans ((e_I132 142 rfl i).trans ((hk_ot rfl).trans ((hk_ot rfl).trans rfl)))))
                  have td_y148 : td (sd.toInt.toNat) h.2.1 (qm_up (qm_up I132 127 (sd.toInt.toNat) v134) 118 11 v147) := ⟨fun i _ => ⟨s141_y148 i, s142_y148 i⟩, fun i _ => ⟨s138_y148 i, s139_y148 i, s140_y148 i⟩, fun i _ => ⟨s133_y148 i, s134_y148 i⟩, fun i _ => ⟨s131_y148 i, s132_y148 i⟩⟩
                  exact k (qm_up (qm_up I132 127 (sd.toInt.toNat) v134) 118 11 v147) (J133) v147 f136 ca bs la nm pr pp (hb_up (o := 118) (k := 11) (x := v147) (hb_up (o := 127) (k := sd.toInt.toNat) (x := v134) hB_I132 ⟨by show (0 : Int) ≤ v134.toInt; omega, by show v134.toInt ≤ (5 : Int); omega⟩) ⟨by show (0 : Int) ≤ v147.toInt; omega, by show v147.toInt ≤ (400 : Int); omega⟩) (fun o ho i => ((hk_mod ho rfl).trans ((hk_mod ho rfl).trans ((e_I132 o (hk_ms rfl ho) i).trans ((hk_mod ho rfl).trans ((hk_mod ho rfl).trans rfl)))))) (fun i hi => ((hk_neq (fun z => by subst z; cases hi)).trans ((hk_ot rfl).trans ((e8_I132 i (hk_ms rfl hi)).trans ((hk_neq (fun z => by subst z; cases hi)).trans ((hk_neq (fun z => by subst z; cases hi)).trans rfl)))))) (show (qm_up (qm_up I132 127 (sd.toInt.toNat) v134) 118 11 v147) 118 11 = _ from (hk_same)) (show (qm_up (qm_up I132 127 (sd.toInt.toNat) v134) 118 11 v147) 118 13 = _ from ((hk_neq (by decide)).trans ((hk_ot rfl).trans q_f136))) (show (qm_up (qm_up I132 127 (sd.toInt.toNat) v134) 118 11 v147) 118 37 = _ from ((hk_neq (by decide)).trans ((hk_ot rfl).trans ((e8_I132 37 rfl).trans ((hk_neq (by decide)).trans ((hk_neq (by decide)).trans q_ca)))))) (show (qm_up (qm_up I132 127 (sd.toInt.toNat) v134) 118 11 v147) 118 12 = _ from ((hk_neq (by decide)).trans ((hk_ot rfl).trans ((e8_I132 12 rfl).trans ((hk_neq (by decide)).trans ((hk_neq (by decide)).trans q_bs)))))) (show (qm_up (qm_up I132 127 (sd.toInt.toNat) v134) 118 11 v147) 118 30 = _ from ((hk_neq (by decide)).trans ((hk_ot rfl).trans ((e8_I132 30 rfl).trans ((hk_neq (by decide)).trans ((hk_neq (by decide)).trans q_la)))))) (show (qm_up (qm_up I132 127 (sd.toInt.toNat) v134) 118 11 v147) 118 20 = _ from ((hk_neq (by decide)).trans ((hk_ot rfl).trans ((e8_I132 20 rfl).trans ((hk_neq (by decide)).trans ((hk_neq (by decide)).trans q_nm)))))) (show (qm_up (qm_up I132 127 (sd.toInt.toNat) v134) 118 11 v147) 131 (sd.toInt.toNat) = _ from ((hk_ot rfl).trans ((hk_ot rfl).trans ((e_I132 131 rfl (sd.toInt.toNat)).trans ((hk_ot rfl).trans ((hk_ot rfl).trans q_pr)))))) (show (qm_up (qm_up I132 127 (sd.toInt.toNat) v134) 118 11 v147) 132 (sd.toInt.toNat) = _ from ((hk_ot rfl).trans ((hk_ot rfl).trans ((e_I132 132 rfl (sd.toInt.toNat)).trans ((hk_ot rfl).trans ((hk_ot rfl).trans q_pp)))))) (by omega) (fun z => by omega) td_y148 (fun z => rs_sm hrs s133_y148 s134_y148 s138_y148 s139_y148 s140_y148 s141_y148 s142_y148 (by omega))
                · refine qm_Ru.go 2 (c' := (12, [.ref 118], [.int 2, .ref 118], (h.1, qm_up I132 127 (sd.toInt.toNat) v134, J133, h.2.2.2))) rfl ?_
                  refine hk_inv (o := 118) (r := []) (as := [.ref 118, .int 2]) rfl rfl (hH.1 118 (17, 105) rfl) rfl rfl rfl rfl ?_
                  refine qm_Ru.go 1 (c' := (1, [.ref 118, .int 2], [.ref 118], (h.1, qm_up I132 127 (sd.toInt.toNat) v134, J133, h.2.2.2))) rfl ?_
                  refine hk_geti (v := f136) rfl (hH.1 118 (17, 105) rfl) rfl (show (qm_up I132 127 (sd.toInt.toNat) v134) 118 13 = _ from ((hk_ot rfl).trans q_f136)) ?_
                  refine qm_Ru.go 0 (c' := (4, [.ref 118, .int 2], [.int f136], (h.1, qm_up I132 127 (sd.toInt.toNat) v134, J133, h.2.2.2))) rfl ?_
                  refine hk_zle (ix := f136.toInt) rfl rfl (fun z149 => ?_) (fun z149 => by exfalso; omega)
                  refine qm_Ru.go 2 (c' := (10, [.ref 118, .int 2], [.int 2, .ref 118], (h.1, qm_up I132 127 (sd.toInt.toNat) v134, J133, h.2.2.2))) rfl ?_
                  refine hk_puti rfl (hH.1 118 (17, 105) rfl) rfl ?_
                  refine qm_Ru.go 2 (c' := (15, [.ref 118, .int 2], [.ref 118, .ref 118], (h.1, qm_up (qm_up I132 127 (sd.toInt.toNat) v134) 118 13 2, J133, h.2.2.2))) rfl ?_
                  refine hk_getr rfl (hH.1 118 (17, 105) rfl) rfl (hH.2 118 6 (some 122) rfl) ?_
                  refine qm_Ru.go 1 (c' := (19, [.ref 118, .int 2], [.ref 118, .ref 122, .ref 118], (h.1, qm_up (qm_up I132 127 (sd.toInt.toNat) v134) 118 13 2, J133, h.2.2.2))) rfl ?_
                  refine hk_geti (v := t135) rfl (hH.1 118 (17, 105) rfl) rfl (show (qm_up (qm_up I132 127 (sd.toInt.toNat) v134) 118 13 2) 118 11 = _ from ((hk_neq (by decide)).trans ((hk_ot rfl).trans q_t135))) ?_
                  refine qm_Ru.go 0 (c' := (22, [.ref 118, .int 2], [.int t135, .ref 122, .ref 118], (h.1, qm_up (qm_up I132 127 (sd.toInt.toNat) v134) 118 13 2, J133, h.2.2.2))) rfl ?_
                  obtain ⟨v150, q_v150⟩ : ∃ v, h.2.1 122 (t135.toInt.toNat) = v := ⟨_, rfl⟩
                  refine hk_ial (v := v150) rfl (hH.1 122 (0, 403) rfl) (by omega) (by omega) (show (qm_up (qm_up I132 127 (sd.toInt.toNat) v134) 118 13 2) 122 (t135.toInt.toNat) = _ from ((hk_ot rfl).trans ((hk_ot rfl).trans ((e_I132 122 rfl (t135.toInt.toNat)).trans ((hk_ot rfl).trans ((hk_ot rfl).trans q_v150)))))) ?_
                  refine qm_Ru.go 0 (c' := (23, [.ref 118, .int 2], [.int v150, .ref 118], (h.1, qm_up (qm_up I132 127 (sd.toInt.toNat) v134) 118 13 2, J133, h.2.2.2))) rfl ?_
                  refine hk_puti rfl (hH.1 118 (17, 105) rfl) rfl ?_
                  refine qm_Ru.go 0 (c' := (26, [.ref 118, .int 2], [], (h.1, qm_up (qm_up (qm_up I132 127 (sd.toInt.toNat) v134) 118 13 2) 118 14 v150, J133, h.2.2.2))) rfl ?_
                  refine qm_Ru.rt (v := none) (h' := (h.1, qm_up (qm_up (qm_up I132 127 (sd.toInt.toNat) v134) 118 13 2) 118 14 v150, J133, h.2.2.2)) rfl ?_
                  refine qm_Ru.go 1 (c' := (28, [.ref 118], [], (h.1, qm_up (qm_up (qm_up I132 127 (sd.toInt.toNat) v134) 118 13 2) 118 14 v150, J133, h.2.2.2))) rfl ?_
                  refine qm_Ru.rt (v := none) (h' := (h.1, qm_up (qm_up (qm_up I132 127 (sd.toInt.toNat) v134) 118 13 2) 118 14 v150, J133, h.2.2.2)) rfl ?_
                  refine qm_Ru.go 1 (c' := (20, [.ref 118, .int 4], [], (h.1, qm_up (qm_up (qm_up I132 127 (sd.toInt.toNat) v134) 118 13 2) 118 14 v150, J133, h.2.2.2))) rfl ?_
                  refine qm_Ru.rt (v := none) (h' := (h.1, qm_up (qm_up (qm_up I132 127 (sd.toInt.toNat) v134) 118 13 2) 118 14 v150, J133, h.2.2.2)) rfl ?_
                  refine qm_Ru.go 0 (c' := (352, [.ref 118, .int v1, .int v134, .float 0], [], (h.1, qm_up (qm_up (qm_up I132 127 (sd.toInt.toNat) v134) 118 13 2) 118 14 v150, J133, h.2.2.2))) rfl ?_
                  refine qm_Ru.rt (v := none) (h' := (h.1, qm_up (qm_up (qm_up I132 127 (sd.toInt.toNat) v134) 118 13 2) 118 14 v150, J133, h.2.2.2)) rfl ?_
                  have s131_y151 : ∀ i, (qm_up (qm_up (qm_up I132 127 (sd.toInt.toNat) v134) 118 13 2) 118 14 v150) 131 i = h.2.1 131 i := fun i => ((hk_ot rfl).trans ((hk_ot rfl).trans ((hk_ot rfl).trans ((e_I132 131 rfl i).trans ((hk_ot rfl).trans ((hk_ot rfl).trans rfl))))))
                  have s132_y151 : ∀ i, (qm_up (qm_up (qm_up I132 127 (sd.toInt.toNat) v134) 118 13 2) 118 14 v150) 132 i = h.2.1 132 i := fun i => ((hk_ot rfl).trans ((hk_ot rfl).trans ((hk_ot rfl).trans ((e_I132 132 rfl i).trans ((hk_ot rfl).trans ((hk_ot rfl).trans rfl))))))
                  have s133_y151 : ∀ i, (qm_up (qm_up (qm_up I132 127 (sd.toInt.toNat) v134) 118 13 2) 118 14 v150) 133 i = h.2.1 133 i := fun i => ((hk_ot rfl).trans ((hk_ot rfl).trans ((hk_ot rfl).trans ((e_I132 133 rfl i).trans ((hk_ot rfl).trans ((hk_ot rfl).trans rfl))))))
                  have s134_y151 : ∀ i, (qm_up (qm_up (qm_up I132 127 (sd.toInt.toNat) v134) 118 13 2) 118 14 v150) 134 i = h.2.1 134 i := fun i => ((hk_ot rfl).trans ((hk_ot rfl).trans ((hk_ot rfl).trans ((e_I132 134 rfl i).trans ((hk_ot rfl).trans ((hk_ot rfl).trans rfl))))))
                  have s138_y151 : ∀ i, (qm_up (qm_up (qm_up I132 127 (sd.toInt.toNat) v134) 118 13 2) 118 14 v150) 138 i = h.2.1 138 i := fun i => ((hk_ot rfl).trans ((hk_ot rfl).trans ((hk_ot rfl).trans ((e_I132 138 rfl i).trans ((hk_ot rfl).trans ((hk_ot rfl).trans rfl))))))
                  have s139_y151 : ∀ i, (qm_up (qm_up (qm_up I132 127 (sd.toInt.toNat) v134) 118 13 2) 118 14 v150) 139 i = h.2.1 139 i := fun i => ((hk_ot rfl).trans ((hk_ot rfl).trans ((hk_ot rfl).trans ((e_I132 139 rfl i).trans ((hk_ot rfl).trans ((hk_ot rfl).trans rfl))))))
                  have s140_y151 : ∀ i, (qm_up (qm_up (qm_up I132 127 (sd.toInt.toNat) v134) 118 13 2) 118 14 v150) 140 i = h.2.1 140 i := fun i => ((hk_ot rfl).trans ((hk_ot rfl).trans ((hk_ot rfl).trans ((e_I132 140 rfl i).trans ((hk_ot rfl).trans ((hk_ot rfl).trans rfl))))))
                  have s141_y151 : ∀ i, (qm_up (qm_up (qm_up I132 127 (sd.toInt.toNat) v134) 118 13 2) 118 14 v150) 141 i = h.2.1 141 i := fun i => ((hk_ot rfl).trans ((hk_ot rfl).trans ((hk_ot rfl).trans ((e_I132 141 rfl i).trans ((hk_ot rfl).trans ((hk_ot rfl).trans rfl))))))
                  have s142_y151 : ∀ i, (qm_up (qm_up (qm_up I132 127 (sd.toInt.toNat) v134) 118 13 2) 118 14 v150) 142 i = h.2.1 142 i := fun i => ((hk_ot rfl).trans ((hk_ot rfl).trans ((hk_ot rfl).trans ((e_I132 142 rfl i).trans ((hk_ot rfl).trans ((hk_ot rfl).trans rfl))))))
                  have td_y151 : td (sd.toInt.toNat) h.2.1 (qm_up (qm_up (qm_up I132 127 (sd.toInt.toNat) v134) 118 13 2) 118 14 v150) := ⟨fun i _ => ⟨s141_y151 i, s142_y151 i⟩, fun i _ => ⟨s138_y151 i, s139_y151 i, s140_y151 i⟩, fun i _ => ⟨s133_y151 i, s134_y151 i⟩, fun i _ => ⟨s131_y151 i, s132_y151 i⟩⟩
                  exact k (qm_up (qm_up (qm_up I132 127 (sd.toInt.toNat) v134) 118 13 2) 118 14 v150) (J133) t135 2 ca bs la nm pr pp (hb_up (o := 118) (k := 14) (x := v150) (hb_up (o := 118) (k := 13) (x := 2) (hb_up (o := 127) (k := sd.toInt.toNat) (x := v134) hB_I132 ⟨by show (0 : Int) ≤ v134.toInt; omega, by show v134.toInt ≤ (5 : Int); omega⟩) (qa_in_full _)) (qa_in_full _)) (fun o ho i => ((hk_mod ho rfl).trans ((hk_mod ho rfl).trans ((hk_mod ho rfl).trans ((e_I132 o (hk_ms rfl ho) i).trans ((hk_mod ho rfl).trans ((hk_mod ho rfl).trans rfl))))))) (fun i hi => ((hk_neq (fun z => by subst z; cases hi)).trans ((hk_neq (fun z => by subst z; cases hi)).trans ((hk_ot rfl).trans ((e8_I132 i (hk_ms rfl hi)).trans ((hk_neq (fun z => by subst z; cases hi)).trans ((hk_neq (fun z => by subst z; cases hi)).trans rfl))))))) (show (qm_up (qm_up (qm_up I132 127 (sd.toInt.toNat) v134) 118 13 2) 118 14 v150) 118 11 = _ from ((hk_neq (by decide)).trans ((hk_neq (by decide)).trans ((hk_ot rfl).trans q_t135)))) (show (qm_up (qm_up (qm_up I132 127 (sd.toInt.toNat) v134) 118 13 2) 118 14 v150) 118 13 = _ from ((hk_neq (by decide)).trans (hk_same))) (show (qm_up (qm_up (qm_up I132 127 (sd.toInt.toNat) v134) 118 13 2) 118 14 v150) 118 37 = _ from ((hk_neq (by decide)).trans ((hk_neq (by decide)).trans ((hk_ot rfl).trans ((e8_I132 37 rfl).trans ((hk_neq (by decide)).trans ((hk_neq (by decide)).trans q_ca))))))) (show (qm_up (qm_up (qm_up I132 127 (sd.toInt.toNat) v134) 118 13 2) 118 14 v150) 118 12 = _ from ((hk_neq (by decide)).trans ((hk_neq (by decide)).trans ((hk_ot rfl).trans ((e8_I132 12 rfl).trans ((hk_neq (by decide)).trans ((hk_neq (by decide)).trans q_bs))))))) (show (qm_up (qm_up (qm_up I132 127 (sd.toInt.toNat) v134) 118 13 2) 118 14 v150) 118 30 = _ from ((hk_neq (by decide)).trans ((hk_neq (by decide)).trans ((hk_ot rfl).trans ((e8_I132 30 rfl).trans ((hk_neq (by decide)).trans ((hk_neq (by decide)).trans q_la))))))) (show (qm_up (qm_up (qm_up I132 127 (sd.toInt.toNat) v134) 118 13 2) 118 14 v150) 118 20 = _ from ((hk_neq (by decide)).trans ((hk_neq (by decide)).trans ((hk_ot rfl).trans ((e8_I132 20 rfl).trans ((hk_neq (by decide)).trans ((hk_neq (by decide)).trans q_nm))))))) (show (qm_up (qm_up (qm_up I132 127 (sd.toInt.toNat) v134) 118 13 2) 118 14 v150) 131 (sd.toInt.toNat) = _ from ((hk_ot rfl).trans ((hk_ot rfl).trans ((hk_ot rfl).trans ((e_I132 131 rfl (sd.toInt.toNat)).trans ((hk_ot rfl).trans ((hk_ot rfl).trans q_pr))))))) (show (qm_up (qm_up (qm_up I132 127 (sd.toInt.toNat) v134) 118 13 2) 118 14 v150) 132 (sd.toInt.toNat) = _ from ((hk_ot rfl).trans ((hk_ot rfl).trans ((hk_ot rfl).trans ((e_I132 132 rfl (sd.toInt.toNat)).trans ((hk_ot rfl).trans ((hk_ot rfl).trans q_pp))))))) (by omega) (fun z => by omega) td_y151 (fun z => rs_sm hrs s133_y151 s134_y151 s138_y151 s139_y151 s140_y151 s141_y151 s142_y151 (by omega))
      · refine qm_Ru.go 2 (c' := (245, [.ref 118, .int v1, .float 0, .float 0], [.int 1, .ref 118], h)) rfl ?_
        refine hk_inv (o := 118) (r := []) (as := [.ref 118, .int 1]) rfl rfl (hH.1 118 (17, 105) rfl) rfl rfl rfl rfl ?_
        refine qm_Ru.go 1 (c' := (1, [.ref 118, .int 1], [.ref 118], h)) rfl ?_
        refine hk_geti (v := fa) rfl (hH.1 118 (17, 105) rfl) rfl q_fa ?_
        refine qm_Ru.go 0 (c' := (4, [.ref 118, .int 1], [.int fa], h)) rfl ?_
        refine hk_zle (ix := fa.toInt) rfl rfl (fun z152 => ?_) (fun z152 => by exfalso; omega)
        refine qm_Ru.go 2 (c' := (10, [.ref 118, .int 1], [.int 1, .ref 118], h)) rfl ?_
        refine hk_puti rfl (hH.1 118 (17, 105) rfl) rfl ?_
        refine qm_Ru.go 2 (c' := (15, [.ref 118, .int 1], [.ref 118, .ref 118], (h.1, qm_up h.2.1 118 13 1, h.2.2.1, h.2.2.2))) rfl ?_
        refine hk_getr rfl (hH.1 118 (17, 105) rfl) rfl (hH.2 118 6 (some 122) rfl) ?_
        refine qm_Ru.go 1 (c' := (19, [.ref 118, .int 1], [.ref 118, .ref 122, .ref 118], (h.1, qm_up h.2.1 118 13 1, h.2.2.1, h.2.2.2))) rfl ?_
        refine hk_geti (v := ta) rfl (hH.1 118 (17, 105) rfl) rfl (show (qm_up h.2.1 118 13 1) 118 11 = _ from ((hk_neq (by decide)).trans q_ta)) ?_
        refine qm_Ru.go 0 (c' := (22, [.ref 118, .int 1], [.int ta, .ref 122, .ref 118], (h.1, qm_up h.2.1 118 13 1, h.2.2.1, h.2.2.2))) rfl ?_
        obtain ⟨v153, q_v153⟩ : ∃ v, h.2.1 122 (ta.toInt.toNat) = v := ⟨_, rfl⟩
        refine hk_ial (v := v153) rfl (hH.1 122 (0, 403) rfl) (by omega) (by omega) (show (qm_up h.2.1 118 13 1) 122 (ta.toInt.toNat) = _ from ((hk_ot rfl).trans q_v153)) ?_
        refine qm_Ru.go 0 (c' := (23, [.ref 118, .int 1], [.int v153, .ref 118], (h.1, qm_up h.2.1 118 13 1, h.2.2.1, h.2.2.2))) rfl ?_
        refine hk_puti rfl (hH.1 118 (17, 105) rfl) rfl ?_
        refine qm_Ru.go 0 (c' := (26, [.ref 118, .int 1], [], (h.1, qm_up (qm_up h.2.1 118 13 1) 118 14 v153, h.2.2.1, h.2.2.2))) rfl ?_
        refine qm_Ru.rt (v := none) (h' := (h.1, qm_up (qm_up h.2.1 118 13 1) 118 14 v153, h.2.2.1, h.2.2.2)) rfl ?_
        refine qm_Ru.go 0 (c' := (248, [.ref 118, .int v1, .float 0, .float 0], [], (h.1, qm_up (qm_up h.2.1 118 13 1) 118 14 v153, h.2.2.1, h.2.2.2))) rfl ?_
        refine qm_Ru.rt (v := none) (h' := (h.1, qm_up (qm_up h.2.1 118 13 1) 118 14 v153, h.2.2.1, h.2.2.2)) rfl ?_
        have s131_y154 : ∀ i, (qm_up (qm_up h.2.1 118 13 1) 118 14 v153) 131 i = h.2.1 131 i := fun i => ((hk_ot rfl).trans ((hk_ot rfl).trans rfl))
        have s132_y154 : ∀ i, (qm_up (qm_up h.2.1 118 13 1) 118 14 v153) 132 i = h.2.1 132 i := fun i => ((hk_ot rfl).trans ((hk_ot rfl).trans rfl))
        have s133_y154 : ∀ i, (qm_up (qm_up h.2.1 118 13 1) 118 14 v153) 133 i = h.2.1 133 i := fun i => ((hk_ot rfl).trans ((hk_ot rfl).trans rfl))
        have s134_y154 : ∀ i, (qm_up (qm_up h.2.1 118 13 1) 118 14 v153) 134 i = h.2.1 134 i := fun i => ((hk_ot rfl).trans ((hk_ot rfl).trans rfl))
        have s138_y154 : ∀ i, (qm_up (qm_up h.2.1 118 13 1) 118 14 v153) 138 i = h.2.1 138 i := fun i => ((hk_ot rfl).trans ((hk_ot rfl).trans rfl))
        have s139_y154 : ∀ i, (qm_up (qm_up h.2.1 118 13 1) 118 14 v153) 139 i = h.2.1 139 i := fun i => ((hk_ot rfl).trans ((hk_ot rfl).trans rfl))
        have s140_y154 : ∀ i, (qm_up (qm_up h.2.1 118 13 1) 118 14 v153) 140 i = h.2.1 140 i := fun i => ((hk_ot rfl).trans ((hk_ot rfl).trans rfl))
        have s141_y154 : ∀ i, (qm_up (qm_up h.2.1 118 13 1) 118 14 v153) 141 i = h.2.1 141 i := fun i => ((hk_ot rfl).trans ((hk_ot rfl).trans rfl))
        have s142_y154 : ∀ i, (qm_up (qm_up h.2.1 118 13 1) 118 14 v153) 142 i = h.2.1 142 i := fun i => ((hk_ot rfl).trans ((hk_ot rfl).trans rfl))
        have td_y154 : td (sd.toInt.toNat) h.2.1 (qm_up (qm_up h.2.1 118 13 1) 118 14 v153) := ⟨fun i _ => ⟨s141_y154 i, s142_y154 i⟩, fun i _ => ⟨s138_y154 i, s139_y154 i, s140_y154 i⟩, fun i _ => ⟨s133_y154 i, s134_y154 i⟩, fun i _ => ⟨s131_y154 i, s132_y154 i⟩⟩
        exact k (qm_up (qm_up h.2.1 118 13 1) 118 14 v153) (h.2.2.1) ta 1 ca bs la nm pr pp (hb_up (o := 118) (k := 14) (x := v153) (hb_up (o := 118) (k := 13) (x := 1) hB (qa_in_full _)) (qa_in_full _)) (fun o ho i => ((hk_mod ho rfl).trans ((hk_mod ho rfl).trans rfl))) (fun i hi => ((hk_neq (fun z => by subst z; cases hi)).trans ((hk_neq (fun z => by subst z; cases hi)).trans rfl))) (show (qm_up (qm_up h.2.1 118 13 1) 118 14 v153) 118 11 = _ from ((hk_neq (by decide)).trans ((hk_neq (by decide)).trans q_ta))) (show (qm_up (qm_up h.2.1 118 13 1) 118 14 v153) 118 13 = _ from ((hk_neq (by decide)).trans (hk_same))) (show (qm_up (qm_up h.2.1 118 13 1) 118 14 v153) 118 37 = _ from ((hk_neq (by decide)).trans ((hk_neq (by decide)).trans q_ca))) (show (qm_up (qm_up h.2.1 118 13 1) 118 14 v153) 118 12 = _ from ((hk_neq (by decide)).trans ((hk_neq (by decide)).trans q_bs))) (show (qm_up (qm_up h.2.1 118 13 1) 118 14 v153) 118 30 = _ from ((hk_neq (by decide)).trans ((hk_neq (by decide)).trans q_la))) (show (qm_up (qm_up h.2.1 118 13 1) 118 14 v153) 118 20 = _ from ((hk_neq (by decide)).trans ((hk_neq (by decide)).trans q_nm))) (show (qm_up (qm_up h.2.1 118 13 1) 118 14 v153) 131 (sd.toInt.toNat) = _ from ((hk_ot rfl).trans ((hk_ot rfl).trans q_pr))) (show (qm_up (qm_up h.2.1 118 13 1) 118 14 v153) 132 (sd.toInt.toNat) = _ from ((hk_ot rfl).trans ((hk_ot rfl).trans q_pp))) (by omega) (fun z => by omega) td_y154 (fun z => rs_sm hrs s133_y154 s134_y154 s138_y154 s139_y154 s140_y154 s141_y154 s142_y154 (by omega))
  · refine qm_Ru.go 1 (c' := (37, [.ref 118, .int v1, .float 0, .float 0], [.ref 118], h)) rfl ?_
    refine hk_inv (o := 118) (r := []) (as := [.ref 118]) rfl rfl (hH.1 118 (17, 105) rfl) rfl rfl rfl rfl ?_
    refine qm_Ru.go 1 (c' := (1, [.ref 118], [.ref 118], h)) rfl ?_
    refine hk_geti (v := ta) rfl (hH.1 118 (17, 105) rfl) rfl q_ta ?_
    refine qm_Ru.go 1 (c' := (7, [.ref 118], [.int 400, .int ta], h)) rfl ?_
    refine hk_cne (ix := ta.toInt) (iy := 400) rfl rfl rfl (fun z155 => ?_) (fun z155 => ?_)
    · refine qm_Ru.go 2 (c' := (20, [.ref 118], [.ref 118, .ref 118], h)) rfl ?_
      refine hk_geti (v := ta) rfl (hH.1 118 (17, 105) rfl) rfl q_ta ?_
      refine qm_Ru.go 2 (c' := (25, [.ref 118], [.int (ta + 1), .ref 118], h)) rfl ?_
      obtain ⟨v156, q_v156, e_v156⟩ := hk_add (x := ta) (y := 1) (a := ta.toInt) (b := 1) rfl rfl (by omega) (by omega)
      rw [q_v156]
      refine hk_puti rfl (hH.1 118 (17, 105) rfl) rfl ?_
      refine qm_Ru.go 0 (c' := (28, [.ref 118], [], (h.1, qm_up h.2.1 118 11 v156, h.2.2.1, h.2.2.2))) rfl ?_
      refine qm_Ru.rt (v := none) (h' := (h.1, qm_up h.2.1 118 11 v156, h.2.2.1, h.2.2.2)) rfl ?_
      refine qm_Ru.go 3 (c' := (43, [.ref 118, .int v1, .float 0, .float 0], [.int 4, .int 0, .ref 118], (h.1, qm_up h.2.1 118 11 v156, h.2.2.1, h.2.2.2))) rfl ?_
      refine hk_inv (o := 118) (r := []) (as := [.ref 118, .int 0, .int 4]) rfl rfl (hH.1 118 (17, 105) rfl) rfl rfl rfl rfl (hs_told (d := d + 4) (h := (h.1, qm_up h.2.1 118 11 v156, h.2.2.1, h.2.2.2)) hH (hb_up (o := 118) (k := 11) (x := v156) hB ⟨by show (0 : Int) ≤ v156.toInt; omega, by show v156.toInt ≤ (400 : Int); omega⟩) (ta := v156) (fa := fa) (lo := 0) (hi := 4) (show (qm_up h.2.1 118 11 v156) 118 11 = _ from (hk_same)) (show (qm_up h.2.1 118 11 v156) 118 13 = _ from ((hk_neq (by decide)).trans q_fa)) (by omega) (by decide) (fun I157 J158 v159 t160 f161 hB_I157 e_I157 e8_I157 q_t160 q_f161 b1_I157 b2_I157 => ?_))
      have b2_I157 : (0 : Int) ≤ v159.toInt ∧ v159.toInt ≤ 4 := b2_I157
      have e_I157 : ∀ o, [118].contains o = false → ∀ i, I157 o i = (qm_up h.2.1 118 11 v156) o i := e_I157
      have e8_I157 : ∀ i, [11, 13, 14, 15, 16].contains i = false → I157 118 i = (qm_up h.2.1 118 11 v156) 118 i := e8_I157
      refine qm_Ru.go 4 (c' := (50, [.ref 118, .int v1, .int v159, .float 0], [.int 3, .int 0, .ref 118], (h.1, I157, J158, h.2.2.2))) rfl ?_
      refine hk_inv (o := 118) (r := []) (as := [.ref 118, .int 0, .int 3]) rfl rfl (hH.1 118 (17, 105) rfl) rfl rfl rfl rfl (hs_told (d := d + 4) (h := (h.1, I157, J158, h.2.2.2)) hH hB_I157 (ta := t160) (fa := f161) (lo := 0) (hi := 3) q_t160 q_f161 (by omega) (by decide) (fun I162 J163 v164 t165 f166 hB_I162 e_I162 e8_I162 q_t165 q_f166 b1_I162 b2_I162 => ?_))
      have b2_I162 : (0 : Int) ≤ v164.toInt ∧ v164.toInt ≤ 3 := b2_I162
      have e_I162 : ∀ o, [118].contains o = false → ∀ i, I162 o i = (I157) o i := e_I162
      have e8_I162 : ∀ i, [11, 13, 14, 15, 16].contains i = false → I162 118 i = (I157) 118 i := e8_I162
      refine qm_Ru.go 2 (c' := (55, [.ref 118, .int v1, .int v159, .int v164], [.ref 118], (h.1, I162, J163, h.2.2.2))) rfl ?_
      refine hk_geti (v := f166) rfl (hH.1 118 (17, 105) rfl) rfl q_f166 ?_
      refine qm_Ru.go 0 (c' := (58, [.ref 118, .int v1, .int v159, .int v164], [.int f166], (h.1, I162, J163, h.2.2.2))) rfl ?_
      refine hk_zne (ix := f166.toInt) rfl rfl (fun z167 => ?_) (fun z167 => ?_)
      · refine qm_Ru.go 2 (c' := (82, [.ref 118, .int v1, .int v159, .int v164], [.int 4, .ref 118], (h.1, I162, J163, h.2.2.2))) rfl ?_
        refine hk_inv (o := 118) (r := []) (as := [.ref 118, .int 4]) rfl rfl (hH.1 118 (17, 105) rfl) rfl rfl rfl rfl ?_
        refine qm_Ru.go 2 (c' := (2, [.ref 118, .int 4], [.int 4, .ref 118], (h.1, I162, J163, h.2.2.2))) rfl ?_
        refine hk_inv (o := 118) (r := []) (as := [.ref 118, .int 4]) rfl rfl (hH.1 118 (17, 105) rfl) rfl rfl rfl rfl ?_
        refine qm_Ru.go 1 (c' := (1, [.ref 118, .int 4], [.ref 118], (h.1, I162, J163, h.2.2.2))) rfl ?_
        refine hk_geti (v := f166) rfl (hH.1 118 (17, 105) rfl) rfl q_f166 ?_
        refine qm_Ru.go 0 (c' := (4, [.ref 118, .int 4], [.int f166], (h.1, I162, J163, h.2.2.2))) rfl ?_
        refine hk_zne (ix := f166.toInt) rfl rfl (fun z168 => ?_) (fun z168 => by exfalso; omega)
        refine qm_Ru.go 1 (c' := (25, [.ref 118, .int 4], [.int 0], (h.1, I162, J163, h.2.2.2))) rfl ?_
        refine qm_Ru.rt (v := (some (.int 0))) (h' := (h.1, I162, J163, h.2.2.2)) rfl ?_
        refine qm_Ru.go 3 (c' := (17, [.ref 118, .int 4], [.int 1, .ref 118], (h.1, I162, J163, h.2.2.2))) rfl ?_
        refine hk_inv (o := 118) (r := []) (as := [.ref 118, .int 1]) rfl rfl (hH.1 118 (17, 105) rfl) rfl rfl rfl rfl ?_
        refine qm_Ru.go 1 (c' := (1, [.ref 118, .int 1], [.ref 118], (h.1, I162, J163, h.2.2.2))) rfl ?_
        refine hk_geti (v := f166) rfl (hH.1 118 (17, 105) rfl) rfl q_f166 ?_
        refine qm_Ru.go 0 (c' := (4, [.ref 118, .int 1], [.int f166], (h.1, I162, J163, h.2.2.2))) rfl ?_
        refine hk_zle (ix := f166.toInt) rfl rfl (fun z169 => by exfalso; omega) (fun z169 => ?_)
        refine qm_Ru.go 0 (c' := (7, [.ref 118, .int 1], [], (h.1, I162, J163, h.2.2.2))) rfl ?_
        refine qm_Ru.rt (v := none) (h' := (h.1, I162, J163, h.2.2.2)) rfl ?_
        refine qm_Ru.go 0 (c' := (20, [.ref 118, .int 4], [], (h.1, I162, J163, h.2.2.2))) rfl ?_
        refine qm_Ru.rt (v := none) (h' := (h.1, I162, J163, h.2.2.2)) rfl ?_
        refine qm_Ru.go 1 (c' := (352, [.ref 118, .int v1, .int v159, .int v164], [], (h.1, I162, J163, h.2.2.2))) rfl ?_
        refine qm_Ru.rt (v := none) (h' := (h.1, I162, J163, h.2.2.2)) rfl ?_
        have s131_y170 : ∀ i, (I162) 131 i = h.2.1 131 i := fun i => ((e_I162 131 rfl i).trans ((e_I157 131 rfl i).trans ((hk_ot rfl).trans rfl)))
        have s132_y170 : ∀ i, (I162) 132 i = h.2.1 132 i := fun i => ((e_I162 132 rfl i).trans ((e_I157 132 rfl i).trans ((hk_ot rfl).trans rfl)))
        have s133_y170 : ∀ i, (I162) 133 i = h.2.1 133 i := fun i => ((e_I162 133 rfl i).trans ((e_I157 133 rfl i).trans ((hk_ot rfl).trans rfl)))
        have s134_y170 : ∀ i, (I162) 134 i = h.2.1 134 i := fun i => ((e_I162 134 rfl i).trans ((e_I157 134 rfl i).trans ((hk_ot rfl).trans rfl)))
        have s138_y170 : ∀ i, (I162) 138 i = h.2.1 138 i := fun i => ((e_I162 138 rfl i).trans ((e_I157 138 rfl i).trans ((hk_ot rfl).trans rfl)))
        have s139_y170 : ∀ i, (I162) 139 i = h.2.1 139 i := fun i => ((e_I162 139 rfl i).trans ((e_I157 139 rfl i).trans ((hk_ot rfl).trans rfl)))
        have s140_y170 : ∀ i, (I162) 140 i = h.2.1 140 i := fun i => ((e_I162 140 rfl i).trans ((e_I157 140 rfl i).trans ((hk_ot rfl).trans rfl)))
        have s141_y170 : ∀ i, (I162) 141 i = h.2.1 141 i := fun i => ((e_I162 141 rfl i).trans ((e_I157 141 rfl i).trans ((hk_ot rfl).trans rfl)))
        have s142_y170 : ∀ i, (I162) 142 i = h.2.1 142 i := fun i => ((e_I162 142 rfl i).trans ((e_I157 142 rfl i).trans ((hk_ot rfl).trans rfl)))
        have td_y170 : td (sd.toInt.toNat) h.2.1 (I162) := ⟨fun i _ => ⟨s141_y170 i, s142_y170 i⟩, fun i _ => ⟨s138_y170 i, s139_y170 i, s140_y170 i⟩, fun i _ => ⟨s133_y170 i, s134_y170 i⟩, fun i _ => ⟨s131_y170 i, s132_y170 i⟩⟩
        exact k (I162) (J163) t165 f166 ca bs la nm pr pp hB_I162 (fun o ho i => ((e_I162 o (hk_ms rfl ho) i).trans ((e_I157 o (hk_ms rfl ho) i).trans ((hk_mod ho rfl).trans rfl)))) (fun i hi => ((e8_I162 i (hk_ms rfl hi)).trans ((e8_I157 i (hk_ms rfl hi)).trans ((hk_neq (fun z => by subst z; cases hi)).trans rfl)))) q_t165 q_f166 (show (I162) 118 37 = _ from ((e8_I162 37 rfl).trans ((e8_I157 37 rfl).trans ((hk_neq (by decide)).trans q_ca)))) (show (I162) 118 12 = _ from ((e8_I162 12 rfl).trans ((e8_I157 12 rfl).trans ((hk_neq (by decide)).trans q_bs)))) (show (I162) 118 30 = _ from ((e8_I162 30 rfl).trans ((e8_I157 30 rfl).trans ((hk_neq (by decide)).trans q_la)))) (show (I162) 118 20 = _ from ((e8_I162 20 rfl).trans ((e8_I157 20 rfl).trans ((hk_neq (by decide)).trans q_nm)))) (show (I162) 131 (sd.toInt.toNat) = _ from ((e_I162 131 rfl (sd.toInt.toNat)).trans ((e_I157 131 rfl (sd.toInt.toNat)).trans ((hk_ot rfl).trans q_pr)))) (show (I162) 132 (sd.toInt.toNat) = _ from ((e_I162 132 rfl (sd.toInt.toNat)).trans ((e_I157 132 rfl (sd.toInt.toNat)).trans ((hk_ot rfl).trans q_pp)))) (by omega) (fun z => by omega) td_y170 (fun z => rs_sm hrs s133_y170 s134_y170 s138_y170 s139_y170 s140_y170 s141_y170 s142_y170 (by omega))
      · refine qm_Ru.go 1 (c' := (62, [.ref 118, .int v1, .int v159, .int v164], [.ref 118], (h.1, I162, J163, h.2.2.2))) rfl ?_
        refine hk_getr rfl (hH.1 118 (17, 105) rfl) rfl (hH.2 118 25 (some 130) rfl) ?_
        refine qm_Ru.go 2 (c' := (68, [.ref 118, .int v1, .int v159, .int v164], [.ref 118, .int 20, .ref 130], (h.1, I162, J163, h.2.2.2))) rfl ?_
        refine hk_geti (v := sd) rfl (hH.1 118 (17, 105) rfl) rfl (show (I162) 118 19 = _ from ((e8_I162 19 rfl).trans ((e8_I157 19 rfl).trans ((hk_neq (by decide)).trans q_sd)))) ?_
        refine qm_Ru.go 1 (c' := (72, [.ref 118, .int v1, .int v159, .int v164], [.int (20 * sd), .ref 130], (h.1, I162, J163, h.2.2.2))) rfl ?_
        obtain ⟨v171, q_v171, e_v171⟩ := hk_mul (x := 20) (y := sd) (a := 20) (b := sd.toInt) rfl rfl (by omega) (by omega)
        rw [q_v171]
        refine qm_Ru.go 3 (c' := (75, [.ref 118, .int v1, .int v159, .int v164], [.int (4 * v159), .int v171, .ref 130], (h.1, I162, J163, h.2.2.2))) rfl ?_
        obtain ⟨v172, q_v172, e_v172⟩ := hk_mul (x := 4) (y := v159) (a := 4) (b := v159.toInt) rfl rfl (by omega) (by omega)
        rw [q_v172]
        refine qm_Ru.go 1 (c' := (76, [.ref 118, .int v1, .int v159, .int v164], [.int (v171 + v172), .ref 130], (h.1, I162, J163, h.2.2.2))) rfl ?_
        obtain ⟨v173, q_v173, e_v173⟩ := hk_add (x := v171) (y := v172) (a := v171.toInt) (b := v172.toInt) rfl rfl (by omega) (by omega)
        rw [q_v173]
        refine qm_Ru.go 2 (c' := (78, [.ref 118, .int v1, .int v159, .int v164], [.int (v173 + v164), .ref 130], (h.1, I162, J163, h.2.2.2))) rfl ?_
        obtain ⟨v174, q_v174, e_v174⟩ := hk_add (x := v173) (y := v164) (a := v173.toInt) (b := v164.toInt) rfl rfl (by omega) (by omega)
        rw [q_v174]
        refine qm_Ru.go 1 (c' := (79, [.ref 118, .int v1, .int v159, .int v164], [.int 1, .int v174, .ref 130], (h.1, I162, J163, h.2.2.2))) rfl ?_
        refine hk_bas rfl (hH.1 130 (2, 40) rfl) (by omega) (by omega) rfl ?_
        refine qm_Ru.go 2 (c' := (82, [.ref 118, .int v1, .int v159, .int v164], [.int 4, .ref 118], (h.1, qm_up I162 130 (v174.toInt.toNat) 1, J163, h.2.2.2))) rfl ?_
        refine hk_inv (o := 118) (r := []) (as := [.ref 118, .int 4]) rfl rfl (hH.1 118 (17, 105) rfl) rfl rfl rfl rfl ?_
        refine qm_Ru.go 2 (c' := (2, [.ref 118, .int 4], [.int 4, .ref 118], (h.1, qm_up I162 130 (v174.toInt.toNat) 1, J163, h.2.2.2))) rfl ?_
        refine hk_inv (o := 118) (r := []) (as := [.ref 118, .int 4]) rfl rfl (hH.1 118 (17, 105) rfl) rfl rfl rfl rfl ?_
        refine qm_Ru.go 1 (c' := (1, [.ref 118, .int 4], [.ref 118], (h.1, qm_up I162 130 (v174.toInt.toNat) 1, J163, h.2.2.2))) rfl ?_
        refine hk_geti (v := f166) rfl (hH.1 118 (17, 105) rfl) rfl (show (qm_up I162 130 (v174.toInt.toNat) 1) 118 13 = _ from ((hk_ot rfl).trans q_f166)) ?_
        refine qm_Ru.go 0 (c' := (4, [.ref 118, .int 4], [.int f166], (h.1, qm_up I162 130 (v174.toInt.toNat) 1, J163, h.2.2.2))) rfl ?_
        refine hk_zne (ix := f166.toInt) rfl rfl (fun z175 => by exfalso; omega) (fun z175 => ?_)
        refine qm_Ru.go 1 (c' := (8, [.ref 118, .int 4], [.ref 118], (h.1, qm_up I162 130 (v174.toInt.toNat) 1, J163, h.2.2.2))) rfl ?_
        refine hk_getr rfl (hH.1 118 (17, 105) rfl) rfl (hH.2 118 5 (some 121) rfl) ?_
        refine qm_Ru.go 1 (c' := (12, [.ref 118, .int 4], [.ref 118, .ref 121], (h.1, qm_up I162 130 (v174.toInt.toNat) 1, J163, h.2.2.2))) rfl ?_
        refine hk_geti (v := t165) rfl (hH.1 118 (17, 105) rfl) rfl (show (qm_up I162 130 (v174.toInt.toNat) 1) 118 11 = _ from ((hk_ot rfl).trans q_t165)) ?_
        refine qm_Ru.go 0 (c' := (15, [.ref 118, .int 4], [.int t165, .ref 121], (h.1, qm_up I162 130 (v174.toInt.toNat) 1, J163, h.2.2.2))) rfl ?_
        obtain ⟨v176, q_v176⟩ : ∃ v, h.2.1 121 (t165.toInt.toNat) = v := ⟨_, rfl⟩
        have b_v176 : (0 : Int) ≤ v176.toInt ∧ v176.toInt ≤ 44 := by rw [← q_v176]; exact hB 121 (t165.toInt.toNat)
        refine hk_ial (v := v176) rfl (hH.1 121 (0, 403) rfl) (by omega) (by omega) (show (qm_up I162 130 (v174.toInt.toNat) 1) 121 (t165.toInt.toNat) = _ from ((hk_ot rfl).trans ((e_I162 121 rfl (t165.toInt.toNat)).trans ((e_I157 121 rfl (t165.toInt.toNat)).trans ((hk_ot rfl).trans q_v176))))) ?_
        refine qm_Ru.go 1 (c' := (17, [.ref 118, .int 4], [.int 4, .int v176], (h.1, qm_up I162 130 (v174.toInt.toNat) 1, J163, h.2.2.2))) rfl ?_
        refine hk_cne (ix := v176.toInt) (iy := 4) rfl rfl rfl (fun z177 => ?_) (fun z177 => ?_)
        · refine qm_Ru.go 1 (c' := (25, [.ref 118, .int 4], [.int 0], (h.1, qm_up I162 130 (v174.toInt.toNat) 1, J163, h.2.2.2))) rfl ?_
          refine qm_Ru.rt (v := (some (.int 0))) (h' := (h.1, qm_up I162 130 (v174.toInt.toNat) 1, J163, h.2.2.2)) rfl ?_
          refine qm_Ru.go 3 (c' := (17, [.ref 118, .int 4], [.int 1, .ref 118], (h.1, qm_up I162 130 (v174.toInt.toNat) 1, J163, h.2.2.2))) rfl ?_
          refine hk_inv (o := 118) (r := []) (as := [.ref 118, .int 1]) rfl rfl (hH.1 118 (17, 105) rfl) rfl rfl rfl rfl ?_
          refine qm_Ru.go 1 (c' := (1, [.ref 118, .int 1], [.ref 118], (h.1, qm_up I162 130 (v174.toInt.toNat) 1, J163, h.2.2.2))) rfl ?_
          refine hk_geti (v := f166) rfl (hH.1 118 (17, 105) rfl) rfl (show (qm_up I162 130 (v174.toInt.toNat) 1) 118 13 = _ from ((hk_ot rfl).trans q_f166)) ?_
          refine qm_Ru.go 0 (c' := (4, [.ref 118, .int 1], [.int f166], (h.1, qm_up I162 130 (v174.toInt.toNat) 1, J163, h.2.2.2))) rfl ?_
          refine hk_zle (ix := f166.toInt) rfl rfl (fun z178 => ?_) (fun z178 => by exfalso; omega)
          refine qm_Ru.go 2 (c' := (10, [.ref 118, .int 1], [.int 1, .ref 118], (h.1, qm_up I162 130 (v174.toInt.toNat) 1, J163, h.2.2.2))) rfl ?_
          refine hk_puti rfl (hH.1 118 (17, 105) rfl) rfl ?_
          refine qm_Ru.go 2 (c' := (15, [.ref 118, .int 1], [.ref 118, .ref 118], (h.1, qm_up (qm_up I162 130 (v174.toInt.toNat) 1) 118 13 1, J163, h.2.2.2))) rfl ?_
          refine hk_getr rfl (hH.1 118 (17, 105) rfl) rfl (hH.2 118 6 (some 122) rfl) ?_
          refine qm_Ru.go 1 (c' := (19, [.ref 118, .int 1], [.ref 118, .ref 122, .ref 118], (h.1, qm_up (qm_up I162 130 (v174.toInt.toNat) 1) 118 13 1, J163, h.2.2.2))) rfl ?_
          refine hk_geti (v := t165) rfl (hH.1 118 (17, 105) rfl) rfl (show (qm_up (qm_up I162 130 (v174.toInt.toNat) 1) 118 13 1) 118 11 = _ from ((hk_neq (by decide)).trans ((hk_ot rfl).trans q_t165))) ?_
          refine qm_Ru.go 0 (c' := (22, [.ref 118, .int 1], [.int t165, .ref 122, .ref 118], (h.1, qm_up (qm_up I162 130 (v174.toInt.toNat) 1) 118 13 1, J163, h.2.2.2))) rfl ?_
          obtain ⟨v179, q_v179⟩ : ∃ v, h.2.1 122 (t165.toInt.toNat) = v := ⟨_, rfl⟩
          refine hk_ial (v := v179) rfl (hH.1 122 (0, 403) rfl) (by omega) (by omega) (show (qm_up (qm_up I162 130 (v174.toInt.toNat) 1) 118 13 1) 122 (t165.toInt.toNat) = _ from ((hk_ot rfl).trans ((hk_ot rfl).trans ((e_I162 122 rfl (t165.toInt.toNat)).trans ((e_I157 122 rfl (t165.toInt.toNat)).trans ((hk_ot rfl).trans q_v179)))))) ?_
          refine qm_Ru.go 0 (c' := (23, [.ref 118, .int 1], [.int v179, .ref 118], (h.1, qm_up (qm_up I162 130 (v174.toInt.toNat) 1) 118 13 1, J163, h.2.2.2))) rfl ?_
          refine hk_puti rfl (hH.1 118 (17, 105) rfl) rfl ?_
          refine qm_Ru.go 0 (c' := (26, [.ref 118, .int 1], [], (h.1, qm_up (qm_up (qm_up I162 130 (v174.toInt.toNat) 1) 118 13 1) 118 14 v179, J163, h.2.2.2))) rfl ?_
          refine qm_Ru.rt (v := none) (h' := (h.1, qm_up (qm_up (qm_up I162 130 (v174.toInt.toNat) 1) 118 13 1) 118 14 v179, J163, h.2.2.2)) rfl ?_
          refine qm_Ru.go 0 (c' := (20, [.ref 118, .int 4], [], (h.1, qm_up (qm_up (qm_up I162 130 (v174.toInt.toNat) 1) 118 13 1) 118 14 v179, J163, h.2.2.2))) rfl ?_
          refine qm_Ru.rt (v := none) (h' := (h.1, qm_up (qm_up (qm_up I162 130 (v174.toInt.toNat) 1) 118 13 1) 118 14 v179, J163, h.2.2.2)) rfl ?_
          refine qm_Ru.go 1 (c' := (352, [.ref 118, .int v1, .int v159, .int v164], [], (h.1, qm_up (qm_up (qm_up I162 130 (v174.toInt.toNat) 1) 118 13 1) 118 14 v179, J163, h.2.2.2))) rfl ?_
          refine qm_Ru.rt (v := none) (h' := (h.1, qm_up (qm_up (qm_up I162 130 (v174.toInt.toNat) 1) 118 13 1) 118 14 v179, J163, h.2.2.2)) rfl ?_
          have s131_y180 : ∀ i, (qm_up (qm_up (qm_up I162 130 (v174.toInt.toNat) 1) 118 13 1) 118 14 v179) 131 i = h.2.1 131 i := fun i => ((hk_ot rfl).trans ((hk_ot rfl).trans ((hk_ot rfl).trans ((e_I162 131 rfl i).trans ((e_I157 131 rfl i).trans ((hk_ot rfl).trans rfl))))))
          have s132_y180 : ∀ i, (qm_up (qm_up (qm_up I162 130 (v174.toInt.toNat) 1) 118 13 1) 118 14 v179) 132 i = h.2.1 132 i := fun i => ((hk_ot rfl).trans ((hk_ot rfl).trans ((hk_ot rfl).trans ((e_I162 132 rfl i).trans ((e_I157 132 rfl i).trans ((hk_ot rfl).trans rfl))))))
          have s133_y180 : ∀ i, (qm_up (qm_up (qm_up I162 130 (v174.toInt.toNat) 1) 118 13 1) 118 14 v179) 133 i = h.2.1 133 i := fun i => ((hk_ot rfl).trans ((hk_ot rfl).trans ((hk_ot rfl).trans ((e_I162 133 rfl i).trans ((e_I157 133 rfl i).trans ((hk_ot rfl).trans rfl))))))
          have s134_y180 : ∀ i, (qm_up (qm_up (qm_up I162 130 (v174.toInt.toNat) 1) 118 13 1) 118 14 v179) 134 i = h.2.1 134 i := fun i => ((hk_ot rfl).trans ((hk_ot rfl).trans ((hk_ot rfl).trans ((e_I162 134 rfl i).trans ((e_I157 134 rfl i).trans ((hk_ot rfl).trans rfl))))))
          have s138_y180 : ∀ i, (qm_up (qm_up (qm_up I162 130 (v174.toInt.toNat) 1) 118 13 1) 118 14 v179) 138 i = h.2.1 138 i := fun i => ((hk_ot rfl).trans ((hk_ot rfl).trans ((hk_ot rfl).trans ((e_I162 138 rfl i).trans ((e_I157 138 rfl i).trans ((hk_ot rfl).trans rfl))))))
          have s139_y180 : ∀ i, (qm_up (qm_up (qm_up I162 130 (v174.toInt.toNat) 1) 118 13 1) 118 14 v179) 139 i = h.2.1 139 i := fun i => ((hk_ot rfl).trans ((hk_ot rfl).trans ((hk_ot rfl).trans ((e_I162 139 rfl i).trans ((e_I157 139 rfl i).trans ((hk_ot rfl).trans rfl))))))
          have s140_y180 : ∀ i, (qm_up (qm_up (qm_up I162 130 (v174.toInt.toNat) 1) 118 13 1) 118 14 v179) 140 i = h.2.1 140 i := fun i => ((hk_ot rfl).trans ((hk_ot rfl).trans ((hk_ot rfl).trans ((e_I162 140 rfl i).trans ((e_I157 140 rfl i).trans ((hk_ot rfl).trans rfl))))))
          have s141_y180 : ∀ i, (qm_up (qm_up (qm_up I162 130 (v174.toInt.toNat) 1) 118 13 1) 118 14 v179) 141 i = h.2.1 141 i := fun i => ((hk_ot rfl).trans ((hk_ot rfl).trans ((hk_ot rfl).trans ((e_I162 141 rfl i).trans ((e_I157 141 rfl i).trans ((hk_ot rfl).trans rfl))))))
          have s142_y180 : ∀ i, (qm_up (qm_up (qm_up I162 130 (v174.toInt.toNat) 1) 118 13 1) 118 14 v179) 142 i = h.2.1 142 i := fun i => ((hk_ot rfl).trans ((hk_ot rfl).trans ((hk_ot rfl).trans ((e_I162 142 rfl i).trans ((e_I157 142 rfl i).trans ((hk_ot rfl).trans rfl))))))
          have td_y180 : td (sd.toInt.toNat) h.2.1 (qm_up (qm_up (qm_up I162 130 (v174.toInt.toNat) 1) 118 13 1) 118 14 v179) := ⟨fun i _ => ⟨s141_y180 i, s142_y180 i⟩, fun i _ => ⟨s138_y180 i, s139_y180 i, s140_y180 i⟩, fun i _ => ⟨s133_y180 i, s134_y180 i⟩, fun i _ => ⟨s131_y180 i, s132_y180 i⟩⟩
          exact k (qm_up (qm_up (qm_up I162 130 (v174.toInt.toNat) 1) 118 13 1) 118 14 v179) (J163) t165 1 ca bs la nm pr pp (hb_up (o := 118) (k := 14) (x := v179) (hb_up (o := 118) (k := 13) (x := 1) (hb_up (o := 130) (k := v174.toInt.toNat) (x := 1) hB_I162 ⟨(show (0 : Int) ≤ 1 from by decide), (show (1 : Int) ≤ 1 from by decide)⟩) (qa_in_full _)) (qa_in_full _)) (fun o ho i => ((hk_mod ho rfl).trans ((hk_mod ho rfl).trans ((hk_mod ho rfl).trans ((e_I162 o (hk_ms rfl ho) i).trans ((e_I157 o (hk_ms rfl ho) i).trans ((hk_mod ho rfl).trans rfl))))))) (fun i hi => ((hk_neq (fun z => by subst z; cases hi)).trans ((hk_neq (fun z => by subst z; cases hi)).trans ((hk_ot rfl).trans ((e8_I162 i (hk_ms rfl hi)).trans ((e8_I157 i (hk_ms rfl hi)).trans ((hk_neq (fun z => by subst z; cases hi)).trans rfl))))))) (show (qm_up (qm_up (qm_up I162 130 (v174.toInt.toNat) 1) 118 13 1) 118 14 v179) 118 11 = _ from ((hk_neq (by decide)).trans ((hk_neq (by decide)).trans ((hk_ot rfl).trans q_t165)))) (show (qm_up (qm_up (qm_up I162 130 (v174.toInt.toNat) 1) 118 13 1) 118 14 v179) 118 13 = _ from ((hk_neq (by decide)).trans (hk_same))) (show (qm_up (qm_up (qm_up I162 130 (v174.toInt.toNat) 1) 118 13 1) 118 14 v179) 118 37 = _ from ((hk_neq (by decide)).trans ((hk_neq (by decide)).trans ((hk_ot rfl).trans ((e8_I162 37 rfl).trans ((e8_I157 37 rfl).trans ((hk_neq (by decide)).trans q_ca))))))) (show (qm_up (qm_up (qm_up I162 130 (v174.toInt.toNat) 1) 118 13 1) 118 14 v179) 118 12 = _ from ((hk_neq (by decide)).trans ((hk_neq (by decide)).trans ((hk_ot rfl).trans ((e8_I162 12 rfl).trans ((e8_I157 12 rfl).trans ((hk_neq (by decide)).trans q_bs))))))) (show (qm_up (qm_up (qm_up I162 130 (v174.toInt.toNat) 1) 118 13 1) 118 14 v179) 118 30 = _ from ((hk_neq (by decide)).trans ((hk_neq (by decide)).trans ((hk_ot rfl).trans ((e8_I162 30 rfl).trans ((e8_I157 30 rfl).trans ((hk_neq (by decide)).trans q_la))))))) (show (qm_up (qm_up (qm_up I162 130 (v174.toInt.toNat) 1) 118 13 1) 118 14 v179) 118 20 = _ from ((hk_neq (by decide)).trans ((hk_neq (by decide)).trans ((hk_ot rfl).trans ((e8_I162 20 rfl).trans ((e8_I157 20 rfl).trans ((hk_neq (by decide)).trans q_nm))))))) (show (qm_up (qm_up (qm_up I162 130 (v174.toInt.toNat) 1) 118 13 1) 118 14 v179) 131 (sd.toInt.toNat) = _ from ((hk_ot rfl).trans ((hk_ot rfl).trans ((hk_ot rfl).trans ((e_I162 131 rfl (sd.toInt.toNat)).trans ((e_I157 131 rfl (sd.toInt.toNat)).trans ((hk_ot rfl).trans q_pr))))))) (show (qm_up (qm_up (qm_up I162 130 (v174.toInt.toNat) 1) 118 13 1) 118 14 v179) 132 (sd.toInt.toNat) = _ from ((hk_ot rfl).trans ((hk_ot rfl).trans ((hk_ot rfl).trans ((e_I162 132 rfl (sd.toInt.toNat)).trans ((e_I157 132 rfl (sd.toInt.toNat)).trans ((hk_ot rfl).trans q_pp))))))) (by omega) (fun z => by omega) td_y180 (fun z => rs_sm hrs s133_y180 s134_y180 s138_y180 s139_y180 s140_y180 s141_y180 s142_y180 (by omega))
        · refine qm_Ru.go 2 (c' := (25, [.ref 118, .int 4], [.int 1], (h.1, qm_up I162 130 (v174.toInt.toNat) 1, J163, h.2.2.2))) rfl ?_
          refine qm_Ru.rt (v := (some (.int 1))) (h' := (h.1, qm_up I162 130 (v174.toInt.toNat) 1, J163, h.2.2.2)) rfl ?_
          refine qm_Ru.go 2 (c' := (9, [.ref 118, .int 4], [.ref 118], (h.1, qm_up I162 130 (v174.toInt.toNat) 1, J163, h.2.2.2))) rfl ?_
          refine hk_inv (o := 118) (r := []) (as := [.ref 118]) rfl rfl (hH.1 118 (17, 105) rfl) rfl rfl rfl rfl ?_
          refine qm_Ru.go 1 (c' := (1, [.ref 118], [.ref 118], (h.1, qm_up I162 130 (v174.toInt.toNat) 1, J163, h.2.2.2))) rfl ?_
          refine hk_geti (v := t165) rfl (hH.1 118 (17, 105) rfl) rfl (show (qm_up I162 130 (v174.toInt.toNat) 1) 118 11 = _ from ((hk_ot rfl).trans q_t165)) ?_
          refine qm_Ru.go 1 (c' := (7, [.ref 118], [.int 400, .int t165], (h.1, qm_up I162 130 (v174.toInt.toNat) 1, J163, h.2.2.2))) rfl ?_
          refine hk_cne (ix := t165.toInt) (iy := 400) rfl rfl rfl (fun z181 => ?_) (fun z181 => ?_)
          · refine qm_Ru.go 2 (c' := (20, [.ref 118], [.ref 118, .ref 118], (h.1, qm_up I162 130 (v174.toInt.toNat) 1, J163, h.2.2.2))) rfl ?_
            refine hk_geti (v := t165) rfl (hH.1 118 (17, 105) rfl) rfl (show (qm_up I162 130 (v174.toInt.toNat) 1) 118 11 = _ from ((hk_ot rfl).trans q_t165)) ?_
            refine qm_Ru.go 2 (c' := (25, [.ref 118], [.int (t165 + 1), .ref 118], (h.1, qm_up I162 130 (v174.toInt.toNat) 1, J163, h.2.2.2))) rfl ?_
            obtain ⟨v182, q_v182, e_v182⟩ := hk_add (x := t165) (y := 1) (a := t165.toInt) (b := 1) rfl rfl (by omega) (by omega)
            rw [q_v182]
            refine hk_puti rfl (hH.1 118 (17, 105) rfl) rfl ?_
            refine qm_Ru.go 0 (c' := (28, [.ref 118], [], (h.1, qm_up (qm_up I162 130 (v174.toInt.toNat) 1) 118 11 v182, J163, h.2.2.2))) rfl ?_
            refine qm_Ru.rt (v := none) (h' := (h.1, qm_up (qm_up I162 130 (v174.toInt.toNat) 1) 118 11 v182, J163, h.2.2.2)) rfl ?_
            refine qm_Ru.go 1 (c' := (20, [.ref 118, .int 4], [], (h.1, qm_up (qm_up I162 130 (v174.toInt.toNat) 1) 118 11 v182, J163, h.2.2.2))) rfl ?_
            refine qm_Ru.rt (v := none) (h' := (h.1, qm_up (qm_up I162 130 (v174.toInt.toNat) 1) 118 11 v182, J163, h.2.2.2)) rfl ?_
            refine qm_Ru.go 1 (c' := (352, [.ref 118, .int v1, .int v159, .int v164], [], (h.1, qm_up (qm_up I162 130 (v174.toInt.toNat) 1) 118 11 v182, J163, h.2.2.2))) rfl ?_
            refine qm_Ru.rt (v := none) (h' := (h.1, qm_up (qm_up I162 130 (v174.toInt.toNat) 1) 118 11 v182, J163, h.2.2.2)) rfl ?_
            have s131_y183 : ∀ i, (qm_up (qm_up I162 130 (v174.toInt.toNat) 1) 118 11 v182) 131 i = h.2.1 131 i := fun i => ((hk_ot rfl).trans ((hk_ot rfl).trans ((e_I162 131 rfl i).trans ((e_I157 131 rfl i).trans ((hk_ot rfl).trans rfl)))))
            have s132_y183 : ∀ i, (qm_up (qm_up I162 130 (v174.toInt.toNat) 1) 118 11 v182) 132 i = h.2.1 132 i := fun i => ((hk_ot rfl).trans ((hk_ot rfl).trans ((e_I162 132 rfl i).trans ((e_I157 132 rfl i).trans ((hk_ot rfl).trans rfl)))))
            have s133_y183 : ∀ i, (qm_up (qm_up I162 130 (v174.toInt.toNat) 1) 118 11 v182) 133 i = h.2.1 133 i := fun i => ((hk_ot rfl).trans ((hk_ot rfl).trans ((e_I162 133 rfl i).trans ((e_I157 133 rfl i).trans ((hk_ot rfl).trans rfl)))))
            have s134_y183 : ∀ i, (qm_up (qm_up I162 130 (v174.toInt.toNat) 1) 118 11 v182) 134 i = h.2.1 134 i := fun i => ((hk_ot rfl).trans ((hk_ot rfl).trans ((e_I162 134 rfl i).trans ((e_I157 134 rfl i).trans ((hk_ot rfl).trans rfl)))))
            have s138_y183 : ∀ i, (qm_up (qm_up I162 130 (v174.toInt.toNat) 1) 118 11 v182) 138 i = h.2.1 138 i := fun i => ((hk_ot rfl).trans ((hk_ot rfl).trans ((e_I162 138 rfl i).trans ((e_I157 138 rfl i).trans ((hk_ot rfl).trans rfl)))))
            have s139_y183 : ∀ i, (qm_up (qm_up I162 130 (v174.toInt.toNat) 1) 118 11 v182) 139 i = h.2.1 139 i := fun i => ((hk_ot rfl).trans ((hk_ot rfl).trans ((e_I162 139 rfl i).trans ((e_I157 139 rfl i).trans ((hk_ot rfl).trans rfl)))))
            have s140_y183 : ∀ i, (qm_up (qm_up I162 130 (v174.toInt.toNat) 1) 118 11 v182) 140 i = h.2.1 140 i := fun i => ((hk_ot rfl).trans ((hk_ot rfl).trans ((e_I162 140 rfl i).trans ((e_I157 140 rfl i).trans ((hk_ot rfl).trans rfl)))))
            have s141_y183 : ∀ i, (qm_up (qm_up I162 130 (v174.toInt.toNat) 1) 118 11 v182) 141 i = h.2.1 141 i := fun i => ((hk_ot rfl).trans ((hk_ot rfl).trans ((e_I162 141 rfl i).trans ((e_I157 141 rfl i).trans ((hk_ot rfl).trans rfl)))))
            have s142_y183 : ∀ i, (qm_up (qm_up I162 130 (v174.toInt.toNat) 1) 118 11 v182) 142 i = h.2.1 142 i := fun i => ((hk_ot rfl).trans ((hk_ot rfl).trans ((e_I162 142 rfl i).trans ((e_I157 142 rfl i).trans ((hk_ot rfl).trans rfl)))))
            have td_y183 : td (sd.toInt.toNat) h.2.1 (qm_up (qm_up I162 130 (v174.toInt.toNat) 1) 118 11 v182) := ⟨fun i _ => ⟨s141_y183 i, s142_y183 i⟩, fun i _ => ⟨s138_y183 i, s139_y183 i, s140_y183 i⟩, fun i _ => ⟨s133_y183 i, s134_y183 i⟩, fun i _ => ⟨s131_y183 i, s132_y183 i⟩⟩
            exact k (qm_up (qm_up I162 130 (v174.toInt.toNat) 1) 118 11 v182) (J163) v182 f166 ca bs la nm pr pp (hb_up (o := 118) (k := 11) (x := v182) (hb_up (o := 130) (k := v174.toInt.toNat) (x := 1) hB_I162 ⟨(show (0 : Int) ≤ 1 from by decide), (show (1 : Int) ≤ 1 from by decide)⟩) ⟨by show (0 : Int) ≤ v182.toInt; omega, by show v182.toInt ≤ (400 : Int); omega⟩) (fun o ho i => ((hk_mod ho rfl).trans ((hk_mod ho rfl).trans ((e_I162 o (hk_ms rfl ho) i).trans ((e_I157 o (hk_ms rfl ho) i).trans ((hk_mod ho rfl).trans rfl)))))) (fun i hi => ((hk_neq (fun z => by subst z; cases hi)).trans ((hk_ot rfl).trans ((e8_I162 i (hk_ms rfl hi)).trans ((e8_I157 i (hk_ms rfl hi)).trans ((hk_neq (fun z => by subst z; cases hi)).trans rfl)))))) (show (qm_up (qm_up I162 130 (v174.toInt.toNat) 1) 118 11 v182) 118 11 = _ from (hk_same)) (show (qm_up (qm_up I162 130 (v174.toInt.toNat) 1) 118 11 v182) 118 13 = _ from ((hk_neq (by decide)).trans ((hk_ot rfl).trans q_f166))) (show (qm_up (qm_up I162 130 (v174.toInt.toNat) 1) 118 11 v182) 118 37 = _ from ((hk_neq (by decide)).trans ((hk_ot rfl).trans ((e8_I162 37 rfl).trans ((e8_I157 37 rfl).trans ((hk_neq (by decide)).trans q_ca)))))) (show (qm_up (qm_up I162 130 (v174.toInt.toNat) 1) 118 11 v182) 118 12 = _ from ((hk_neq (by decide)).trans ((hk_ot rfl).trans ((e8_I162 12 rfl).trans ((e8_I157 12 rfl).trans ((hk_neq (by decide)).trans q_bs)))))) (show (qm_up (qm_up I162 130 (v174.toInt.toNat) 1) 118 11 v182) 118 30 = _ from ((hk_neq (by decide)).trans ((hk_ot rfl).trans ((e8_I162 30 rfl).trans ((e8_I157 30 rfl).trans ((hk_neq (by decide)).trans q_la)))))) (show (qm_up (qm_up I162 130 (v174.toInt.toNat) 1) 118 11 v182) 118 20 = _ from ((hk_neq (by decide)).trans ((hk_ot rfl).trans ((e8_I162 20 rfl).trans ((e8_I157 20 rfl).trans ((hk_neq (by decide)).trans q_nm)))))) (show (qm_up (qm_up I162 130 (v174.toInt.toNat) 1) 118 11 v182) 131 (sd.toInt.toNat) = _ from ((hk_ot rfl).trans ((hk_ot rfl).trans ((e_I162 131 rfl (sd.toInt.toNat)).trans ((e_I157 131 rfl (sd.toInt.toNat)).trans ((hk_ot rfl).trans q_pr)))))) (show (qm_up (qm_up I162 130 (v174.toInt.toNat) 1) 118 11 v182) 132 (sd.toInt.toNat) = _ from ((hk_ot rfl).trans ((hk_ot rfl).trans ((e_I162 132 rfl (sd.toInt.toNat)).trans ((e_I157 132 rfl (sd.toInt.toNat)).trans ((hk_ot rfl).trans q_pp)))))) (by omega) (fun z => by omega) td_y183 (fun z => rs_sm hrs s133_y183 s134_y183 s138_y183 s139_y183 s140_y183 s141_y183 s142_y183 (by omega))
          · refine qm_Ru.go 2 (c' := (12, [.ref 118], [.int 2, .ref 118], (h.1, qm_up I162 130 (v174.toInt.toNat) 1, J163, h.2.2.2))) rfl ?_
            refine hk_inv (o := 118) (r := []) (as := [.ref 118, .int 2]) rfl rfl (hH.1 118 (17, 105) rfl) rfl rfl rfl rfl ?_
            refine qm_Ru.go 1 (c' := (1, [.ref 118, .int 2], [.ref 118], (h.1, qm_up I162 130 (v174.toInt.toNat) 1, J163, h.2.2.2))) rfl ?_
            refine hk_geti (v := f166) rfl (hH.1 118 (17, 105) rfl) rfl (show (qm_up I162 130 (v174.toInt.toNat) 1) 118 13 = _ from ((hk_ot rfl).trans q_f166)) ?_
            refine qm_Ru.go 0 (c' := (4, [.ref 118, .int 2], [.int f166], (h.1, qm_up I162 130 (v174.toInt.toNat) 1, J163, h.2.2.2))) rfl ?_
            refine hk_zle (ix := f166.toInt) rfl rfl (fun z184 => ?_) (fun z184 => by exfalso; omega)
            refine qm_Ru.go 2 (c' := (10, [.ref 118, .int 2], [.int 2, .ref 118], (h.1, qm_up I162 130 (v174.toInt.toNat) 1, J163, h.2.2.2))) rfl ?_
            refine hk_puti rfl (hH.1 118 (17, 105) rfl) rfl ?_
            refine qm_Ru.go 2 (c' := (15, [.ref 118, .int 2], [.ref 118, .ref 118], (h.1, qm_up (qm_up I162 130 (v174.toInt.toNat) 1) 118 13 2, J163, h.2.2.2))) rfl ?_
            refine hk_getr rfl (hH.1 118 (17, 105) rfl) rfl (hH.2 118 6 (some 122) rfl) ?_
            refine qm_Ru.go 1 (c' := (19, [.ref 118, .int 2], [.ref 118, .ref 122, .ref 118], (h.1, qm_up (qm_up I162 130 (v174.toInt.toNat) 1) 118 13 2, J163, h.2.2.2))) rfl ?_
            refine hk_geti (v := t165) rfl (hH.1 118 (17, 105) rfl) rfl (show (qm_up (qm_up I162 130 (v174.toInt.toNat) 1) 118 13 2) 118 11 = _ from ((hk_neq (by decide)).trans ((hk_ot rfl).trans q_t165))) ?_
            refine qm_Ru.go 0 (c' := (22, [.ref 118, .int 2], [.int t165, .ref 122, .ref 118], (h.1, qm_up (qm_up I162 130 (v174.toInt.toNat) 1) 118 13 2, J163, h.2.2.2))) rfl ?_
            obtain ⟨v185, q_v185⟩ : ∃ v, h.2.1 122 (t165.toInt.toNat) = v := ⟨_, rfl⟩
            refine hk_ial (v := v185) rfl (hH.1 122 (0, 403) rfl) (by omega) (by omega) (show (qm_up (qm_up I162 130 (v174.toInt.toNat) 1) 118 13 2) 122 (t165.toInt.toNat) = _ from ((hk_ot rfl).trans ((hk_ot rfl).trans ((e_I162 122 rfl (t165.toInt.toNat)).trans ((e_I157 122 rfl (t165.toInt.toNat)).trans ((hk_ot rfl).trans q_v185)))))) ?_
            refine qm_Ru.go 0 (c' := (23, [.ref 118, .int 2], [.int v185, .ref 118], (h.1, qm_up (qm_up I162 130 (v174.toInt.toNat) 1) 118 13 2, J163, h.2.2.2))) rfl ?_
            refine hk_puti rfl (hH.1 118 (17, 105) rfl) rfl ?_
            refine qm_Ru.go 0 (c' := (26, [.ref 118, .int 2], [], (h.1, qm_up (qm_up (qm_up I162 130 (v174.toInt.toNat) 1) 118 13 2) 118 14 v185, J163, h.2.2.2))) rfl ?_
            refine qm_Ru.rt (v := none) (h' := (h.1, qm_up (qm_up (qm_up I162 130 (v174.toInt.toNat) 1) 118 13 2) 118 14 v185, J163, h.2.2.2)) rfl ?_
            refine qm_Ru.go 1 (c' := (28, [.ref 118], [], (h.1, qm_up (qm_up (qm_up I162 130 (v174.toInt.toNat) 1) 118 13 2) 118 14 v185, J163, h.2.2.2))) rfl ?_
            refine qm_Ru.rt (v := none) (h' := (h.1, qm_up (qm_up (qm_up I162 130 (v174.toInt.toNat) 1) 118 13 2) 118 14 v185, J163, h.2.2.2)) rfl ?_
            refine qm_Ru.go 1 (c' := (20, [.ref 118, .int 4], [], (h.1, qm_up (qm_up (qm_up I162 130 (v174.toInt.toNat) 1) 118 13 2) 118 14 v185, J163, h.2.2.2))) rfl ?_
            refine qm_Ru.rt (v := none) (h' := (h.1, qm_up (qm_up (qm_up I162 130 (v174.toInt.toNat) 1) 118 13 2) 118 14 v185, J163, h.2.2.2)) rfl ?_
            refine qm_Ru.go 1 (c' := (352, [.ref 118, .int v1, .int v159, .int v164], [], (h.1, qm_up (qm_up (qm_up I162 130 (v174.toInt.toNat) 1) 118 13 2) 118 14 v185, J163, h.2.2.2))) rfl ?_
            refine qm_Ru.rt (v := none) (h' := (h.1, qm_up (qm_up (qm_up I162 130 (v174.toInt.toNat) 1) 118 13 2) 118 14 v185, J163, h.2.2.2)) rfl ?_
            have s131_y186 : ∀ i, (qm_up (qm_up (qm_up I162 130 (v174.toInt.toNat) 1) 118 13 2) 118 14 v185) 131 i = h.2.1 131 i := fun i => ((hk_ot rfl).trans ((hk_ot rfl).trans ((hk_ot rfl).trans ((e_I162 131 rfl i).trans ((e_I157 131 rfl i).trans ((hk_ot rfl).trans rfl))))))
            have s132_y186 : ∀ i, (qm_up (qm_up (qm_up I162 130 (v174.toInt.toNat) 1) 118 13 2) 118 14 v185) 132 i = h.2.1 132 i := fun i => ((hk_ot rfl).trans ((hk_ot rfl).trans ((hk_ot rfl).trans ((e_I162 132 rfl i).trans ((e_I157 132 rfl i).trans ((hk_ot rfl).trans rfl))))))
            have s133_y186 : ∀ i, (qm_up (qm_up (qm_up I162 130 (v174.toInt.toNat) 1) 118 13 2) 118 14 v185) 133 i = h.2.1 133 i := fun i => ((hk_ot rfl).trans ((hk_ot rfl).trans ((hk_ot rfl).trans ((e_I162 133 rfl i).trans ((e_I157 133 rfl i).trans ((hk_ot rfl).trans rfl))))))
            have s134_y186 : ∀ i, (qm_up (qm_up (qm_up I162 130 (v174.toInt.toNat) 1) 118 13 2) 118 14 v185) 134 i = h.2.1 134 i := fun i => ((hk_ot rfl).trans ((hk_ot rfl).trans ((hk_ot rfl).trans ((e_I162 134 rfl i).trans ((e_I157 134 rfl i).trans ((hk_ot rfl).trans rfl))))))
            have s138_y186 : ∀ i, (qm_up (qm_up (qm_up I162 130 (v174.toInt.toNat) 1) 118 13 2) 118 14 v185) 138 i = h.2.1 138 i := fun i => ((hk_ot rfl).trans ((hk_ot rfl).trans ((hk_ot rfl).trans ((e_I162 138 rfl i).trans ((e_I157 138 rfl i).trans ((hk_ot rfl).trans rfl))))))
            have s139_y186 : ∀ i, (qm_up (qm_up (qm_up I162 130 (v174.toInt.toNat) 1) 118 13 2) 118 14 v185) 139 i = h.2.1 139 i := fun i => ((hk_ot rfl).trans ((hk_ot rfl).trans ((hk_ot rfl).trans ((e_I162 139 rfl i).trans ((e_I157 139 rfl i).trans ((hk_ot rfl).trans rfl))))))
            have s140_y186 : ∀ i, (qm_up (qm_up (qm_up I162 130 (v174.toInt.toNat) 1) 118 13 2) 118 14 v185) 140 i = h.2.1 140 i := fun i => ((hk_ot rfl).trans ((hk_ot rfl).trans ((hk_ot rfl).trans ((e_I162 140 rfl i).trans ((e_I157 140 rfl i).trans ((hk_ot rfl).trans rfl))))))
            have s141_y186 : ∀ i, (qm_up (qm_up (qm_up I162 130 (v174.toInt.toNat) 1) 118 13 2) 118 14 v185) 141 i = h.2.1 141 i := fun i => ((hk_ot rfl).trans ((hk_ot rfl).trans ((hk_ot rfl).trans ((e_I162 141 rfl i).trans ((e_I157 141 rfl i).trans ((hk_ot rfl).trans rfl))))))
            have s142_y186 : ∀ i, (qm_up (qm_up (qm_up I162 130 (v174.toInt.toNat) 1) 118 13 2) 118 14 v185) 142 i = h.2.1 142 i := fun i => ((hk_ot rfl).trans ((hk_ot rfl).trans ((hk_ot rfl).trans ((e_I162 142 rfl i).trans ((e_I157 142 rfl i).trans ((hk_ot rfl).trans rfl))))))
            have td_y186 : td (sd.toInt.toNat) h.2.1 (qm_up (qm_up (qm_up I162 130 (v174.toInt.toNat) 1) 118 13 2) 118 14 v185) := ⟨fun i _ => ⟨s141_y186 i, s142_y186 i⟩, fun i _ => ⟨s138_y186 i, s139_y186 i, s140_y186 i⟩, fun i _ => ⟨s133_y186 i, s134_y186 i⟩, fun i _ => ⟨s131_y186 i, s132_y186 i⟩⟩
            exact k (qm_up (qm_up (qm_up I162 130 (v174.toInt.toNat) 1) 118 13 2) 118 14 v185) (J163) t165 2 ca bs la nm pr pp (hb_up (o := 118) (k := 14) (x := v185) (hb_up (o := 118) (k := 13) (x := 2) (hb_up (o := 130) (k := v174.toInt.toNat) (x := 1) hB_I162 ⟨(show (0 : Int) ≤ 1 from by decide), (show (1 : Int) ≤ 1 from by decide)⟩) (qa_in_full _)) (qa_in_full _)) (fun o ho i => ((hk_mod ho rfl).trans ((hk_mod ho rfl).trans ((hk_mod ho rfl).trans ((e_I162 o (hk_ms rfl ho) i).trans ((e_I157 o (hk_ms rfl ho) i).trans ((hk_mod ho rfl).trans rfl))))))) (fun i hi => ((hk_neq (fun z => by subst z; cases hi)).trans ((hk_neq (fun z => by subst z; cases hi)).trans ((hk_ot rfl).trans ((e8_I162 i (hk_ms rfl hi)).trans ((e8_I157 i (hk_ms rfl hi)).trans ((hk_neq (fun z => by subst z; cases hi)).trans rfl))))))) (show (qm_up (qm_up (qm_up I162 130 (v174.toInt.toNat) 1) 118 13 2) 118 14 v185) 118 11 = _ from ((hk_neq (by decide)).trans ((hk_neq (by decide)).trans ((hk_ot rfl).trans q_t165)))) (show (qm_up (qm_up (qm_up I162 130 (v174.toInt.toNat) 1) 118 13 2) 118 14 v185) 118 13 = _ from ((hk_neq (by decide)).trans (hk_same))) (show (qm_up (qm_up (qm_up I162 130 (v174.toInt.toNat) 1) 118 13 2) 118 14 v185) 118 37 = _ from ((hk_neq (by decide)).trans ((hk_neq (by decide)).trans ((hk_ot rfl).trans ((e8_I162 37 rfl).trans ((e8_I157 37 rfl).trans ((hk_neq (by decide)).trans q_ca))))))) (show (qm_up (qm_up (qm_up I162 130 (v174.toInt.toNat) 1) 118 13 2) 118 14 v185) 118 12 = _ from ((hk_neq (by decide)).trans ((hk_neq (by decide)).trans ((hk_ot rfl).trans ((e8_I162 12 rfl).trans ((e8_I157 12 rfl).trans ((hk_neq (by decide)).trans q_bs))))))) (show (qm_up (qm_up (qm_up I162 130 (v174.toInt.toNat) 1) 118 13 2) 118 14 v185) 118 30 = _ from ((hk_neq (by decide)).trans ((hk_neq (by decide)).trans ((hk_ot rfl).trans ((e8_I162 30 rfl).trans ((e8_I157 30 rfl).trans ((hk_neq (by decide)).trans q_la))))))) (show (qm_up (qm_up (qm_up I162 130 (v174.toInt.toNat) 1) 118 13 2) 118 14 v185) 118 20 = _ from ((hk_neq (by decide)).trans ((hk_neq (by decide)).trans ((hk_ot rfl).trans ((e8_I162 20 rfl).trans ((e8_I157 20 rfl).trans ((hk_neq (by decide)).trans q_nm))))))) (show (qm_up (qm_up (qm_up I162 130 (v174.toInt.toNat) 1) 118 13 2) 118 14 v185) 131 (sd.toInt.toNat) = _ from ((hk_ot rfl).trans ((hk_ot rfl).trans ((hk_ot rfl).trans ((e_I162 131 rfl (sd.toInt.toNat)).trans ((e_I157 131 rfl (sd.toInt.toNat)).trans ((hk_ot rfl).trans q_pr))))))) (show (qm_up (qm_up (qm_up I162 130 (v174.toInt.toNat) 1) 118 13 2) 118 14 v185) 132 (sd.toInt.toNat) = _ from ((hk_ot rfl).trans ((hk_ot rfl).trans ((hk_ot rfl).trans ((e_I162 132 rfl (sd.toInt.toNat)).trans ((e_I157 132 rfl (sd.toInt.toNat)).trans ((hk_ot rfl).trans q_pp))))))) (by omega) (fun z => by omega) td_y186 (fun z => rs_sm hrs s133_y186 s134_y186 s138_y186 s139_y186 s140_y186 s141_y186 s142_y186 (by omega))
    · refine qm_Ru.go 2 (c' := (12, [.ref 118], [.int 2, .ref 118], h)) rfl ?_
      refine hk_inv (o := 118) (r := []) (as := [.ref 118, .int 2]) rfl rfl (hH.1 118 (17, 105) rfl) rfl rfl rfl rfl ?_
      refine qm_Ru.go 1 (c' := (1, [.ref 118, .int 2], [.ref 118], h)) rfl ?_
      refine hk_geti (v := fa) rfl (hH.1 118 (17, 105) rfl) rfl q_fa ?_
      refine qm_Ru.go 0 (c' := (4, [.ref 118, .int 2], [.int fa], h)) rfl ?_
      refine hk_zle (ix := fa.toInt) rfl rfl (fun z187 => ?_) (fun z187 => by exfalso; omega)
      refine qm_Ru.go 2 (c' := (10, [.ref 118, .int 2], [.int 2, .ref 118], h)) rfl ?_
      refine hk_puti rfl (hH.1 118 (17, 105) rfl) rfl ?_
      refine qm_Ru.go 2 (c' := (15, [.ref 118, .int 2], [.ref 118, .ref 118], (h.1, qm_up h.2.1 118 13 2, h.2.2.1, h.2.2.2))) rfl ?_
      refine hk_getr rfl (hH.1 118 (17, 105) rfl) rfl (hH.2 118 6 (some 122) rfl) ?_
      refine qm_Ru.go 1 (c' := (19, [.ref 118, .int 2], [.ref 118, .ref 122, .ref 118], (h.1, qm_up h.2.1 118 13 2, h.2.2.1, h.2.2.2))) rfl ?_
      refine hk_geti (v := ta) rfl (hH.1 118 (17, 105) rfl) rfl (show (qm_up h.2.1 118 13 2) 118 11 = _ from ((hk_neq (by decide)).trans q_ta)) ?_
      refine qm_Ru.go 0 (c' := (22, [.ref 118, .int 2], [.int ta, .ref 122, .ref 118], (h.1, qm_up h.2.1 118 13 2, h.2.2.1, h.2.2.2))) rfl ?_
      obtain ⟨v188, q_v188⟩ : ∃ v, h.2.1 122 (ta.toInt.toNat) = v := ⟨_, rfl⟩
      refine hk_ial (v := v188) rfl (hH.1 122 (0, 403) rfl) (by omega) (by omega) (show (qm_up h.2.1 118 13 2) 122 (ta.toInt.toNat) = _ from ((hk_ot rfl).trans q_v188)) ?_
      refine qm_Ru.go 0 (c' := (23, [.ref 118, .int 2], [.int v188, .ref 118], (h.1, qm_up h.2.1 118 13 2, h.2.2.1, h.2.2.2))) rfl ?_
      refine hk_puti rfl (hH.1 118 (17, 105) rfl) rfl ?_
      refine qm_Ru.go 0 (c' := (26, [.ref 118, .int 2], [], (h.1, qm_up (qm_up h.2.1 118 13 2) 118 14 v188, h.2.2.1, h.2.2.2))) rfl ?_
      refine qm_Ru.rt (v := none) (h' := (h.1, qm_up (qm_up h.2.1 118 13 2) 118 14 v188, h.2.2.1, h.2.2.2)) rfl ?_
      refine qm_Ru.go 1 (c' := (28, [.ref 118], [], (h.1, qm_up (qm_up h.2.1 118 13 2) 118 14 v188, h.2.2.1, h.2.2.2))) rfl ?_
      refine qm_Ru.rt (v := none) (h' := (h.1, qm_up (qm_up h.2.1 118 13 2) 118 14 v188, h.2.2.1, h.2.2.2)) rfl ?_
      refine qm_Ru.go 3 (c' := (43, [.ref 118, .int v1, .float 0, .float 0], [.int 4, .int 0, .ref 118], (h.1, qm_up (qm_up h.2.1 118 13 2) 118 14 v188, h.2.2.1, h.2.2.2))) rfl ?_
      refine hk_inv (o := 118) (r := []) (as := [.ref 118, .int 0, .int 4]) rfl rfl (hH.1 118 (17, 105) rfl) rfl rfl rfl rfl (hs_told (d := d + 4) (h := (h.1, qm_up (qm_up h.2.1 118 13 2) 118 14 v188, h.2.2.1, h.2.2.2)) hH (hb_up (o := 118) (k := 14) (x := v188) (hb_up (o := 118) (k := 13) (x := 2) hB (qa_in_full _)) (qa_in_full _)) (ta := ta) (fa := 2) (lo := 0) (hi := 4) (show (qm_up (qm_up h.2.1 118 13 2) 118 14 v188) 118 11 = _ from ((hk_neq (by decide)).trans ((hk_neq (by decide)).trans q_ta))) (show (qm_up (qm_up h.2.1 118 13 2) 118 14 v188) 118 13 = _ from ((hk_neq (by decide)).trans (hk_same))) (by omega) (by decide) (fun I189 J190 v191 t192 f193 hB_I189 e_I189 e8_I189 q_t192 q_f193 b1_I189 b2_I189 => ?_))
      have b2_I189 : (0 : Int) ≤ v191.toInt ∧ v191.toInt ≤ 4 := b2_I189
      have e_I189 : ∀ o, [118].contains o = false → ∀ i, I189 o i = (qm_up (qm_up h.2.1 118 13 2) 118 14 v188) o i := e_I189
      have e8_I189 : ∀ i, [11, 13, 14, 15, 16].contains i = false → I189 118 i = (qm_up (qm_up h.2.1 118 13 2) 118 14 v188) 118 i := e8_I189
      refine qm_Ru.go 4 (c' := (50, [.ref 118, .int v1, .int v191, .float 0], [.int 3, .int 0, .ref 118], (h.1, I189, J190, h.2.2.2))) rfl ?_
      refine hk_inv (o := 118) (r := []) (as := [.ref 118, .int 0, .int 3]) rfl rfl (hH.1 118 (17, 105) rfl) rfl rfl rfl rfl (hs_told (d := d + 4) (h := (h.1, I189, J190, h.2.2.2)) hH hB_I189 (ta := t192) (fa := f193) (lo := 0) (hi := 3) q_t192 q_f193 (by omega) (by decide) (fun I194 J195 v196 t197 f198 hB_I194 e_I194 e8_I194 q_t197 q_f198 b1_I194 b2_I194 => ?_))
      have b2_I194 : (0 : Int) ≤ v196.toInt ∧ v196.toInt ≤ 3 := b2_I194
      have e_I194 : ∀ o, [118].contains o = false → ∀ i, I194 o i = (I189) o i := e_I194
      have e8_I194 : ∀ i, [11, 13, 14, 15, 16].contains i = false → I194 118 i = (I189) 118 i := e8_I194
      refine qm_Ru.go 2 (c' := (55, [.ref 118, .int v1, .int v191, .int v196], [.ref 118], (h.1, I194, J195, h.2.2.2))) rfl ?_
      refine hk_geti (v := f198) rfl (hH.1 118 (17, 105) rfl) rfl q_f198 ?_
      refine qm_Ru.go 0 (c' := (58, [.ref 118, .int v1, .int v191, .int v196], [.int f198], (h.1, I194, J195, h.2.2.2))) rfl ?_
      refine hk_zne (ix := f198.toInt) rfl rfl (fun z199 => ?_) (fun z199 => ?_)
      · refine qm_Ru.go 2 (c' := (82, [.ref 118, .int v1, .int v191, .int v196], [.int 4, .ref 118], (h.1, I194, J195, h.2.2.2))) rfl ?_
        refine hk_inv (o := 118) (r := []) (as := [.ref 118, .int 4]) rfl rfl (hH.1 118 (17, 105) rfl) rfl rfl rfl rfl ?_
        refine qm_Ru.go 2 (c' := (2, [.ref 118, .int 4], [.int 4, .ref 118], (h.1, I194, J195, h.2.2.2))) rfl ?_
        refine hk_inv (o := 118) (r := []) (as := [.ref 118, .int 4]) rfl rfl (hH.1 118 (17, 105) rfl) rfl rfl rfl rfl ?_
        refine qm_Ru.go 1 (c' := (1, [.ref 118, .int 4], [.ref 118], (h.1, I194, J195, h.2.2.2))) rfl ?_
        refine hk_geti (v := f198) rfl (hH.1 118 (17, 105) rfl) rfl q_f198 ?_
        refine qm_Ru.go 0 (c' := (4, [.ref 118, .int 4], [.int f198], (h.1, I194, J195, h.2.2.2))) rfl ?_
        refine hk_zne (ix := f198.toInt) rfl rfl (fun z200 => ?_) (fun z200 => by exfalso; omega)
        refine qm_Ru.go 1 (c' := (25, [.ref 118, .int 4], [.int 0], (h.1, I194, J195, h.2.2.2))) rfl ?_
        refine qm_Ru.rt (v := (some (.int 0))) (h' := (h.1, I194, J195, h.2.2.2)) rfl ?_
        refine qm_Ru.go 3 (c' := (17, [.ref 118, .int 4], [.int 1, .ref 118], (h.1, I194, J195, h.2.2.2))) rfl ?_
        refine hk_inv (o := 118) (r := []) (as := [.ref 118, .int 1]) rfl rfl (hH.1 118 (17, 105) rfl) rfl rfl rfl rfl ?_
        refine qm_Ru.go 1 (c' := (1, [.ref 118, .int 1], [.ref 118], (h.1, I194, J195, h.2.2.2))) rfl ?_
        refine hk_geti (v := f198) rfl (hH.1 118 (17, 105) rfl) rfl q_f198 ?_
        refine qm_Ru.go 0 (c' := (4, [.ref 118, .int 1], [.int f198], (h.1, I194, J195, h.2.2.2))) rfl ?_
        refine hk_zle (ix := f198.toInt) rfl rfl (fun z201 => by exfalso; omega) (fun z201 => ?_)
        refine qm_Ru.go 0 (c' := (7, [.ref 118, .int 1], [], (h.1, I194, J195, h.2.2.2))) rfl ?_
        refine qm_Ru.rt (v := none) (h' := (h.1, I194, J195, h.2.2.2)) rfl ?_
        refine qm_Ru.go 0 (c' := (20, [.ref 118, .int 4], [], (h.1, I194, J195, h.2.2.2))) rfl ?_
        refine qm_Ru.rt (v := none) (h' := (h.1, I194, J195, h.2.2.2)) rfl ?_
        refine qm_Ru.go 1 (c' := (352, [.ref 118, .int v1, .int v191, .int v196], [], (h.1, I194, J195, h.2.2.2))) rfl ?_
        refine qm_Ru.rt (v := none) (h' := (h.1, I194, J195, h.2.2.2)) rfl ?_
        have s131_y202 : ∀ i, (I194) 131 i = h.2.1 131 i := fun i => ((e_I194 131 rfl i).trans ((e_I189 131 rfl i).trans ((hk_ot rfl).trans ((hk_ot rfl).trans rfl))))
        have s132_y202 : ∀ i, (I194) 132 i = h.2.1 132 i := fun i => ((e_I194 132 rfl i).trans ((e_I189 132 rfl i).trans ((hk_ot rfl).trans ((hk_ot rfl).trans rfl))))
        have s133_y202 : ∀ i, (I194) 133 i = h.2.1 133 i := fun i => ((e_I194 133 rfl i).trans ((e_I189 133 rfl i).trans ((hk_ot rfl).trans ((hk_ot rfl).trans rfl))))
        have s134_y202 : ∀ i, (I194) 134 i = h.2.1 134 i := fun i => ((e_I194 134 rfl i).trans ((e_I189 134 rfl i).trans ((hk_ot rfl).trans ((hk_ot rfl).trans rfl))))
        have s138_y202 : ∀ i, (I194) 138 i = h.2.1 138 i := fun i => ((e_I194 138 rfl i).trans ((e_I189 138 rfl i).trans ((hk_ot rfl).trans ((hk_ot rfl).trans rfl))))
        have s139_y202 : ∀ i, (I194) 139 i = h.2.1 139 i := fun i => ((e_I194 139 rfl i).trans ((e_I189 139 rfl i).trans ((hk_ot rfl).trans ((hk_ot rfl).trans rfl))))
        have s140_y202 : ∀ i, (I194) 140 i = h.2.1 140 i := fun i => ((e_I194 140 rfl i).trans ((e_I189 140 rfl i).trans ((hk_ot rfl).trans ((hk_ot rfl).trans rfl))))
        have s141_y202 : ∀ i, (I194) 141 i = h.2.1 141 i := fun i => ((e_I194 141 rfl i).trans ((e_I189 141 rfl i).trans ((hk_ot rfl).trans ((hk_ot rfl).trans rfl))))
        have s142_y202 : ∀ i, (I194) 142 i = h.2.1 142 i := fun i => ((e_I194 142 rfl i).trans ((e_I189 142 rfl i).trans ((hk_ot rfl).trans ((hk_ot rfl).trans rfl))))
        have td_y202 : td (sd.toInt.toNat) h.2.1 (I194) := ⟨fun i _ => ⟨s141_y202 i, s142_y202 i⟩, fun i _ => ⟨s138_y202 i, s139_y202 i, s140_y202 i⟩, fun i _ => ⟨s133_y202 i, s134_y202 i⟩, fun i _ => ⟨s131_y202 i, s132_y202 i⟩⟩
        exact k (I194) (J195) t197 f198 ca bs la nm pr pp hB_I194 (fun o ho i => ((e_I194 o (hk_ms rfl ho) i).trans ((e_I189 o (hk_ms rfl ho) i).trans ((hk_mod ho rfl).trans ((hk_mod ho rfl).trans rfl))))) (fun i hi => ((e8_I194 i (hk_ms rfl hi)).trans ((e8_I189 i (hk_ms rfl hi)).trans ((hk_neq (fun z => by subst z; cases hi)).trans ((hk_neq (fun z => by subst z; cases hi)).trans rfl))))) q_t197 q_f198 (show (I194) 118 37 = _ from ((e8_I194 37 rfl).trans ((e8_I189 37 rfl).trans ((hk_neq (by decide)).trans ((hk_neq (by decide)).trans q_ca))))) (show (I194) 118 12 = _ from ((e8_I194 12 rfl).trans ((e8_I189 12 rfl).trans ((hk_neq (by decide)).trans ((hk_neq (by decide)).trans q_bs))))) (show (I194) 118 30 = _ from ((e8_I194 30 rfl).trans ((e8_I189 30 rfl).trans ((hk_neq (by decide)).trans ((hk_neq (by decide)).trans q_la))))) (show (I194) 118 20 = _ from ((e8_I194 20 rfl).trans ((e8_I189 20 rfl).trans ((hk_neq (by decide)).trans ((hk_neq (by decide)).trans q_nm))))) (show (I194) 131 (sd.toInt.toNat) = _ from ((e_I194 131 rfl (sd.toInt.toNat)).trans ((e_I189 131 rfl (sd.toInt.toNat)).trans ((hk_ot rfl).trans ((hk_ot rfl).trans q_pr))))) (show (I194) 132 (sd.toInt.toNat) = _ from ((e_I194 132 rfl (sd.toInt.toNat)).trans ((e_I189 132 rfl (sd.toInt.toNat)).trans ((hk_ot rfl).trans ((hk_ot rfl).trans q_pp))))) (by omega) (fun z => by omega) td_y202 (fun z => rs_sm hrs s133_y202 s134_y202 s138_y202 s139_y202 s140_y202 s141_y202 s142_y202 (by omega))
      · refine qm_Ru.go 1 (c' := (62, [.ref 118, .int v1, .int v191, .int v196], [.ref 118], (h.1, I194, J195, h.2.2.2))) rfl ?_
        refine hk_getr rfl (hH.1 118 (17, 105) rfl) rfl (hH.2 118 25 (some 130) rfl) ?_
        refine qm_Ru.go 2 (c' := (68, [.ref 118, .int v1, .int v191, .int v196], [.ref 118, .int 20, .ref 130], (h.1, I194, J195, h.2.2.2))) rfl ?_
        refine hk_geti (v := sd) rfl (hH.1 118 (17, 105) rfl) rfl (show (I194) 118 19 = _ from ((e8_I194 19 rfl).trans ((e8_I189 19 rfl).trans ((hk_neq (by decide)).trans ((hk_neq (by decide)).trans q_sd))))) ?_
        refine qm_Ru.go 1 (c' := (72, [.ref 118, .int v1, .int v191, .int v196], [.int (20 * sd), .ref 130], (h.1, I194, J195, h.2.2.2))) rfl ?_
        obtain ⟨v203, q_v203, e_v203⟩ := hk_mul (x := 20) (y := sd) (a := 20) (b := sd.toInt) rfl rfl (by omega) (by omega)
        rw [q_v203]
        refine qm_Ru.go 3 (c' := (75, [.ref 118, .int v1, .int v191, .int v196], [.int (4 * v191), .int v203, .ref 130], (h.1, I194, J195, h.2.2.2))) rfl ?_
        obtain ⟨v204, q_v204, e_v204⟩ := hk_mul (x := 4) (y := v191) (a := 4) (b := v191.toInt) rfl rfl (by omega) (by omega)
        rw [q_v204]
        refine qm_Ru.go 1 (c' := (76, [.ref 118, .int v1, .int v191, .int v196], [.int (v203 + v204), .ref 130], (h.1, I194, J195, h.2.2.2))) rfl ?_
        obtain ⟨v205, q_v205, e_v205⟩ := hk_add (x := v203) (y := v204) (a := v203.toInt) (b := v204.toInt) rfl rfl (by omega) (by omega)
        rw [q_v205]
        refine qm_Ru.go 2 (c' := (78, [.ref 118, .int v1, .int v191, .int v196], [.int (v205 + v196), .ref 130], (h.1, I194, J195, h.2.2.2))) rfl ?_
        obtain ⟨v206, q_v206, e_v206⟩ := hk_add (x := v205) (y := v196) (a := v205.toInt) (b := v196.toInt) rfl rfl (by omega) (by omega)
        rw [q_v206]
        refine qm_Ru.go 1 (c' := (79, [.ref 118, .int v1, .int v191, .int v196], [.int 1, .int v206, .ref 130], (h.1, I194, J195, h.2.2.2))) rfl ?_
        refine hk_bas rfl (hH.1 130 (2, 40) rfl) (by omega) (by omega) rfl ?_
        refine qm_Ru.go 2 (c' := (82, [.ref 118, .int v1, .int v191, .int v196], [.int 4, .ref 118], (h.1, qm_up I194 130 (v206.toInt.toNat) 1, J195, h.2.2.2))) rfl ?_
        refine hk_inv (o := 118) (r := []) (as := [.ref 118, .int 4]) rfl rfl (hH.1 118 (17, 105) rfl) rfl rfl rfl rfl ?_
        refine qm_Ru.go 2 (c' := (2, [.ref 118, .int 4], [.int 4, .ref 118], (h.1, qm_up I194 130 (v206.toInt.toNat) 1, J195, h.2.2.2))) rfl ?_
        refine hk_inv (o := 118) (r := []) (as := [.ref 118, .int 4]) rfl rfl (hH.1 118 (17, 105) rfl) rfl rfl rfl rfl ?_
        refine qm_Ru.go 1 (c' := (1, [.ref 118, .int 4], [.ref 118], (h.1, qm_up I194 130 (v206.toInt.toNat) 1, J195, h.2.2.2))) rfl ?_
        refine hk_geti (v := f198) rfl (hH.1 118 (17, 105) rfl) rfl (show (qm_up I194 130 (v206.toInt.toNat) 1) 118 13 = _ from ((hk_ot rfl).trans q_f198)) ?_
        refine qm_Ru.go 0 (c' := (4, [.ref 118, .int 4], [.int f198], (h.1, qm_up I194 130 (v206.toInt.toNat) 1, J195, h.2.2.2))) rfl ?_
        refine hk_zne (ix := f198.toInt) rfl rfl (fun z207 => by exfalso; omega) (fun z207 => ?_)
        refine qm_Ru.go 1 (c' := (8, [.ref 118, .int 4], [.ref 118], (h.1, qm_up I194 130 (v206.toInt.toNat) 1, J195, h.2.2.2))) rfl ?_
        refine hk_getr rfl (hH.1 118 (17, 105) rfl) rfl (hH.2 118 5 (some 121) rfl) ?_
        refine qm_Ru.go 1 (c' := (12, [.ref 118, .int 4], [.ref 118, .ref 121], (h.1, qm_up I194 130 (v206.toInt.toNat) 1, J195, h.2.2.2))) rfl ?_
        refine hk_geti (v := t197) rfl (hH.1 118 (17, 105) rfl) rfl (show (qm_up I194 130 (v206.toInt.toNat) 1) 118 11 = _ from ((hk_ot rfl).trans q_t197)) ?_
        refine qm_Ru.go 0 (c' := (15, [.ref 118, .int 4], [.int t197, .ref 121], (h.1, qm_up I194 130 (v206.toInt.toNat) 1, J195, h.2.2.2))) rfl ?_
        obtain ⟨v208, q_v208⟩ : ∃ v, h.2.1 121 (t197.toInt.toNat) = v := ⟨_, rfl⟩
        have b_v208 : (0 : Int) ≤ v208.toInt ∧ v208.toInt ≤ 44 := by rw [← q_v208]; exact hB 121 (t197.toInt.toNat)
        refine hk_ial (v := v208) rfl (hH.1 121 (0, 403) rfl) (by omega) (by omega) (show (qm_up I194 130 (v206.toInt.toNat) 1) 121 (t197.toInt.toNat) = _ from ((hk_ot rfl).trans ((e_I194 121 rfl (t197.toInt.toNat)).trans ((e_I189 121 rfl (t197.toInt.toNat)).trans ((hk_ot rfl).trans ((hk_ot rfl).trans q_v208)))))) ?_
        refine qm_Ru.go 1 (c' := (17, [.ref 118, .int 4], [.int 4, .int v208], (h.1, qm_up I194 130 (v206.toInt.toNat) 1, J195, h.2.2.2))) rfl ?_
        refine hk_cne (ix := v208.toInt) (iy := 4) rfl rfl rfl (fun z209 => ?_) (fun z209 => ?_)
        · refine qm_Ru.go 1 (c' := (25, [.ref 118, .int 4], [.int 0], (h.1, qm_up I194 130 (v206.toInt.toNat) 1, J195, h.2.2.2))) rfl ?_
          refine qm_Ru.rt (v := (some (.int 0))) (h' := (h.1, qm_up I194 130 (v206.toInt.toNat) 1, J195, h.2.2.2)) rfl ?_
          refine qm_Ru.go 3 (c' := (17, [.ref 118, .int 4], [.int 1, .ref 118], (h.1, qm_up I194 130 (v206.toInt.toNat) 1, J195, h.2.2.2))) rfl ?_
          refine hk_inv (o := 118) (r := []) (as := [.ref 118, .int 1]) rfl rfl (hH.1 118 (17, 105) rfl) rfl rfl rfl rfl ?_
          refine qm_Ru.go 1 (c' := (1, [.ref 118, .int 1], [.ref 118], (h.1, qm_up I194 130 (v206.toInt.toNat) 1, J195, h.2.2.2))) rfl ?_
          refine hk_geti (v := f198) rfl (hH.1 118 (17, 105) rfl) rfl (show (qm_up I194 130 (v206.toInt.toNat) 1) 118 13 = _ from ((hk_ot rfl).trans q_f198)) ?_
          refine qm_Ru.go 0 (c' := (4, [.ref 118, .int 1], [.int f198], (h.1, qm_up I194 130 (v206.toInt.toNat) 1, J195, h.2.2.2))) rfl ?_
          refine hk_zle (ix := f198.toInt) rfl rfl (fun z210 => ?_) (fun z210 => by exfalso; omega)
          refine qm_Ru.go 2 (c' := (10, [.ref 118, .int 1], [.int 1, .ref 118], (h.1, qm_up I194 130 (v206.toInt.toNat) 1, J195, h.2.2.2))) rfl ?_
          refine hk_puti rfl (hH.1 118 (17, 105) rfl) rfl ?_
          refine qm_Ru.go 2 (c' := (15, [.ref 118, .int 1], [.ref 118, .ref 118], (h.1, qm_up (qm_up I194 130 (v206.toInt.toNat) 1) 118 13 1, J195, h.2.2.2))) rfl ?_
          refine hk_getr rfl (hH.1 118 (17, 105) rfl) rfl (hH.2 118 6 (some 122) rfl) ?_
          refine qm_Ru.go 1 (c' := (19, [.ref 118, .int 1], [.ref 118, .ref 122, .ref 118], (h.1, qm_up (qm_up I194 130 (v206.toInt.toNat) 1) 118 13 1, J195, h.2.2.2))) rfl ?_
          refine hk_geti (v := t197) rfl (hH.1 118 (17, 105) rfl) rfl (show (qm_up (qm_up I194 130 (v206.toInt.toNat) 1) 118 13 1) 118 11 = _ from ((hk_neq (by decide)).trans ((hk_ot rfl).trans q_t197))) ?_
          refine qm_Ru.go 0 (c' := (22, [.ref 118, .int 1], [.int t197, .ref 122, .ref 118], (h.1, qm_up (qm_up I194 130 (v206.toInt.toNat) 1) 118 13 1, J195, h.2.2.2))) rfl ?_
          obtain ⟨v211, q_v211⟩ : ∃ v, h.2.1 122 (t197.toInt.toNat) = v := ⟨_, rfl⟩
          refine hk_ial (v := v211) rfl (hH.1 122 (0, 403) rfl) (by omega) (by omega) (show (qm_up (qm_up I194 130 (v206.toInt.toNat) 1) 118 13 1) 122 (t197.toInt.toNat) = _ from ((hk_ot rfl).trans ((hk_ot rfl).trans ((e_I194 122 rfl (t197.toInt.toNat)).trans ((e_I189 122 rfl (t197.toInt.toNat)).trans ((hk_ot rfl).trans ((hk_ot rfl).trans q_v211))))))) ?_
          refine qm_Ru.go 0 (c' := (23, [.ref 118, .int 1], [.int v211, .ref 118], (h.1, qm_up (qm_up I194 130 (v206.toInt.toNat) 1) 118 13 1, J195, h.2.2.2))) rfl ?_
          refine hk_puti rfl (hH.1 118 (17, 105) rfl) rfl ?_
          refine qm_Ru.go 0 (c' := (26, [.ref 118, .int 1], [], (h.1, qm_up (qm_up (qm_up I194 130 (v206.toInt.toNat) 1) 118 13 1) 118 14 v211, J195, h.2.2.2))) rfl ?_
          refine qm_Ru.rt (v := none) (h' := (h.1, qm_up (qm_up (qm_up I194 130 (v206.toInt.toNat) 1) 118 13 1) 118 14 v211, J195, h.2.2.2)) rfl ?_
          refine qm_Ru.go 0 (c' := (20, [.ref 118, .int 4], [], (h.1, qm_up (qm_up (qm_up I194 130 (v206.toInt.toNat) 1) 118 13 1) 118 14 v211, J195, h.2.2.2))) rfl ?_
          refine qm_Ru.rt (v := none) (h' := (h.1, qm_up (qm_up (qm_up I194 130 (v206.toInt.toNat) 1) 118 13 1) 118 14 v211, J195, h.2.2.2)) rfl ?_
          refine qm_Ru.go 1 (c' := (352, [.ref 118, .int v1, .int v191, .int v196], [], (h.1, qm_up (qm_up (qm_up I194 130 (v206.toInt.toNat) 1) 118 13 1) 118 14 v211, J195, h.2.2.2))) rfl ?_
          refine qm_Ru.rt (v := none) (h' := (h.1, qm_up (qm_up (qm_up I194 130 (v206.toInt.toNat) 1) 118 13 1) 118 14 v211, J195, h.2.2.2)) rfl ?_
          have s131_y212 : ∀ i, (qm_up (qm_up (qm_up I194 130 (v206.toInt.toNat) 1) 118 13 1) 118 14 v211) 131 i = h.2.1 131 i := fun i => ((hk_ot rfl).trans ((hk_ot rfl).trans ((hk_ot rfl).trans ((e_I194 131 rfl i).trans ((e_I189 131 rfl i).trans ((hk_ot rfl).trans ((hk_ot rfl).trans rfl)))))))
          have s132_y212 : ∀ i, (qm_up (qm_up (qm_up I194 130 (v206.toInt.toNat) 1) 118 13 1) 118 14 v211) 132 i = h.2.1 132 i := fun i => ((hk_ot rfl).trans ((hk_ot rfl).trans ((hk_ot rfl).trans ((e_I194 132 rfl i).trans ((e_I189 132 rfl i).trans ((hk_ot rfl).trans ((hk_ot rfl).trans rfl)))))))
          have s133_y212 : ∀ i, (qm_up (qm_up (qm_up I194 130 (v206.toInt.toNat) 1) 118 13 1) 118 14 v211) 133 i = h.2.1 133 i := fun i => ((hk_ot rfl).trans ((hk_ot rfl).trans ((hk_ot rfl).trans ((e_I194 133 rfl i).trans ((e_I189 133 rfl i).trans ((hk_ot rfl).trans ((hk_ot rfl).trans rfl)))))))
          have s134_y212 : ∀ i, (qm_up (qm_up (qm_up I194 130 (v206.toInt.toNat) 1) 118 13 1) 118 14 v211) 134 i = h.2.1 134 i := fun i => ((hk_ot rfl).trans ((hk_ot rfl).trans ((hk_ot rfl).trans ((e_I194 134 rfl i).trans ((e_I189 134 rfl i).trans ((hk_ot rfl).trans ((hk_ot rfl).trans rfl)))))))
          have s138_y212 : ∀ i, (qm_up (qm_up (qm_up I194 130 (v206.toInt.toNat) 1) 118 13 1) 118 14 v211) 138 i = h.2.1 138 i := fun i => ((hk_ot rfl).trans ((hk_ot rfl).trans ((hk_ot rfl).trans ((e_I194 138 rfl i).trans ((e_I189 138 rfl i).trans ((hk_ot rfl).trans ((hk_ot rfl).trans rfl)))))))
          have s139_y212 : ∀ i, (qm_up (qm_up (qm_up I194 130 (v206.toInt.toNat) 1) 118 13 1) 118 14 v211) 139 i = h.2.1 139 i := fun i => ((hk_ot rfl).trans ((hk_ot rfl).trans ((hk_ot rfl).trans ((e_I194 139 rfl i).trans ((e_I189 139 rfl i).trans ((hk_ot rfl).trans ((hk_ot rfl).trans rfl)))))))
          have s140_y212 : ∀ i, (qm_up (qm_up (qm_up I194 130 (v206.toInt.toNat) 1) 118 13 1) 118 14 v211) 140 i = h.2.1 140 i := fun i => ((hk_ot rfl).trans ((hk_ot rfl).trans ((hk_ot rfl).trans ((e_I194 140 rfl i).trans ((e_I189 140 rfl i).trans ((hk_ot rfl).trans ((hk_ot rfl).trans rfl)))))))
          have s141_y212 : ∀ i, (qm_up (qm_up (qm_up I194 130 (v206.toInt.toNat) 1) 118 13 1) 118 14 v211) 141 i = h.2.1 141 i := fun i => ((hk_ot rfl).trans ((hk_ot rfl).trans ((hk_ot rfl).trans ((e_I194 141 rfl i).trans ((e_I189 141 rfl i).trans ((hk_ot rfl).trans ((hk_ot rfl).trans rfl)))))))
          have s142_y212 : ∀ i, (qm_up (qm_up (qm_up I194 130 (v206.toInt.toNat) 1) 118 13 1) 118 14 v211) 142 i = h.2.1 142 i := fun i => ((hk_ot rfl).trans ((hk_ot rfl).trans ((hk_ot rfl).trans ((e_I194 142 rfl i).trans ((e_I189 142 rfl i).trans ((hk_ot rfl).trans ((hk_ot rfl).trans rfl)))))))
          have td_y212 : td (sd.toInt.toNat) h.2.1 (qm_up (qm_up (qm_up I194 130 (v206.toInt.toNat) 1) 118 13 1) 118 14 v211) := ⟨fun i _ => ⟨s141_y212 i, s142_y212 i⟩, fun i _ => ⟨s138_y212 i, s139_y212 i, s140_y212 i⟩, fun i _ => ⟨s133_y212 i, s134_y212 i⟩, fun i _ => ⟨s131_y212 i, s132_y212 i⟩⟩
          exact k (qm_up (qm_up (qm_up I194 130 (v206.toInt.toNat) 1) 118 13 1) 118 14 v211) (J195) t197 1 ca bs la nm pr pp (hb_up (o := 118) (k := 14) (x := v211) (hb_up (o := 118) (k := 13) (x := 1) (hb_up (o := 130) (k := v206.toInt.toNat) (x := 1) hB_I194 ⟨(show (0 : Int) ≤ 1 from by decide), (show (1 : Int) ≤ 1 from by decide)⟩) (qa_in_full _)) (qa_in_full _)) (fun o ho i => ((hk_mod ho rfl).trans ((hk_mod ho rfl).trans ((hk_mod ho rfl).trans ((e_I194 o (hk_ms rfl ho) i).trans ((e_I189 o (hk_ms rfl ho) i).trans ((hk_mod ho rfl).trans ((hk_mod ho rfl).trans rfl)))))))) (fun i hi => ((hk_neq (fun z => by subst z; cases hi)).trans ((hk_neq (fun z => by subst z; cases hi)).trans ((hk_ot rfl).trans ((e8_I194 i (hk_ms rfl hi)).trans ((e8_I189 i (hk_ms rfl hi)).trans ((hk_neq (fun z => by subst z; cases hi)).trans ((hk_neq (fun z => by subst z; cases hi)).trans rfl)))))))) (show (qm_up (qm_up (qm_up I194 130 (v206.toInt.toNat) 1) 118 13 1) 118 14 v211) 118 11 = _ from ((hk_neq (by decide)).trans ((hk_neq (by decide)).trans ((hk_ot rfl).trans q_t197)))) (show (qm_up (qm_up (qm_up I194 130 (v206.toInt.toNat) 1) 118 13 1) 118 14 v211) 118 13 = _ from ((hk_neq (by decide)).trans (hk_same))) (show (qm_up (qm_up (qm_up I194 130 (v206.toInt.toNat) 1) 118 13 1) 118 14 v211) 118 37 = _ from ((hk_neq (by decide)).trans ((hk_neq (by decide)).trans ((hk_ot rfl).trans ((e8_I194 37 rfl).trans ((e8_I189 37 rfl).trans ((hk_neq (by decide)).trans ((hk_neq (by decide)).trans q_ca)))))))) (show (qm_up (qm_up (qm_up I194 130 (v206.toInt.toNat) 1) 118 13 1) 118 14 v211) 118 12 = _ from ((hk_neq (by decide)).trans ((hk_neq (by decide)).trans ((hk_ot rfl).trans ((e8_I194 12 rfl).trans ((e8_I189 12 rfl).trans ((hk_neq (by decide)).trans ((hk_neq (by decide)).trans q_bs)))))))) (show (qm_up (qm_up (qm_up I194 130 (v206.toInt.toNat) 1) 118 13 1) 118 14 v211) 118 30 = _ from ((hk_neq (by decide)).trans ((hk_neq (by decide)).trans ((hk_ot rfl).trans ((e8_I194 30 rfl).trans ((e8_I189 30 rfl).trans ((hk_neq (by decide)).trans ((hk_neq (by decide)).trans q_la)))))))) (show (qm_up (qm_up (qm_up I194 130 (v206.toInt.toNat) 1) 118 13 1) 118 14 v211) 118 20 = _ from ((hk_neq (by decide)).trans ((hk_neq (by decide)).trans ((hk_ot rfl).trans ((e8_I194 20 rfl).trans ((e8_I189 20 rfl).trans ((hk_neq (by decide)).trans ((hk_neq (by decide)).trans q_nm)))))))) (show (qm_up (qm_up (qm_up I194 130 (v206.toInt.toNat) 1) 118 13 1) 118 14 v211) 131 (sd.toInt.toNat) = _ from ((hk_ot rfl).trans ((hk_ot rfl).trans ((hk_ot rfl).trans ((e_I194 131 rfl (sd.toInt.toNat)).trans ((e_I189 131 rfl (sd.toInt.toNat)).trans ((hk_ot rfl).trans ((hk_ot rfl).trans q_pr)))))))) (show (qm_up (qm_up (qm_up I194 130 (v206.toInt.toNat) 1) 118 13 1) 118 14 v211) 132 (sd.toInt.toNat) = _ from ((hk_ot rfl).trans ((hk_ot rfl).trans ((hk_ot rfl).trans ((e_I194 132 rfl (sd.toInt.toNat)).trans ((e_I189 132 rfl (sd.toInt.toNat)).trans ((hk_ot rfl).trans ((hk_ot rfl).trans q_pp)))))))) (by omega) (fun z => by omega) td_y212 (fun z => rs_sm hrs s133_y212 s134_y212 s138_y212 s139_y212 s140_y212 s141_y212 s142_y212 (by omega))
        · refine qm_Ru.go 2 (c' := (25, [.ref 118, .int 4], [.int 1], (h.1, qm_up I194 130 (v206.toInt.toNat) 1, J195, h.2.2.2))) rfl ?_
          refine qm_Ru.rt (v := (some (.int 1))) (h' := (h.1, qm_up I194 130 (v206.toInt.toNat) 1, J195, h.2.2.2)) rfl ?_
          refine qm_Ru.go 2 (c' := (9, [.ref 118, .int 4], [.ref 118], (h.1, qm_up I194 130 (v206.toInt.toNat) 1, J195, h.2.2.2))) rfl ?_
          refine hk_inv (o := 118) (r := []) (as := [.ref 118]) rfl rfl (hH.1 118 (17, 105) rfl) rfl rfl rfl rfl ?_
          refine qm_Ru.go 1 (c' := (1, [.ref 118], [.ref 118], (h.1, qm_up I194 130 (v206.toInt.toNat) 1, J195, h.2.2.2))) rfl ?_
          refine hk_geti (v := t197) rfl (hH.1 118 (17, 105) rfl) rfl (show (qm_up I194 130 (v206.toInt.toNat) 1) 118 11 = _ from ((hk_ot rfl).trans q_t197)) ?_
          refine qm_Ru.go 1 (c' := (7, [.ref 118], [.int 400, .int t197], (h.1, qm_up I194 130 (v206.toInt.toNat) 1, J195, h.2.2.2))) rfl ?_
          refine hk_cne (ix := t197.toInt) (iy := 400) rfl rfl rfl (fun z213 => ?_) (fun z213 => ?_)
          · refine qm_Ru.go 2 (c' := (20, [.ref 118], [.ref 118, .ref 118], (h.1, qm_up I194 130 (v206.toInt.toNat) 1, J195, h.2.2.2))) rfl ?_
            refine hk_geti (v := t197) rfl (hH.1 118 (17, 105) rfl) rfl (show (qm_up I194 130 (v206.toInt.toNat) 1) 118 11 = _ from ((hk_ot rfl).trans q_t197)) ?_
            refine qm_Ru.go 2 (c' := (25, [.ref 118], [.int (t197 + 1), .ref 118], (h.1, qm_up I194 130 (v206.toInt.toNat) 1, J195, h.2.2.2))) rfl ?_
            obtain ⟨v214, q_v214, e_v214⟩ := hk_add (x := t197) (y := 1) (a := t197.toInt) (b := 1) rfl rfl (by omega) (by omega)
            rw [q_v214]
            refine hk_puti rfl (hH.1 118 (17, 105) rfl) rfl ?_
            refine qm_Ru.go 0 (c' := (28, [.ref 118], [], (h.1, qm_up (qm_up I194 130 (v206.toInt.toNat) 1) 118 11 v214, J195, h.2.2.2))) rfl ?_
            refine qm_Ru.rt (v := none) (h' := (h.1, qm_up (qm_up I194 130 (v206.toInt.toNat) 1) 118 11 v214, J195, h.2.2.2)) rfl ?_
            refine qm_Ru.go 1 (c' := (20, [.ref 118, .int 4], [], (h.1, qm_up (qm_up I194 130 (v206.toInt.toNat) 1) 118 11 v214, J195, h.2.2.2))) rfl ?_
            refine qm_Ru.rt (v := none) (h' := (h.1, qm_up (qm_up I194 130 (v206.toInt.toNat) 1) 118 11 v214, J195, h.2.2.2)) rfl ?_
            refine qm_Ru.go 1 (c' := (352, [.ref 118, .int v1, .int v191, .int v196], [], (h.1, qm_up (qm_up I194 130 (v206.toInt.toNat) 1) 118 11 v214, J195, h.2.2.2))) rfl ?_
            refine qm_Ru.rt (v := none) (h' := (h.1, qm_up (qm_up I194 130 (v206.toInt.toNat) 1) 118 11 v214, J195, h.2.2.2)) rfl ?_
            have s131_y215 : ∀ i, (qm_up (qm_up I194 130 (v206.toInt.toNat) 1) 118 11 v214) 131 i = h.2.1 131 i := fun i => ((hk_ot rfl).trans ((hk_ot rfl).trans ((e_I194 131 rfl i).trans ((e_I189 131 rfl i).trans ((hk_ot rfl).trans ((hk_ot rfl).trans rfl))))))
            have s132_y215 : ∀ i, (qm_up (qm_up I194 130 (v206.toInt.toNat) 1) 118 11 v214) 132 i = h.2.1 132 i := fun i => ((hk_ot rfl).trans ((hk_ot rfl).trans ((e_I194 132 rfl i).trans ((e_I189 132 rfl i).trans ((hk_ot rfl).trans ((hk_ot rfl).trans rfl))))))
            have s133_y215 : ∀ i, (qm_up (qm_up I194 130 (v206.toInt.toNat) 1) 118 11 v214) 133 i = h.2.1 133 i := fun i => ((hk_ot rfl).trans ((hk_ot rfl).trans ((e_I194 133 rfl i).trans ((e_I189 133 rfl i).trans ((hk_ot rfl).trans ((hk_ot rfl).trans rfl))))))
            have s134_y215 : ∀ i, (qm_up (qm_up I194 130 (v206.toInt.toNat) 1) 118 11 v214) 134 i = h.2.1 134 i := fun i => ((hk_ot rfl).trans ((hk_ot rfl).trans ((e_I194 134 rfl i).trans ((e_I189 134 rfl i).trans ((hk_ot rfl).trans ((hk_ot rfl).trans rfl))))))
            have s138_y215 : ∀ i, (qm_up (qm_up I194 130 (v206.toInt.toNat) 1) 118 11 v214) 138 i = h.2.1 138 i := fun i => ((hk_ot rfl).trans ((hk_ot rfl).trans ((e_I194 138 rfl i).trans ((e_I189 138 rfl i).trans ((hk_ot rfl).trans ((hk_ot rfl).trans rfl))))))
            have s139_y215 : ∀ i, (qm_up (qm_up I194 130 (v206.toInt.toNat) 1) 118 11 v214) 139 i = h.2.1 139 i := fun i => ((hk_ot rfl).trans ((hk_ot rfl).trans ((e_I194 139 rfl i).trans ((e_I189 139 rfl i).trans ((hk_ot rfl).trans ((hk_ot rfl).trans rfl))))))
            have s140_y215 : ∀ i, (qm_up (qm_up I194 130 (v206.toInt.toNat) 1) 118 11 v214) 140 i = h.2.1 140 i := fun i => ((hk_ot rfl).trans ((hk_ot rfl).trans ((e_I194 140 rfl i).trans ((e_I189 140 rfl i).trans ((hk_ot rfl).trans ((hk_ot rfl).trans rfl))))))
            have s141_y215 : ∀ i, (qm_up (qm_up I194 130 (v206.toInt.toNat) 1) 118 11 v214) 141 i = h.2.1 141 i := fun i => ((hk_ot rfl).trans ((hk_ot rfl).trans ((e_I194 141 rfl i).trans ((e_I189 141 rfl i).trans ((hk_ot rfl).trans ((hk_ot rfl).trans rfl))))))
            have s142_y215 : ∀ i, (qm_up (qm_up I194 130 (v206.toInt.toNat) 1) 118 11 v214) 142 i = h.2.1 142 i := fun i => ((hk_ot rfl).trans ((hk_ot rfl).trans ((e_I194 142 rfl i).trans ((e_I189 142 rfl i).trans ((hk_ot rfl).trans ((hk_ot rfl).trans rfl))))))
            have td_y215 : td (sd.toInt.toNat) h.2.1 (qm_up (qm_up I194 130 (v206.toInt.toNat) 1) 118 11 v214) := ⟨fun i _ => ⟨s141_y215 i, s142_y215 i⟩, fun i _ => ⟨s138_y215 i, s139_y215 i, s140_y215 i⟩, fun i _ => ⟨s133_y215 i, s134_y215 i⟩, fun i _ => ⟨s131_y215 i, s132_y215 i⟩⟩
            exact k (qm_up (qm_up I194 130 (v206.toInt.toNat) 1) 118 11 v214) (J195) v214 f198 ca bs la nm pr pp (hb_up (o := 118) (k := 11) (x := v214) (hb_up (o := 130) (k := v206.toInt.toNat) (x := 1) hB_I194 ⟨(show (0 : Int) ≤ 1 from by decide), (show (1 : Int) ≤ 1 from by decide)⟩) ⟨by show (0 : Int) ≤ v214.toInt; omega, by show v214.toInt ≤ (400 : Int); omega⟩) (fun o ho i => ((hk_mod ho rfl).trans ((hk_mod ho rfl).trans ((e_I194 o (hk_ms rfl ho) i).trans ((e_I189 o (hk_ms rfl ho) i).trans ((hk_mod ho rfl).trans ((hk_mod ho rfl).trans rfl))))))) (fun i hi => ((hk_neq (fun z => by subst z; cases hi)).trans ((hk_ot rfl).trans ((e8_I194 i (hk_ms rfl hi)).trans ((e8_I189 i (hk_ms rfl hi)).trans ((hk_neq (fun z => by subst z; cases hi)).trans ((hk_neq (fun z => by subst z; cases hi)).trans rfl))))))) (show (qm_up (qm_up I194 130 (v206.toInt.toNat) 1) 118 11 v214) 118 11 = _ from (hk_same)) (show (qm_up (qm_up I194 130 (v206.toInt.toNat) 1) 118 11 v214) 118 13 = _ from ((hk_neq (by decide)).trans ((hk_ot rfl).trans q_f198))) (show (qm_up (qm_up I194 130 (v206.toInt.toNat) 1) 118 11 v214) 118 37 = _ from ((hk_neq (by decide)).trans ((hk_ot rfl).trans ((e8_I194 37 rfl).trans ((e8_I189 37 rfl).trans ((hk_neq (by decide)).trans ((hk_neq (by decide)).trans q_ca))))))) (show (qm_up (qm_up I194 130 (v206.toInt.toNat) 1) 118 11 v214) 118 12 = _ from ((hk_neq (by decide)).trans ((hk_ot rfl).trans ((e8_I194 12 rfl).trans ((e8_I189 12 rfl).trans ((hk_neq (by decide)).trans ((hk_neq (by decide)).trans q_bs))))))) (show (qm_up (qm_up I194 130 (v206.toInt.toNat) 1) 118 11 v214) 118 30 = _ from ((hk_neq (by decide)).trans ((hk_ot rfl).trans ((e8_I194 30 rfl).trans ((e8_I189 30 rfl).trans ((hk_neq (by decide)).trans ((hk_neq (by decide)).trans q_la))))))) (show (qm_up (qm_up I194 130 (v206.toInt.toNat) 1) 118 11 v214) 118 20 = _ from ((hk_neq (by decide)).trans ((hk_ot rfl).trans ((e8_I194 20 rfl).trans ((e8_I189 20 rfl).trans ((hk_neq (by decide)).trans ((hk_neq (by decide)).trans q_nm))))))) (show (qm_up (qm_up I194 130 (v206.toInt.toNat) 1) 118 11 v214) 131 (sd.toInt.toNat) = _ from ((hk_ot rfl).trans ((hk_ot rfl).trans ((e_I194 131 rfl (sd.toInt.toNat)).trans ((e_I189 131 rfl (sd.toInt.toNat)).trans ((hk_ot rfl).trans ((hk_ot rfl).trans q_pr))))))) (show (qm_up (qm_up I194 130 (v206.toInt.toNat) 1) 118 11 v214) 132 (sd.toInt.toNat) = _ from ((hk_ot rfl).trans ((hk_ot rfl).trans ((e_I194 132 rfl (sd.toInt.toNat)).trans ((e_I189 132 rfl (sd.toInt.toNat)).trans ((hk_ot rfl).trans ((hk_ot rfl).trans q_pp))))))) (by omega) (fun z => by omega) td_y215 (fun z => rs_sm hrs s133_y215 s134_y215 s138_y215 s139_y215 s140_y215 s141_y215 s142_y215 (by omega))
          · refine qm_Ru.go 2 (c' := (12, [.ref 118], [.int 2, .ref 118], (h.1, qm_up I194 130 (v206.toInt.toNat) 1, J195, h.2.2.2))) rfl ?_
            refine hk_inv (o := 118) (r := []) (as := [.ref 118, .int 2]) rfl rfl (hH.1 118 (17, 105) rfl) rfl rfl rfl rfl ?_
            refine qm_Ru.go 1 (c' := (1, [.ref 118, .int 2], [.ref 118], (h.1, qm_up I194 130 (v206.toInt.toNat) 1, J195, h.2.2.2))) rfl ?_
            refine hk_geti (v := f198) rfl (hH.1 118 (17, 105) rfl) rfl (show (qm_up I194 130 (v206.toInt.toNat) 1) 118 13 = _ from ((hk_ot rfl).trans q_f198)) ?_
            refine qm_Ru.go 0 (c' := (4, [.ref 118, .int 2], [.int f198], (h.1, qm_up I194 130 (v206.toInt.toNat) 1, J195, h.2.2.2))) rfl ?_
            refine hk_zle (ix := f198.toInt) rfl rfl (fun z216 => ?_) (fun z216 => by exfalso; omega)
            refine qm_Ru.go 2 (c' := (10, [.ref 118, .int 2], [.int 2, .ref 118], (h.1, qm_up I194 130 (v206.toInt.toNat) 1, J195, h.2.2.2))) rfl ?_
            refine hk_puti rfl (hH.1 118 (17, 105) rfl) rfl ?_
            refine qm_Ru.go 2 (c' := (15, [.ref 118, .int 2], [.ref 118, .ref 118], (h.1, qm_up (qm_up I194 130 (v206.toInt.toNat) 1) 118 13 2, J195, h.2.2.2))) rfl ?_
            refine hk_getr rfl (hH.1 118 (17, 105) rfl) rfl (hH.2 118 6 (some 122) rfl) ?_
            refine qm_Ru.go 1 (c' := (19, [.ref 118, .int 2], [.ref 118, .ref 122, .ref 118], (h.1, qm_up (qm_up I194 130 (v206.toInt.toNat) 1) 118 13 2, J195, h.2.2.2))) rfl ?_
            refine hk_geti (v := t197) rfl (hH.1 118 (17, 105) rfl) rfl (show (qm_up (qm_up I194 130 (v206.toInt.toNat) 1) 118 13 2) 118 11 = _ from ((hk_neq (by decide)).trans ((hk_ot rfl).trans q_t197))) ?_
            refine qm_Ru.go 0 (c' := (22, [.ref 118, .int 2], [.int t197, .ref 122, .ref 118], (h.1, qm_up (qm_up I194 130 (v206.toInt.toNat) 1) 118 13 2, J195, h.2.2.2))) rfl ?_
            obtain ⟨v217, q_v217⟩ : ∃ v, h.2.1 122 (t197.toInt.toNat) = v := ⟨_, rfl⟩
            refine hk_ial (v := v217) rfl (hH.1 122 (0, 403) rfl) (by omega) (by omega) (show (qm_up (qm_up I194 130 (v206.toInt.toNat) 1) 118 13 2) 122 (t197.toInt.toNat) = _ from ((hk_ot rfl).trans ((hk_ot rfl).trans ((e_I194 122 rfl (t197.toInt.toNat)).trans ((e_I189 122 rfl (t197.toInt.toNat)).trans ((hk_ot rfl).trans ((hk_ot rfl).trans q_v217))))))) ?_
            refine qm_Ru.go 0 (c' := (23, [.ref 118, .int 2], [.int v217, .ref 118], (h.1, qm_up (qm_up I194 130 (v206.toInt.toNat) 1) 118 13 2, J195, h.2.2.2))) rfl ?_
            refine hk_puti rfl (hH.1 118 (17, 105) rfl) rfl ?_
            refine qm_Ru.go 0 (c' := (26, [.ref 118, .int 2], [], (h.1, qm_up (qm_up (qm_up I194 130 (v206.toInt.toNat) 1) 118 13 2) 118 14 v217, J195, h.2.2.2))) rfl ?_
            refine qm_Ru.rt (v := none) (h' := (h.1, qm_up (qm_up (qm_up I194 130 (v206.toInt.toNat) 1) 118 13 2) 118 14 v217, J195, h.2.2.2)) rfl ?_
            refine qm_Ru.go 1 (c' := (28, [.ref 118], [], (h.1, qm_up (qm_up (qm_up I194 130 (v206.toInt.toNat) 1) 118 13 2) 118 14 v217, J195, h.2.2.2))) rfl ?_
            refine qm_Ru.rt (v := none) (h' := (h.1, qm_up (qm_up (qm_up I194 130 (v206.toInt.toNat) 1) 118 13 2) 118 14 v217, J195, h.2.2.2)) rfl ?_
            refine qm_Ru.go 1 (c' := (20, [.ref 118, .int 4], [], (h.1, qm_up (qm_up (qm_up I194 130 (v206.toInt.toNat) 1) 118 13 2) 118 14 v217, J195, h.2.2.2))) rfl ?_
            refine qm_Ru.rt (v := none) (h' := (h.1, qm_up (qm_up (qm_up I194 130 (v206.toInt.toNat) 1) 118 13 2) 118 14 v217, J195, h.2.2.2)) rfl ?_
            refine qm_Ru.go 1 (c' := (352, [.ref 118, .int v1, .int v191, .int v196], [], (h.1, qm_up (qm_up (qm_up I194 130 (v206.toInt.toNat) 1) 118 13 2) 118 14 v217, J195, h.2.2.2))) rfl ?_
            refine qm_Ru.rt (v := none) (h' := (h.1, qm_up (qm_up (qm_up I194 130 (v206.toInt.toNat) 1) 118 13 2) 118 14 v217, J195, h.2.2.2)) rfl ?_
            have s131_y218 : ∀ i, (qm_up (qm_up (qm_up I194 130 (v206.toInt.toNat) 1) 118 13 2) 118 14 v217) 131 i = h.2.1 131 i := fun i => ((hk_ot rfl).trans ((hk_ot rfl).trans ((hk_ot rfl).trans ((e_I194 131 rfl i).trans ((e_I189 131 rfl i).trans ((hk_ot rfl).trans ((hk_ot rfl).trans rfl)))))))
            have s132_y218 : ∀ i, (qm_up (qm_up (qm_up I194 130 (v206.toInt.toNat) 1) 118 13 2) 118 14 v217) 132 i = h.2.1 132 i := fun i => ((hk_ot rfl).trans ((hk_ot rfl).trans ((hk_ot rfl).trans ((e_I194 132 rfl i).trans ((e_I189 132 rfl i).trans ((hk_ot rfl).trans ((hk_ot rfl).trans rfl)))))))
            have s133_y218 : ∀ i, (qm_up (qm_up (qm_up I194 130 (v206.toInt.toNat) 1) 118 13 2) 118 14 v217) 133 i = h.2.1 133 i := fun i => ((hk_ot rfl).trans ((hk_ot rfl).trans ((hk_ot rfl).trans ((e_I194 133 rfl i).trans ((e_I189 133 rfl i).trans ((hk_ot rfl).trans ((hk_ot rfl).trans rfl)))))))
            have s134_y218 : ∀ i, (qm_up (qm_up (qm_up I194 130 (v206.toInt.toNat) 1) 118 13 2) 118 14 v217) 134 i = h.2.1 134 i := fun i => ((hk_ot rfl).trans ((hk_ot rfl).trans ((hk_ot rfl).trans ((e_I194 134 rfl i).trans ((e_I189 134 rfl i).trans ((hk_ot rfl).trans ((hk_ot rfl).trans rfl)))))))
            have s138_y218 : ∀ i, (qm_up (qm_up (qm_up I194 130 (v206.toInt.toNat) 1) 118 13 2) 118 14 v217) 138 i = h.2.1 138 i := fun i => ((hk_ot rfl).trans ((hk_ot rfl).trans ((hk_ot rfl).trans ((e_I194 138 rfl i).trans ((e_I189 138 rfl i).trans ((hk_ot rfl).trans ((hk_ot rfl).trans rfl)))))))
            have s139_y218 : ∀ i, (qm_up (qm_up (qm_up I194 130 (v206.toInt.toNat) 1) 118 13 2) 118 14 v217) 139 i = h.2.1 139 i := fun i => ((hk_ot rfl).trans ((hk_ot rfl).trans ((hk_ot rfl).trans ((e_I194 139 rfl i).trans ((e_I189 139 rfl i).trans ((hk_ot rfl).trans ((hk_ot rfl).trans rfl)))))))
            have s140_y218 : ∀ i, (qm_up (qm_up (qm_up I194 130 (v206.toInt.toNat) 1) 118 13 2) 118 14 v217) 140 i = h.2.1 140 i := fun i => ((hk_ot rfl).trans ((hk_ot rfl).trans ((hk_ot rfl).trans ((e_I194 140 rfl i).trans ((e_I189 140 rfl i).trans ((hk_ot rfl).trans ((hk_ot rfl).trans rfl)))))))
            have s141_y218 : ∀ i, (qm_up (qm_up (qm_up I194 130 (v206.toInt.toNat) 1) 118 13 2) 118 14 v217) 141 i = h.2.1 141 i := fun i => ((hk_ot rfl).trans ((hk_ot rfl).trans ((hk_ot rfl).trans ((e_I194 141 rfl i).trans ((e_I189 141 rfl i).trans ((hk_ot rfl).trans ((hk_ot rfl).trans rfl)))))))
            have s142_y218 : ∀ i, (qm_up (qm_up (qm_up I194 130 (v206.toInt.toNat) 1) 118 13 2) 118 14 v217) 142 i = h.2.1 142 i := fun i => ((hk_ot rfl).trans ((hk_ot rfl).trans ((hk_ot rfl).trans ((e_I194 142 rfl i).trans ((e_I189 142 rfl i).trans ((hk_ot rfl).trans ((hk_ot rfl).trans rfl)))))))
            have td_y218 : td (sd.toInt.toNat) h.2.1 (qm_up (qm_up (qm_up I194 130 (v206.toInt.toNat) 1) 118 13 2) 118 14 v217) := ⟨fun i _ => ⟨s141_y218 i, s142_y218 i⟩, fun i _ => ⟨s138_y218 i, s139_y218 i, s140_y218 i⟩, fun i _ => ⟨s133_y218 i, s134_y218 i⟩, fun i _ => ⟨s131_y218 i, s132_y218 i⟩⟩
            exact k (qm_up (qm_up (qm_up I194 130 (v206.toInt.toNat) 1) 118 13 2) 118 14 v217) (J195) t197 2 ca bs la nm pr pp (hb_up (o := 118) (k := 14) (x := v217) (hb_up (o := 118) (k := 13) (x := 2) (hb_up (o := 130) (k := v206.toInt.toNat) (x := 1) hB_I194 ⟨(show (0 : Int) ≤ 1 from by decide), (show (1 : Int) ≤ 1 from by decide)⟩) (qa_in_full _)) (qa_in_full _)) (fun o ho i => ((hk_mod ho rfl).trans ((hk_mod ho rfl).trans ((hk_mod ho rfl).trans ((e_I194 o (hk_ms rfl ho) i).trans ((e_I189 o (hk_ms rfl ho) i).trans ((hk_mod ho rfl).trans ((hk_mod ho rfl).trans rfl)))))))) (fun i hi => ((hk_neq (fun z => by subst z; cases hi)).trans ((hk_neq (fun z => by subst z; cases hi)).trans ((hk_ot rfl).trans ((e8_I194 i (hk_ms rfl hi)).trans ((e8_I189 i (hk_ms rfl hi)).trans ((hk_neq (fun z => by subst z; cases hi)).trans ((hk_neq (fun z => by subst z; cases hi)).trans rfl)))))))) (show (qm_up (qm_up (qm_up I194 130 (v206.toInt.toNat) 1) 118 13 2) 118 14 v217) 118 11 = _ from ((hk_neq (by decide)).trans ((hk_neq (by decide)).trans ((hk_ot rfl).trans q_t197)))) (show (qm_up (qm_up (qm_up I194 130 (v206.toInt.toNat) 1) 118 13 2) 118 14 v217) 118 13 = _ from ((hk_neq (by decide)).trans (hk_same))) (show (qm_up (qm_up (qm_up I194 130 (v206.toInt.toNat) 1) 118 13 2) 118 14 v217) 118 37 = _ from ((hk_neq (by decide)).trans ((hk_neq (by decide)).trans ((hk_ot rfl).trans ((e8_I194 37 rfl).trans ((e8_I189 37 rfl).trans ((hk_neq (by decide)).trans ((hk_neq (by decide)).trans q_ca)))))))) (show (qm_up (qm_up (qm_up I194 130 (v206.toInt.toNat) 1) 118 13 2) 118 14 v217) 118 12 = _ from ((hk_neq (by decide)).trans ((hk_neq (by decide)).trans ((hk_ot rfl).trans ((e8_I194 12 rfl).trans ((e8_I189 12 rfl).trans ((hk_neq (by decide)).trans ((hk_neq (by decide)).trans q_bs)))))))) (show (qm_up (qm_up (qm_up I194 130 (v206.toInt.toNat) 1) 118 13 2) 118 14 v217) 118 30 = _ from ((hk_neq (by decide)).trans ((hk_neq (by decide)).trans ((hk_ot rfl).trans ((e8_I194 30 rfl).trans ((e8_I189 30 rfl).trans ((hk_neq (by decide)).trans ((hk_neq (by decide)).trans q_la)))))))) (show (qm_up (qm_up (qm_up I194 130 (v206.toInt.toNat) 1) 118 13 2) 118 14 v217) 118 20 = _ from ((hk_neq (by decide)).trans ((hk_neq (by decide)).trans ((hk_ot rfl).trans ((e8_I194 20 rfl).trans ((e8_I189 20 rfl).trans ((hk_neq (by decide)).trans ((hk_neq (by decide)).trans q_nm)))))))) (show (qm_up (qm_up (qm_up I194 130 (v206.toInt.toNat) 1) 118 13 2) 118 14 v217) 131 (sd.toInt.toNat) = _ from ((hk_ot rfl).trans ((hk_ot rfl).trans ((hk_ot rfl).trans ((e_I194 131 rfl (sd.toInt.toNat)).trans ((e_I189 131 rfl (sd.toInt.toNat)).trans ((hk_ot rfl).trans ((hk_ot rfl).trans q_pr)))))))) (show (qm_up (qm_up (qm_up I194 130 (v206.toInt.toNat) 1) 118 13 2) 118 14 v217) 132 (sd.toInt.toNat) = _ from ((hk_ot rfl).trans ((hk_ot rfl).trans ((hk_ot rfl).trans ((e_I194 132 rfl (sd.toInt.toNat)).trans ((e_I189 132 rfl (sd.toInt.toNat)).trans ((hk_ot rfl).trans ((hk_ot rfl).trans q_pp)))))))) (by omega) (fun z => by omega) td_y218 (fun z => rs_sm hrs s133_y218 s134_y218 s138_y218 s139_y218 s140_y218 s141_y218 s142_y218 (by omega))
  · refine qm_Ru.go 1 (c' := (89, [.ref 118, .int v1, .float 0, .float 0], [.ref 118], h)) rfl ?_
    refine hk_getr rfl (hH.1 118 (17, 105) rfl) rfl (hH.2 118 26 (some 131) rfl) ?_
    refine qm_Ru.go 1 (c' := (93, [.ref 118, .int v1, .float 0, .float 0], [.ref 118, .ref 131], h)) rfl ?_
    refine hk_geti (v := sd) rfl (hH.1 118 (17, 105) rfl) rfl q_sd ?_
    refine qm_Ru.go 0 (c' := (96, [.ref 118, .int v1, .float 0, .float 0], [.int sd, .ref 131], h)) rfl ?_
    refine hk_ial (v := pr) rfl (hH.1 131 (0, 2) rfl) (by omega) (by omega) q_pr ?_
    refine qm_Ru.go 1 (c' := (99, [.ref 118, .int v1, .float 0, .float 0], [.int 8, .int pr], h)) rfl ?_
    refine hk_cne (ix := pr.toInt) (iy := 8) rfl rfl rfl (fun z219 => ?_) (fun z219 => ?_)
    · refine qm_Ru.go 1 (c' := (108, [.ref 118, .int v1, .float 0, .float 0], [.ref 118], h)) rfl ?_
      refine hk_geti (v := fa) rfl (hH.1 118 (17, 105) rfl) rfl q_fa ?_
      refine qm_Ru.go 0 (c' := (111, [.ref 118, .int v1, .float 0, .float 0], [.int fa], h)) rfl ?_
      refine hk_zne (ix := fa.toInt) rfl rfl (fun z220 => by exfalso; omega) (fun z220 => ?_)
      refine qm_Ru.go 3 (c' := (118, [.ref 118, .int v1, .float 0, .float 0], [.ref 118, .int 16, .ref 118], h)) rfl ?_
      refine hk_geti (v := sd) rfl (hH.1 118 (17, 105) rfl) rfl q_sd ?_
      refine qm_Ru.go 1 (c' := (122, [.ref 118, .int v1, .float 0, .float 0], [.int (16 * sd), .ref 118], h)) rfl ?_
      obtain ⟨v221, q_v221, e_v221⟩ := hk_mul (x := 16) (y := sd) (a := 16) (b := sd.toInt) rfl rfl (by omega) (by omega)
      rw [q_v221]
      refine qm_Ru.go 1 (c' := (123, [.ref 118, .int v1, .float 0, .float 0], [.ref 118, .int v221, .ref 118], h)) rfl ?_
      refine hk_getr rfl (hH.1 118 (17, 105) rfl) rfl (hH.2 118 26 (some 131) rfl) ?_
      refine qm_Ru.go 1 (c' := (127, [.ref 118, .int v1, .float 0, .float 0], [.ref 118, .ref 131, .int v221, .ref 118], h)) rfl ?_
      refine hk_geti (v := sd) rfl (hH.1 118 (17, 105) rfl) rfl q_sd ?_
      refine qm_Ru.go 0 (c' := (130, [.ref 118, .int v1, .float 0, .float 0], [.int sd, .ref 131, .int v221, .ref 118], h)) rfl ?_
      refine hk_ial (v := pr) rfl (hH.1 131 (0, 2) rfl) (by omega) (by omega) q_pr ?_
      refine qm_Ru.go 1 (c' := (132, [.ref 118, .int v1, .float 0, .float 0], [.int (v221 + pr), .ref 118], h)) rfl ?_
      obtain ⟨v222, q_v222, e_v222⟩ := hk_add (x := v221) (y := pr) (a := v221.toInt) (b := pr.toInt) rfl rfl (by omega) (by omega)
      rw [q_v222]
      refine hk_inv (o := 118) (r := []) (as := [.ref 118, .int v222]) rfl rfl (hH.1 118 (17, 105) rfl) rfl rfl rfl rfl (hs_tr (h := h) hH hB (r := v222) (ta := ta) (fa := fa) (ca := ca) (bs := bs) (la := la) (nm := nm) (t0 := Int32.toInt ta) (c0 := c0) (f0 := Int32.toInt fa) (lf := (Int32.toInt ca).toNat) (by omega) q_ta q_fa q_ca q_bs q_la q_nm (by omega) (by omega) (by omega) (by omega) (by omega) (by omega) (fun I223 J224 t225 f226 c227 o228 l229 n230 hB_I223 e_I223 e8_I223 q_t225 q_f226 q_c227 q_o228 q_l229 q_n230 b1_I223 b2_I223 b3_I223 b4_I223 b5_I223 A_I223 L_I223 F_I223 R_I223 => ?_))
      have A_I223 : pa (h.2.1) I223 ca.toInt (c0 + 420) := by
        have z := A_I223
        rw [show (((Int32.toInt ca).toNat : Nat) : Int) = ca.toInt from by omega] at z
        exact z
      have L_I223 : pl (h.2.1) I223 la.toInt l229.toInt := L_I223
      have F_I223 : ∀ i, i ≠ v222.toInt.toNat → I223 133 i = (h.2.1) 133 i ∧ I223 134 i = (h.2.1) 134 i := F_I223
      have e_I223 : ∀ o, [118, 133, 134, 135, 136, 137, 138, 139, 140, 141, 142, 143].contains o = false → ∀ i, I223 o i = (h.2.1) o i := e_I223
      have e8_I223 : ∀ i, [11, 12, 13, 14, 15, 16, 20, 30, 37, 41].contains i = false → I223 118 i = (h.2.1) 118 i := e8_I223
      refine qm_Ru.go 1 (c' := (136, [.ref 118, .int v1, .float 0, .float 0], [.ref 118], (h.1, I223, J224, h.2.2.2))) rfl ?_
      refine hk_geti (v := f226) rfl (hH.1 118 (17, 105) rfl) rfl q_f226 ?_
      refine qm_Ru.go 0 (c' := (139, [.ref 118, .int v1, .float 0, .float 0], [.int f226], (h.1, I223, J224, h.2.2.2))) rfl ?_
      refine hk_zne (ix := f226.toInt) rfl rfl (fun z231 => ?_) (fun z231 => ?_)
      · refine qm_Ru.go 0 (c' := (352, [.ref 118, .int v1, .float 0, .float 0], [], (h.1, I223, J224, h.2.2.2))) rfl ?_
        refine qm_Ru.rt (v := none) (h' := (h.1, I223, J224, h.2.2.2)) rfl ?_
        have s133_y232 : ∀ i, (I223) 133 i = I223 133 i := (fun i => rfl)
        have s134_y232 : ∀ i, (I223) 134 i = I223 134 i := (fun i => rfl)
        have s138_y232 : ∀ i, (I223) 138 i = I223 138 i := (fun i => rfl)
        have s139_y232 : ∀ i, (I223) 139 i = I223 139 i := (fun i => rfl)
        have s140_y232 : ∀ i, (I223) 140 i = I223 140 i := (fun i => rfl)
        have s141_y232 : ∀ i, (I223) 141 i = I223 141 i := (fun i => rfl)
        have s142_y232 : ∀ i, (I223) 142 i = I223 142 i := (fun i => rfl)
        have s131_y232 : ∀ i, i ≠ sd.toInt.toNat → (I223) 131 i = h.2.1 131 i := fun i hi => ((e_I223 131 rfl i).trans rfl)
        have s132_y232 : ∀ i, i ≠ sd.toInt.toNat → (I223) 132 i = h.2.1 132 i := fun i hi => ((e_I223 132 rfl i).trans rfl)
        have td_y232 : td (sd.toInt.toNat) h.2.1 (I223) := ⟨fun i hi => ⟨(s141_y232 i).trans (A_I223 i (by omega)).1, (s142_y232 i).trans (A_I223 i (by omega)).2⟩, fun i hi => ⟨(s138_y232 i).trans (L_I223 i (by omega)).1, (s139_y232 i).trans (L_I223 i (by omega)).2.1, (s140_y232 i).trans (L_I223 i (by omega)).2.2⟩, fun i hi => ⟨(s133_y232 i).trans (F_I223 i (by omega)).1, (s134_y232 i).trans (F_I223 i (by omega)).2⟩, fun i hi => ⟨s131_y232 i hi, s132_y232 i hi⟩⟩
        exact k (I223) (J224) t225 f226 c227 o228 l229 n230 pr pp hB_I223 (fun o ho i => ((e_I223 o (hk_ms rfl ho) i).trans rfl)) (fun i hi => ((e8_I223 i (hk_ms rfl hi)).trans rfl)) q_t225 q_f226 q_c227 q_o228 q_l229 q_n230 (show (I223) 131 (sd.toInt.toNat) = _ from ((e_I223 131 rfl (sd.toInt.toNat)).trans q_pr)) (show (I223) 132 (sd.toInt.toNat) = _ from ((e_I223 132 rfl (sd.toInt.toNat)).trans q_pp)) (by omega) (fun z => by omega) td_y232 (fun z => by exfalso; omega)
      · refine qm_Ru.go 1 (c' := (143, [.ref 118, .int v1, .float 0, .float 0], [.ref 118], (h.1, I223, J224, h.2.2.2))) rfl ?_
        refine hk_getr rfl (hH.1 118 (17, 105) rfl) rfl (hH.2 118 26 (some 131) rfl) ?_
        refine qm_Ru.go 1 (c' := (147, [.ref 118, .int v1, .float 0, .float 0], [.ref 118, .ref 131], (h.1, I223, J224, h.2.2.2))) rfl ?_
        refine hk_geti (v := sd) rfl (hH.1 118 (17, 105) rfl) rfl (show (I223) 118 19 = _ from ((e8_I223 19 rfl).trans q_sd)) ?_
        refine qm_Ru.go 1 (c' := (151, [.ref 118, .int v1, .float 0, .float 0], [.int sd, .ref 131, .int sd, .ref 131], (h.1, I223, J224, h.2.2.2))) rfl ?_
        refine hk_ial (v := pr) rfl (hH.1 131 (0, 2) rfl) (by omega) (by omega) (show (I223) 131 (sd.toInt.toNat) = _ from ((e_I223 131 rfl (sd.toInt.toNat)).trans q_pr)) ?_
        refine qm_Ru.go 2 (c' := (154, [.ref 118, .int v1, .float 0, .float 0], [.int (pr + 1), .int sd, .ref 131], (h.1, I223, J224, h.2.2.2))) rfl ?_
        obtain ⟨v233, q_v233, e_v233⟩ := hk_add (x := pr) (y := 1) (a := pr.toInt) (b := 1) rfl rfl (by omega) (by omega)
        rw [q_v233]
        refine hk_ias rfl (hH.1 131 (0, 2) rfl) (by omega) (by omega) ?_
        refine qm_Ru.go 1 (c' := (352, [.ref 118, .int v1, .float 0, .float 0], [], (h.1, qm_up I223 131 (sd.toInt.toNat) v233, J224, h.2.2.2))) rfl ?_
        refine qm_Ru.rt (v := none) (h' := (h.1, qm_up I223 131 (sd.toInt.toNat) v233, J224, h.2.2.2)) rfl ?_
        have s133_y234 : ∀ i, (qm_up I223 131 (sd.toInt.toNat) v233) 133 i = I223 133 i := (fun i => ((hk_ot rfl).trans rfl))
        have s134_y234 : ∀ i, (qm_up I223 131 (sd.toInt.toNat) v233) 134 i = I223 134 i := (fun i => ((hk_ot rfl).trans rfl))
        have s138_y234 : ∀ i, (qm_up I223 131 (sd.toInt.toNat) v233) 138 i = I223 138 i := (fun i => ((hk_ot rfl).trans rfl))
        have s139_y234 : ∀ i, (qm_up I223 131 (sd.toInt.toNat) v233) 139 i = I223 139 i := (fun i => ((hk_ot rfl).trans rfl))
        have s140_y234 : ∀ i, (qm_up I223 131 (sd.toInt.toNat) v233) 140 i = I223 140 i := (fun i => ((hk_ot rfl).trans rfl))
        have s141_y234 : ∀ i, (qm_up I223 131 (sd.toInt.toNat) v233) 141 i = I223 141 i := (fun i => ((hk_ot rfl).trans rfl))
        have s142_y234 : ∀ i, (qm_up I223 131 (sd.toInt.toNat) v233) 142 i = I223 142 i := (fun i => ((hk_ot rfl).trans rfl))
        have s131_y234 : ∀ i, i ≠ sd.toInt.toNat → (qm_up I223 131 (sd.toInt.toNat) v233) 131 i = h.2.1 131 i := fun i hi => ((hk_neq hi).trans ((e_I223 131 rfl i).trans rfl))
        have s132_y234 : ∀ i, i ≠ sd.toInt.toNat → (qm_up I223 131 (sd.toInt.toNat) v233) 132 i = h.2.1 132 i := fun i hi => ((hk_ot rfl).trans ((e_I223 132 rfl i).trans rfl))
        have ev_y234 : Int32.toInt v233 = Int32.toInt pr + 1 := by omega
        have td_y234 : td (sd.toInt.toNat) h.2.1 (qm_up I223 131 (sd.toInt.toNat) v233) := ⟨fun i hi => ⟨(s141_y234 i).trans (A_I223 i (by omega)).1, (s142_y234 i).trans (A_I223 i (by omega)).2⟩, fun i hi => ⟨(s138_y234 i).trans (L_I223 i (by omega)).1, (s139_y234 i).trans (L_I223 i (by omega)).2.1, (s140_y234 i).trans (L_I223 i (by omega)).2.2⟩, fun i hi => ⟨(s133_y234 i).trans (F_I223 i (by omega)).1, (s134_y234 i).trans (F_I223 i (by omega)).2⟩, fun i hi => ⟨s131_y234 i hi, s132_y234 i hi⟩⟩
        exact k (qm_up I223 131 (sd.toInt.toNat) v233) (J224) t225 f226 c227 o228 l229 n230 v233 pp (hb_up (o := 131) (k := sd.toInt.toNat) (x := v233) hB_I223 ⟨by show (0 : Int) ≤ v233.toInt; omega, by show v233.toInt ≤ (8 : Int); omega⟩) (fun o ho i => ((hk_mod ho rfl).trans ((e_I223 o (hk_ms rfl ho) i).trans rfl))) (fun i hi => ((hk_ot rfl).trans ((e8_I223 i (hk_ms rfl hi)).trans rfl))) (show (qm_up I223 131 (sd.toInt.toNat) v233) 118 11 = _ from ((hk_ot rfl).trans q_t225)) (show (qm_up I223 131 (sd.toInt.toNat) v233) 118 13 = _ from ((hk_ot rfl).trans q_f226)) (show (qm_up I223 131 (sd.toInt.toNat) v233) 118 37 = _ from ((hk_ot rfl).trans q_c227)) (show (qm_up I223 131 (sd.toInt.toNat) v233) 118 12 = _ from ((hk_ot rfl).trans q_o228)) (show (qm_up I223 131 (sd.toInt.toNat) v233) 118 30 = _ from ((hk_ot rfl).trans q_l229)) (show (qm_up I223 131 (sd.toInt.toNat) v233) 118 20 = _ from ((hk_ot rfl).trans q_n230)) (show (qm_up I223 131 (sd.toInt.toNat) v233) 131 (sd.toInt.toNat) = _ from (hk_same)) (show (qm_up I223 131 (sd.toInt.toNat) v233) 132 (sd.toInt.toNat) = _ from ((hk_ot rfl).trans ((e_I223 132 rfl (sd.toInt.toNat)).trans q_pp))) (by omega) (fun z => by omega) td_y234 (fun z => by rw [ev_y234]; exact rs_sm (rs_add1 hrs A_I223 L_I223 F_I223 (by omega) (by omega) (R_I223 (by omega)) (by omega) (by omega)) s133_y234 s134_y234 s138_y234 s139_y234 s140_y234 s141_y234 s142_y234 (by omega))
    · refine qm_Ru.go 2 (c' := (104, [.ref 118, .int v1, .float 0, .float 0], [.int 2, .ref 118], h)) rfl ?_
      refine hk_inv (o := 118) (r := []) (as := [.ref 118, .int 2]) rfl rfl (hH.1 118 (17, 105) rfl) rfl rfl rfl rfl ?_
      refine qm_Ru.go 1 (c' := (1, [.ref 118, .int 2], [.ref 118], h)) rfl ?_
      refine hk_geti (v := fa) rfl (hH.1 118 (17, 105) rfl) rfl q_fa ?_
      refine qm_Ru.go 0 (c' := (4, [.ref 118, .int 2], [.int fa], h)) rfl ?_
      refine hk_zle (ix := fa.toInt) rfl rfl (fun z235 => ?_) (fun z235 => by exfalso; omega)
      refine qm_Ru.go 2 (c' := (10, [.ref 118, .int 2], [.int 2, .ref 118], h)) rfl ?_
      refine hk_puti rfl (hH.1 118 (17, 105) rfl) rfl ?_
      refine qm_Ru.go 2 (c' := (15, [.ref 118, .int 2], [.ref 118, .ref 118], (h.1, qm_up h.2.1 118 13 2, h.2.2.1, h.2.2.2))) rfl ?_
      refine hk_getr rfl (hH.1 118 (17, 105) rfl) rfl (hH.2 118 6 (some 122) rfl) ?_
      refine qm_Ru.go 1 (c' := (19, [.ref 118, .int 2], [.ref 118, .ref 122, .ref 118], (h.1, qm_up h.2.1 118 13 2, h.2.2.1, h.2.2.2))) rfl ?_
      refine hk_geti (v := ta) rfl (hH.1 118 (17, 105) rfl) rfl (show (qm_up h.2.1 118 13 2) 118 11 = _ from ((hk_neq (by decide)).trans q_ta)) ?_
      refine qm_Ru.go 0 (c' := (22, [.ref 118, .int 2], [.int ta, .ref 122, .ref 118], (h.1, qm_up h.2.1 118 13 2, h.2.2.1, h.2.2.2))) rfl ?_
      obtain ⟨v236, q_v236⟩ : ∃ v, h.2.1 122 (ta.toInt.toNat) = v := ⟨_, rfl⟩
      refine hk_ial (v := v236) rfl (hH.1 122 (0, 403) rfl) (by omega) (by omega) (show (qm_up h.2.1 118 13 2) 122 (ta.toInt.toNat) = _ from ((hk_ot rfl).trans q_v236)) ?_
      refine qm_Ru.go 0 (c' := (23, [.ref 118, .int 2], [.int v236, .ref 118], (h.1, qm_up h.2.1 118 13 2, h.2.2.1, h.2.2.2))) rfl ?_
      refine hk_puti rfl (hH.1 118 (17, 105) rfl) rfl ?_
      refine qm_Ru.go 0 (c' := (26, [.ref 118, .int 2], [], (h.1, qm_up (qm_up h.2.1 118 13 2) 118 14 v236, h.2.2.1, h.2.2.2))) rfl ?_
      refine qm_Ru.rt (v := none) (h' := (h.1, qm_up (qm_up h.2.1 118 13 2) 118 14 v236, h.2.2.1, h.2.2.2)) rfl ?_
      refine qm_Ru.go 1 (c' := (108, [.ref 118, .int v1, .float 0, .float 0], [.ref 118], (h.1, qm_up (qm_up h.2.1 118 13 2) 118 14 v236, h.2.2.1, h.2.2.2))) rfl ?_
      refine hk_geti (v := 2) rfl (hH.1 118 (17, 105) rfl) rfl (show (qm_up (qm_up h.2.1 118 13 2) 118 14 v236) 118 13 = _ from ((hk_neq (by decide)).trans (hk_same))) ?_
      refine qm_Ru.go 2 (c' := (136, [.ref 118, .int v1, .float 0, .float 0], [.ref 118], (h.1, qm_up (qm_up h.2.1 118 13 2) 118 14 v236, h.2.2.1, h.2.2.2))) rfl ?_
      refine hk_geti (v := 2) rfl (hH.1 118 (17, 105) rfl) rfl (show (qm_up (qm_up h.2.1 118 13 2) 118 14 v236) 118 13 = _ from ((hk_neq (by decide)).trans (hk_same))) ?_
      refine qm_Ru.go 1 (c' := (352, [.ref 118, .int v1, .float 0, .float 0], [], (h.1, qm_up (qm_up h.2.1 118 13 2) 118 14 v236, h.2.2.1, h.2.2.2))) rfl ?_
      refine qm_Ru.rt (v := none) (h' := (h.1, qm_up (qm_up h.2.1 118 13 2) 118 14 v236, h.2.2.1, h.2.2.2)) rfl ?_
      have s131_y237 : ∀ i, (qm_up (qm_up h.2.1 118 13 2) 118 14 v236) 131 i = h.2.1 131 i := fun i => ((hk_ot rfl).trans ((hk_ot rfl).trans rfl))
      have s132_y237 : ∀ i, (qm_up (qm_up h.2.1 118 13 2) 118 14 v236) 132 i = h.2.1 132 i := fun i => ((hk_ot rfl).trans ((hk_ot rfl).trans rfl))
      have s133_y237 : ∀ i, (qm_up (qm_up h.2.1 118 13 2) 118 14 v236) 133 i = h.2.1 133 i := fun i => ((hk_ot rfl).trans ((hk_ot rfl).trans rfl))
      have s134_y237 : ∀ i, (qm_up (qm_up h.2.1 118 13 2) 118 14 v236) 134 i = h.2.1 134 i := fun i => ((hk_ot rfl).trans ((hk_ot rfl).trans rfl))
      have s138_y237 : ∀ i, (qm_up (qm_up h.2.1 118 13 2) 118 14 v236) 138 i = h.2.1 138 i := fun i => ((hk_ot rfl).trans ((hk_ot rfl).trans rfl))
      have s139_y237 : ∀ i, (qm_up (qm_up h.2.1 118 13 2) 118 14 v236) 139 i = h.2.1 139 i := fun i => ((hk_ot rfl).trans ((hk_ot rfl).trans rfl))
      have s140_y237 : ∀ i, (qm_up (qm_up h.2.1 118 13 2) 118 14 v236) 140 i = h.2.1 140 i := fun i => ((hk_ot rfl).trans ((hk_ot rfl).trans rfl))
      have s141_y237 : ∀ i, (qm_up (qm_up h.2.1 118 13 2) 118 14 v236) 141 i = h.2.1 141 i := fun i => ((hk_ot rfl).trans ((hk_ot rfl).trans rfl))
      have s142_y237 : ∀ i, (qm_up (qm_up h.2.1 118 13 2) 118 14 v236) 142 i = h.2.1 142 i := fun i => ((hk_ot rfl).trans ((hk_ot rfl).trans rfl))
      have td_y237 : td (sd.toInt.toNat) h.2.1 (qm_up (qm_up h.2.1 118 13 2) 118 14 v236) := ⟨fun i _ => ⟨s141_y237 i, s142_y237 i⟩, fun i _ => ⟨s138_y237 i, s139_y237 i, s140_y237 i⟩, fun i _ => ⟨s133_y237 i, s134_y237 i⟩, fun i _ => ⟨s131_y237 i, s132_y237 i⟩⟩
      exact k (qm_up (qm_up h.2.1 118 13 2) 118 14 v236) (h.2.2.1) ta 2 ca bs la nm pr pp (hb_up (o := 118) (k := 14) (x := v236) (hb_up (o := 118) (k := 13) (x := 2) hB (qa_in_full _)) (qa_in_full _)) (fun o ho i => ((hk_mod ho rfl).trans ((hk_mod ho rfl).trans rfl))) (fun i hi => ((hk_neq (fun z => by subst z; cases hi)).trans ((hk_neq (fun z => by subst z; cases hi)).trans rfl))) (show (qm_up (qm_up h.2.1 118 13 2) 118 14 v236) 118 11 = _ from ((hk_neq (by decide)).trans ((hk_neq (by decide)).trans q_ta))) (show (qm_up (qm_up h.2.1 118 13 2) 118 14 v236) 118 13 = _ from ((hk_neq (by decide)).trans (hk_same))) (show (qm_up (qm_up h.2.1 118 13 2) 118 14 v236) 118 37 = _ from ((hk_neq (by decide)).trans ((hk_neq (by decide)).trans q_ca))) (show (qm_up (qm_up h.2.1 118 13 2) 118 14 v236) 118 12 = _ from ((hk_neq (by decide)).trans ((hk_neq (by decide)).trans q_bs))) (show (qm_up (qm_up h.2.1 118 13 2) 118 14 v236) 118 30 = _ from ((hk_neq (by decide)).trans ((hk_neq (by decide)).trans q_la))) (show (qm_up (qm_up h.2.1 118 13 2) 118 14 v236) 118 20 = _ from ((hk_neq (by decide)).trans ((hk_neq (by decide)).trans q_nm))) (show (qm_up (qm_up h.2.1 118 13 2) 118 14 v236) 131 (sd.toInt.toNat) = _ from ((hk_ot rfl).trans ((hk_ot rfl).trans q_pr))) (show (qm_up (qm_up h.2.1 118 13 2) 118 14 v236) 132 (sd.toInt.toNat) = _ from ((hk_ot rfl).trans ((hk_ot rfl).trans q_pp))) (by omega) (fun z => by omega) td_y237 (fun z => rs_sm hrs s133_y237 s134_y237 s138_y237 s139_y237 s140_y237 s141_y237 s142_y237 (by omega))
  · refine qm_Ru.go 1 (c' := (159, [.ref 118, .int v1, .float 0, .float 0], [.ref 118], h)) rfl ?_
    refine hk_getr rfl (hH.1 118 (17, 105) rfl) rfl (hH.2 118 27 (some 132) rfl) ?_
    refine qm_Ru.go 1 (c' := (163, [.ref 118, .int v1, .float 0, .float 0], [.ref 118, .ref 132], h)) rfl ?_
    refine hk_geti (v := sd) rfl (hH.1 118 (17, 105) rfl) rfl q_sd ?_
    refine qm_Ru.go 0 (c' := (166, [.ref 118, .int v1, .float 0, .float 0], [.int sd, .ref 132], h)) rfl ?_
    refine hk_ial (v := pp) rfl (hH.1 132 (0, 2) rfl) (by omega) (by omega) q_pp ?_
    refine qm_Ru.go 1 (c' := (169, [.ref 118, .int v1, .float 0, .float 0], [.int 8, .int pp], h)) rfl ?_
    refine hk_cne (ix := pp.toInt) (iy := 8) rfl rfl rfl (fun z238 => ?_) (fun z238 => ?_)
    · refine qm_Ru.go 1 (c' := (178, [.ref 118, .int v1, .float 0, .float 0], [.ref 118], h)) rfl ?_
      refine hk_geti (v := fa) rfl (hH.1 118 (17, 105) rfl) rfl q_fa ?_
      refine qm_Ru.go 0 (c' := (181, [.ref 118, .int v1, .float 0, .float 0], [.int fa], h)) rfl ?_
      refine hk_zne (ix := fa.toInt) rfl rfl (fun z239 => by exfalso; omega) (fun z239 => ?_)
      refine qm_Ru.go 3 (c' := (188, [.ref 118, .int v1, .float 0, .float 0], [.ref 118, .int 16, .ref 118], h)) rfl ?_
      refine hk_geti (v := sd) rfl (hH.1 118 (17, 105) rfl) rfl q_sd ?_
      refine qm_Ru.go 1 (c' := (192, [.ref 118, .int v1, .float 0, .float 0], [.int (16 * sd), .ref 118], h)) rfl ?_
      obtain ⟨v240, q_v240, e_v240⟩ := hk_mul (x := 16) (y := sd) (a := 16) (b := sd.toInt) rfl rfl (by omega) (by omega)
      rw [q_v240]
      refine qm_Ru.go 2 (c' := (195, [.ref 118, .int v1, .float 0, .float 0], [.int (v240 + 8), .ref 118], h)) rfl ?_
      obtain ⟨v241, q_v241, e_v241⟩ := hk_add (x := v240) (y := 8) (a := v240.toInt) (b := 8) rfl rfl (by omega) (by omega)
      rw [q_v241]
      refine qm_Ru.go 1 (c' := (196, [.ref 118, .int v1, .float 0, .float 0], [.ref 118, .int v241, .ref 118], h)) rfl ?_
      refine hk_getr rfl (hH.1 118 (17, 105) rfl) rfl (hH.2 118 27 (some 132) rfl) ?_
      refine qm_Ru.go 1 (c' := (200, [.ref 118, .int v1, .float 0, .float 0], [.ref 118, .ref 132, .int v241, .ref 118], h)) rfl ?_
      refine hk_geti (v := sd) rfl (hH.1 118 (17, 105) rfl) rfl q_sd ?_
      refine qm_Ru.go 0 (c' := (203, [.ref 118, .int v1, .float 0, .float 0], [.int sd, .ref 132, .int v241, .ref 118], h)) rfl ?_
      refine hk_ial (v := pp) rfl (hH.1 132 (0, 2) rfl) (by omega) (by omega) q_pp ?_
      refine qm_Ru.go 1 (c' := (205, [.ref 118, .int v1, .float 0, .float 0], [.int (v241 + pp), .ref 118], h)) rfl ?_
      obtain ⟨v242, q_v242, e_v242⟩ := hk_add (x := v241) (y := pp) (a := v241.toInt) (b := pp.toInt) rfl rfl (by omega) (by omega)
      rw [q_v242]
      refine hk_inv (o := 118) (r := []) (as := [.ref 118, .int v242]) rfl rfl (hH.1 118 (17, 105) rfl) rfl rfl rfl rfl (hs_tr (h := h) hH hB (r := v242) (ta := ta) (fa := fa) (ca := ca) (bs := bs) (la := la) (nm := nm) (t0 := Int32.toInt ta) (c0 := c0) (f0 := Int32.toInt fa) (lf := (Int32.toInt ca).toNat) (by omega) q_ta q_fa q_ca q_bs q_la q_nm (by omega) (by omega) (by omega) (by omega) (by omega) (by omega) (fun I243 J244 t245 f246 c247 o248 l249 n250 hB_I243 e_I243 e8_I243 q_t245 q_f246 q_c247 q_o248 q_l249 q_n250 b1_I243 b2_I243 b3_I243 b4_I243 b5_I243 A_I243 L_I243 F_I243 R_I243 => ?_))
      have A_I243 : pa (h.2.1) I243 ca.toInt (c0 + 420) := by
        have z := A_I243
        rw [show (((Int32.toInt ca).toNat : Nat) : Int) = ca.toInt from by omega] at z
        exact z
      have L_I243 : pl (h.2.1) I243 la.toInt l249.toInt := L_I243
      have F_I243 : ∀ i, i ≠ v242.toInt.toNat → I243 133 i = (h.2.1) 133 i ∧ I243 134 i = (h.2.1) 134 i := F_I243
      have e_I243 : ∀ o, [118, 133, 134, 135, 136, 137, 138, 139, 140, 141, 142, 143].contains o = false → ∀ i, I243 o i = (h.2.1) o i := e_I243
      have e8_I243 : ∀ i, [11, 12, 13, 14, 15, 16, 20, 30, 37, 41].contains i = false → I243 118 i = (h.2.1) 118 i := e8_I243
      refine qm_Ru.go 1 (c' := (209, [.ref 118, .int v1, .float 0, .float 0], [.ref 118], (h.1, I243, J244, h.2.2.2))) rfl ?_
      refine hk_geti (v := f246) rfl (hH.1 118 (17, 105) rfl) rfl q_f246 ?_
      refine qm_Ru.go 0 (c' := (212, [.ref 118, .int v1, .float 0, .float 0], [.int f246], (h.1, I243, J244, h.2.2.2))) rfl ?_
      refine hk_zne (ix := f246.toInt) rfl rfl (fun z251 => ?_) (fun z251 => ?_)
      · refine qm_Ru.go 0 (c' := (352, [.ref 118, .int v1, .float 0, .float 0], [], (h.1, I243, J244, h.2.2.2))) rfl ?_
        refine qm_Ru.rt (v := none) (h' := (h.1, I243, J244, h.2.2.2)) rfl ?_
        have s133_y252 : ∀ i, (I243) 133 i = I243 133 i := (fun i => rfl)
        have s134_y252 : ∀ i, (I243) 134 i = I243 134 i := (fun i => rfl)
        have s138_y252 : ∀ i, (I243) 138 i = I243 138 i := (fun i => rfl)
        have s139_y252 : ∀ i, (I243) 139 i = I243 139 i := (fun i => rfl)
        have s140_y252 : ∀ i, (I243) 140 i = I243 140 i := (fun i => rfl)
        have s141_y252 : ∀ i, (I243) 141 i = I243 141 i := (fun i => rfl)
        have s142_y252 : ∀ i, (I243) 142 i = I243 142 i := (fun i => rfl)
        have s131_y252 : ∀ i, i ≠ sd.toInt.toNat → (I243) 131 i = h.2.1 131 i := fun i hi => ((e_I243 131 rfl i).trans rfl)
        have s132_y252 : ∀ i, i ≠ sd.toInt.toNat → (I243) 132 i = h.2.1 132 i := fun i hi => ((e_I243 132 rfl i).trans rfl)
        have td_y252 : td (sd.toInt.toNat) h.2.1 (I243) := ⟨fun i hi => ⟨(s141_y252 i).trans (A_I243 i (by omega)).1, (s142_y252 i).trans (A_I243 i (by omega)).2⟩, fun i hi => ⟨(s138_y252 i).trans (L_I243 i (by omega)).1, (s139_y252 i).trans (L_I243 i (by omega)).2.1, (s140_y252 i).trans (L_I243 i (by omega)).2.2⟩, fun i hi => ⟨(s133_y252 i).trans (F_I243 i (by omega)).1, (s134_y252 i).trans (F_I243 i (by omega)).2⟩, fun i hi => ⟨s131_y252 i hi, s132_y252 i hi⟩⟩
        exact k (I243) (J244) t245 f246 c247 o248 l249 n250 pr pp hB_I243 (fun o ho i => ((e_I243 o (hk_ms rfl ho) i).trans rfl)) (fun i hi => ((e8_I243 i (hk_ms rfl hi)).trans rfl)) q_t245 q_f246 q_c247 q_o248 q_l249 q_n250 (show (I243) 131 (sd.toInt.toNat) = _ from ((e_I243 131 rfl (sd.toInt.toNat)).trans q_pr)) (show (I243) 132 (sd.toInt.toNat) = _ from ((e_I243 132 rfl (sd.toInt.toNat)).trans q_pp)) (by omega) (fun z => by omega) td_y252 (fun z => by exfalso; omega)
      · refine qm_Ru.go 1 (c' := (216, [.ref 118, .int v1, .float 0, .float 0], [.ref 118], (h.1, I243, J244, h.2.2.2))) rfl ?_
        refine hk_getr rfl (hH.1 118 (17, 105) rfl) rfl (hH.2 118 27 (some 132) rfl) ?_
        refine qm_Ru.go 1 (c' := (220, [.ref 118, .int v1, .float 0, .float 0], [.ref 118, .ref 132], (h.1, I243, J244, h.2.2.2))) rfl ?_
        refine hk_geti (v := sd) rfl (hH.1 118 (17, 105) rfl) rfl (show (I243) 118 19 = _ from ((e8_I243 19 rfl).trans q_sd)) ?_
        refine qm_Ru.go 1 (c' := (224, [.ref 118, .int v1, .float 0, .float 0], [.int sd, .ref 132, .int sd, .ref 132], (h.1, I243, J244, h.2.2.2))) rfl ?_
        refine hk_ial (v := pp) rfl (hH.1 132 (0, 2) rfl) (by omega) (by omega) (show (I243) 132 (sd.toInt.toNat) = _ from ((e_I243 132 rfl (sd.toInt.toNat)).trans q_pp)) ?_
        refine qm_Ru.go 2 (c' := (227, [.ref 118, .int v1, .float 0, .float 0], [.int (pp + 1), .int sd, .ref 132], (h.1, I243, J244, h.2.2.2))) rfl ?_
        obtain ⟨v253, q_v253, e_v253⟩ := hk_add (x := pp) (y := 1) (a := pp.toInt) (b := 1) rfl rfl (by omega) (by omega)
        rw [q_v253]
        refine hk_ias rfl (hH.1 132 (0, 2) rfl) (by omega) (by omega) ?_
        refine qm_Ru.go 1 (c' := (352, [.ref 118, .int v1, .float 0, .float 0], [], (h.1, qm_up I243 132 (sd.toInt.toNat) v253, J244, h.2.2.2))) rfl ?_
        refine qm_Ru.rt (v := none) (h' := (h.1, qm_up I243 132 (sd.toInt.toNat) v253, J244, h.2.2.2)) rfl ?_
        have s133_y254 : ∀ i, (qm_up I243 132 (sd.toInt.toNat) v253) 133 i = I243 133 i := (fun i => ((hk_ot rfl).trans rfl))
        have s134_y254 : ∀ i, (qm_up I243 132 (sd.toInt.toNat) v253) 134 i = I243 134 i := (fun i => ((hk_ot rfl).trans rfl))
        have s138_y254 : ∀ i, (qm_up I243 132 (sd.toInt.toNat) v253) 138 i = I243 138 i := (fun i => ((hk_ot rfl).trans rfl))
        have s139_y254 : ∀ i, (qm_up I243 132 (sd.toInt.toNat) v253) 139 i = I243 139 i := (fun i => ((hk_ot rfl).trans rfl))
        have s140_y254 : ∀ i, (qm_up I243 132 (sd.toInt.toNat) v253) 140 i = I243 140 i := (fun i => ((hk_ot rfl).trans rfl))
        have s141_y254 : ∀ i, (qm_up I243 132 (sd.toInt.toNat) v253) 141 i = I243 141 i := (fun i => ((hk_ot rfl).trans rfl))
        have s142_y254 : ∀ i, (qm_up I243 132 (sd.toInt.toNat) v253) 142 i = I243 142 i := (fun i => ((hk_ot rfl).trans rfl))
        have s131_y254 : ∀ i, i ≠ sd.toInt.toNat → (qm_up I243 132 (sd.toInt.toNat) v253) 131 i = h.2.1 131 i := fun i hi => ((hk_ot rfl).trans ((e_I243 131 rfl i).trans rfl))
        have s132_y254 : ∀ i, i ≠ sd.toInt.toNat → (qm_up I243 132 (sd.toInt.toNat) v253) 132 i = h.2.1 132 i := fun i hi => ((hk_neq hi).trans ((e_I243 132 rfl i).trans rfl))
        have ev_y254 : Int32.toInt v253 = Int32.toInt pp + 1 := by omega
        have td_y254 : td (sd.toInt.toNat) h.2.1 (qm_up I243 132 (sd.toInt.toNat) v253) := ⟨fun i hi => ⟨(s141_y254 i).trans (A_I243 i (by omega)).1, (s142_y254 i).trans (A_I243 i (by omega)).2⟩, fun i hi => ⟨(s138_y254 i).trans (L_I243 i (by omega)).1, (s139_y254 i).trans (L_I243 i (by omega)).2.1, (s140_y254 i).trans (L_I243 i (by omega)).2.2⟩, fun i hi => ⟨(s133_y254 i).trans (F_I243 i (by omega)).1, (s134_y254 i).trans (F_I243 i (by omega)).2⟩, fun i hi => ⟨s131_y254 i hi, s132_y254 i hi⟩⟩
        exact k (qm_up I243 132 (sd.toInt.toNat) v253) (J244) t245 f246 c247 o248 l249 n250 pr v253 (hb_up (o := 132) (k := sd.toInt.toNat) (x := v253) hB_I243 ⟨by show (0 : Int) ≤ v253.toInt; omega, by show v253.toInt ≤ (8 : Int); omega⟩) (fun o ho i => ((hk_mod ho rfl).trans ((e_I243 o (hk_ms rfl ho) i).trans rfl))) (fun i hi => ((hk_ot rfl).trans ((e8_I243 i (hk_ms rfl hi)).trans rfl))) (show (qm_up I243 132 (sd.toInt.toNat) v253) 118 11 = _ from ((hk_ot rfl).trans q_t245)) (show (qm_up I243 132 (sd.toInt.toNat) v253) 118 13 = _ from ((hk_ot rfl).trans q_f246)) (show (qm_up I243 132 (sd.toInt.toNat) v253) 118 37 = _ from ((hk_ot rfl).trans q_c247)) (show (qm_up I243 132 (sd.toInt.toNat) v253) 118 12 = _ from ((hk_ot rfl).trans q_o248)) (show (qm_up I243 132 (sd.toInt.toNat) v253) 118 30 = _ from ((hk_ot rfl).trans q_l249)) (show (qm_up I243 132 (sd.toInt.toNat) v253) 118 20 = _ from ((hk_ot rfl).trans q_n250)) (show (qm_up I243 132 (sd.toInt.toNat) v253) 131 (sd.toInt.toNat) = _ from ((hk_ot rfl).trans ((e_I243 131 rfl (sd.toInt.toNat)).trans q_pr))) (show (qm_up I243 132 (sd.toInt.toNat) v253) 132 (sd.toInt.toNat) = _ from (hk_same)) (by omega) (fun z => by omega) td_y254 (fun z => by rw [ev_y254]; exact rs_sm (rs_add2 hrs A_I243 L_I243 F_I243 (by omega) (by omega) (R_I243 (by omega)) (by omega) (by omega)) s133_y254 s134_y254 s138_y254 s139_y254 s140_y254 s141_y254 s142_y254 (by omega))
    · refine qm_Ru.go 2 (c' := (174, [.ref 118, .int v1, .float 0, .float 0], [.int 2, .ref 118], h)) rfl ?_
      refine hk_inv (o := 118) (r := []) (as := [.ref 118, .int 2]) rfl rfl (hH.1 118 (17, 105) rfl) rfl rfl rfl rfl ?_
      refine qm_Ru.go 1 (c' := (1, [.ref 118, .int 2], [.ref 118], h)) rfl ?_
      refine hk_geti (v := fa) rfl (hH.1 118 (17, 105) rfl) rfl q_fa ?_
      refine qm_Ru.go 0 (c' := (4, [.ref 118, .int 2], [.int fa], h)) rfl ?_
      refine hk_zle (ix := fa.toInt) rfl rfl (fun z255 => ?_) (fun z255 => by exfalso; omega)
      refine qm_Ru.go 2 (c' := (10, [.ref 118, .int 2], [.int 2, .ref 118], h)) rfl ?_
      refine hk_puti rfl (hH.1 118 (17, 105) rfl) rfl ?_
      refine qm_Ru.go 2 (c' := (15, [.ref 118, .int 2], [.ref 118, .ref 118], (h.1, qm_up h.2.1 118 13 2, h.2.2.1, h.2.2.2))) rfl ?_
      refine hk_getr rfl (hH.1 118 (17, 105) rfl) rfl (hH.2 118 6 (some 122) rfl) ?_
      refine qm_Ru.go 1 (c' := (19, [.ref 118, .int 2], [.ref 118, .ref 122, .ref 118], (h.1, qm_up h.2.1 118 13 2, h.2.2.1, h.2.2.2))) rfl ?_
      refine hk_geti (v := ta) rfl (hH.1 118 (17, 105) rfl) rfl (show (qm_up h.2.1 118 13 2) 118 11 = _ from ((hk_neq (by decide)).trans q_ta)) ?_
      refine qm_Ru.go 0 (c' := (22, [.ref 118, .int 2], [.int ta, .ref 122, .ref 118], (h.1, qm_up h.2.1 118 13 2, h.2.2.1, h.2.2.2))) rfl ?_
      obtain ⟨v256, q_v256⟩ : ∃ v, h.2.1 122 (ta.toInt.toNat) = v := ⟨_, rfl⟩
      refine hk_ial (v := v256) rfl (hH.1 122 (0, 403) rfl) (by omega) (by omega) (show (qm_up h.2.1 118 13 2) 122 (ta.toInt.toNat) = _ from ((hk_ot rfl).trans q_v256)) ?_
      refine qm_Ru.go 0 (c' := (23, [.ref 118, .int 2], [.int v256, .ref 118], (h.1, qm_up h.2.1 118 13 2, h.2.2.1, h.2.2.2))) rfl ?_
      refine hk_puti rfl (hH.1 118 (17, 105) rfl) rfl ?_
      refine qm_Ru.go 0 (c' := (26, [.ref 118, .int 2], [], (h.1, qm_up (qm_up h.2.1 118 13 2) 118 14 v256, h.2.2.1, h.2.2.2))) rfl ?_
      refine qm_Ru.rt (v := none) (h' := (h.1, qm_up (qm_up h.2.1 118 13 2) 118 14 v256, h.2.2.1, h.2.2.2)) rfl ?_
      refine qm_Ru.go 1 (c' := (178, [.ref 118, .int v1, .float 0, .float 0], [.ref 118], (h.1, qm_up (qm_up h.2.1 118 13 2) 118 14 v256, h.2.2.1, h.2.2.2))) rfl ?_
      refine hk_geti (v := 2) rfl (hH.1 118 (17, 105) rfl) rfl (show (qm_up (qm_up h.2.1 118 13 2) 118 14 v256) 118 13 = _ from ((hk_neq (by decide)).trans (hk_same))) ?_
      refine qm_Ru.go 2 (c' := (209, [.ref 118, .int v1, .float 0, .float 0], [.ref 118], (h.1, qm_up (qm_up h.2.1 118 13 2) 118 14 v256, h.2.2.1, h.2.2.2))) rfl ?_
      refine hk_geti (v := 2) rfl (hH.1 118 (17, 105) rfl) rfl (show (qm_up (qm_up h.2.1 118 13 2) 118 14 v256) 118 13 = _ from ((hk_neq (by decide)).trans (hk_same))) ?_
      refine qm_Ru.go 1 (c' := (352, [.ref 118, .int v1, .float 0, .float 0], [], (h.1, qm_up (qm_up h.2.1 118 13 2) 118 14 v256, h.2.2.1, h.2.2.2))) rfl ?_
      refine qm_Ru.rt (v := none) (h' := (h.1, qm_up (qm_up h.2.1 118 13 2) 118 14 v256, h.2.2.1, h.2.2.2)) rfl ?_
      have s131_y257 : ∀ i, (qm_up (qm_up h.2.1 118 13 2) 118 14 v256) 131 i = h.2.1 131 i := fun i => ((hk_ot rfl).trans ((hk_ot rfl).trans rfl))
      have s132_y257 : ∀ i, (qm_up (qm_up h.2.1 118 13 2) 118 14 v256) 132 i = h.2.1 132 i := fun i => ((hk_ot rfl).trans ((hk_ot rfl).trans rfl))
      have s133_y257 : ∀ i, (qm_up (qm_up h.2.1 118 13 2) 118 14 v256) 133 i = h.2.1 133 i := fun i => ((hk_ot rfl).trans ((hk_ot rfl).trans rfl))
      have s134_y257 : ∀ i, (qm_up (qm_up h.2.1 118 13 2) 118 14 v256) 134 i = h.2.1 134 i := fun i => ((hk_ot rfl).trans ((hk_ot rfl).trans rfl))
      have s138_y257 : ∀ i, (qm_up (qm_up h.2.1 118 13 2) 118 14 v256) 138 i = h.2.1 138 i := fun i => ((hk_ot rfl).trans ((hk_ot rfl).trans rfl))
      have s139_y257 : ∀ i, (qm_up (qm_up h.2.1 118 13 2) 118 14 v256) 139 i = h.2.1 139 i := fun i => ((hk_ot rfl).trans ((hk_ot rfl).trans rfl))
      have s140_y257 : ∀ i, (qm_up (qm_up h.2.1 118 13 2) 118 14 v256) 140 i = h.2.1 140 i := fun i => ((hk_ot rfl).trans ((hk_ot rfl).trans rfl))
      have s141_y257 : ∀ i, (qm_up (qm_up h.2.1 118 13 2) 118 14 v256) 141 i = h.2.1 141 i := fun i => ((hk_ot rfl).trans ((hk_ot rfl).trans rfl))
      have s142_y257 : ∀ i, (qm_up (qm_up h.2.1 118 13 2) 118 14 v256) 142 i = h.2.1 142 i := fun i => ((hk_ot rfl).trans ((hk_ot rfl).trans rfl))
      have td_y257 : td (sd.toInt.toNat) h.2.1 (qm_up (qm_up h.2.1 118 13 2) 118 14 v256) := ⟨fun i _ => ⟨s141_y257 i, s142_y257 i⟩, fun i _ => ⟨s138_y257 i, s139_y257 i, s140_y257 i⟩, fun i _ => ⟨s133_y257 i, s134_y257 i⟩, fun i _ => ⟨s131_y257 i, s132_y257 i⟩⟩
      exact k (qm_up (qm_up h.2.1 118 13 2) 118 14 v256) (h.2.2.1) ta 2 ca bs la nm pr pp (hb_up (o := 118) (k := 14) (x := v256) (hb_up (o := 118) (k := 13) (x := 2) hB (qa_in_full _)) (qa_in_full _)) (fun o ho i => ((hk_mod ho rfl).trans ((hk_mod ho rfl).trans rfl))) (fun i hi => ((hk_neq (fun z => by subst z; cases hi)).trans ((hk_neq (fun z => by subst z; cases hi)).trans rfl))) (show (qm_up (qm_up h.2.1 118 13 2) 118 14 v256) 118 11 = _ from ((hk_neq (by decide)).trans ((hk_neq (by decide)).trans q_ta))) (show (qm_up (qm_up h.2.1 118 13 2) 118 14 v256) 118 13 = _ from ((hk_neq (by decide)).trans (hk_same))) (show (qm_up (qm_up h.2.1 118 13 2) 118 14 v256) 118 37 = _ from ((hk_neq (by decide)).trans ((hk_neq (by decide)).trans q_ca))) (show (qm_up (qm_up h.2.1 118 13 2) 118 14 v256) 118 12 = _ from ((hk_neq (by decide)).trans ((hk_neq (by decide)).trans q_bs))) (show (qm_up (qm_up h.2.1 118 13 2) 118 14 v256) 118 30 = _ from ((hk_neq (by decide)).trans ((hk_neq (by decide)).trans q_la))) (show (qm_up (qm_up h.2.1 118 13 2) 118 14 v256) 118 20 = _ from ((hk_neq (by decide)).trans ((hk_neq (by decide)).trans q_nm))) (show (qm_up (qm_up h.2.1 118 13 2) 118 14 v256) 131 (sd.toInt.toNat) = _ from ((hk_ot rfl).trans ((hk_ot rfl).trans q_pr))) (show (qm_up (qm_up h.2.1 118 13 2) 118 14 v256) 132 (sd.toInt.toNat) = _ from ((hk_ot rfl).trans ((hk_ot rfl).trans q_pp))) (by omega) (fun z => by omega) td_y257 (fun z => rs_sm hrs s133_y257 s134_y257 s138_y257 s139_y257 s140_y257 s141_y257 s142_y257 (by omega))
