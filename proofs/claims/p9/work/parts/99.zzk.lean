/-! by hand -/
theorem hl_tr1 {L : Nat} {xs : Nat → Int32} {d : Nat} {Z : Option Value → qm_H → Prop} {h : qm_H} (hH : hk_H h) (hB : hk_B h.2.1) {r ta fa ca bs la nm : Int32} {t0 c0 f0 : Int} {lf : Nat} (hr : 0 ≤ r.toInt ∧ r.toInt ≤ 31) (q_ta : h.2.1 118 11 = ta) (q_fa : h.2.1 118 13 = fa) (q_ca : h.2.1 118 37 = ca) (q_bs : h.2.1 118 12 = bs) (q_la : h.2.1 118 30 = la) (q_nm : h.2.1 118 20 = nm) (hta : 0 ≤ t0 ∧ t0 ≤ ta.toInt ∧ ta.toInt ≤ 400 ∧ 0 ≤ fa.toInt ∧ (fa.toInt = 0 → f0 = 0)) (hc0 : 0 ≤ c0 ∧ c0 ≤ 420) (hca : c0 ≤ ca.toInt ∧ ca.toInt = (lf : Int) ∧ ca.toInt ≤ c0 + ta.toInt + 1 ∧ (fa.toInt = 0 → ca.toInt ≤ c0 + ta.toInt)) (hbs : 0 ≤ bs.toInt ∧ bs.toInt ≤ 7 ∧ (fa.toInt = 0 → bs.toInt ≤ 6)) (hla : 0 ≤ la.toInt ∧ 3 * la.toInt ≤ 450 + t0) (hnm : 0 ≤ nm.toInt ∧ nm.toInt ≤ 16 ∧ (fa.toInt = 0 → nm.toInt ≤ 15)) {na : Int32} (hna : 0 ≤ na.toInt ∧ na.toInt ≤ 400) (k : ∀ (I : Nat → Nat → Int32) (J : Nat → Nat → Int64) (t f cd op li nn : Int32), hk_B I → (∀ o, [118, 133, 134, 135, 136, 137, 138, 139, 140, 141, 142, 143].contains o = false → ∀ i, I o i = h.2.1 o i) → (∀ i, [11, 12, 13, 14, 15, 16, 20, 30, 37, 41].contains i = false → I 118 i = h.2.1 118 i) → I 118 11 = t → I 118 13 = f → I 118 37 = cd → I 118 12 = op → I 118 30 = li → I 118 20 = nn → (t0 ≤ t.toInt ∧ t.toInt ≤ 400 ∧ 0 ≤ f.toInt ∧ (f.toInt = 0 → f0 = 0)) → ((lf : Int) ≤ cd.toInt ∧ cd.toInt ≤ c0 + t.toInt + 1 ∧ (f.toInt = 0 → cd.toInt ≤ c0 + t.toInt)) → (0 ≤ op.toInt ∧ op.toInt ≤ 7 ∧ (f.toInt = 0 → op.toInt = bs.toInt)) → (la.toInt ≤ li.toInt ∧ 3 * (li.toInt - la.toInt) ≤ t.toInt - t0) → (0 ≤ nn.toInt ∧ nn.toInt ≤ 16 ∧ (f.toInt = 0 → nn.toInt = nm.toInt + 1)) → pa h.2.1 I (lf : Int) (c0 + 420) → pl h.2.1 I la.toInt li.toInt → (∀ i, i ≠ r.toInt.toNat → I 133 i = h.2.1 133 i ∧ I 134 i = h.2.1 134 i) → (f.toInt = 0 → pI I 133 (r.toInt.toNat) = la.toInt ∧ pI I 134 (r.toInt.toNat) = li.toInt ∧ ru I la.toInt li.toInt (lf : Int) cd.toInt) → Z none (h.1, I, J, h.2.2.2)) : ∀ (m : Nat) (I : Nat → Nat → Int32) (J : Nat → Nat → Int64) (i : Int32), (hk_B I) → ((∀ o, [118].contains o = false → ∀ i, I o i = h.2.1 o i)) → ((∀ i, [15, 16].contains i = false → I 118 i = h.2.1 118 i)) → ((0 ≤ i.toInt ∧ i.toInt ≤ nm.toInt)) → ((nm.toInt - i.toInt ≤ (m : Int))) → ∀ l4 : Value, qm_Ru (some (L, xs)) (d + 8) cd_262 (16, [.ref 118, .int r, .int na, .int i, l4], [], (h.1, I, J, h.2.2.2)) Z := by
  intro m
  induction m using Nat.strongRecOn with
  | ind m ih =>
    intro I J i hBI e e8 hi_ hm l4
    have k0 : (0 : Int32).toInt = 0 := rfl
    have k1 : (1 : Int32).toInt = 1 := rfl
    have k2 : (2 : Int32).toInt = 2 := rfl
    have k3 : (3 : Int32).toInt = 3 := rfl
    have k6 : (6 : Int32).toInt = 6 := rfl
    refine qm_Ru.go 2 (c' := (18, [.ref 118, .int r, .int na, .int i, l4], [.ref 118, .int i], (h.1, I, J, h.2.2.2))) rfl ?_
    refine hk_geti (v := nm) rfl (hH.1 118 (17, 105) rfl) rfl (show (I) 118 20 = _ from ((e8 20 rfl).trans q_nm)) ?_
    refine qm_Ru.go 0 (c' := (21, [.ref 118, .int r, .int na, .int i, l4], [.int nm, .int i], (h.1, I, J, h.2.2.2))) rfl ?_
    refine hk_cge (ix := i.toInt) (iy := nm.toInt) rfl rfl rfl (fun z1 => ?_) (fun z1 => ?_)
    · refine qm_Ru.go 1 (c' := (60, [.ref 118, .int r, .int na, .int i, l4], [.ref 118], (h.1, I, J, h.2.2.2))) rfl ?_
      refine hk_geti (v := fa) rfl (hH.1 118 (17, 105) rfl) rfl (show (I) 118 13 = _ from ((e8 13 rfl).trans q_fa)) ?_
      refine qm_Ru.go 0 (c' := (63, [.ref 118, .int r, .int na, .int i, l4], [.int fa], (h.1, I, J, h.2.2.2))) rfl ?_
      refine hk_zle (ix := fa.toInt) rfl rfl (fun z2 => ?_) (fun z2 => ?_)
      · refine qm_Ru.go 1 (c' := (68, [.ref 118, .int r, .int na, .int i, l4], [.ref 118], (h.1, I, J, h.2.2.2))) rfl ?_
        refine hk_getr rfl (hH.1 118 (17, 105) rfl) rfl (hH.2 118 21 (some 126) rfl) ?_
        refine qm_Ru.go 1 (c' := (72, [.ref 118, .int r, .int na, .int i, l4], [.ref 118, .ref 126], (h.1, I, J, h.2.2.2))) rfl ?_
        refine hk_geti (v := nm) rfl (hH.1 118 (17, 105) rfl) rfl (show (I) 118 20 = _ from ((e8 20 rfl).trans q_nm)) ?_
        refine qm_Ru.go 1 (c' := (76, [.ref 118, .int r, .int na, .int i, l4], [.ref 118, .int nm, .ref 126], (h.1, I, J, h.2.2.2))) rfl ?_
        refine hk_getr rfl (hH.1 118 (17, 105) rfl) rfl (hH.2 118 8 (some 124) rfl) ?_
        refine qm_Ru.go 1 (c' := (80, [.ref 118, .int r, .int na, .int i, l4], [.int na, .ref 124, .int nm, .ref 126], (h.1, I, J, h.2.2.2))) rfl ?_
        obtain ⟨v3, q_v3⟩ : ∃ v, (h.1, I, J, h.2.2.2).2.2.1 124 (na.toInt.toNat) = v := ⟨_, rfl⟩
        refine hk_lal rfl (hH.1 124 (3, 403) rfl) (by omega) (by omega) q_v3 ?_
        refine qm_Ru.go 0 (c' := (81, [.ref 118, .int r, .int na, .int i, l4], [.long v3, .int nm, .ref 126], (h.1, I, J, h.2.2.2))) rfl ?_
        refine hk_las rfl (hH.1 126 (3, 16) rfl) (by omega) (by omega) ?_
        refine qm_Ru.go 2 (c' := (84, [.ref 118, .int r, .int na, .int i, l4], [.ref 118, .ref 118], (h.1, I, qm_up J 126 (nm.toInt.toNat) v3, h.2.2.2))) rfl ?_
        refine hk_geti (v := nm) rfl (hH.1 118 (17, 105) rfl) rfl (show (I) 118 20 = _ from ((e8 20 rfl).trans q_nm)) ?_
        refine qm_Ru.go 2 (c' := (89, [.ref 118, .int r, .int na, .int i, l4], [.int (nm + 1), .ref 118], (h.1, I, qm_up J 126 (nm.toInt.toNat) v3, h.2.2.2))) rfl ?_
        obtain ⟨v4, q_v4, e_v4⟩ := hk_add (x := nm) (y := 1) (a := nm.toInt) (b := 1) rfl rfl (by omega) (by omega)
        rw [q_v4]
        refine hk_puti rfl (hH.1 118 (17, 105) rfl) rfl ?_
        refine qm_Ru.go 1 (c' := (93, [.ref 118, .int r, .int na, .int i, l4], [.ref 118], (h.1, qm_up I 118 20 v4, qm_up J 126 (nm.toInt.toNat) v3, h.2.2.2))) rfl ?_
        refine hk_getr rfl (hH.1 118 (17, 105) rfl) rfl (hH.2 118 28 (some 133) rfl) ?_
        refine qm_Ru.go 2 (c' := (98, [.ref 118, .int r, .int na, .int i, l4], [.ref 118, .int r, .ref 133], (h.1, qm_up I 118 20 v4, qm_up J 126 (nm.toInt.toNat) v3, h.2.2.2))) rfl ?_
        refine hk_geti (v := la) rfl (hH.1 118 (17, 105) rfl) rfl (show (qm_up I 118 20 v4) 118 30 = _ from ((hk_neq (by decide)).trans ((e8 30 rfl).trans q_la))) ?_
        refine qm_Ru.go 0 (c' := (101, [.ref 118, .int r, .int na, .int i, l4], [.int la, .int r, .ref 133], (h.1, qm_up I 118 20 v4, qm_up J 126 (nm.toInt.toNat) v3, h.2.2.2))) rfl ?_
        refine hk_ias rfl (hH.1 133 (0, 32) rfl) (by omega) (by omega) ?_
        refine qm_Ru.go 2 (c' := (105, [.ref 118, .int r, .int na, .int i, l4], [.int 28, .ref 118], (h.1, qm_up (qm_up I 118 20 v4) 133 (r.toInt.toNat) la, qm_up J 126 (nm.toInt.toNat) v3, h.2.2.2))) rfl ?_
        refine hk_inv (o := 118) (r := []) (as := [.ref 118, .int 28]) rfl rfl (hH.1 118 (17, 105) rfl) rfl rfl rfl rfl ?_
        refine qm_Ru.go 2 (c' := (2, [.ref 118, .int 28], [.int 28, .ref 118], (h.1, qm_up (qm_up I 118 20 v4) 133 (r.toInt.toNat) la, qm_up J 126 (nm.toInt.toNat) v3, h.2.2.2))) rfl ?_
        refine hk_inv (o := 118) (r := []) (as := [.ref 118, .int 28]) rfl rfl (hH.1 118 (17, 105) rfl) rfl rfl rfl rfl ?_
        refine qm_Ru.go 1 (c' := (1, [.ref 118, .int 28], [.ref 118], (h.1, qm_up (qm_up I 118 20 v4) 133 (r.toInt.toNat) la, qm_up J 126 (nm.toInt.toNat) v3, h.2.2.2))) rfl ?_
        refine hk_geti (v := fa) rfl (hH.1 118 (17, 105) rfl) rfl (show (qm_up (qm_up I 118 20 v4) 133 (r.toInt.toNat) la) 118 13 = _ from ((hk_ot rfl).trans ((hk_neq (by decide)).trans ((e8 13 rfl).trans q_fa)))) ?_
        refine qm_Ru.go 0 (c' := (4, [.ref 118, .int 28], [.int fa], (h.1, qm_up (qm_up I 118 20 v4) 133 (r.toInt.toNat) la, qm_up J 126 (nm.toInt.toNat) v3, h.2.2.2))) rfl ?_
        refine hk_zne (ix := fa.toInt) rfl rfl (fun z5 => by exfalso; omega) (fun z5 => ?_)
        refine qm_Ru.go 1 (c' := (8, [.ref 118, .int 28], [.ref 118], (h.1, qm_up (qm_up I 118 20 v4) 133 (r.toInt.toNat) la, qm_up J 126 (nm.toInt.toNat) v3, h.2.2.2))) rfl ?_
        refine hk_getr rfl (hH.1 118 (17, 105) rfl) rfl (hH.2 118 5 (some 121) rfl) ?_
        refine qm_Ru.go 1 (c' := (12, [.ref 118, .int 28], [.ref 118, .ref 121], (h.1, qm_up (qm_up I 118 20 v4) 133 (r.toInt.toNat) la, qm_up J 126 (nm.toInt.toNat) v3, h.2.2.2))) rfl ?_
        refine hk_geti (v := ta) rfl (hH.1 118 (17, 105) rfl) rfl (show (qm_up (qm_up I 118 20 v4) 133 (r.toInt.toNat) la) 118 11 = _ from ((hk_ot rfl).trans ((hk_neq (by decide)).trans ((e8 11 rfl).trans q_ta)))) ?_
        refine qm_Ru.go 0 (c' := (15, [.ref 118, .int 28], [.int ta, .ref 121], (h.1, qm_up (qm_up I 118 20 v4) 133 (r.toInt.toNat) la, qm_up J 126 (nm.toInt.toNat) v3, h.2.2.2))) rfl ?_
        obtain ⟨v6, q_v6⟩ : ∃ v, h.2.1 121 (ta.toInt.toNat) = v := ⟨_, rfl⟩
        have b_v6 : (0 : Int) ≤ v6.toInt ∧ v6.toInt ≤ 44 := by rw [← q_v6]; exact hB 121 (ta.toInt.toNat)
        refine hk_ial (v := v6) rfl (hH.1 121 (0, 403) rfl) (by omega) (by omega) (show (qm_up (qm_up I 118 20 v4) 133 (r.toInt.toNat) la) 121 (ta.toInt.toNat) = _ from ((hk_ot rfl).trans ((hk_ot rfl).trans ((e 121 rfl (ta.toInt.toNat)).trans q_v6)))) ?_
        refine qm_Ru.go 1 (c' := (17, [.ref 118, .int 28], [.int 28, .int v6], (h.1, qm_up (qm_up I 118 20 v4) 133 (r.toInt.toNat) la, qm_up J 126 (nm.toInt.toNat) v3, h.2.2.2))) rfl ?_
        refine hk_cne (ix := v6.toInt) (iy := 28) rfl rfl rfl (fun z7 => ?_) (fun z7 => ?_)
        · refine qm_Ru.go 1 (c' := (25, [.ref 118, .int 28], [.int 0], (h.1, qm_up (qm_up I 118 20 v4) 133 (r.toInt.toNat) la, qm_up J 126 (nm.toInt.toNat) v3, h.2.2.2))) rfl ?_
          refine qm_Ru.rt (v := (some (.int 0))) (h' := (h.1, qm_up (qm_up I 118 20 v4) 133 (r.toInt.toNat) la, qm_up J 126 (nm.toInt.toNat) v3, h.2.2.2)) rfl ?_
          refine qm_Ru.go 3 (c' := (17, [.ref 118, .int 28], [.int 1, .ref 118], (h.1, qm_up (qm_up I 118 20 v4) 133 (r.toInt.toNat) la, qm_up J 126 (nm.toInt.toNat) v3, h.2.2.2))) rfl ?_
          refine hk_inv (o := 118) (r := []) (as := [.ref 118, .int 1]) rfl rfl (hH.1 118 (17, 105) rfl) rfl rfl rfl rfl ?_
          refine qm_Ru.go 1 (c' := (1, [.ref 118, .int 1], [.ref 118], (h.1, qm_up (qm_up I 118 20 v4) 133 (r.toInt.toNat) la, qm_up J 126 (nm.toInt.toNat) v3, h.2.2.2))) rfl ?_
          refine hk_geti (v := fa) rfl (hH.1 118 (17, 105) rfl) rfl (show (qm_up (qm_up I 118 20 v4) 133 (r.toInt.toNat) la) 118 13 = _ from ((hk_ot rfl).trans ((hk_neq (by decide)).trans ((e8 13 rfl).trans q_fa)))) ?_
          refine qm_Ru.go 0 (c' := (4, [.ref 118, .int 1], [.int fa], (h.1, qm_up (qm_up I 118 20 v4) 133 (r.toInt.toNat) la, qm_up J 126 (nm.toInt.toNat) v3, h.2.2.2))) rfl ?_
          refine hk_zle (ix := fa.toInt) rfl rfl (fun z8 => ?_) (fun z8 => by exfalso; omega)
          refine qm_Ru.go 2 (c' := (10, [.ref 118, .int 1], [.int 1, .ref 118], (h.1, qm_up (qm_up I 118 20 v4) 133 (r.toInt.toNat) la, qm_up J 126 (nm.toInt.toNat) v3, h.2.2.2))) rfl ?_
          refine hk_puti rfl (hH.1 118 (17, 105) rfl) rfl ?_
          refine qm_Ru.go 2 (c' := (15, [.ref 118, .int 1], [.ref 118, .ref 118], (h.1, qm_up (qm_up (qm_up I 118 20 v4) 133 (r.toInt.toNat) la) 118 13 1, qm_up J 126 (nm.toInt.toNat) v3, h.2.2.2))) rfl ?_
          refine hk_getr rfl (hH.1 118 (17, 105) rfl) rfl (hH.2 118 6 (some 122) rfl) ?_
          refine qm_Ru.go 1 (c' := (19, [.ref 118, .int 1], [.ref 118, .ref 122, .ref 118], (h.1, qm_up (qm_up (qm_up I 118 20 v4) 133 (r.toInt.toNat) la) 118 13 1, qm_up J 126 (nm.toInt.toNat) v3, h.2.2.2))) rfl ?_
          refine hk_geti (v := ta) rfl (hH.1 118 (17, 105) rfl) rfl (show (qm_up (qm_up (qm_up I 118 20 v4) 133 (r.toInt.toNat) la) 118 13 1) 118 11 = _ from ((hk_neq (by decide)).trans ((hk_ot rfl).trans ((hk_neq (by decide)).trans ((e8 11 rfl).trans q_ta))))) ?_
          refine qm_Ru.go 0 (c' := (22, [.ref 118, .int 1], [.int ta, .ref 122, .ref 118], (h.1, qm_up (qm_up (qm_up I 118 20 v4) 133 (r.toInt.toNat) la) 118 13 1, qm_up J 126 (nm.toInt.toNat) v3, h.2.2.2))) rfl ?_
          obtain ⟨v9, q_v9⟩ : ∃ v, h.2.1 122 (ta.toInt.toNat) = v := ⟨_, rfl⟩
          refine hk_ial (v := v9) rfl (hH.1 122 (0, 403) rfl) (by omega) (by omega) (show (qm_up (qm_up (qm_up I 118 20 v4) 133 (r.toInt.toNat) la) 118 13 1) 122 (ta.toInt.toNat) = _ from ((hk_ot rfl).trans ((hk_ot rfl).trans ((hk_ot rfl).trans ((e 122 rfl (ta.toInt.toNat)).trans q_v9))))) ?_
          refine qm_Ru.go 0 (c' := (23, [.ref 118, .int 1], [.int v9, .ref 118], (h.1, qm_up (qm_up (qm_up I 118 20 v4) 133 (r.toInt.toNat) la) 118 13 1, qm_up J 126 (nm.toInt.toNat) v3, h.2.2.2))) rfl ?_
          refine hk_puti rfl (hH.1 118 (17, 105) rfl) rfl ?_
          refine qm_Ru.go 0 (c' := (26, [.ref 118, .int 1], [], (h.1, qm_up (qm_up (qm_up (qm_up I 118 20 v4) 133 (r.toInt.toNat) la) 118 13 1) 118 14 v9, qm_up J 126 (nm.toInt.toNat) v3, h.2.2.2))) rfl ?_
          refine qm_Ru.rt (v := none) (h' := (h.1, qm_up (qm_up (qm_up (qm_up I 118 20 v4) 133 (r.toInt.toNat) la) 118 13 1) 118 14 v9, qm_up J 126 (nm.toInt.toNat) v3, h.2.2.2)) rfl ?_
          refine qm_Ru.go 0 (c' := (20, [.ref 118, .int 28], [], (h.1, qm_up (qm_up (qm_up (qm_up I 118 20 v4) 133 (r.toInt.toNat) la) 118 13 1) 118 14 v9, qm_up J 126 (nm.toInt.toNat) v3, h.2.2.2))) rfl ?_
          refine qm_Ru.rt (v := none) (h' := (h.1, qm_up (qm_up (qm_up (qm_up I 118 20 v4) 133 (r.toInt.toNat) la) 118 13 1) 118 14 v9, qm_up J 126 (nm.toInt.toNat) v3, h.2.2.2)) rfl ?_
          refine qm_Ru.go 4 (c' := (113, [.ref 118, .int r, .int na, .int 1, .int 1], [], (h.1, qm_up (qm_up (qm_up (qm_up I 118 20 v4) 133 (r.toInt.toNat) la) 118 13 1) 118 14 v9, qm_up J 126 (nm.toInt.toNat) v3, h.2.2.2))) rfl ?_
          have hBx_I10 : hk_B (qm_up (qm_up (qm_up (qm_up I 118 20 v4) 133 (r.toInt.toNat) la) 118 13 1) 118 14 v9) := (hb_up (o := 118) (k := 14) (x := v9) (hb_up (o := 118) (k := 13) (x := 1) (hb_up (o := 133) (k := r.toInt.toNat) (x := la) (hb_up (o := 118) (k := 20) (x := v4) hBI ⟨by show (0 : Int) ≤ v4.toInt; omega, by show v4.toInt ≤ (16 : Int); omega⟩) ⟨by show (0 : Int) ≤ la.toInt; omega, by show la.toInt ≤ (300 : Int); omega⟩) (qa_in_full _)) (qa_in_full _))
          refine hl_tr2 (h := (h.1, qm_up (qm_up (qm_up (qm_up I 118 20 v4) 133 (r.toInt.toNat) la) 118 13 1) 118 14 v9, qm_up J 126 (nm.toInt.toNat) v3, h.2.2.2)) hH hBx_I10 (r := r) (bs := bs) (la := la) (t0 := Int32.toInt ta) (c0 := c0) (f0 := Int32.toInt 1) (lf := lf) hr (by omega) hc0 (by omega) (by omega) (by omega) (fun I10 J11 t12 f13 c14 o15 l16 hB_I10 e_I10 e8_I10 q_t12 q_f13 q_c14 q_o15 q_l16 b1_I10 b2_I10 b3_I10 b4_I10 A_I10 L_I10 F_I10 G_I10 R_I10 => ?_) 401 (qm_up (qm_up (qm_up (qm_up I 118 20 v4) 133 (r.toInt.toNat) la) 118 13 1) 118 14 v9) (qm_up J 126 (nm.toInt.toNat) v3) ta 1 ca bs la 1 1 hBx_I10 (fun _ _ _ => rfl) (fun _ _ => rfl) (show (qm_up (qm_up (qm_up (qm_up I 118 20 v4) 133 (r.toInt.toNat) la) 118 13 1) 118 14 v9) 118 11 = _ from ((hk_neq (by decide)).trans ((hk_neq (by decide)).trans ((hk_ot rfl).trans ((hk_neq (by decide)).trans ((e8 11 rfl).trans q_ta)))))) (show (qm_up (qm_up (qm_up (qm_up I 118 20 v4) 133 (r.toInt.toNat) la) 118 13 1) 118 14 v9) 118 13 = _ from ((hk_neq (by decide)).trans (hk_same))) (show (qm_up (qm_up (qm_up (qm_up I 118 20 v4) 133 (r.toInt.toNat) la) 118 13 1) 118 14 v9) 118 37 = _ from ((hk_neq (by decide)).trans ((hk_neq (by decide)).trans ((hk_ot rfl).trans ((hk_neq (by decide)).trans ((e8 37 rfl).trans q_ca)))))) (show (qm_up (qm_up (qm_up (qm_up I 118 20 v4) 133 (r.toInt.toNat) la) 118 13 1) 118 14 v9) 118 12 = _ from ((hk_neq (by decide)).trans ((hk_neq (by decide)).trans ((hk_ot rfl).trans ((hk_neq (by decide)).trans ((e8 12 rfl).trans q_bs)))))) (show (qm_up (qm_up (qm_up (qm_up I 118 20 v4) 133 (r.toInt.toNat) la) 118 13 1) 118 14 v9) 118 30 = _ from ((hk_neq (by decide)).trans ((hk_neq (by decide)).trans ((hk_ot rfl).trans ((hk_neq (by decide)).trans ((e8 30 rfl).trans q_la)))))) (by omega) (by omega) (by omega) (by omega) (fun _ _ => ⟨rfl, rfl⟩) pl_refl (fun _ => ru_nil) (by decide) (fun _ => by omega) na
          have e_I10 : ∀ o, [118, 134, 135, 136, 137, 138, 139, 140, 141, 142, 143].contains o = false → ∀ i, I10 o i = (qm_up (qm_up (qm_up (qm_up I 118 20 v4) 133 (r.toInt.toNat) la) 118 13 1) 118 14 v9) o i := e_I10
          have e8_I10 : ∀ i, [11, 12, 13, 14, 30, 37, 41].contains i = false → I10 118 i = (qm_up (qm_up (qm_up (qm_up I 118 20 v4) 133 (r.toInt.toNat) la) 118 13 1) 118 14 v9) 118 i := e8_I10
          have ro_I10 : pa h.2.1 (qm_up (qm_up (qm_up (qm_up I 118 20 v4) 133 (r.toInt.toNat) la) 118 13 1) 118 14 v9) (lf : Int) (c0 + 420) := (fun i _ => ⟨((hk_ot rfl).trans ((hk_ot rfl).trans ((hk_ot rfl).trans ((hk_ot rfl).trans ((e 141 rfl i).trans rfl))))), ((hk_ot rfl).trans ((hk_ot rfl).trans ((hk_ot rfl).trans ((hk_ot rfl).trans ((e 142 rfl i).trans rfl)))))⟩)
          have rl_I10 : pl h.2.1 (qm_up (qm_up (qm_up (qm_up I 118 20 v4) 133 (r.toInt.toNat) la) 118 13 1) 118 14 v9) la.toInt la.toInt := (fun i _ => ⟨((hk_ot rfl).trans ((hk_ot rfl).trans ((hk_ot rfl).trans ((hk_ot rfl).trans ((e 138 rfl i).trans rfl))))), ((hk_ot rfl).trans ((hk_ot rfl).trans ((hk_ot rfl).trans ((hk_ot rfl).trans ((e 139 rfl i).trans rfl))))), ((hk_ot rfl).trans ((hk_ot rfl).trans ((hk_ot rfl).trans ((hk_ot rfl).trans ((e 140 rfl i).trans rfl)))))⟩)
          have F_I10 : ∀ i, i ≠ r.toInt.toNat → I10 134 i = (qm_up (qm_up (qm_up (qm_up I 118 20 v4) 133 (r.toInt.toNat) la) 118 13 1) 118 14 v9) 134 i := F_I10
          exact k I10 J11 t12 f13 c14 o15 l16 v4 hB_I10 (fun o ho i => ((e_I10 o (hk_ms rfl ho) i).trans ((hk_mod ho rfl).trans ((hk_mod ho rfl).trans ((hk_mod ho rfl).trans ((hk_mod ho rfl).trans ((e o (hk_ms rfl ho) i).trans rfl))))))) (fun i hi => ((e8_I10 i (hk_ms rfl hi)).trans ((hk_neq (fun z => by subst z; cases hi)).trans ((hk_neq (fun z => by subst z; cases hi)).trans ((hk_ot rfl).trans ((hk_neq (fun z => by subst z; cases hi)).trans ((e8 i (hk_ms rfl hi)).trans rfl))))))) q_t12 q_f13 q_c14 q_o15 q_l16 (show (I10) 118 20 = _ from ((e8_I10 20 rfl).trans ((hk_neq (by decide)).trans ((hk_neq (by decide)).trans ((hk_ot rfl).trans (hk_same)))))) (by omega) (by omega) (by omega) (by omega) (by omega) (pa_tr ro_I10 A_I10 (Int.le_refl _)) (pl_tr rl_I10 L_I10 (by omega)) (fun i hi => ⟨((e_I10 133 rfl i).trans ((hk_ot rfl).trans ((hk_ot rfl).trans ((hk_neq hi).trans ((hk_ot rfl).trans ((e 133 rfl i).trans rfl)))))), (F_I10 i hi).trans ((hk_ot rfl).trans ((hk_ot rfl).trans ((hk_ot rfl).trans ((hk_ot rfl).trans ((e 134 rfl i).trans rfl)))))⟩) (fun z => ⟨congrArg Int32.toInt (show I10 133 (r.toInt.toNat) = la from ((e_I10 133 rfl (r.toInt.toNat)).trans ((hk_ot rfl).trans ((hk_ot rfl).trans (hk_same))))), congrArg Int32.toInt G_I10, R_I10 z⟩)
        · refine qm_Ru.go 2 (c' := (25, [.ref 118, .int 28], [.int 1], (h.1, qm_up (qm_up I 118 20 v4) 133 (r.toInt.toNat) la, qm_up J 126 (nm.toInt.toNat) v3, h.2.2.2))) rfl ?_
          refine qm_Ru.rt (v := (some (.int 1))) (h' := (h.1, qm_up (qm_up I 118 20 v4) 133 (r.toInt.toNat) la, qm_up J 126 (nm.toInt.toNat) v3, h.2.2.2)) rfl ?_
          refine qm_Ru.go 2 (c' := (9, [.ref 118, .int 28], [.ref 118], (h.1, qm_up (qm_up I 118 20 v4) 133 (r.toInt.toNat) la, qm_up J 126 (nm.toInt.toNat) v3, h.2.2.2))) rfl ?_
          refine hk_inv (o := 118) (r := []) (as := [.ref 118]) rfl rfl (hH.1 118 (17, 105) rfl) rfl rfl rfl rfl ?_
          refine qm_Ru.go 1 (c' := (1, [.ref 118], [.ref 118], (h.1, qm_up (qm_up I 118 20 v4) 133 (r.toInt.toNat) la, qm_up J 126 (nm.toInt.toNat) v3, h.2.2.2))) rfl ?_
          refine hk_geti (v := ta) rfl (hH.1 118 (17, 105) rfl) rfl (show (qm_up (qm_up I 118 20 v4) 133 (r.toInt.toNat) la) 118 11 = _ from ((hk_ot rfl).trans ((hk_neq (by decide)).trans ((e8 11 rfl).trans q_ta)))) ?_
          refine qm_Ru.go 1 (c' := (7, [.ref 118], [.int 400, .int ta], (h.1, qm_up (qm_up I 118 20 v4) 133 (r.toInt.toNat) la, qm_up J 126 (nm.toInt.toNat) v3, h.2.2.2))) rfl ?_
          refine hk_cne (ix := ta.toInt) (iy := 400) rfl rfl rfl (fun z17 => ?_) (fun z17 => ?_)
          · refine qm_Ru.go 2 (c' := (20, [.ref 118], [.ref 118, .ref 118], (h.1, qm_up (qm_up I 118 20 v4) 133 (r.toInt.toNat) la, qm_up J 126 (nm.toInt.toNat) v3, h.2.2.2))) rfl ?_
            refine hk_geti (v := ta) rfl (hH.1 118 (17, 105) rfl) rfl (show (qm_up (qm_up I 118 20 v4) 133 (r.toInt.toNat) la) 118 11 = _ from ((hk_ot rfl).trans ((hk_neq (by decide)).trans ((e8 11 rfl).trans q_ta)))) ?_
            refine qm_Ru.go 2 (c' := (25, [.ref 118], [.int (ta + 1), .ref 118], (h.1, qm_up (qm_up I 118 20 v4) 133 (r.toInt.toNat) la, qm_up J 126 (nm.toInt.toNat) v3, h.2.2.2))) rfl ?_
            obtain ⟨v18, q_v18, e_v18⟩ := hk_add (x := ta) (y := 1) (a := ta.toInt) (b := 1) rfl rfl (by omega) (by omega)
            rw [q_v18]
            refine hk_puti rfl (hH.1 118 (17, 105) rfl) rfl ?_
            refine qm_Ru.go 0 (c' := (28, [.ref 118], [], (h.1, qm_up (qm_up (qm_up I 118 20 v4) 133 (r.toInt.toNat) la) 118 11 v18, qm_up J 126 (nm.toInt.toNat) v3, h.2.2.2))) rfl ?_
            refine qm_Ru.rt (v := none) (h' := (h.1, qm_up (qm_up (qm_up I 118 20 v4) 133 (r.toInt.toNat) la) 118 11 v18, qm_up J 126 (nm.toInt.toNat) v3, h.2.2.2)) rfl ?_
            refine qm_Ru.go 1 (c' := (20, [.ref 118, .int 28], [], (h.1, qm_up (qm_up (qm_up I 118 20 v4) 133 (r.toInt.toNat) la) 118 11 v18, qm_up J 126 (nm.toInt.toNat) v3, h.2.2.2))) rfl ?_
            refine qm_Ru.rt (v := none) (h' := (h.1, qm_up (qm_up (qm_up I 118 20 v4) 133 (r.toInt.toNat) la) 118 11 v18, qm_up J 126 (nm.toInt.toNat) v3, h.2.2.2)) rfl ?_
            refine qm_Ru.go 4 (c' := (113, [.ref 118, .int r, .int na, .int 1, .int 1], [], (h.1, qm_up (qm_up (qm_up I 118 20 v4) 133 (r.toInt.toNat) la) 118 11 v18, qm_up J 126 (nm.toInt.toNat) v3, h.2.2.2))) rfl ?_
            have hBx_I19 : hk_B (qm_up (qm_up (qm_up I 118 20 v4) 133 (r.toInt.toNat) la) 118 11 v18) := (hb_up (o := 118) (k := 11) (x := v18) (hb_up (o := 133) (k := r.toInt.toNat) (x := la) (hb_up (o := 118) (k := 20) (x := v4) hBI ⟨by show (0 : Int) ≤ v4.toInt; omega, by show v4.toInt ≤ (16 : Int); omega⟩) ⟨by show (0 : Int) ≤ la.toInt; omega, by show la.toInt ≤ (300 : Int); omega⟩) ⟨by show (0 : Int) ≤ v18.toInt; omega, by show v18.toInt ≤ (400 : Int); omega⟩)
            refine hl_tr2 (h := (h.1, qm_up (qm_up (qm_up I 118 20 v4) 133 (r.toInt.toNat) la) 118 11 v18, qm_up J 126 (nm.toInt.toNat) v3, h.2.2.2)) hH hBx_I19 (r := r) (bs := bs) (la := la) (t0 := Int32.toInt v18) (c0 := c0) (f0 := Int32.toInt fa) (lf := lf) hr (by omega) hc0 (by omega) (by omega) (by omega) (fun I19 J20 t21 f22 c23 o24 l25 hB_I19 e_I19 e8_I19 q_t21 q_f22 q_c23 q_o24 q_l25 b1_I19 b2_I19 b3_I19 b4_I19 A_I19 L_I19 F_I19 G_I19 R_I19 => ?_) 401 (qm_up (qm_up (qm_up I 118 20 v4) 133 (r.toInt.toNat) la) 118 11 v18) (qm_up J 126 (nm.toInt.toNat) v3) v18 fa ca bs la 1 1 hBx_I19 (fun _ _ _ => rfl) (fun _ _ => rfl) (show (qm_up (qm_up (qm_up I 118 20 v4) 133 (r.toInt.toNat) la) 118 11 v18) 118 11 = _ from (hk_same)) (show (qm_up (qm_up (qm_up I 118 20 v4) 133 (r.toInt.toNat) la) 118 11 v18) 118 13 = _ from ((hk_neq (by decide)).trans ((hk_ot rfl).trans ((hk_neq (by decide)).trans ((e8 13 rfl).trans q_fa))))) (show (qm_up (qm_up (qm_up I 118 20 v4) 133 (r.toInt.toNat) la) 118 11 v18) 118 37 = _ from ((hk_neq (by decide)).trans ((hk_ot rfl).trans ((hk_neq (by decide)).trans ((e8 37 rfl).trans q_ca))))) (show (qm_up (qm_up (qm_up I 118 20 v4) 133 (r.toInt.toNat) la) 118 11 v18) 118 12 = _ from ((hk_neq (by decide)).trans ((hk_ot rfl).trans ((hk_neq (by decide)).trans ((e8 12 rfl).trans q_bs))))) (show (qm_up (qm_up (qm_up I 118 20 v4) 133 (r.toInt.toNat) la) 118 11 v18) 118 30 = _ from ((hk_neq (by decide)).trans ((hk_ot rfl).trans ((hk_neq (by decide)).trans ((e8 30 rfl).trans q_la))))) (by omega) (by omega) (by omega) (by omega) (fun _ _ => ⟨rfl, rfl⟩) pl_refl (fun _ => ru_nil) (by decide) (fun _ => by omega) na
            have e_I19 : ∀ o, [118, 134, 135, 136, 137, 138, 139, 140, 141, 142, 143].contains o = false → ∀ i, I19 o i = (qm_up (qm_up (qm_up I 118 20 v4) 133 (r.toInt.toNat) la) 118 11 v18) o i := e_I19
            have e8_I19 : ∀ i, [11, 12, 13, 14, 30, 37, 41].contains i = false → I19 118 i = (qm_up (qm_up (qm_up I 118 20 v4) 133 (r.toInt.toNat) la) 118 11 v18) 118 i := e8_I19
            have ro_I19 : pa h.2.1 (qm_up (qm_up (qm_up I 118 20 v4) 133 (r.toInt.toNat) la) 118 11 v18) (lf : Int) (c0 + 420) := (fun i _ => ⟨((hk_ot rfl).trans ((hk_ot rfl).trans ((hk_ot rfl).trans ((e 141 rfl i).trans rfl)))), ((hk_ot rfl).trans ((hk_ot rfl).trans ((hk_ot rfl).trans ((e 142 rfl i).trans rfl))))⟩)
            have rl_I19 : pl h.2.1 (qm_up (qm_up (qm_up I 118 20 v4) 133 (r.toInt.toNat) la) 118 11 v18) la.toInt la.toInt := (fun i _ => ⟨((hk_ot rfl).trans ((hk_ot rfl).trans ((hk_ot rfl).trans ((e 138 rfl i).trans rfl)))), ((hk_ot rfl).trans ((hk_ot rfl).trans ((hk_ot rfl).trans ((e 139 rfl i).trans rfl)))), ((hk_ot rfl).trans ((hk_ot rfl).trans ((hk_ot rfl).trans ((e 140 rfl i).trans rfl))))⟩)
            have F_I19 : ∀ i, i ≠ r.toInt.toNat → I19 134 i = (qm_up (qm_up (qm_up I 118 20 v4) 133 (r.toInt.toNat) la) 118 11 v18) 134 i := F_I19
            exact k I19 J20 t21 f22 c23 o24 l25 v4 hB_I19 (fun o ho i => ((e_I19 o (hk_ms rfl ho) i).trans ((hk_mod ho rfl).trans ((hk_mod ho rfl).trans ((hk_mod ho rfl).trans ((e o (hk_ms rfl ho) i).trans rfl)))))) (fun i hi => ((e8_I19 i (hk_ms rfl hi)).trans ((hk_neq (fun z => by subst z; cases hi)).trans ((hk_ot rfl).trans ((hk_neq (fun z => by subst z; cases hi)).trans ((e8 i (hk_ms rfl hi)).trans rfl)))))) q_t21 q_f22 q_c23 q_o24 q_l25 (show (I19) 118 20 = _ from ((e8_I19 20 rfl).trans ((hk_neq (by decide)).trans ((hk_ot rfl).trans (hk_same))))) (by omega) (by omega) (by omega) (by omega) (by omega) (pa_tr ro_I19 A_I19 (Int.le_refl _)) (pl_tr rl_I19 L_I19 (by omega)) (fun i hi => ⟨((e_I19 133 rfl i).trans ((hk_ot rfl).trans ((hk_neq hi).trans ((hk_ot rfl).trans ((e 133 rfl i).trans rfl))))), (F_I19 i hi).trans ((hk_ot rfl).trans ((hk_ot rfl).trans ((hk_ot rfl).trans ((e 134 rfl i).trans rfl))))⟩) (fun z => ⟨congrArg Int32.toInt (show I19 133 (r.toInt.toNat) = la from ((e_I19 133 rfl (r.toInt.toNat)).trans ((hk_ot rfl).trans (hk_same)))), congrArg Int32.toInt G_I19, R_I19 z⟩)
          · refine qm_Ru.go 2 (c' := (12, [.ref 118], [.int 2, .ref 118], (h.1, qm_up (qm_up I 118 20 v4) 133 (r.toInt.toNat) la, qm_up J 126 (nm.toInt.toNat) v3, h.2.2.2))) rfl ?_
            refine hk_inv (o := 118) (r := []) (as := [.ref 118, .int 2]) rfl rfl (hH.1 118 (17, 105) rfl) rfl rfl rfl rfl ?_
            refine qm_Ru.go 1 (c' := (1, [.ref 118, .int 2], [.ref 118], (h.1, qm_up (qm_up I 118 20 v4) 133 (r.toInt.toNat) la, qm_up J 126 (nm.toInt.toNat) v3, h.2.2.2))) rfl ?_
            refine hk_geti (v := fa) rfl (hH.1 118 (17, 105) rfl) rfl (show (qm_up (qm_up I 118 20 v4) 133 (r.toInt.toNat) la) 118 13 = _ from ((hk_ot rfl).trans ((hk_neq (by decide)).trans ((e8 13 rfl).trans q_fa)))) ?_
            refine qm_Ru.go 0 (c' := (4, [.ref 118, .int 2], [.int fa], (h.1, qm_up (qm_up I 118 20 v4) 133 (r.toInt.toNat) la, qm_up J 126 (nm.toInt.toNat) v3, h.2.2.2))) rfl ?_
            refine hk_zle (ix := fa.toInt) rfl rfl (fun z26 => ?_) (fun z26 => by exfalso; omega)
            refine qm_Ru.go 2 (c' := (10, [.ref 118, .int 2], [.int 2, .ref 118], (h.1, qm_up (qm_up I 118 20 v4) 133 (r.toInt.toNat) la, qm_up J 126 (nm.toInt.toNat) v3, h.2.2.2))) rfl ?_
            refine hk_puti rfl (hH.1 118 (17, 105) rfl) rfl ?_
            refine qm_Ru.go 2 (c' := (15, [.ref 118, .int 2], [.ref 118, .ref 118], (h.1, qm_up (qm_up (qm_up I 118 20 v4) 133 (r.toInt.toNat) la) 118 13 2, qm_up J 126 (nm.toInt.toNat) v3, h.2.2.2))) rfl ?_
            refine hk_getr rfl (hH.1 118 (17, 105) rfl) rfl (hH.2 118 6 (some 122) rfl) ?_
            refine qm_Ru.go 1 (c' := (19, [.ref 118, .int 2], [.ref 118, .ref 122, .ref 118], (h.1, qm_up (qm_up (qm_up I 118 20 v4) 133 (r.toInt.toNat) la) 118 13 2, qm_up J 126 (nm.toInt.toNat) v3, h.2.2.2))) rfl ?_
            refine hk_geti (v := ta) rfl (hH.1 118 (17, 105) rfl) rfl (show (qm_up (qm_up (qm_up I 118 20 v4) 133 (r.toInt.toNat) la) 118 13 2) 118 11 = _ from ((hk_neq (by decide)).trans ((hk_ot rfl).trans ((hk_neq (by decide)).trans ((e8 11 rfl).trans q_ta))))) ?_
            refine qm_Ru.go 0 (c' := (22, [.ref 118, .int 2], [.int ta, .ref 122, .ref 118], (h.1, qm_up (qm_up (qm_up I 118 20 v4) 133 (r.toInt.toNat) la) 118 13 2, qm_up J 126 (nm.toInt.toNat) v3, h.2.2.2))) rfl ?_
            obtain ⟨v27, q_v27⟩ : ∃ v, h.2.1 122 (ta.toInt.toNat) = v := ⟨_, rfl⟩
            refine hk_ial (v := v27) rfl (hH.1 122 (0, 403) rfl) (by omega) (by omega) (show (qm_up (qm_up (qm_up I 118 20 v4) 133 (r.toInt.toNat) la) 118 13 2) 122 (ta.toInt.toNat) = _ from ((hk_ot rfl).trans ((hk_ot rfl).trans ((hk_ot rfl).trans ((e 122 rfl (ta.toInt.toNat)).trans q_v27))))) ?_
            refine qm_Ru.go 0 (c' := (23, [.ref 118, .int 2], [.int v27, .ref 118], (h.1, qm_up (qm_up (qm_up I 118 20 v4) 133 (r.toInt.toNat) la) 118 13 2, qm_up J 126 (nm.toInt.toNat) v3, h.2.2.2))) rfl ?_
            refine hk_puti rfl (hH.1 118 (17, 105) rfl) rfl ?_
            refine qm_Ru.go 0 (c' := (26, [.ref 118, .int 2], [], (h.1, qm_up (qm_up (qm_up (qm_up I 118 20 v4) 133 (r.toInt.toNat) la) 118 13 2) 118 14 v27, qm_up J 126 (nm.toInt.toNat) v3, h.2.2.2))) rfl ?_
            refine qm_Ru.rt (v := none) (h' := (h.1, qm_up (qm_up (qm_up (qm_up I 118 20 v4) 133 (r.toInt.toNat) la) 118 13 2) 118 14 v27, qm_up J 126 (nm.toInt.toNat) v3, h.2.2.2)) rfl ?_
            refine qm_Ru.go 1 (c' := (28, [.ref 118], [], (h.1, qm_up (qm_up (qm_up (qm_up I 118 20 v4) 133 (r.toInt.toNat) la) 118 13 2) 118 14 v27, qm_up J 126 (nm.toInt.toNat) v3, h.2.2.2))) rfl ?_
            refine qm_Ru.rt (v := none) (h' := (h.1, qm_up (qm_up (qm_up (qm_up I 118 20 v4) 133 (r.toInt.toNat) la) 118 13 2) 118 14 v27, qm_up J 126 (nm.toInt.toNat) v3, h.2.2.2)) rfl ?_
            refine qm_Ru.go 1 (c' := (20, [.ref 118, .int 28], [], (h.1, qm_up (qm_up (qm_up (qm_up I 118 20 v4) 133 (r.toInt.toNat) la) 118 13 2) 118 14 v27, qm_up J 126 (nm.toInt.toNat) v3, h.2.2.2))) rfl ?_
            refine qm_Ru.rt (v := none) (h' := (h.1, qm_up (qm_up (qm_up (qm_up I 118 20 v4) 133 (r.toInt.toNat) la) 118 13 2) 118 14 v27, qm_up J 126 (nm.toInt.toNat) v3, h.2.2.2)) rfl ?_
            refine qm_Ru.go 4 (c' := (113, [.ref 118, .int r, .int na, .int 1, .int 1], [], (h.1, qm_up (qm_up (qm_up (qm_up I 118 20 v4) 133 (r.toInt.toNat) la) 118 13 2) 118 14 v27, qm_up J 126 (nm.toInt.toNat) v3, h.2.2.2))) rfl ?_
            have hBx_I28 : hk_B (qm_up (qm_up (qm_up (qm_up I 118 20 v4) 133 (r.toInt.toNat) la) 118 13 2) 118 14 v27) := (hb_up (o := 118) (k := 14) (x := v27) (hb_up (o := 118) (k := 13) (x := 2) (hb_up (o := 133) (k := r.toInt.toNat) (x := la) (hb_up (o := 118) (k := 20) (x := v4) hBI ⟨by show (0 : Int) ≤ v4.toInt; omega, by show v4.toInt ≤ (16 : Int); omega⟩) ⟨by show (0 : Int) ≤ la.toInt; omega, by show la.toInt ≤ (300 : Int); omega⟩) (qa_in_full _)) (qa_in_full _))
            refine hl_tr2 (h := (h.1, qm_up (qm_up (qm_up (qm_up I 118 20 v4) 133 (r.toInt.toNat) la) 118 13 2) 118 14 v27, qm_up J 126 (nm.toInt.toNat) v3, h.2.2.2)) hH hBx_I28 (r := r) (bs := bs) (la := la) (t0 := Int32.toInt ta) (c0 := c0) (f0 := Int32.toInt 2) (lf := lf) hr (by omega) hc0 (by omega) (by omega) (by omega) (fun I28 J29 t30 f31 c32 o33 l34 hB_I28 e_I28 e8_I28 q_t30 q_f31 q_c32 q_o33 q_l34 b1_I28 b2_I28 b3_I28 b4_I28 A_I28 L_I28 F_I28 G_I28 R_I28 => ?_) 401 (qm_up (qm_up (qm_up (qm_up I 118 20 v4) 133 (r.toInt.toNat) la) 118 13 2) 118 14 v27) (qm_up J 126 (nm.toInt.toNat) v3) ta 2 ca bs la 1 1 hBx_I28 (fun _ _ _ => rfl) (fun _ _ => rfl) (show (qm_up (qm_up (qm_up (qm_up I 118 20 v4) 133 (r.toInt.toNat) la) 118 13 2) 118 14 v27) 118 11 = _ from ((hk_neq (by decide)).trans ((hk_neq (by decide)).trans ((hk_ot rfl).trans ((hk_neq (by decide)).trans ((e8 11 rfl).trans q_ta)))))) (show (qm_up (qm_up (qm_up (qm_up I 118 20 v4) 133 (r.toInt.toNat) la) 118 13 2) 118 14 v27) 118 13 = _ from ((hk_neq (by decide)).trans (hk_same))) (show (qm_up (qm_up (qm_up (qm_up I 118 20 v4) 133 (r.toInt.toNat) la) 118 13 2) 118 14 v27) 118 37 = _ from ((hk_neq (by decide)).trans ((hk_neq (by decide)).trans ((hk_ot rfl).trans ((hk_neq (by decide)).trans ((e8 37 rfl).trans q_ca)))))) (show (qm_up (qm_up (qm_up (qm_up I 118 20 v4) 133 (r.toInt.toNat) la) 118 13 2) 118 14 v27) 118 12 = _ from ((hk_neq (by decide)).trans ((hk_neq (by decide)).trans ((hk_ot rfl).trans ((hk_neq (by decide)).trans ((e8 12 rfl).trans q_bs)))))) (show (qm_up (qm_up (qm_up (qm_up I 118 20 v4) 133 (r.toInt.toNat) la) 118 13 2) 118 14 v27) 118 30 = _ from ((hk_neq (by decide)).trans ((hk_neq (by decide)).trans ((hk_ot rfl).trans ((hk_neq (by decide)).trans ((e8 30 rfl).trans q_la)))))) (by omega) (by omega) (by omega) (by omega) (fun _ _ => ⟨rfl, rfl⟩) pl_refl (fun _ => ru_nil) (by decide) (fun _ => by omega) na
            have e_I28 : ∀ o, [118, 134, 135, 136, 137, 138, 139, 140, 141, 142, 143].contains o = false → ∀ i, I28 o i = (qm_up (qm_up (qm_up (qm_up I 118 20 v4) 133 (r.toInt.toNat) la) 118 13 2) 118 14 v27) o i := e_I28
            have e8_I28 : ∀ i, [11, 12, 13, 14, 30, 37, 41].contains i = false → I28 118 i = (qm_up (qm_up (qm_up (qm_up I 118 20 v4) 133 (r.toInt.toNat) la) 118 13 2) 118 14 v27) 118 i := e8_I28
            have ro_I28 : pa h.2.1 (qm_up (qm_up (qm_up (qm_up I 118 20 v4) 133 (r.toInt.toNat) la) 118 13 2) 118 14 v27) (lf : Int) (c0 + 420) := (fun i _ => ⟨((hk_ot rfl).trans ((hk_ot rfl).trans ((hk_ot rfl).trans ((hk_ot rfl).trans ((e 141 rfl i).trans rfl))))), ((hk_ot rfl).trans ((hk_ot rfl).trans ((hk_ot rfl).trans ((hk_ot rfl).trans ((e 142 rfl i).trans rfl)))))⟩)
            have rl_I28 : pl h.2.1 (qm_up (qm_up (qm_up (qm_up I 118 20 v4) 133 (r.toInt.toNat) la) 118 13 2) 118 14 v27) la.toInt la.toInt := (fun i _ => ⟨((hk_ot rfl).trans ((hk_ot rfl).trans ((hk_ot rfl).trans ((hk_ot rfl).trans ((e 138 rfl i).trans rfl))))), ((hk_ot rfl).trans ((hk_ot rfl).trans ((hk_ot rfl).trans ((hk_ot rfl).trans ((e 139 rfl i).trans rfl))))), ((hk_ot rfl).trans ((hk_ot rfl).trans ((hk_ot rfl).trans ((hk_ot rfl).trans ((e 140 rfl i).trans rfl)))))⟩)
            have F_I28 : ∀ i, i ≠ r.toInt.toNat → I28 134 i = (qm_up (qm_up (qm_up (qm_up I 118 20 v4) 133 (r.toInt.toNat) la) 118 13 2) 118 14 v27) 134 i := F_I28
            exact k I28 J29 t30 f31 c32 o33 l34 v4 hB_I28 (fun o ho i => ((e_I28 o (hk_ms rfl ho) i).trans ((hk_mod ho rfl).trans ((hk_mod ho rfl).trans ((hk_mod ho rfl).trans ((hk_mod ho rfl).trans ((e o (hk_ms rfl ho) i).trans rfl))))))) (fun i hi => ((e8_I28 i (hk_ms rfl hi)).trans ((hk_neq (fun z => by subst z; cases hi)).trans ((hk_neq (fun z => by subst z; cases hi)).trans ((hk_ot rfl).trans ((hk_neq (fun z => by subst z; cases hi)).trans ((e8 i (hk_ms rfl hi)).trans rfl))))))) q_t30 q_f31 q_c32 q_o33 q_l34 (show (I28) 118 20 = _ from ((e8_I28 20 rfl).trans ((hk_neq (by decide)).trans ((hk_neq (by decide)).trans ((hk_ot rfl).trans (hk_same)))))) (by omega) (by omega) (by omega) (by omega) (by omega) (pa_tr ro_I28 A_I28 (Int.le_refl _)) (pl_tr rl_I28 L_I28 (by omega)) (fun i hi => ⟨((e_I28 133 rfl i).trans ((hk_ot rfl).trans ((hk_ot rfl).trans ((hk_neq hi).trans ((hk_ot rfl).trans ((e 133 rfl i).trans rfl)))))), (F_I28 i hi).trans ((hk_ot rfl).trans ((hk_ot rfl).trans ((hk_ot rfl).trans ((hk_ot rfl).trans ((e 134 rfl i).trans rfl)))))⟩) (fun z => ⟨congrArg Int32.toInt (show I28 133 (r.toInt.toNat) = la from ((e_I28 133 rfl (r.toInt.toNat)).trans ((hk_ot rfl).trans ((hk_ot rfl).trans (hk_same))))), congrArg Int32.toInt G_I28, R_I28 z⟩)
      · refine qm_Ru.go 0 (c' := (66, [.ref 118, .int r, .int na, .int i, l4], [], (h.1, I, J, h.2.2.2))) rfl ?_
        refine qm_Ru.rt (v := none) (h' := (h.1, I, J, h.2.2.2)) rfl ?_
        exact k (I) (J) ta fa ca bs la nm hBI (fun o ho i => ((e o (hk_ms rfl ho) i).trans rfl)) (fun i hi => ((e8 i (hk_ms rfl hi)).trans rfl)) (show (I) 118 11 = _ from ((e8 11 rfl).trans q_ta)) (show (I) 118 13 = _ from ((e8 13 rfl).trans q_fa)) (show (I) 118 37 = _ from ((e8 37 rfl).trans q_ca)) (show (I) 118 12 = _ from ((e8 12 rfl).trans q_bs)) (show (I) 118 30 = _ from ((e8 30 rfl).trans q_la)) (show (I) 118 20 = _ from ((e8 20 rfl).trans q_nm)) (by omega) (by omega) (by omega) (by omega) (by omega) (fun i _ => ⟨((e 141 rfl i).trans rfl), ((e 142 rfl i).trans rfl)⟩) (fun i _ => ⟨((e 138 rfl i).trans rfl), ((e 139 rfl i).trans rfl), ((e 140 rfl i).trans rfl)⟩) (fun i _ => ⟨((e 133 rfl i).trans rfl), ((e 134 rfl i).trans rfl)⟩) (fun z => by exfalso; omega)
    · refine qm_Ru.go 1 (c' := (25, [.ref 118, .int r, .int na, .int i, l4], [.ref 118], (h.1, I, J, h.2.2.2))) rfl ?_
      refine hk_geti (v := fa) rfl (hH.1 118 (17, 105) rfl) rfl (show (I) 118 13 = _ from ((e8 13 rfl).trans q_fa)) ?_
      refine qm_Ru.go 0 (c' := (28, [.ref 118, .int r, .int na, .int i, l4], [.int fa], (h.1, I, J, h.2.2.2))) rfl ?_
      refine hk_zne (ix := fa.toInt) rfl rfl (fun z35 => ?_) (fun z35 => ?_)
      · refine qm_Ru.go 1 (c' := (60, [.ref 118, .int r, .int na, .int i, l4], [.ref 118], (h.1, I, J, h.2.2.2))) rfl ?_
        refine hk_geti (v := fa) rfl (hH.1 118 (17, 105) rfl) rfl (show (I) 118 13 = _ from ((e8 13 rfl).trans q_fa)) ?_
        refine qm_Ru.go 0 (c' := (63, [.ref 118, .int r, .int na, .int i, l4], [.int fa], (h.1, I, J, h.2.2.2))) rfl ?_
        refine hk_zle (ix := fa.toInt) rfl rfl (fun z36 => by exfalso; omega) (fun z36 => ?_)
        refine qm_Ru.go 0 (c' := (66, [.ref 118, .int r, .int na, .int i, l4], [], (h.1, I, J, h.2.2.2))) rfl ?_
        refine qm_Ru.rt (v := none) (h' := (h.1, I, J, h.2.2.2)) rfl ?_
        exact k (I) (J) ta fa ca bs la nm hBI (fun o ho i => ((e o (hk_ms rfl ho) i).trans rfl)) (fun i hi => ((e8 i (hk_ms rfl hi)).trans rfl)) (show (I) 118 11 = _ from ((e8 11 rfl).trans q_ta)) (show (I) 118 13 = _ from ((e8 13 rfl).trans q_fa)) (show (I) 118 37 = _ from ((e8 37 rfl).trans q_ca)) (show (I) 118 12 = _ from ((e8 12 rfl).trans q_bs)) (show (I) 118 30 = _ from ((e8 30 rfl).trans q_la)) (show (I) 118 20 = _ from ((e8 20 rfl).trans q_nm)) (by omega) (by omega) (by omega) (by omega) (by omega) (fun i _ => ⟨((e 141 rfl i).trans rfl), ((e 142 rfl i).trans rfl)⟩) (fun i _ => ⟨((e 138 rfl i).trans rfl), ((e 139 rfl i).trans rfl), ((e 140 rfl i).trans rfl)⟩) (fun i _ => ⟨((e 133 rfl i).trans rfl), ((e 134 rfl i).trans rfl)⟩) (fun z => by exfalso; omega)
      · refine qm_Ru.go 1 (c' := (32, [.ref 118, .int r, .int na, .int i, l4], [.ref 118], (h.1, I, J, h.2.2.2))) rfl ?_
        refine hk_getr rfl (hH.1 118 (17, 105) rfl) rfl (hH.2 118 21 (some 126) rfl) ?_
        refine qm_Ru.go 1 (c' := (36, [.ref 118, .int r, .int na, .int i, l4], [.int i, .ref 126], (h.1, I, J, h.2.2.2))) rfl ?_
        obtain ⟨v37, q_v37⟩ : ∃ v, (h.1, I, J, h.2.2.2).2.2.1 126 (i.toInt.toNat) = v := ⟨_, rfl⟩
        refine hk_lal rfl (hH.1 126 (3, 16) rfl) (by omega) (by omega) q_v37 ?_
        refine qm_Ru.go 1 (c' := (38, [.ref 118, .int r, .int na, .int i, l4], [.ref 118, .long v37], (h.1, I, J, h.2.2.2))) rfl ?_
        refine hk_getr rfl (hH.1 118 (17, 105) rfl) rfl (hH.2 118 8 (some 124) rfl) ?_
        refine qm_Ru.go 1 (c' := (42, [.ref 118, .int r, .int na, .int i, l4], [.int na, .ref 124, .long v37], (h.1, I, J, h.2.2.2))) rfl ?_
        obtain ⟨v38, q_v38⟩ : ∃ v, (h.1, I, J, h.2.2.2).2.2.1 124 (na.toInt.toNat) = v := ⟨_, rfl⟩
        refine hk_lal rfl (hH.1 124 (3, 403) rfl) (by omega) (by omega) q_v38 ?_
        refine qm_Ru.go 1 (c' := (44, [.ref 118, .int r, .int na, .int i, l4], [.int (lg_cmp v37 v38)], (h.1, I, J, h.2.2.2))) rfl ?_
        obtain ⟨v39, q_v39⟩ : ∃ v, (lg_cmp v37 v38) = v := ⟨_, rfl⟩
        rw [q_v39]
        refine hk_zne (ix := v39.toInt) rfl rfl (fun z40 => ?_) (fun z40 => ?_)
        · refine qm_Ru.go 1 (c' := (56, [.ref 118, .int r, .int na, .int (i + 1), l4], [], (h.1, I, J, h.2.2.2))) rfl ?_
          obtain ⟨v41, q_v41, e_v41⟩ := hk_add (x := i) (y := 1) (a := i.toInt) (b := 1) rfl rfl (by omega) (by omega)
          rw [q_v41]
          refine qm_Ru.go 1 (c' := (16, [.ref 118, .int r, .int na, .int v41, l4], [], (h.1, I, J, h.2.2.2))) rfl ?_
          exact ih (m - 1) (by omega) (I) (J) v41 hBI (fun o ho i => ((e o (hk_ms rfl ho) i).trans rfl)) (fun i hi => ((e8 i (hk_ms rfl hi)).trans rfl)) (by omega) (by omega) l4
        · refine qm_Ru.go 3 (c' := (50, [.ref 118, .int r, .int na, .int i, l4], [.int na, .int 3, .ref 118], (h.1, I, J, h.2.2.2))) rfl ?_
          refine hk_inv (o := 118) (r := []) (as := [.ref 118, .int 3, .int na]) rfl rfl (hH.1 118 (17, 105) rfl) rfl rfl rfl rfl ?_
          refine qm_Ru.go 1 (c' := (1, [.ref 118, .int 3, .int na, .float 0], [.ref 118], (h.1, I, J, h.2.2.2))) rfl ?_
          refine hk_getr rfl (hH.1 118 (17, 105) rfl) rfl (hH.2 118 6 (some 122) rfl) ?_
          refine qm_Ru.go 1 (c' := (5, [.ref 118, .int 3, .int na, .float 0], [.int na, .ref 122], (h.1, I, J, h.2.2.2))) rfl ?_
          obtain ⟨v42, q_v42⟩ : ∃ v, h.2.1 122 (na.toInt.toNat) = v := ⟨_, rfl⟩
          refine hk_ial (v := v42) rfl (hH.1 122 (0, 403) rfl) (by omega) (by omega) (show (I) 122 (na.toInt.toNat) = _ from ((e 122 rfl (na.toInt.toNat)).trans q_v42)) ?_
          refine qm_Ru.go 2 (c' := (8, [.ref 118, .int 3, .int na, .int v42], [.ref 118], (h.1, I, J, h.2.2.2))) rfl ?_
          refine hk_geti (v := fa) rfl (hH.1 118 (17, 105) rfl) rfl (show (I) 118 13 = _ from ((e8 13 rfl).trans q_fa)) ?_
          refine qm_Ru.go 0 (c' := (11, [.ref 118, .int 3, .int na, .int v42], [.int fa], (h.1, I, J, h.2.2.2))) rfl ?_
          refine hk_zgt (ix := fa.toInt) rfl rfl (fun z43 => by exfalso; omega) (fun z43 => ?_)
          refine qm_Ru.go 1 (c' := (15, [.ref 118, .int 3, .int na, .int v42], [.ref 118], (h.1, I, J, h.2.2.2))) rfl ?_
          obtain ⟨v44, q_v44⟩ : ∃ v, I 118 15 = v := ⟨_, rfl⟩
          refine hk_geti (v := v44) rfl (hH.1 118 (17, 105) rfl) rfl q_v44 ?_
          refine qm_Ru.go 0 (c' := (18, [.ref 118, .int 3, .int na, .int v42], [.int v44], (h.1, I, J, h.2.2.2))) rfl ?_
          refine hk_zeq (ix := v44.toInt) rfl rfl (fun z45 => ?_) (fun z45 => ?_)
          · refine qm_Ru.go 2 (c' := (48, [.ref 118, .int 3, .int na, .int v42], [.int 3, .ref 118], (h.1, I, J, h.2.2.2))) rfl ?_
            refine hk_puti rfl (hH.1 118 (17, 105) rfl) rfl ?_
            refine qm_Ru.go 2 (c' := (53, [.ref 118, .int 3, .int na, .int v42], [.int v42, .ref 118], (h.1, qm_up I 118 15 3, J, h.2.2.2))) rfl ?_
            refine hk_puti rfl (hH.1 118 (17, 105) rfl) rfl ?_
            refine qm_Ru.go 0 (c' := (56, [.ref 118, .int 3, .int na, .int v42], [], (h.1, qm_up (qm_up I 118 15 3) 118 16 v42, J, h.2.2.2))) rfl ?_
            refine qm_Ru.rt (v := none) (h' := (h.1, qm_up (qm_up I 118 15 3) 118 16 v42, J, h.2.2.2)) rfl ?_
            refine qm_Ru.go 1 (c' := (56, [.ref 118, .int r, .int na, .int (i + 1), l4], [], (h.1, qm_up (qm_up I 118 15 3) 118 16 v42, J, h.2.2.2))) rfl ?_
            obtain ⟨v46, q_v46, e_v46⟩ := hk_add (x := i) (y := 1) (a := i.toInt) (b := 1) rfl rfl (by omega) (by omega)
            rw [q_v46]
            refine qm_Ru.go 1 (c' := (16, [.ref 118, .int r, .int na, .int v46, l4], [], (h.1, qm_up (qm_up I 118 15 3) 118 16 v42, J, h.2.2.2))) rfl ?_
            exact ih (m - 1) (by omega) (qm_up (qm_up I 118 15 3) 118 16 v42) (J) v46 (hb_up (o := 118) (k := 16) (x := v42) (hb_up (o := 118) (k := 15) (x := 3) hBI (qa_in_full _)) (qa_in_full _)) (fun o ho i => ((hk_mod ho rfl).trans ((hk_mod ho rfl).trans ((e o (hk_ms rfl ho) i).trans rfl)))) (fun i hi => ((hk_neq (fun z => by subst z; cases hi)).trans ((hk_neq (fun z => by subst z; cases hi)).trans ((e8 i (hk_ms rfl hi)).trans rfl)))) (by omega) (by omega) l4
          · refine qm_Ru.go 2 (c' := (23, [.ref 118, .int 3, .int na, .int v42], [.ref 118, .int v42], (h.1, I, J, h.2.2.2))) rfl ?_
            obtain ⟨v47, q_v47⟩ : ∃ v, I 118 16 = v := ⟨_, rfl⟩
            refine hk_geti (v := v47) rfl (hH.1 118 (17, 105) rfl) rfl q_v47 ?_
            refine qm_Ru.go 0 (c' := (26, [.ref 118, .int 3, .int na, .int v42], [.int v47, .int v42], (h.1, I, J, h.2.2.2))) rfl ?_
            refine hk_cgt (ix := v42.toInt) (iy := v47.toInt) rfl rfl rfl (fun z48 => ?_) (fun z48 => ?_)
            · refine qm_Ru.go 0 (c' := (45, [.ref 118, .int 3, .int na, .int v42], [], (h.1, I, J, h.2.2.2))) rfl ?_
              refine qm_Ru.rt (v := none) (h' := (h.1, I, J, h.2.2.2)) rfl ?_
              refine qm_Ru.go 1 (c' := (56, [.ref 118, .int r, .int na, .int (i + 1), l4], [], (h.1, I, J, h.2.2.2))) rfl ?_
              obtain ⟨v49, q_v49, e_v49⟩ := hk_add (x := i) (y := 1) (a := i.toInt) (b := 1) rfl rfl (by omega) (by omega)
              rw [q_v49]
              refine qm_Ru.go 1 (c' := (16, [.ref 118, .int r, .int na, .int v49, l4], [], (h.1, I, J, h.2.2.2))) rfl ?_
              exact ih (m - 1) (by omega) (I) (J) v49 hBI (fun o ho i => ((e o (hk_ms rfl ho) i).trans rfl)) (fun i hi => ((e8 i (hk_ms rfl hi)).trans rfl)) (by omega) (by omega) l4
            · refine qm_Ru.go 2 (c' := (31, [.ref 118, .int 3, .int na, .int v42], [.ref 118, .int v42], (h.1, I, J, h.2.2.2))) rfl ?_
              refine hk_geti (v := v47) rfl (hH.1 118 (17, 105) rfl) rfl q_v47 ?_
              refine qm_Ru.go 0 (c' := (34, [.ref 118, .int 3, .int na, .int v42], [.int v47, .int v42], (h.1, I, J, h.2.2.2))) rfl ?_
              refine hk_cne (ix := v42.toInt) (iy := v47.toInt) rfl rfl rfl (fun z50 => ?_) (fun z50 => ?_)
              · refine qm_Ru.go 2 (c' := (48, [.ref 118, .int 3, .int na, .int v42], [.int 3, .ref 118], (h.1, I, J, h.2.2.2))) rfl ?_
                refine hk_puti rfl (hH.1 118 (17, 105) rfl) rfl ?_
                refine qm_Ru.go 2 (c' := (53, [.ref 118, .int 3, .int na, .int v42], [.int v42, .ref 118], (h.1, qm_up I 118 15 3, J, h.2.2.2))) rfl ?_
                refine hk_puti rfl (hH.1 118 (17, 105) rfl) rfl ?_
                refine qm_Ru.go 0 (c' := (56, [.ref 118, .int 3, .int na, .int v42], [], (h.1, qm_up (qm_up I 118 15 3) 118 16 v42, J, h.2.2.2))) rfl ?_
                refine qm_Ru.rt (v := none) (h' := (h.1, qm_up (qm_up I 118 15 3) 118 16 v42, J, h.2.2.2)) rfl ?_
                refine qm_Ru.go 1 (c' := (56, [.ref 118, .int r, .int na, .int (i + 1), l4], [], (h.1, qm_up (qm_up I 118 15 3) 118 16 v42, J, h.2.2.2))) rfl ?_
                obtain ⟨v51, q_v51, e_v51⟩ := hk_add (x := i) (y := 1) (a := i.toInt) (b := 1) rfl rfl (by omega) (by omega)
                rw [q_v51]
                refine qm_Ru.go 1 (c' := (16, [.ref 118, .int r, .int na, .int v51, l4], [], (h.1, qm_up (qm_up I 118 15 3) 118 16 v42, J, h.2.2.2))) rfl ?_
                exact ih (m - 1) (by omega) (qm_up (qm_up I 118 15 3) 118 16 v42) (J) v51 (hb_up (o := 118) (k := 16) (x := v42) (hb_up (o := 118) (k := 15) (x := 3) hBI (qa_in_full _)) (qa_in_full _)) (fun o ho i => ((hk_mod ho rfl).trans ((hk_mod ho rfl).trans ((e o (hk_ms rfl ho) i).trans rfl)))) (fun i hi => ((hk_neq (fun z => by subst z; cases hi)).trans ((hk_neq (fun z => by subst z; cases hi)).trans ((e8 i (hk_ms rfl hi)).trans rfl)))) (by omega) (by omega) l4
              · refine qm_Ru.go 2 (c' := (39, [.ref 118, .int 3, .int na, .int v42], [.ref 118, .int 3], (h.1, I, J, h.2.2.2))) rfl ?_
                refine hk_geti (v := v44) rfl (hH.1 118 (17, 105) rfl) rfl q_v44 ?_
                refine qm_Ru.go 0 (c' := (42, [.ref 118, .int 3, .int na, .int v42], [.int v44, .int 3], (h.1, I, J, h.2.2.2))) rfl ?_
                refine hk_clt (ix := 3) (iy := v44.toInt) rfl rfl rfl (fun z52 => ?_) (fun z52 => ?_)
                · refine qm_Ru.go 2 (c' := (48, [.ref 118, .int 3, .int na, .int v42], [.int 3, .ref 118], (h.1, I, J, h.2.2.2))) rfl ?_
                  refine hk_puti rfl (hH.1 118 (17, 105) rfl) rfl ?_
                  refine qm_Ru.go 2 (c' := (53, [.ref 118, .int 3, .int na, .int v42], [.int v42, .ref 118], (h.1, qm_up I 118 15 3, J, h.2.2.2))) rfl ?_
                  refine hk_puti rfl (hH.1 118 (17, 105) rfl) rfl ?_
                  refine qm_Ru.go 0 (c' := (56, [.ref 118, .int 3, .int na, .int v42], [], (h.1, qm_up (qm_up I 118 15 3) 118 16 v42, J, h.2.2.2))) rfl ?_
                  refine qm_Ru.rt (v := none) (h' := (h.1, qm_up (qm_up I 118 15 3) 118 16 v42, J, h.2.2.2)) rfl ?_
                  refine qm_Ru.go 1 (c' := (56, [.ref 118, .int r, .int na, .int (i + 1), l4], [], (h.1, qm_up (qm_up I 118 15 3) 118 16 v42, J, h.2.2.2))) rfl ?_
                  obtain ⟨v53, q_v53, e_v53⟩ := hk_add (x := i) (y := 1) (a := i.toInt) (b := 1) rfl rfl (by omega) (by omega)
                  rw [q_v53]
                  refine qm_Ru.go 1 (c' := (16, [.ref 118, .int r, .int na, .int v53, l4], [], (h.1, qm_up (qm_up I 118 15 3) 118 16 v42, J, h.2.2.2))) rfl ?_
                  exact ih (m - 1) (by omega) (qm_up (qm_up I 118 15 3) 118 16 v42) (J) v53 (hb_up (o := 118) (k := 16) (x := v42) (hb_up (o := 118) (k := 15) (x := 3) hBI (qa_in_full _)) (qa_in_full _)) (fun o ho i => ((hk_mod ho rfl).trans ((hk_mod ho rfl).trans ((e o (hk_ms rfl ho) i).trans rfl)))) (fun i hi => ((hk_neq (fun z => by subst z; cases hi)).trans ((hk_neq (fun z => by subst z; cases hi)).trans ((e8 i (hk_ms rfl hi)).trans rfl)))) (by omega) (by omega) l4
                · refine qm_Ru.go 0 (c' := (45, [.ref 118, .int 3, .int na, .int v42], [], (h.1, I, J, h.2.2.2))) rfl ?_
                  refine qm_Ru.rt (v := none) (h' := (h.1, I, J, h.2.2.2)) rfl ?_
                  refine qm_Ru.go 1 (c' := (56, [.ref 118, .int r, .int na, .int (i + 1), l4], [], (h.1, I, J, h.2.2.2))) rfl ?_
                  obtain ⟨v54, q_v54, e_v54⟩ := hk_add (x := i) (y := 1) (a := i.toInt) (b := 1) rfl rfl (by omega) (by omega)
                  rw [q_v54]
                  refine qm_Ru.go 1 (c' := (16, [.ref 118, .int r, .int na, .int v54, l4], [], (h.1, I, J, h.2.2.2))) rfl ?_
                  exact ih (m - 1) (by omega) (I) (J) v54 hBI (fun o ho i => ((e o (hk_ms rfl ho) i).trans rfl)) (fun i hi => ((e8 i (hk_ms rfl hi)).trans rfl)) (by omega) (by omega) l4
theorem hs_tr {L : Nat} {xs : Nat → Int32} {d : Nat} {Z : Option Value → qm_H → Prop} {h : qm_H} (hH : hk_H h) (hB : hk_B h.2.1) {r ta fa ca bs la nm : Int32} {t0 c0 f0 : Int} {lf : Nat} (hr : 0 ≤ r.toInt ∧ r.toInt ≤ 31) (q_ta : h.2.1 118 11 = ta) (q_fa : h.2.1 118 13 = fa) (q_ca : h.2.1 118 37 = ca) (q_bs : h.2.1 118 12 = bs) (q_la : h.2.1 118 30 = la) (q_nm : h.2.1 118 20 = nm) (hta : 0 ≤ t0 ∧ t0 ≤ ta.toInt ∧ ta.toInt ≤ 400 ∧ 0 ≤ fa.toInt ∧ (fa.toInt = 0 → f0 = 0)) (hc0 : 0 ≤ c0 ∧ c0 ≤ 420) (hca : c0 ≤ ca.toInt ∧ ca.toInt = (lf : Int) ∧ ca.toInt ≤ c0 + ta.toInt + 1 ∧ (fa.toInt = 0 → ca.toInt ≤ c0 + ta.toInt)) (hbs : 0 ≤ bs.toInt ∧ bs.toInt ≤ 7 ∧ (fa.toInt = 0 → bs.toInt ≤ 6)) (hla : 0 ≤ la.toInt ∧ 3 * la.toInt ≤ 450 + t0) (hnm : 0 ≤ nm.toInt ∧ nm.toInt ≤ 16 ∧ (fa.toInt = 0 → nm.toInt ≤ 15)) (k : ∀ (I : Nat → Nat → Int32) (J : Nat → Nat → Int64) (t f cd op li nn : Int32), hk_B I → (∀ o, [118, 133, 134, 135, 136, 137, 138, 139, 140, 141, 142, 143].contains o = false → ∀ i, I o i = h.2.1 o i) → (∀ i, [11, 12, 13, 14, 15, 16, 20, 30, 37, 41].contains i = false → I 118 i = h.2.1 118 i) → I 118 11 = t → I 118 13 = f → I 118 37 = cd → I 118 12 = op → I 118 30 = li → I 118 20 = nn → (t0 ≤ t.toInt ∧ t.toInt ≤ 400 ∧ 0 ≤ f.toInt ∧ (f.toInt = 0 → f0 = 0) ∧ (f.toInt = 0 → t0 + 1 ≤ t.toInt)) → ((lf : Int) ≤ cd.toInt ∧ cd.toInt ≤ c0 + t.toInt + 1 ∧ (f.toInt = 0 → cd.toInt ≤ c0 + t.toInt)) → (0 ≤ op.toInt ∧ op.toInt ≤ 7 ∧ (f.toInt = 0 → op.toInt = bs.toInt)) → (la.toInt ≤ li.toInt ∧ 3 * (li.toInt - la.toInt) ≤ t.toInt - t0) → (0 ≤ nn.toInt ∧ nn.toInt ≤ 16 ∧ (f.toInt = 0 → nn.toInt = nm.toInt + 1)) → pa h.2.1 I (lf : Int) (c0 + 420) → pl h.2.1 I la.toInt li.toInt → (∀ i, i ≠ r.toInt.toNat → I 133 i = h.2.1 133 i ∧ I 134 i = h.2.1 134 i) → (f.toInt = 0 → pI I 133 (r.toInt.toNat) = la.toInt ∧ pI I 134 (r.toInt.toNat) = li.toInt ∧ ru I la.toInt li.toInt (lf : Int) cd.toInt) → Z none (h.1, I, J, h.2.2.2)) : qm_Ru (some (L, xs)) (d + 8) cd_262 (qm_ent 5 [.ref 118, .int r] h) Z := by
  have k0 : (0 : Int32).toInt = 0 := rfl
  have k1 : (1 : Int32).toInt = 1 := rfl
  have k2 : (2 : Int32).toInt = 2 := rfl
  have k3 : (3 : Int32).toInt = 3 := rfl
  have k6 : (6 : Int32).toInt = 6 := rfl
  refine qm_Ru.go 1 (c' := (1, [.ref 118, .int r, .float 0, .float 0, .float 0], [.ref 118], h)) rfl ?_
  refine hk_inv (o := 118) (r := []) (as := [.ref 118]) rfl rfl (hH.1 118 (17, 105) rfl) rfl rfl rfl rfl ?_
  refine qm_Ru.go 1 (c' := (1, [.ref 118], [.ref 118], h)) rfl ?_
  refine hk_geti (v := ta) rfl (hH.1 118 (17, 105) rfl) rfl q_ta ?_
  refine qm_Ru.go 1 (c' := (7, [.ref 118], [.int 400, .int ta], h)) rfl ?_
  refine hk_cne (ix := ta.toInt) (iy := 400) rfl rfl rfl (fun z1 => ?_) (fun z1 => ?_)
  · refine qm_Ru.go 2 (c' := (20, [.ref 118], [.ref 118, .ref 118], h)) rfl ?_
    refine hk_geti (v := ta) rfl (hH.1 118 (17, 105) rfl) rfl q_ta ?_
    refine qm_Ru.go 2 (c' := (25, [.ref 118], [.int (ta + 1), .ref 118], h)) rfl ?_
    obtain ⟨v2, q_v2, e_v2⟩ := hk_add (x := ta) (y := 1) (a := ta.toInt) (b := 1) rfl rfl (by omega) (by omega)
    rw [q_v2]
    refine hk_puti rfl (hH.1 118 (17, 105) rfl) rfl ?_
    refine qm_Ru.go 0 (c' := (28, [.ref 118], [], (h.1, qm_up h.2.1 118 11 v2, h.2.2.1, h.2.2.2))) rfl ?_
    refine qm_Ru.rt (v := none) (h' := (h.1, qm_up h.2.1 118 11 v2, h.2.2.1, h.2.2.2)) rfl ?_
    refine qm_Ru.go 1 (c' := (5, [.ref 118, .int r, .float 0, .float 0, .float 0], [.ref 118], (h.1, qm_up h.2.1 118 11 v2, h.2.2.1, h.2.2.2))) rfl ?_
    refine hk_geti (v := v2) rfl (hH.1 118 (17, 105) rfl) rfl (show (qm_up h.2.1 118 11 v2) 118 11 = _ from (hk_same)) ?_
    refine qm_Ru.go 3 (c' := (11, [.ref 118, .int r, .int v2, .float 0, .float 0], [.int 1, .ref 118], (h.1, qm_up h.2.1 118 11 v2, h.2.2.1, h.2.2.2))) rfl ?_
    refine hk_inv (o := 118) (r := []) (as := [.ref 118, .int 1]) rfl rfl (hH.1 118 (17, 105) rfl) rfl rfl rfl rfl ?_
    refine qm_Ru.go 2 (c' := (2, [.ref 118, .int 1], [.int 1, .ref 118], (h.1, qm_up h.2.1 118 11 v2, h.2.2.1, h.2.2.2))) rfl ?_
    refine hk_inv (o := 118) (r := []) (as := [.ref 118, .int 1]) rfl rfl (hH.1 118 (17, 105) rfl) rfl rfl rfl rfl ?_
    refine qm_Ru.go 1 (c' := (1, [.ref 118, .int 1], [.ref 118], (h.1, qm_up h.2.1 118 11 v2, h.2.2.1, h.2.2.2))) rfl ?_
    refine hk_geti (v := fa) rfl (hH.1 118 (17, 105) rfl) rfl (show (qm_up h.2.1 118 11 v2) 118 13 = _ from ((hk_neq (by decide)).trans q_fa)) ?_
    refine qm_Ru.go 0 (c' := (4, [.ref 118, .int 1], [.int fa], (h.1, qm_up h.2.1 118 11 v2, h.2.2.1, h.2.2.2))) rfl ?_
    refine hk_zne (ix := fa.toInt) rfl rfl (fun z3 => ?_) (fun z3 => ?_)
    · refine qm_Ru.go 1 (c' := (25, [.ref 118, .int 1], [.int 0], (h.1, qm_up h.2.1 118 11 v2, h.2.2.1, h.2.2.2))) rfl ?_
      refine qm_Ru.rt (v := (some (.int 0))) (h' := (h.1, qm_up h.2.1 118 11 v2, h.2.2.1, h.2.2.2)) rfl ?_
      refine qm_Ru.go 3 (c' := (17, [.ref 118, .int 1], [.int 1, .ref 118], (h.1, qm_up h.2.1 118 11 v2, h.2.2.1, h.2.2.2))) rfl ?_
      refine hk_inv (o := 118) (r := []) (as := [.ref 118, .int 1]) rfl rfl (hH.1 118 (17, 105) rfl) rfl rfl rfl rfl ?_
      refine qm_Ru.go 1 (c' := (1, [.ref 118, .int 1], [.ref 118], (h.1, qm_up h.2.1 118 11 v2, h.2.2.1, h.2.2.2))) rfl ?_
      refine hk_geti (v := fa) rfl (hH.1 118 (17, 105) rfl) rfl (show (qm_up h.2.1 118 11 v2) 118 13 = _ from ((hk_neq (by decide)).trans q_fa)) ?_
      refine qm_Ru.go 0 (c' := (4, [.ref 118, .int 1], [.int fa], (h.1, qm_up h.2.1 118 11 v2, h.2.2.1, h.2.2.2))) rfl ?_
      refine hk_zle (ix := fa.toInt) rfl rfl (fun z4 => by exfalso; omega) (fun z4 => ?_)
      refine qm_Ru.go 0 (c' := (7, [.ref 118, .int 1], [], (h.1, qm_up h.2.1 118 11 v2, h.2.2.1, h.2.2.2))) rfl ?_
      refine qm_Ru.rt (v := none) (h' := (h.1, qm_up h.2.1 118 11 v2, h.2.2.1, h.2.2.2)) rfl ?_
      refine qm_Ru.go 0 (c' := (20, [.ref 118, .int 1], [], (h.1, qm_up h.2.1 118 11 v2, h.2.2.1, h.2.2.2))) rfl ?_
      refine qm_Ru.rt (v := none) (h' := (h.1, qm_up h.2.1 118 11 v2, h.2.2.1, h.2.2.2)) rfl ?_
      refine qm_Ru.go 2 (c' := (16, [.ref 118, .int r, .int v2, .int 0, .float 0], [], (h.1, qm_up h.2.1 118 11 v2, h.2.2.1, h.2.2.2))) rfl ?_
      have hBx_I5 : hk_B (qm_up h.2.1 118 11 v2) := (hb_up (o := 118) (k := 11) (x := v2) hB ⟨by show (0 : Int) ≤ v2.toInt; omega, by show v2.toInt ≤ (400 : Int); omega⟩)
      refine hl_tr1 (h := (h.1, qm_up h.2.1 118 11 v2, h.2.2.1, h.2.2.2)) hH hBx_I5 (r := r) (ta := v2) (fa := fa) (ca := ca) (bs := bs) (la := la) (nm := nm) (t0 := Int32.toInt v2) (c0 := c0) (f0 := Int32.toInt fa) (lf := lf) hr (show (qm_up h.2.1 118 11 v2) 118 11 = _ from (hk_same)) (show (qm_up h.2.1 118 11 v2) 118 13 = _ from ((hk_neq (by decide)).trans q_fa)) (show (qm_up h.2.1 118 11 v2) 118 37 = _ from ((hk_neq (by decide)).trans q_ca)) (show (qm_up h.2.1 118 11 v2) 118 12 = _ from ((hk_neq (by decide)).trans q_bs)) (show (qm_up h.2.1 118 11 v2) 118 30 = _ from ((hk_neq (by decide)).trans q_la)) (show (qm_up h.2.1 118 11 v2) 118 20 = _ from ((hk_neq (by decide)).trans q_nm)) (by omega) hc0 (by omega) (by omega) (by omega) (by omega) (na := v2) (by omega) (fun I5 J6 t7 f8 c9 o10 l11 n12 hB_I5 e_I5 e8_I5 q_t7 q_f8 q_c9 q_o10 q_l11 q_n12 b1_I5 b2_I5 b3_I5 b4_I5 b5_I5 A_I5 L_I5 F_I5 R_I5 => ?_) 16 (qm_up h.2.1 118 11 v2) (h.2.2.1) 0 hBx_I5 (fun _ _ _ => rfl) (fun _ _ => rfl) (by omega) (by omega) _
      have e_I5 : ∀ o, [118, 133, 134, 135, 136, 137, 138, 139, 140, 141, 142, 143].contains o = false → ∀ i, I5 o i = (qm_up h.2.1 118 11 v2) o i := e_I5
      have e8_I5 : ∀ i, [11, 12, 13, 14, 15, 16, 20, 30, 37, 41].contains i = false → I5 118 i = (qm_up h.2.1 118 11 v2) 118 i := e8_I5
      have ro_I5 : pa h.2.1 (qm_up h.2.1 118 11 v2) (lf : Int) (c0 + 420) := (fun i _ => ⟨((hk_ot rfl).trans rfl), ((hk_ot rfl).trans rfl)⟩)
      have rl_I5 : pl h.2.1 (qm_up h.2.1 118 11 v2) la.toInt la.toInt := (fun i _ => ⟨((hk_ot rfl).trans rfl), ((hk_ot rfl).trans rfl), ((hk_ot rfl).trans rfl)⟩)
      have F_I5 : ∀ i, i ≠ r.toInt.toNat → I5 133 i = (qm_up h.2.1 118 11 v2) 133 i ∧ I5 134 i = (qm_up h.2.1 118 11 v2) 134 i := F_I5
      exact k I5 J6 t7 f8 c9 o10 l11 n12 hB_I5 (fun o ho i => ((e_I5 o (hk_ms rfl ho) i).trans ((hk_mod ho rfl).trans rfl))) (fun i hi => ((e8_I5 i (hk_ms rfl hi)).trans ((hk_neq (fun z => by subst z; cases hi)).trans rfl))) q_t7 q_f8 q_c9 q_o10 q_l11 q_n12 (by omega) (by omega) (by omega) (by omega) (by omega) (pa_tr ro_I5 A_I5 (Int.le_refl _)) (pl_tr rl_I5 L_I5 (by omega)) (fun i hi => ⟨(F_I5 i hi).1.trans ((hk_ot rfl).trans rfl), (F_I5 i hi).2.trans ((hk_ot rfl).trans rfl)⟩) R_I5
    · refine qm_Ru.go 1 (c' := (8, [.ref 118, .int 1], [.ref 118], (h.1, qm_up h.2.1 118 11 v2, h.2.2.1, h.2.2.2))) rfl ?_
      refine hk_getr rfl (hH.1 118 (17, 105) rfl) rfl (hH.2 118 5 (some 121) rfl) ?_
      refine qm_Ru.go 1 (c' := (12, [.ref 118, .int 1], [.ref 118, .ref 121], (h.1, qm_up h.2.1 118 11 v2, h.2.2.1, h.2.2.2))) rfl ?_
      refine hk_geti (v := v2) rfl (hH.1 118 (17, 105) rfl) rfl (show (qm_up h.2.1 118 11 v2) 118 11 = _ from (hk_same)) ?_
      refine qm_Ru.go 0 (c' := (15, [.ref 118, .int 1], [.int v2, .ref 121], (h.1, qm_up h.2.1 118 11 v2, h.2.2.1, h.2.2.2))) rfl ?_
      obtain ⟨v13, q_v13⟩ : ∃ v, h.2.1 121 (v2.toInt.toNat) = v := ⟨_, rfl⟩
      have b_v13 : (0 : Int) ≤ v13.toInt ∧ v13.toInt ≤ 44 := by rw [← q_v13]; exact hB 121 (v2.toInt.toNat)
      refine hk_ial (v := v13) rfl (hH.1 121 (0, 403) rfl) (by omega) (by omega) (show (qm_up h.2.1 118 11 v2) 121 (v2.toInt.toNat) = _ from ((hk_ot rfl).trans q_v13)) ?_
      refine qm_Ru.go 1 (c' := (17, [.ref 118, .int 1], [.int 1, .int v13], (h.1, qm_up h.2.1 118 11 v2, h.2.2.1, h.2.2.2))) rfl ?_
      refine hk_cne (ix := v13.toInt) (iy := 1) rfl rfl rfl (fun z14 => ?_) (fun z14 => ?_)
      · refine qm_Ru.go 1 (c' := (25, [.ref 118, .int 1], [.int 0], (h.1, qm_up h.2.1 118 11 v2, h.2.2.1, h.2.2.2))) rfl ?_
        refine qm_Ru.rt (v := (some (.int 0))) (h' := (h.1, qm_up h.2.1 118 11 v2, h.2.2.1, h.2.2.2)) rfl ?_
        refine qm_Ru.go 3 (c' := (17, [.ref 118, .int 1], [.int 1, .ref 118], (h.1, qm_up h.2.1 118 11 v2, h.2.2.1, h.2.2.2))) rfl ?_
        refine hk_inv (o := 118) (r := []) (as := [.ref 118, .int 1]) rfl rfl (hH.1 118 (17, 105) rfl) rfl rfl rfl rfl ?_
        refine qm_Ru.go 1 (c' := (1, [.ref 118, .int 1], [.ref 118], (h.1, qm_up h.2.1 118 11 v2, h.2.2.1, h.2.2.2))) rfl ?_
        refine hk_geti (v := fa) rfl (hH.1 118 (17, 105) rfl) rfl (show (qm_up h.2.1 118 11 v2) 118 13 = _ from ((hk_neq (by decide)).trans q_fa)) ?_
        refine qm_Ru.go 0 (c' := (4, [.ref 118, .int 1], [.int fa], (h.1, qm_up h.2.1 118 11 v2, h.2.2.1, h.2.2.2))) rfl ?_
        refine hk_zle (ix := fa.toInt) rfl rfl (fun z15 => ?_) (fun z15 => by exfalso; omega)
        refine qm_Ru.go 2 (c' := (10, [.ref 118, .int 1], [.int 1, .ref 118], (h.1, qm_up h.2.1 118 11 v2, h.2.2.1, h.2.2.2))) rfl ?_
        refine hk_puti rfl (hH.1 118 (17, 105) rfl) rfl ?_
        refine qm_Ru.go 2 (c' := (15, [.ref 118, .int 1], [.ref 118, .ref 118], (h.1, qm_up (qm_up h.2.1 118 11 v2) 118 13 1, h.2.2.1, h.2.2.2))) rfl ?_
        refine hk_getr rfl (hH.1 118 (17, 105) rfl) rfl (hH.2 118 6 (some 122) rfl) ?_
        refine qm_Ru.go 1 (c' := (19, [.ref 118, .int 1], [.ref 118, .ref 122, .ref 118], (h.1, qm_up (qm_up h.2.1 118 11 v2) 118 13 1, h.2.2.1, h.2.2.2))) rfl ?_
        refine hk_geti (v := v2) rfl (hH.1 118 (17, 105) rfl) rfl (show (qm_up (qm_up h.2.1 118 11 v2) 118 13 1) 118 11 = _ from ((hk_neq (by decide)).trans (hk_same))) ?_
        refine qm_Ru.go 0 (c' := (22, [.ref 118, .int 1], [.int v2, .ref 122, .ref 118], (h.1, qm_up (qm_up h.2.1 118 11 v2) 118 13 1, h.2.2.1, h.2.2.2))) rfl ?_
        obtain ⟨v16, q_v16⟩ : ∃ v, h.2.1 122 (v2.toInt.toNat) = v := ⟨_, rfl⟩
        refine hk_ial (v := v16) rfl (hH.1 122 (0, 403) rfl) (by omega) (by omega) (show (qm_up (qm_up h.2.1 118 11 v2) 118 13 1) 122 (v2.toInt.toNat) = _ from ((hk_ot rfl).trans ((hk_ot rfl).trans q_v16))) ?_
        refine qm_Ru.go 0 (c' := (23, [.ref 118, .int 1], [.int v16, .ref 118], (h.1, qm_up (qm_up h.2.1 118 11 v2) 118 13 1, h.2.2.1, h.2.2.2))) rfl ?_
        refine hk_puti rfl (hH.1 118 (17, 105) rfl) rfl ?_
        refine qm_Ru.go 0 (c' := (26, [.ref 118, .int 1], [], (h.1, qm_up (qm_up (qm_up h.2.1 118 11 v2) 118 13 1) 118 14 v16, h.2.2.1, h.2.2.2))) rfl ?_
        refine qm_Ru.rt (v := none) (h' := (h.1, qm_up (qm_up (qm_up h.2.1 118 11 v2) 118 13 1) 118 14 v16, h.2.2.1, h.2.2.2)) rfl ?_
        refine qm_Ru.go 0 (c' := (20, [.ref 118, .int 1], [], (h.1, qm_up (qm_up (qm_up h.2.1 118 11 v2) 118 13 1) 118 14 v16, h.2.2.1, h.2.2.2))) rfl ?_
        refine qm_Ru.rt (v := none) (h' := (h.1, qm_up (qm_up (qm_up h.2.1 118 11 v2) 118 13 1) 118 14 v16, h.2.2.1, h.2.2.2)) rfl ?_
        refine qm_Ru.go 2 (c' := (16, [.ref 118, .int r, .int v2, .int 0, .float 0], [], (h.1, qm_up (qm_up (qm_up h.2.1 118 11 v2) 118 13 1) 118 14 v16, h.2.2.1, h.2.2.2))) rfl ?_
        have hBx_I17 : hk_B (qm_up (qm_up (qm_up h.2.1 118 11 v2) 118 13 1) 118 14 v16) := (hb_up (o := 118) (k := 14) (x := v16) (hb_up (o := 118) (k := 13) (x := 1) (hb_up (o := 118) (k := 11) (x := v2) hB ⟨by show (0 : Int) ≤ v2.toInt; omega, by show v2.toInt ≤ (400 : Int); omega⟩) (qa_in_full _)) (qa_in_full _))
        refine hl_tr1 (h := (h.1, qm_up (qm_up (qm_up h.2.1 118 11 v2) 118 13 1) 118 14 v16, h.2.2.1, h.2.2.2)) hH hBx_I17 (r := r) (ta := v2) (fa := 1) (ca := ca) (bs := bs) (la := la) (nm := nm) (t0 := Int32.toInt v2) (c0 := c0) (f0 := Int32.toInt 1) (lf := lf) hr (show (qm_up (qm_up (qm_up h.2.1 118 11 v2) 118 13 1) 118 14 v16) 118 11 = _ from ((hk_neq (by decide)).trans ((hk_neq (by decide)).trans (hk_same)))) (show (qm_up (qm_up (qm_up h.2.1 118 11 v2) 118 13 1) 118 14 v16) 118 13 = _ from ((hk_neq (by decide)).trans (hk_same))) (show (qm_up (qm_up (qm_up h.2.1 118 11 v2) 118 13 1) 118 14 v16) 118 37 = _ from ((hk_neq (by decide)).trans ((hk_neq (by decide)).trans ((hk_neq (by decide)).trans q_ca)))) (show (qm_up (qm_up (qm_up h.2.1 118 11 v2) 118 13 1) 118 14 v16) 118 12 = _ from ((hk_neq (by decide)).trans ((hk_neq (by decide)).trans ((hk_neq (by decide)).trans q_bs)))) (show (qm_up (qm_up (qm_up h.2.1 118 11 v2) 118 13 1) 118 14 v16) 118 30 = _ from ((hk_neq (by decide)).trans ((hk_neq (by decide)).trans ((hk_neq (by decide)).trans q_la)))) (show (qm_up (qm_up (qm_up h.2.1 118 11 v2) 118 13 1) 118 14 v16) 118 20 = _ from ((hk_neq (by decide)).trans ((hk_neq (by decide)).trans ((hk_neq (by decide)).trans q_nm)))) (by omega) hc0 (by omega) (by omega) (by omega) (by omega) (na := v2) (by omega) (fun I17 J18 t19 f20 c21 o22 l23 n24 hB_I17 e_I17 e8_I17 q_t19 q_f20 q_c21 q_o22 q_l23 q_n24 b1_I17 b2_I17 b3_I17 b4_I17 b5_I17 A_I17 L_I17 F_I17 R_I17 => ?_) 16 (qm_up (qm_up (qm_up h.2.1 118 11 v2) 118 13 1) 118 14 v16) (h.2.2.1) 0 hBx_I17 (fun _ _ _ => rfl) (fun _ _ => rfl) (by omega) (by omega) _
        have e_I17 : ∀ o, [118, 133, 134, 135, 136, 137, 138, 139, 140, 141, 142, 143].contains o = false → ∀ i, I17 o i = (qm_up (qm_up (qm_up h.2.1 118 11 v2) 118 13 1) 118 14 v16) o i := e_I17
        have e8_I17 : ∀ i, [11, 12, 13, 14, 15, 16, 20, 30, 37, 41].contains i = false → I17 118 i = (qm_up (qm_up (qm_up h.2.1 118 11 v2) 118 13 1) 118 14 v16) 118 i := e8_I17
        have ro_I17 : pa h.2.1 (qm_up (qm_up (qm_up h.2.1 118 11 v2) 118 13 1) 118 14 v16) (lf : Int) (c0 + 420) := (fun i _ => ⟨((hk_ot rfl).trans ((hk_ot rfl).trans ((hk_ot rfl).trans rfl))), ((hk_ot rfl).trans ((hk_ot rfl).trans ((hk_ot rfl).trans rfl)))⟩)
        have rl_I17 : pl h.2.1 (qm_up (qm_up (qm_up h.2.1 118 11 v2) 118 13 1) 118 14 v16) la.toInt la.toInt := (fun i _ => ⟨((hk_ot rfl).trans ((hk_ot rfl).trans ((hk_ot rfl).trans rfl))), ((hk_ot rfl).trans ((hk_ot rfl).trans ((hk_ot rfl).trans rfl))), ((hk_ot rfl).trans ((hk_ot rfl).trans ((hk_ot rfl).trans rfl)))⟩)
        have F_I17 : ∀ i, i ≠ r.toInt.toNat → I17 133 i = (qm_up (qm_up (qm_up h.2.1 118 11 v2) 118 13 1) 118 14 v16) 133 i ∧ I17 134 i = (qm_up (qm_up (qm_up h.2.1 118 11 v2) 118 13 1) 118 14 v16) 134 i := F_I17
        exact k I17 J18 t19 f20 c21 o22 l23 n24 hB_I17 (fun o ho i => ((e_I17 o (hk_ms rfl ho) i).trans ((hk_mod ho rfl).trans ((hk_mod ho rfl).trans ((hk_mod ho rfl).trans rfl))))) (fun i hi => ((e8_I17 i (hk_ms rfl hi)).trans ((hk_neq (fun z => by subst z; cases hi)).trans ((hk_neq (fun z => by subst z; cases hi)).trans ((hk_neq (fun z => by subst z; cases hi)).trans rfl))))) q_t19 q_f20 q_c21 q_o22 q_l23 q_n24 (by omega) (by omega) (by omega) (by omega) (by omega) (pa_tr ro_I17 A_I17 (Int.le_refl _)) (pl_tr rl_I17 L_I17 (by omega)) (fun i hi => ⟨(F_I17 i hi).1.trans ((hk_ot rfl).trans ((hk_ot rfl).trans ((hk_ot rfl).trans rfl))), (F_I17 i hi).2.trans ((hk_ot rfl).trans ((hk_ot rfl).trans ((hk_ot rfl).trans rfl)))⟩) R_I17
      · refine qm_Ru.go 2 (c' := (25, [.ref 118, .int 1], [.int 1], (h.1, qm_up h.2.1 118 11 v2, h.2.2.1, h.2.2.2))) rfl ?_
        refine qm_Ru.rt (v := (some (.int 1))) (h' := (h.1, qm_up h.2.1 118 11 v2, h.2.2.1, h.2.2.2)) rfl ?_
        refine qm_Ru.go 2 (c' := (9, [.ref 118, .int 1], [.ref 118], (h.1, qm_up h.2.1 118 11 v2, h.2.2.1, h.2.2.2))) rfl ?_
        refine hk_inv (o := 118) (r := []) (as := [.ref 118]) rfl rfl (hH.1 118 (17, 105) rfl) rfl rfl rfl rfl ?_
        refine qm_Ru.go 1 (c' := (1, [.ref 118], [.ref 118], (h.1, qm_up h.2.1 118 11 v2, h.2.2.1, h.2.2.2))) rfl ?_
        refine hk_geti (v := v2) rfl (hH.1 118 (17, 105) rfl) rfl (show (qm_up h.2.1 118 11 v2) 118 11 = _ from (hk_same)) ?_
        refine qm_Ru.go 1 (c' := (7, [.ref 118], [.int 400, .int v2], (h.1, qm_up h.2.1 118 11 v2, h.2.2.1, h.2.2.2))) rfl ?_
        refine hk_cne (ix := v2.toInt) (iy := 400) rfl rfl rfl (fun z25 => ?_) (fun z25 => ?_)
        · refine qm_Ru.go 2 (c' := (20, [.ref 118], [.ref 118, .ref 118], (h.1, qm_up h.2.1 118 11 v2, h.2.2.1, h.2.2.2))) rfl ?_
          refine hk_geti (v := v2) rfl (hH.1 118 (17, 105) rfl) rfl (show (qm_up h.2.1 118 11 v2) 118 11 = _ from (hk_same)) ?_
          refine qm_Ru.go 2 (c' := (25, [.ref 118], [.int (v2 + 1), .ref 118], (h.1, qm_up h.2.1 118 11 v2, h.2.2.1, h.2.2.2))) rfl ?_
          obtain ⟨v26, q_v26, e_v26⟩ := hk_add (x := v2) (y := 1) (a := v2.toInt) (b := 1) rfl rfl (by omega) (by omega)
          rw [q_v26]
          refine hk_puti rfl (hH.1 118 (17, 105) rfl) rfl ?_
          refine qm_Ru.go 0 (c' := (28, [.ref 118], [], (h.1, qm_up (qm_up h.2.1 118 11 v2) 118 11 v26, h.2.2.1, h.2.2.2))) rfl ?_
          refine qm_Ru.rt (v := none) (h' := (h.1, qm_up (qm_up h.2.1 118 11 v2) 118 11 v26, h.2.2.1, h.2.2.2)) rfl ?_
          refine qm_Ru.go 1 (c' := (20, [.ref 118, .int 1], [], (h.1, qm_up (qm_up h.2.1 118 11 v2) 118 11 v26, h.2.2.1, h.2.2.2))) rfl ?_
          refine qm_Ru.rt (v := none) (h' := (h.1, qm_up (qm_up h.2.1 118 11 v2) 118 11 v26, h.2.2.1, h.2.2.2)) rfl ?_
          refine qm_Ru.go 2 (c' := (16, [.ref 118, .int r, .int v2, .int 0, .float 0], [], (h.1, qm_up (qm_up h.2.1 118 11 v2) 118 11 v26, h.2.2.1, h.2.2.2))) rfl ?_
          have hBx_I27 : hk_B (qm_up (qm_up h.2.1 118 11 v2) 118 11 v26) := (hb_up (o := 118) (k := 11) (x := v26) (hb_up (o := 118) (k := 11) (x := v2) hB ⟨by show (0 : Int) ≤ v2.toInt; omega, by show v2.toInt ≤ (400 : Int); omega⟩) ⟨by show (0 : Int) ≤ v26.toInt; omega, by show v26.toInt ≤ (400 : Int); omega⟩)
          refine hl_tr1 (h := (h.1, qm_up (qm_up h.2.1 118 11 v2) 118 11 v26, h.2.2.1, h.2.2.2)) hH hBx_I27 (r := r) (ta := v26) (fa := fa) (ca := ca) (bs := bs) (la := la) (nm := nm) (t0 := Int32.toInt v26) (c0 := c0) (f0 := Int32.toInt fa) (lf := lf) hr (show (qm_up (qm_up h.2.1 118 11 v2) 118 11 v26) 118 11 = _ from (hk_same)) (show (qm_up (qm_up h.2.1 118 11 v2) 118 11 v26) 118 13 = _ from ((hk_neq (by decide)).trans ((hk_neq (by decide)).trans q_fa))) (show (qm_up (qm_up h.2.1 118 11 v2) 118 11 v26) 118 37 = _ from ((hk_neq (by decide)).trans ((hk_neq (by decide)).trans q_ca))) (show (qm_up (qm_up h.2.1 118 11 v2) 118 11 v26) 118 12 = _ from ((hk_neq (by decide)).trans ((hk_neq (by decide)).trans q_bs))) (show (qm_up (qm_up h.2.1 118 11 v2) 118 11 v26) 118 30 = _ from ((hk_neq (by decide)).trans ((hk_neq (by decide)).trans q_la))) (show (qm_up (qm_up h.2.1 118 11 v2) 118 11 v26) 118 20 = _ from ((hk_neq (by decide)).trans ((hk_neq (by decide)).trans q_nm))) (by omega) hc0 (by omega) (by omega) (by omega) (by omega) (na := v2) (by omega) (fun I27 J28 t29 f30 c31 o32 l33 n34 hB_I27 e_I27 e8_I27 q_t29 q_f30 q_c31 q_o32 q_l33 q_n34 b1_I27 b2_I27 b3_I27 b4_I27 b5_I27 A_I27 L_I27 F_I27 R_I27 => ?_) 16 (qm_up (qm_up h.2.1 118 11 v2) 118 11 v26) (h.2.2.1) 0 hBx_I27 (fun _ _ _ => rfl) (fun _ _ => rfl) (by omega) (by omega) _
          have e_I27 : ∀ o, [118, 133, 134, 135, 136, 137, 138, 139, 140, 141, 142, 143].contains o = false → ∀ i, I27 o i = (qm_up (qm_up h.2.1 118 11 v2) 118 11 v26) o i := e_I27
          have e8_I27 : ∀ i, [11, 12, 13, 14, 15, 16, 20, 30, 37, 41].contains i = false → I27 118 i = (qm_up (qm_up h.2.1 118 11 v2) 118 11 v26) 118 i := e8_I27
          have ro_I27 : pa h.2.1 (qm_up (qm_up h.2.1 118 11 v2) 118 11 v26) (lf : Int) (c0 + 420) := (fun i _ => ⟨((hk_ot rfl).trans ((hk_ot rfl).trans rfl)), ((hk_ot rfl).trans ((hk_ot rfl).trans rfl))⟩)
          have rl_I27 : pl h.2.1 (qm_up (qm_up h.2.1 118 11 v2) 118 11 v26) la.toInt la.toInt := (fun i _ => ⟨((hk_ot rfl).trans ((hk_ot rfl).trans rfl)), ((hk_ot rfl).trans ((hk_ot rfl).trans rfl)), ((hk_ot rfl).trans ((hk_ot rfl).trans rfl))⟩)
          have F_I27 : ∀ i, i ≠ r.toInt.toNat → I27 133 i = (qm_up (qm_up h.2.1 118 11 v2) 118 11 v26) 133 i ∧ I27 134 i = (qm_up (qm_up h.2.1 118 11 v2) 118 11 v26) 134 i := F_I27
          exact k I27 J28 t29 f30 c31 o32 l33 n34 hB_I27 (fun o ho i => ((e_I27 o (hk_ms rfl ho) i).trans ((hk_mod ho rfl).trans ((hk_mod ho rfl).trans rfl)))) (fun i hi => ((e8_I27 i (hk_ms rfl hi)).trans ((hk_neq (fun z => by subst z; cases hi)).trans ((hk_neq (fun z => by subst z; cases hi)).trans rfl)))) q_t29 q_f30 q_c31 q_o32 q_l33 q_n34 (by omega) (by omega) (by omega) (by omega) (by omega) (pa_tr ro_I27 A_I27 (Int.le_refl _)) (pl_tr rl_I27 L_I27 (by omega)) (fun i hi => ⟨(F_I27 i hi).1.trans ((hk_ot rfl).trans ((hk_ot rfl).trans rfl)), (F_I27 i hi).2.trans ((hk_ot rfl).trans ((hk_ot rfl).trans rfl))⟩) R_I27
        · refine qm_Ru.go 2 (c' := (12, [.ref 118], [.int 2, .ref 118], (h.1, qm_up h.2.1 118 11 v2, h.2.2.1, h.2.2.2))) rfl ?_
          refine hk_inv (o := 118) (r := []) (as := [.ref 118, .int 2]) rfl rfl (hH.1 118 (17, 105) rfl) rfl rfl rfl rfl ?_
          refine qm_Ru.go 1 (c' := (1, [.ref 118, .int 2], [.ref 118], (h.1, qm_up h.2.1 118 11 v2, h.2.2.1, h.2.2.2))) rfl ?_
          refine hk_geti (v := fa) rfl (hH.1 118 (17, 105) rfl) rfl (show (qm_up h.2.1 118 11 v2) 118 13 = _ from ((hk_neq (by decide)).trans q_fa)) ?_
          refine qm_Ru.go 0 (c' := (4, [.ref 118, .int 2], [.int fa], (h.1, qm_up h.2.1 118 11 v2, h.2.2.1, h.2.2.2))) rfl ?_
          refine hk_zle (ix := fa.toInt) rfl rfl (fun z35 => ?_) (fun z35 => by exfalso; omega)
          refine qm_Ru.go 2 (c' := (10, [.ref 118, .int 2], [.int 2, .ref 118], (h.1, qm_up h.2.1 118 11 v2, h.2.2.1, h.2.2.2))) rfl ?_
          refine hk_puti rfl (hH.1 118 (17, 105) rfl) rfl ?_
          refine qm_Ru.go 2 (c' := (15, [.ref 118, .int 2], [.ref 118, .ref 118], (h.1, qm_up (qm_up h.2.1 118 11 v2) 118 13 2, h.2.2.1, h.2.2.2))) rfl ?_
          refine hk_getr rfl (hH.1 118 (17, 105) rfl) rfl (hH.2 118 6 (some 122) rfl) ?_
          refine qm_Ru.go 1 (c' := (19, [.ref 118, .int 2], [.ref 118, .ref 122, .ref 118], (h.1, qm_up (qm_up h.2.1 118 11 v2) 118 13 2, h.2.2.1, h.2.2.2))) rfl ?_
          refine hk_geti (v := v2) rfl (hH.1 118 (17, 105) rfl) rfl (show (qm_up (qm_up h.2.1 118 11 v2) 118 13 2) 118 11 = _ from ((hk_neq (by decide)).trans (hk_same))) ?_
          refine qm_Ru.go 0 (c' := (22, [.ref 118, .int 2], [.int v2, .ref 122, .ref 118], (h.1, qm_up (qm_up h.2.1 118 11 v2) 118 13 2, h.2.2.1, h.2.2.2))) rfl ?_
          obtain ⟨v36, q_v36⟩ : ∃ v, h.2.1 122 (v2.toInt.toNat) = v := ⟨_, rfl⟩
          refine hk_ial (v := v36) rfl (hH.1 122 (0, 403) rfl) (by omega) (by omega) (show (qm_up (qm_up h.2.1 118 11 v2) 118 13 2) 122 (v2.toInt.toNat) = _ from ((hk_ot rfl).trans ((hk_ot rfl).trans q_v36))) ?_
          refine qm_Ru.go 0 (c' := (23, [.ref 118, .int 2], [.int v36, .ref 118], (h.1, qm_up (qm_up h.2.1 118 11 v2) 118 13 2, h.2.2.1, h.2.2.2))) rfl ?_
          refine hk_puti rfl (hH.1 118 (17, 105) rfl) rfl ?_
          refine qm_Ru.go 0 (c' := (26, [.ref 118, .int 2], [], (h.1, qm_up (qm_up (qm_up h.2.1 118 11 v2) 118 13 2) 118 14 v36, h.2.2.1, h.2.2.2))) rfl ?_
          refine qm_Ru.rt (v := none) (h' := (h.1, qm_up (qm_up (qm_up h.2.1 118 11 v2) 118 13 2) 118 14 v36, h.2.2.1, h.2.2.2)) rfl ?_
          refine qm_Ru.go 1 (c' := (28, [.ref 118], [], (h.1, qm_up (qm_up (qm_up h.2.1 118 11 v2) 118 13 2) 118 14 v36, h.2.2.1, h.2.2.2))) rfl ?_
          refine qm_Ru.rt (v := none) (h' := (h.1, qm_up (qm_up (qm_up h.2.1 118 11 v2) 118 13 2) 118 14 v36, h.2.2.1, h.2.2.2)) rfl ?_
          refine qm_Ru.go 1 (c' := (20, [.ref 118, .int 1], [], (h.1, qm_up (qm_up (qm_up h.2.1 118 11 v2) 118 13 2) 118 14 v36, h.2.2.1, h.2.2.2))) rfl ?_
          refine qm_Ru.rt (v := none) (h' := (h.1, qm_up (qm_up (qm_up h.2.1 118 11 v2) 118 13 2) 118 14 v36, h.2.2.1, h.2.2.2)) rfl ?_
          refine qm_Ru.go 2 (c' := (16, [.ref 118, .int r, .int v2, .int 0, .float 0], [], (h.1, qm_up (qm_up (qm_up h.2.1 118 11 v2) 118 13 2) 118 14 v36, h.2.2.1, h.2.2.2))) rfl ?_
          have hBx_I37 : hk_B (qm_up (qm_up (qm_up h.2.1 118 11 v2) 118 13 2) 118 14 v36) := (hb_up (o := 118) (k := 14) (x := v36) (hb_up (o := 118) (k := 13) (x := 2) (hb_up (o := 118) (k := 11) (x := v2) hB ⟨by show (0 : Int) ≤ v2.toInt; omega, by show v2.toInt ≤ (400 : Int); omega⟩) (qa_in_full _)) (qa_in_full _))
          refine hl_tr1 (h := (h.1, qm_up (qm_up (qm_up h.2.1 118 11 v2) 118 13 2) 118 14 v36, h.2.2.1, h.2.2.2)) hH hBx_I37 (r := r) (ta := v2) (fa := 2) (ca := ca) (bs := bs) (la := la) (nm := nm) (t0 := Int32.toInt v2) (c0 := c0) (f0 := Int32.toInt 2) (lf := lf) hr (show (qm_up (qm_up (qm_up h.2.1 118 11 v2) 118 13 2) 118 14 v36) 118 11 = _ from ((hk_neq (by decide)).trans ((hk_neq (by decide)).trans (hk_same)))) (show (qm_up (qm_up (qm_up h.2.1 118 11 v2) 118 13 2) 118 14 v36) 118 13 = _ from ((hk_neq (by decide)).trans (hk_same))) (show (qm_up (qm_up (qm_up h.2.1 118 11 v2) 118 13 2) 118 14 v36) 118 37 = _ from ((hk_neq (by decide)).trans ((hk_neq (by decide)).trans ((hk_neq (by decide)).trans q_ca)))) (show (qm_up (qm_up (qm_up h.2.1 118 11 v2) 118 13 2) 118 14 v36) 118 12 = _ from ((hk_neq (by decide)).trans ((hk_neq (by decide)).trans ((hk_neq (by decide)).trans q_bs)))) (show (qm_up (qm_up (qm_up h.2.1 118 11 v2) 118 13 2) 118 14 v36) 118 30 = _ from ((hk_neq (by decide)).trans ((hk_neq (by decide)).trans ((hk_neq (by decide)).trans q_la)))) (show (qm_up (qm_up (qm_up h.2.1 118 11 v2) 118 13 2) 118 14 v36) 118 20 = _ from ((hk_neq (by decide)).trans ((hk_neq (by decide)).trans ((hk_neq (by decide)).trans q_nm)))) (by omega) hc0 (by omega) (by omega) (by omega) (by omega) (na := v2) (by omega) (fun I37 J38 t39 f40 c41 o42 l43 n44 hB_I37 e_I37 e8_I37 q_t39 q_f40 q_c41 q_o42 q_l43 q_n44 b1_I37 b2_I37 b3_I37 b4_I37 b5_I37 A_I37 L_I37 F_I37 R_I37 => ?_) 16 (qm_up (qm_up (qm_up h.2.1 118 11 v2) 118 13 2) 118 14 v36) (h.2.2.1) 0 hBx_I37 (fun _ _ _ => rfl) (fun _ _ => rfl) (by omega) (by omega) _
          have e_I37 : ∀ o, [118, 133, 134, 135, 136, 137, 138, 139, 140, 141, 142, 143].contains o = false → ∀ i, I37 o i = (qm_up (qm_up (qm_up h.2.1 118 11 v2) 118 13 2) 118 14 v36) o i := e_I37
          have e8_I37 : ∀ i, [11, 12, 13, 14, 15, 16, 20, 30, 37, 41].contains i = false → I37 118 i = (qm_up (qm_up (qm_up h.2.1 118 11 v2) 118 13 2) 118 14 v36) 118 i := e8_I37
          have ro_I37 : pa h.2.1 (qm_up (qm_up (qm_up h.2.1 118 11 v2) 118 13 2) 118 14 v36) (lf : Int) (c0 + 420) := (fun i _ => ⟨((hk_ot rfl).trans ((hk_ot rfl).trans ((hk_ot rfl).trans rfl))), ((hk_ot rfl).trans ((hk_ot rfl).trans ((hk_ot rfl).trans rfl)))⟩)
          have rl_I37 : pl h.2.1 (qm_up (qm_up (qm_up h.2.1 118 11 v2) 118 13 2) 118 14 v36) la.toInt la.toInt := (fun i _ => ⟨((hk_ot rfl).trans ((hk_ot rfl).trans ((hk_ot rfl).trans rfl))), ((hk_ot rfl).trans ((hk_ot rfl).trans ((hk_ot rfl).trans rfl))), ((hk_ot rfl).trans ((hk_ot rfl).trans ((hk_ot rfl).trans rfl)))⟩)
          have F_I37 : ∀ i, i ≠ r.toInt.toNat → I37 133 i = (qm_up (qm_up (qm_up h.2.1 118 11 v2) 118 13 2) 118 14 v36) 133 i ∧ I37 134 i = (qm_up (qm_up (qm_up h.2.1 118 11 v2) 118 13 2) 118 14 v36) 134 i := F_I37
          exact k I37 J38 t39 f40 c41 o42 l43 n44 hB_I37 (fun o ho i => ((e_I37 o (hk_ms rfl ho) i).trans ((hk_mod ho rfl).trans ((hk_mod ho rfl).trans ((hk_mod ho rfl).trans rfl))))) (fun i hi => ((e8_I37 i (hk_ms rfl hi)).trans ((hk_neq (fun z => by subst z; cases hi)).trans ((hk_neq (fun z => by subst z; cases hi)).trans ((hk_neq (fun z => by subst z; cases hi)).trans rfl))))) q_t39 q_f40 q_c41 q_o42 q_l43 q_n44 (by omega) (by omega) (by omega) (by omega) (by omega) (pa_tr ro_I37 A_I37 (Int.le_refl _)) (pl_tr rl_I37 L_I37 (by omega)) (fun i hi => ⟨(F_I37 i hi).1.trans ((hk_ot rfl).trans ((hk_ot rfl).trans ((hk_ot rfl).trans rfl))), (F_I37 i hi).2.trans ((hk_ot rfl).trans ((hk_ot rfl).trans ((hk_ot rfl).trans rfl)))⟩) R_I37
  · refine qm_Ru.go 2 (c' := (12, [.ref 118], [.int 2, .ref 118], h)) rfl ?_
    refine hk_inv (o := 118) (r := []) (as := [.ref 118, .int 2]) rfl rfl (hH.1 118 (17, 105) rfl) rfl rfl rfl rfl ?_
    refine qm_Ru.go 1 (c' := (1, [.ref 118, .int 2], [.ref 118], h)) rfl ?_
    refine hk_geti (v := fa) rfl (hH.1 118 (17, 105) rfl) rfl q_fa ?_
    refine qm_Ru.go 0 (c' := (4, [.ref 118, .int 2], [.int fa], h)) rfl ?_
    refine hk_zle (ix := fa.toInt) rfl rfl (fun z45 => ?_) (fun z45 => ?_)
    · refine qm_Ru.go 2 (c' := (10, [.ref 118, .int 2], [.int 2, .ref 118], h)) rfl ?_
      refine hk_puti rfl (hH.1 118 (17, 105) rfl) rfl ?_
      refine qm_Ru.go 2 (c' := (15, [.ref 118, .int 2], [.ref 118, .ref 118], (h.1, qm_up h.2.1 118 13 2, h.2.2.1, h.2.2.2))) rfl ?_
      refine hk_getr rfl (hH.1 118 (17, 105) rfl) rfl (hH.2 118 6 (some 122) rfl) ?_
      refine qm_Ru.go 1 (c' := (19, [.ref 118, .int 2], [.ref 118, .ref 122, .ref 118], (h.1, qm_up h.2.1 118 13 2, h.2.2.1, h.2.2.2))) rfl ?_
      refine hk_geti (v := ta) rfl (hH.1 118 (17, 105) rfl) rfl (show (qm_up h.2.1 118 13 2) 118 11 = _ from ((hk_neq (by decide)).trans q_ta)) ?_
      refine qm_Ru.go 0 (c' := (22, [.ref 118, .int 2], [.int ta, .ref 122, .ref 118], (h.1, qm_up h.2.1 118 13 2, h.2.2.1, h.2.2.2))) rfl ?_
      obtain ⟨v46, q_v46⟩ : ∃ v, h.2.1 122 (ta.toInt.toNat) = v := ⟨_, rfl⟩
      refine hk_ial (v := v46) rfl (hH.1 122 (0, 403) rfl) (by omega) (by omega) (show (qm_up h.2.1 118 13 2) 122 (ta.toInt.toNat) = _ from ((hk_ot rfl).trans q_v46)) ?_
      refine qm_Ru.go 0 (c' := (23, [.ref 118, .int 2], [.int v46, .ref 118], (h.1, qm_up h.2.1 118 13 2, h.2.2.1, h.2.2.2))) rfl ?_
      refine hk_puti rfl (hH.1 118 (17, 105) rfl) rfl ?_
      refine qm_Ru.go 0 (c' := (26, [.ref 118, .int 2], [], (h.1, qm_up (qm_up h.2.1 118 13 2) 118 14 v46, h.2.2.1, h.2.2.2))) rfl ?_
      refine qm_Ru.rt (v := none) (h' := (h.1, qm_up (qm_up h.2.1 118 13 2) 118 14 v46, h.2.2.1, h.2.2.2)) rfl ?_
      refine qm_Ru.go 1 (c' := (28, [.ref 118], [], (h.1, qm_up (qm_up h.2.1 118 13 2) 118 14 v46, h.2.2.1, h.2.2.2))) rfl ?_
      refine qm_Ru.rt (v := none) (h' := (h.1, qm_up (qm_up h.2.1 118 13 2) 118 14 v46, h.2.2.1, h.2.2.2)) rfl ?_
      refine qm_Ru.go 1 (c' := (5, [.ref 118, .int r, .float 0, .float 0, .float 0], [.ref 118], (h.1, qm_up (qm_up h.2.1 118 13 2) 118 14 v46, h.2.2.1, h.2.2.2))) rfl ?_
      refine hk_geti (v := ta) rfl (hH.1 118 (17, 105) rfl) rfl (show (qm_up (qm_up h.2.1 118 13 2) 118 14 v46) 118 11 = _ from ((hk_neq (by decide)).trans ((hk_neq (by decide)).trans q_ta))) ?_
      refine qm_Ru.go 3 (c' := (11, [.ref 118, .int r, .int ta, .float 0, .float 0], [.int 1, .ref 118], (h.1, qm_up (qm_up h.2.1 118 13 2) 118 14 v46, h.2.2.1, h.2.2.2))) rfl ?_
      refine hk_inv (o := 118) (r := []) (as := [.ref 118, .int 1]) rfl rfl (hH.1 118 (17, 105) rfl) rfl rfl rfl rfl ?_
      refine qm_Ru.go 2 (c' := (2, [.ref 118, .int 1], [.int 1, .ref 118], (h.1, qm_up (qm_up h.2.1 118 13 2) 118 14 v46, h.2.2.1, h.2.2.2))) rfl ?_
      refine hk_inv (o := 118) (r := []) (as := [.ref 118, .int 1]) rfl rfl (hH.1 118 (17, 105) rfl) rfl rfl rfl rfl ?_
      refine qm_Ru.go 1 (c' := (1, [.ref 118, .int 1], [.ref 118], (h.1, qm_up (qm_up h.2.1 118 13 2) 118 14 v46, h.2.2.1, h.2.2.2))) rfl ?_
      refine hk_geti (v := 2) rfl (hH.1 118 (17, 105) rfl) rfl (show (qm_up (qm_up h.2.1 118 13 2) 118 14 v46) 118 13 = _ from ((hk_neq (by decide)).trans (hk_same))) ?_
      refine qm_Ru.go 2 (c' := (25, [.ref 118, .int 1], [.int 0], (h.1, qm_up (qm_up h.2.1 118 13 2) 118 14 v46, h.2.2.1, h.2.2.2))) rfl ?_
      refine qm_Ru.rt (v := (some (.int 0))) (h' := (h.1, qm_up (qm_up h.2.1 118 13 2) 118 14 v46, h.2.2.1, h.2.2.2)) rfl ?_
      refine qm_Ru.go 3 (c' := (17, [.ref 118, .int 1], [.int 1, .ref 118], (h.1, qm_up (qm_up h.2.1 118 13 2) 118 14 v46, h.2.2.1, h.2.2.2))) rfl ?_
      refine hk_inv (o := 118) (r := []) (as := [.ref 118, .int 1]) rfl rfl (hH.1 118 (17, 105) rfl) rfl rfl rfl rfl ?_
      refine qm_Ru.go 1 (c' := (1, [.ref 118, .int 1], [.ref 118], (h.1, qm_up (qm_up h.2.1 118 13 2) 118 14 v46, h.2.2.1, h.2.2.2))) rfl ?_
      refine hk_geti (v := 2) rfl (hH.1 118 (17, 105) rfl) rfl (show (qm_up (qm_up h.2.1 118 13 2) 118 14 v46) 118 13 = _ from ((hk_neq (by decide)).trans (hk_same))) ?_
      refine qm_Ru.go 1 (c' := (7, [.ref 118, .int 1], [], (h.1, qm_up (qm_up h.2.1 118 13 2) 118 14 v46, h.2.2.1, h.2.2.2))) rfl ?_
      refine qm_Ru.rt (v := none) (h' := (h.1, qm_up (qm_up h.2.1 118 13 2) 118 14 v46, h.2.2.1, h.2.2.2)) rfl ?_
      refine qm_Ru.go 0 (c' := (20, [.ref 118, .int 1], [], (h.1, qm_up (qm_up h.2.1 118 13 2) 118 14 v46, h.2.2.1, h.2.2.2))) rfl ?_
      refine qm_Ru.rt (v := none) (h' := (h.1, qm_up (qm_up h.2.1 118 13 2) 118 14 v46, h.2.2.1, h.2.2.2)) rfl ?_
      refine qm_Ru.go 2 (c' := (16, [.ref 118, .int r, .int ta, .int 0, .float 0], [], (h.1, qm_up (qm_up h.2.1 118 13 2) 118 14 v46, h.2.2.1, h.2.2.2))) rfl ?_
      have hBx_I47 : hk_B (qm_up (qm_up h.2.1 118 13 2) 118 14 v46) := (hb_up (o := 118) (k := 14) (x := v46) (hb_up (o := 118) (k := 13) (x := 2) hB (qa_in_full _)) (qa_in_full _))
      refine hl_tr1 (h := (h.1, qm_up (qm_up h.2.1 118 13 2) 118 14 v46, h.2.2.1, h.2.2.2)) hH hBx_I47 (r := r) (ta := ta) (fa := 2) (ca := ca) (bs := bs) (la := la) (nm := nm) (t0 := Int32.toInt ta) (c0 := c0) (f0 := Int32.toInt 2) (lf := lf) hr (show (qm_up (qm_up h.2.1 118 13 2) 118 14 v46) 118 11 = _ from ((hk_neq (by decide)).trans ((hk_neq (by decide)).trans q_ta))) (show (qm_up (qm_up h.2.1 118 13 2) 118 14 v46) 118 13 = _ from ((hk_neq (by decide)).trans (hk_same))) (show (qm_up (qm_up h.2.1 118 13 2) 118 14 v46) 118 37 = _ from ((hk_neq (by decide)).trans ((hk_neq (by decide)).trans q_ca))) (show (qm_up (qm_up h.2.1 118 13 2) 118 14 v46) 118 12 = _ from ((hk_neq (by decide)).trans ((hk_neq (by decide)).trans q_bs))) (show (qm_up (qm_up h.2.1 118 13 2) 118 14 v46) 118 30 = _ from ((hk_neq (by decide)).trans ((hk_neq (by decide)).trans q_la))) (show (qm_up (qm_up h.2.1 118 13 2) 118 14 v46) 118 20 = _ from ((hk_neq (by decide)).trans ((hk_neq (by decide)).trans q_nm))) (by omega) hc0 (by omega) (by omega) (by omega) (by omega) (na := ta) (by omega) (fun I47 J48 t49 f50 c51 o52 l53 n54 hB_I47 e_I47 e8_I47 q_t49 q_f50 q_c51 q_o52 q_l53 q_n54 b1_I47 b2_I47 b3_I47 b4_I47 b5_I47 A_I47 L_I47 F_I47 R_I47 => ?_) 16 (qm_up (qm_up h.2.1 118 13 2) 118 14 v46) (h.2.2.1) 0 hBx_I47 (fun _ _ _ => rfl) (fun _ _ => rfl) (by omega) (by omega) _
      have e_I47 : ∀ o, [118, 133, 134, 135, 136, 137, 138, 139, 140, 141, 142, 143].contains o = false → ∀ i, I47 o i = (qm_up (qm_up h.2.1 118 13 2) 118 14 v46) o i := e_I47
      have e8_I47 : ∀ i, [11, 12, 13, 14, 15, 16, 20, 30, 37, 41].contains i = false → I47 118 i = (qm_up (qm_up h.2.1 118 13 2) 118 14 v46) 118 i := e8_I47
      have ro_I47 : pa h.2.1 (qm_up (qm_up h.2.1 118 13 2) 118 14 v46) (lf : Int) (c0 + 420) := (fun i _ => ⟨((hk_ot rfl).trans ((hk_ot rfl).trans rfl)), ((hk_ot rfl).trans ((hk_ot rfl).trans rfl))⟩)
      have rl_I47 : pl h.2.1 (qm_up (qm_up h.2.1 118 13 2) 118 14 v46) la.toInt la.toInt := (fun i _ => ⟨((hk_ot rfl).trans ((hk_ot rfl).trans rfl)), ((hk_ot rfl).trans ((hk_ot rfl).trans rfl)), ((hk_ot rfl).trans ((hk_ot rfl).trans rfl))⟩)
      have F_I47 : ∀ i, i ≠ r.toInt.toNat → I47 133 i = (qm_up (qm_up h.2.1 118 13 2) 118 14 v46) 133 i ∧ I47 134 i = (qm_up (qm_up h.2.1 118 13 2) 118 14 v46) 134 i := F_I47
      exact k I47 J48 t49 f50 c51 o52 l53 n54 hB_I47 (fun o ho i => ((e_I47 o (hk_ms rfl ho) i).trans ((hk_mod ho rfl).trans ((hk_mod ho rfl).trans rfl)))) (fun i hi => ((e8_I47 i (hk_ms rfl hi)).trans ((hk_neq (fun z => by subst z; cases hi)).trans ((hk_neq (fun z => by subst z; cases hi)).trans rfl)))) q_t49 q_f50 q_c51 q_o52 q_l53 q_n54 (by omega) (by omega) (by omega) (by omega) (by omega) (pa_tr ro_I47 A_I47 (Int.le_refl _)) (pl_tr rl_I47 L_I47 (by omega)) (fun i hi => ⟨(F_I47 i hi).1.trans ((hk_ot rfl).trans ((hk_ot rfl).trans rfl)), (F_I47 i hi).2.trans ((hk_ot rfl).trans ((hk_ot rfl).trans rfl))⟩) R_I47
    · refine qm_Ru.go 0 (c' := (7, [.ref 118, .int 2], [], h)) rfl ?_
      refine qm_Ru.rt (v := none) (h' := h) rfl ?_
      refine qm_Ru.go 1 (c' := (28, [.ref 118], [], h)) rfl ?_
      refine qm_Ru.rt (v := none) (h' := h) rfl ?_
      refine qm_Ru.go 1 (c' := (5, [.ref 118, .int r, .float 0, .float 0, .float 0], [.ref 118], h)) rfl ?_
      refine hk_geti (v := ta) rfl (hH.1 118 (17, 105) rfl) rfl q_ta ?_
      refine qm_Ru.go 3 (c' := (11, [.ref 118, .int r, .int ta, .float 0, .float 0], [.int 1, .ref 118], h)) rfl ?_
      refine hk_inv (o := 118) (r := []) (as := [.ref 118, .int 1]) rfl rfl (hH.1 118 (17, 105) rfl) rfl rfl rfl rfl ?_
      refine qm_Ru.go 2 (c' := (2, [.ref 118, .int 1], [.int 1, .ref 118], h)) rfl ?_
      refine hk_inv (o := 118) (r := []) (as := [.ref 118, .int 1]) rfl rfl (hH.1 118 (17, 105) rfl) rfl rfl rfl rfl ?_
      refine qm_Ru.go 1 (c' := (1, [.ref 118, .int 1], [.ref 118], h)) rfl ?_
      refine hk_geti (v := fa) rfl (hH.1 118 (17, 105) rfl) rfl q_fa ?_
      refine qm_Ru.go 0 (c' := (4, [.ref 118, .int 1], [.int fa], h)) rfl ?_
      refine hk_zne (ix := fa.toInt) rfl rfl (fun z55 => ?_) (fun z55 => by exfalso; omega)
      refine qm_Ru.go 1 (c' := (25, [.ref 118, .int 1], [.int 0], h)) rfl ?_
      refine qm_Ru.rt (v := (some (.int 0))) (h' := h) rfl ?_
      refine qm_Ru.go 3 (c' := (17, [.ref 118, .int 1], [.int 1, .ref 118], h)) rfl ?_
      refine hk_inv (o := 118) (r := []) (as := [.ref 118, .int 1]) rfl rfl (hH.1 118 (17, 105) rfl) rfl rfl rfl rfl ?_
      refine qm_Ru.go 1 (c' := (1, [.ref 118, .int 1], [.ref 118], h)) rfl ?_
      refine hk_geti (v := fa) rfl (hH.1 118 (17, 105) rfl) rfl q_fa ?_
      refine qm_Ru.go 0 (c' := (4, [.ref 118, .int 1], [.int fa], h)) rfl ?_
      refine hk_zle (ix := fa.toInt) rfl rfl (fun z56 => by exfalso; omega) (fun z56 => ?_)
      refine qm_Ru.go 0 (c' := (7, [.ref 118, .int 1], [], h)) rfl ?_
      refine qm_Ru.rt (v := none) (h' := h) rfl ?_
      refine qm_Ru.go 0 (c' := (20, [.ref 118, .int 1], [], h)) rfl ?_
      refine qm_Ru.rt (v := none) (h' := h) rfl ?_
      refine qm_Ru.go 2 (c' := (16, [.ref 118, .int r, .int ta, .int 0, .float 0], [], h)) rfl ?_
      have hBx_I57 : hk_B (h.2.1) := hB
      refine hl_tr1 (h := h) hH hBx_I57 (r := r) (ta := ta) (fa := fa) (ca := ca) (bs := bs) (la := la) (nm := nm) (t0 := Int32.toInt ta) (c0 := c0) (f0 := Int32.toInt fa) (lf := lf) hr q_ta q_fa q_ca q_bs q_la q_nm (by omega) hc0 (by omega) (by omega) (by omega) (by omega) (na := ta) (by omega) (fun I57 J58 t59 f60 c61 o62 l63 n64 hB_I57 e_I57 e8_I57 q_t59 q_f60 q_c61 q_o62 q_l63 q_n64 b1_I57 b2_I57 b3_I57 b4_I57 b5_I57 A_I57 L_I57 F_I57 R_I57 => ?_) 16 (h.2.1) (h.2.2.1) 0 hBx_I57 (fun _ _ _ => rfl) (fun _ _ => rfl) (by omega) (by omega) _
      have e_I57 : ∀ o, [118, 133, 134, 135, 136, 137, 138, 139, 140, 141, 142, 143].contains o = false → ∀ i, I57 o i = (h.2.1) o i := e_I57
      have e8_I57 : ∀ i, [11, 12, 13, 14, 15, 16, 20, 30, 37, 41].contains i = false → I57 118 i = (h.2.1) 118 i := e8_I57
      have ro_I57 : pa h.2.1 (h.2.1) (lf : Int) (c0 + 420) := (fun i _ => ⟨rfl, rfl⟩)
      have rl_I57 : pl h.2.1 (h.2.1) la.toInt la.toInt := (fun i _ => ⟨rfl, rfl, rfl⟩)
      have F_I57 : ∀ i, i ≠ r.toInt.toNat → I57 133 i = (h.2.1) 133 i ∧ I57 134 i = (h.2.1) 134 i := F_I57
      exact k I57 J58 t59 f60 c61 o62 l63 n64 hB_I57 (fun o ho i => ((e_I57 o (hk_ms rfl ho) i).trans rfl)) (fun i hi => ((e8_I57 i (hk_ms rfl hi)).trans rfl)) q_t59 q_f60 q_c61 q_o62 q_l63 q_n64 (by omega) (by omega) (by omega) (by omega) (by omega) (pa_tr ro_I57 A_I57 (Int.le_refl _)) (pl_tr rl_I57 L_I57 (by omega)) (fun i hi => ⟨(F_I57 i hi).1.trans rfl, (F_I57 i hi).2.trans rfl⟩) R_I57
