/-! by hand -/
theorem hl_tr2 {L : Nat} {xs : Nat → Int32} {d : Nat} {Z : Option Value → qm_H → Prop} {h : qm_H} (hH : hk_H h) (hB : hk_B h.2.1) {r bs la : Int32} {t0 c0 f0 : Int} {lf : Nat} (hr : 0 ≤ r.toInt ∧ r.toInt ≤ 31) (ht0 : 0 ≤ t0) (hc0 : 0 ≤ c0 ∧ c0 ≤ 420) (hlf : c0 ≤ (lf : Int)) (hbs : 0 ≤ bs.toInt ∧ bs.toInt ≤ 7 ∧ (f0 = 0 → bs.toInt ≤ 6)) (hla : 0 ≤ la.toInt ∧ 3 * la.toInt ≤ 450 + t0) (k : ∀ (I : Nat → Nat → Int32) (J : Nat → Nat → Int64) (t f cd op li : Int32), hk_B I → (∀ o, [118, 134, 135, 136, 137, 138, 139, 140, 141, 142, 143].contains o = false → ∀ i, I o i = h.2.1 o i) → (∀ i, [11, 12, 13, 14, 30, 37, 41].contains i = false → I 118 i = h.2.1 118 i) → I 118 11 = t → I 118 13 = f → I 118 37 = cd → I 118 12 = op → I 118 30 = li → (t0 ≤ t.toInt ∧ t.toInt ≤ 400 ∧ 0 ≤ f.toInt ∧ (f.toInt = 0 → f0 = 0)) → ((lf : Int) ≤ cd.toInt ∧ cd.toInt ≤ c0 + t.toInt + 1 ∧ (f.toInt = 0 → cd.toInt ≤ c0 + t.toInt)) → (0 ≤ op.toInt ∧ op.toInt ≤ 7 ∧ (f.toInt = 0 → op.toInt = bs.toInt)) → (la.toInt ≤ li.toInt ∧ 3 * (li.toInt - la.toInt) ≤ t.toInt - t0) → pa h.2.1 I (lf : Int) (c0 + 420) → pl h.2.1 I la.toInt li.toInt → (∀ i, i ≠ r.toInt.toNat → I 134 i = h.2.1 134 i) → I 134 (r.toInt.toNat) = li → (f.toInt = 0 → ru I la.toInt li.toInt (lf : Int) cd.toInt) → Z none (h.1, I, J, h.2.2.2)) : ∀ (m : Nat) (I : Nat → Nat → Int32) (J : Nat → Nat → Int64) (t f cd op li fst mo : Int32), (hk_B I) → ((∀ o, [118, 135, 136, 137, 138, 139, 140, 141, 142, 143].contains o = false → ∀ i, I o i = h.2.1 o i)) → ((∀ i, [11, 12, 13, 14, 30, 37, 41].contains i = false → I 118 i = h.2.1 118 i)) → (I 118 11 = t) → (I 118 13 = f) → (I 118 37 = cd) → (I 118 12 = op) → (I 118 30 = li) → ((t0 ≤ t.toInt ∧ t.toInt ≤ 400 ∧ 0 ≤ f.toInt ∧ (f.toInt = 0 → f0 = 0))) → (((lf : Int) ≤ cd.toInt ∧ cd.toInt ≤ c0 + t.toInt + 1 ∧ (f.toInt = 0 → cd.toInt ≤ c0 + t.toInt))) → ((0 ≤ op.toInt ∧ op.toInt ≤ 7 ∧ (f.toInt = 0 → op.toInt = bs.toInt))) → ((la.toInt ≤ li.toInt ∧ 3 * (li.toInt - la.toInt) ≤ t.toInt - t0)) → (pa h.2.1 I (lf : Int) (c0 + 420)) → (pl h.2.1 I la.toInt li.toInt) → ((f.toInt = 0 → ru I la.toInt li.toInt (lf : Int) cd.toInt)) → ((0 ≤ fst.toInt ∧ fst.toInt ≤ 1 ∧ 0 ≤ mo.toInt ∧ mo.toInt ≤ 1)) → ((f.toInt = 0 → 401 - t.toInt ≤ (m : Int))) → ∀ na : Int32, qm_Ru (some (L, xs)) (d + 8) cd_262 (113, [.ref 118, .int r, .int na, .int fst, .int mo], [], (h.1, I, J, h.2.2.2)) Z := by
  intro m
  induction m using Nat.strongRecOn with
  | ind m ih =>
    intro I J t f cd op li fst mo hBI e e8 q_t q_f q_cd q_op q_li hT hC hO hN hA hL hR hfm hm na
    have k0 : (0 : Int32).toInt = 0 := rfl
    have k1 : (1 : Int32).toInt = 1 := rfl
    have k2 : (2 : Int32).toInt = 2 := rfl
    have k3 : (3 : Int32).toInt = 3 := rfl
    have k6 : (6 : Int32).toInt = 6 := rfl
    refine qm_Ru.go 1 (c' := (115, [.ref 118, .int r, .int na, .int fst, .int mo], [.int mo], (h.1, I, J, h.2.2.2))) rfl ?_
    refine hk_zeq (ix := mo.toInt) rfl rfl (fun z1 => ?_) (fun z1 => ?_)
    · refine qm_Ru.go 1 (c' := (170, [.ref 118, .int r, .int na, .int fst, .int mo], [.ref 118], (h.1, I, J, h.2.2.2))) rfl ?_
      refine hk_getr rfl (hH.1 118 (17, 105) rfl) rfl (hH.2 118 29 (some 134) rfl) ?_
      refine qm_Ru.go 2 (c' := (175, [.ref 118, .int r, .int na, .int fst, .int mo], [.ref 118, .int r, .ref 134], (h.1, I, J, h.2.2.2))) rfl ?_
      refine hk_geti (v := li) rfl (hH.1 118 (17, 105) rfl) rfl q_li ?_
      refine qm_Ru.go 0 (c' := (178, [.ref 118, .int r, .int na, .int fst, .int mo], [.int li, .int r, .ref 134], (h.1, I, J, h.2.2.2))) rfl ?_
      refine hk_ias rfl (hH.1 134 (0, 32) rfl) (by omega) (by omega) ?_
      refine qm_Ru.go 2 (c' := (181, [.ref 118, .int r, .int na, .int fst, .int mo], [.int 4, .ref 118], (h.1, qm_up I 134 (r.toInt.toNat) li, J, h.2.2.2))) rfl ?_
      refine hk_inv (o := 118) (r := []) (as := [.ref 118, .int 4]) rfl rfl (hH.1 118 (17, 105) rfl) rfl rfl rfl rfl ?_
      refine qm_Ru.go 2 (c' := (2, [.ref 118, .int 4], [.int 4, .ref 118], (h.1, qm_up I 134 (r.toInt.toNat) li, J, h.2.2.2))) rfl ?_
      refine hk_inv (o := 118) (r := []) (as := [.ref 118, .int 4]) rfl rfl (hH.1 118 (17, 105) rfl) rfl rfl rfl rfl ?_
      refine qm_Ru.go 1 (c' := (1, [.ref 118, .int 4], [.ref 118], (h.1, qm_up I 134 (r.toInt.toNat) li, J, h.2.2.2))) rfl ?_
      refine hk_geti (v := f) rfl (hH.1 118 (17, 105) rfl) rfl (show (qm_up I 134 (r.toInt.toNat) li) 118 13 = _ from ((hk_ot rfl).trans q_f)) ?_
      refine qm_Ru.go 0 (c' := (4, [.ref 118, .int 4], [.int f], (h.1, qm_up I 134 (r.toInt.toNat) li, J, h.2.2.2))) rfl ?_
      refine hk_zne (ix := f.toInt) rfl rfl (fun z2 => ?_) (fun z2 => ?_)
      · refine qm_Ru.go 1 (c' := (25, [.ref 118, .int 4], [.int 0], (h.1, qm_up I 134 (r.toInt.toNat) li, J, h.2.2.2))) rfl ?_
        refine qm_Ru.rt (v := (some (.int 0))) (h' := (h.1, qm_up I 134 (r.toInt.toNat) li, J, h.2.2.2)) rfl ?_
        refine qm_Ru.go 3 (c' := (17, [.ref 118, .int 4], [.int 1, .ref 118], (h.1, qm_up I 134 (r.toInt.toNat) li, J, h.2.2.2))) rfl ?_
        refine hk_inv (o := 118) (r := []) (as := [.ref 118, .int 1]) rfl rfl (hH.1 118 (17, 105) rfl) rfl rfl rfl rfl ?_
        refine qm_Ru.go 1 (c' := (1, [.ref 118, .int 1], [.ref 118], (h.1, qm_up I 134 (r.toInt.toNat) li, J, h.2.2.2))) rfl ?_
        refine hk_geti (v := f) rfl (hH.1 118 (17, 105) rfl) rfl (show (qm_up I 134 (r.toInt.toNat) li) 118 13 = _ from ((hk_ot rfl).trans q_f)) ?_
        refine qm_Ru.go 0 (c' := (4, [.ref 118, .int 1], [.int f], (h.1, qm_up I 134 (r.toInt.toNat) li, J, h.2.2.2))) rfl ?_
        refine hk_zle (ix := f.toInt) rfl rfl (fun z3 => by exfalso; omega) (fun z3 => ?_)
        refine qm_Ru.go 0 (c' := (7, [.ref 118, .int 1], [], (h.1, qm_up I 134 (r.toInt.toNat) li, J, h.2.2.2))) rfl ?_
        refine qm_Ru.rt (v := none) (h' := (h.1, qm_up I 134 (r.toInt.toNat) li, J, h.2.2.2)) rfl ?_
        refine qm_Ru.go 0 (c' := (20, [.ref 118, .int 4], [], (h.1, qm_up I 134 (r.toInt.toNat) li, J, h.2.2.2))) rfl ?_
        refine qm_Ru.rt (v := none) (h' := (h.1, qm_up I 134 (r.toInt.toNat) li, J, h.2.2.2)) rfl ?_
        refine qm_Ru.go 0 (c' := (184, [.ref 118, .int r, .int na, .int fst, .int mo], [], (h.1, qm_up I 134 (r.toInt.toNat) li, J, h.2.2.2))) rfl ?_
        refine qm_Ru.rt (v := none) (h' := (h.1, qm_up I 134 (r.toInt.toNat) li, J, h.2.2.2)) rfl ?_
        exact k (qm_up I 134 (r.toInt.toNat) li) (J) t f cd op li (hb_up (o := 134) (k := r.toInt.toNat) (x := li) hBI ⟨by show (0 : Int) ≤ li.toInt; omega, by show li.toInt ≤ (300 : Int); omega⟩) (fun o ho i => ((hk_mod ho rfl).trans ((e o (hk_ms rfl ho) i).trans rfl))) (fun i hi => ((hk_ot rfl).trans ((e8 i (hk_ms rfl hi)).trans rfl))) (show (qm_up I 134 (r.toInt.toNat) li) 118 11 = _ from ((hk_ot rfl).trans q_t)) (show (qm_up I 134 (r.toInt.toNat) li) 118 13 = _ from ((hk_ot rfl).trans q_f)) (show (qm_up I 134 (r.toInt.toNat) li) 118 37 = _ from ((hk_ot rfl).trans q_cd)) (show (qm_up I 134 (r.toInt.toNat) li) 118 12 = _ from ((hk_ot rfl).trans q_op)) (show (qm_up I 134 (r.toInt.toNat) li) 118 30 = _ from ((hk_ot rfl).trans q_li)) (by omega) (by omega) (by omega) (by omega) (pa_cg hA (fun i => ((hk_ot rfl).trans rfl)) (fun i => ((hk_ot rfl).trans rfl))) (pl_cg hL (fun i => ((hk_ot rfl).trans rfl)) (fun i => ((hk_ot rfl).trans rfl)) (fun i => ((hk_ot rfl).trans rfl))) (fun i hi => ((hk_neq hi).trans ((e 134 rfl i).trans rfl))) (hk_same) (fun z => ru_sm (hR (by omega)) (fun i => ((hk_ot rfl).trans rfl)) (fun i => ((hk_ot rfl).trans rfl)) (fun i => ((hk_ot rfl).trans rfl)) (fun i => ((hk_ot rfl).trans rfl)) (fun i => ((hk_ot rfl).trans rfl)))
      · refine qm_Ru.go 1 (c' := (8, [.ref 118, .int 4], [.ref 118], (h.1, qm_up I 134 (r.toInt.toNat) li, J, h.2.2.2))) rfl ?_
        refine hk_getr rfl (hH.1 118 (17, 105) rfl) rfl (hH.2 118 5 (some 121) rfl) ?_
        refine qm_Ru.go 1 (c' := (12, [.ref 118, .int 4], [.ref 118, .ref 121], (h.1, qm_up I 134 (r.toInt.toNat) li, J, h.2.2.2))) rfl ?_
        refine hk_geti (v := t) rfl (hH.1 118 (17, 105) rfl) rfl (show (qm_up I 134 (r.toInt.toNat) li) 118 11 = _ from ((hk_ot rfl).trans q_t)) ?_
        refine qm_Ru.go 0 (c' := (15, [.ref 118, .int 4], [.int t, .ref 121], (h.1, qm_up I 134 (r.toInt.toNat) li, J, h.2.2.2))) rfl ?_
        obtain ⟨v4, q_v4⟩ : ∃ v, h.2.1 121 (t.toInt.toNat) = v := ⟨_, rfl⟩
        have b_v4 : (0 : Int) ≤ v4.toInt ∧ v4.toInt ≤ 44 := by rw [← q_v4]; exact hB 121 (t.toInt.toNat)
        refine hk_ial (v := v4) rfl (hH.1 121 (0, 403) rfl) (by omega) (by omega) (show (qm_up I 134 (r.toInt.toNat) li) 121 (t.toInt.toNat) = _ from ((hk_ot rfl).trans ((e 121 rfl (t.toInt.toNat)).trans q_v4))) ?_
        refine qm_Ru.go 1 (c' := (17, [.ref 118, .int 4], [.int 4, .int v4], (h.1, qm_up I 134 (r.toInt.toNat) li, J, h.2.2.2))) rfl ?_
        refine hk_cne (ix := v4.toInt) (iy := 4) rfl rfl rfl (fun z5 => ?_) (fun z5 => ?_)
        · refine qm_Ru.go 1 (c' := (25, [.ref 118, .int 4], [.int 0], (h.1, qm_up I 134 (r.toInt.toNat) li, J, h.2.2.2))) rfl ?_
          refine qm_Ru.rt (v := (some (.int 0))) (h' := (h.1, qm_up I 134 (r.toInt.toNat) li, J, h.2.2.2)) rfl ?_
          refine qm_Ru.go 3 (c' := (17, [.ref 118, .int 4], [.int 1, .ref 118], (h.1, qm_up I 134 (r.toInt.toNat) li, J, h.2.2.2))) rfl ?_
          refine hk_inv (o := 118) (r := []) (as := [.ref 118, .int 1]) rfl rfl (hH.1 118 (17, 105) rfl) rfl rfl rfl rfl ?_
          refine qm_Ru.go 1 (c' := (1, [.ref 118, .int 1], [.ref 118], (h.1, qm_up I 134 (r.toInt.toNat) li, J, h.2.2.2))) rfl ?_
          refine hk_geti (v := f) rfl (hH.1 118 (17, 105) rfl) rfl (show (qm_up I 134 (r.toInt.toNat) li) 118 13 = _ from ((hk_ot rfl).trans q_f)) ?_
          refine qm_Ru.go 0 (c' := (4, [.ref 118, .int 1], [.int f], (h.1, qm_up I 134 (r.toInt.toNat) li, J, h.2.2.2))) rfl ?_
          refine hk_zle (ix := f.toInt) rfl rfl (fun z6 => ?_) (fun z6 => by exfalso; omega)
          refine qm_Ru.go 2 (c' := (10, [.ref 118, .int 1], [.int 1, .ref 118], (h.1, qm_up I 134 (r.toInt.toNat) li, J, h.2.2.2))) rfl ?_
          refine hk_puti rfl (hH.1 118 (17, 105) rfl) rfl ?_
          refine qm_Ru.go 2 (c' := (15, [.ref 118, .int 1], [.ref 118, .ref 118], (h.1, qm_up (qm_up I 134 (r.toInt.toNat) li) 118 13 1, J, h.2.2.2))) rfl ?_
          refine hk_getr rfl (hH.1 118 (17, 105) rfl) rfl (hH.2 118 6 (some 122) rfl) ?_
          refine qm_Ru.go 1 (c' := (19, [.ref 118, .int 1], [.ref 118, .ref 122, .ref 118], (h.1, qm_up (qm_up I 134 (r.toInt.toNat) li) 118 13 1, J, h.2.2.2))) rfl ?_
          refine hk_geti (v := t) rfl (hH.1 118 (17, 105) rfl) rfl (show (qm_up (qm_up I 134 (r.toInt.toNat) li) 118 13 1) 118 11 = _ from ((hk_neq (by decide)).trans ((hk_ot rfl).trans q_t))) ?_
          refine qm_Ru.go 0 (c' := (22, [.ref 118, .int 1], [.int t, .ref 122, .ref 118], (h.1, qm_up (qm_up I 134 (r.toInt.toNat) li) 118 13 1, J, h.2.2.2))) rfl ?_
          obtain ⟨v7, q_v7⟩ : ∃ v, h.2.1 122 (t.toInt.toNat) = v := ⟨_, rfl⟩
          refine hk_ial (v := v7) rfl (hH.1 122 (0, 403) rfl) (by omega) (by omega) (show (qm_up (qm_up I 134 (r.toInt.toNat) li) 118 13 1) 122 (t.toInt.toNat) = _ from ((hk_ot rfl).trans ((hk_ot rfl).trans ((e 122 rfl (t.toInt.toNat)).trans q_v7)))) ?_
          refine qm_Ru.go 0 (c' := (23, [.ref 118, .int 1], [.int v7, .ref 118], (h.1, qm_up (qm_up I 134 (r.toInt.toNat) li) 118 13 1, J, h.2.2.2))) rfl ?_
          refine hk_puti rfl (hH.1 118 (17, 105) rfl) rfl ?_
          refine qm_Ru.go 0 (c' := (26, [.ref 118, .int 1], [], (h.1, qm_up (qm_up (qm_up I 134 (r.toInt.toNat) li) 118 13 1) 118 14 v7, J, h.2.2.2))) rfl ?_
          refine qm_Ru.rt (v := none) (h' := (h.1, qm_up (qm_up (qm_up I 134 (r.toInt.toNat) li) 118 13 1) 118 14 v7, J, h.2.2.2)) rfl ?_
          refine qm_Ru.go 0 (c' := (20, [.ref 118, .int 4], [], (h.1, qm_up (qm_up (qm_up I 134 (r.toInt.toNat) li) 118 13 1) 118 14 v7, J, h.2.2.2))) rfl ?_
          refine qm_Ru.rt (v := none) (h' := (h.1, qm_up (qm_up (qm_up I 134 (r.toInt.toNat) li) 118 13 1) 118 14 v7, J, h.2.2.2)) rfl ?_
          refine qm_Ru.go 0 (c' := (184, [.ref 118, .int r, .int na, .int fst, .int mo], [], (h.1, qm_up (qm_up (qm_up I 134 (r.toInt.toNat) li) 118 13 1) 118 14 v7, J, h.2.2.2))) rfl ?_
          refine qm_Ru.rt (v := none) (h' := (h.1, qm_up (qm_up (qm_up I 134 (r.toInt.toNat) li) 118 13 1) 118 14 v7, J, h.2.2.2)) rfl ?_
          exact k (qm_up (qm_up (qm_up I 134 (r.toInt.toNat) li) 118 13 1) 118 14 v7) (J) t 1 cd op li (hb_up (o := 118) (k := 14) (x := v7) (hb_up (o := 118) (k := 13) (x := 1) (hb_up (o := 134) (k := r.toInt.toNat) (x := li) hBI ⟨by show (0 : Int) ≤ li.toInt; omega, by show li.toInt ≤ (300 : Int); omega⟩) (qa_in_full _)) (qa_in_full _)) (fun o ho i => ((hk_mod ho rfl).trans ((hk_mod ho rfl).trans ((hk_mod ho rfl).trans ((e o (hk_ms rfl ho) i).trans rfl))))) (fun i hi => ((hk_neq (fun z => by subst z; cases hi)).trans ((hk_neq (fun z => by subst z; cases hi)).trans ((hk_ot rfl).trans ((e8 i (hk_ms rfl hi)).trans rfl))))) (show (qm_up (qm_up (qm_up I 134 (r.toInt.toNat) li) 118 13 1) 118 14 v7) 118 11 = _ from ((hk_neq (by decide)).trans ((hk_neq (by decide)).trans ((hk_ot rfl).trans q_t)))) (show (qm_up (qm_up (qm_up I 134 (r.toInt.toNat) li) 118 13 1) 118 14 v7) 118 13 = _ from ((hk_neq (by decide)).trans (hk_same))) (show (qm_up (qm_up (qm_up I 134 (r.toInt.toNat) li) 118 13 1) 118 14 v7) 118 37 = _ from ((hk_neq (by decide)).trans ((hk_neq (by decide)).trans ((hk_ot rfl).trans q_cd)))) (show (qm_up (qm_up (qm_up I 134 (r.toInt.toNat) li) 118 13 1) 118 14 v7) 118 12 = _ from ((hk_neq (by decide)).trans ((hk_neq (by decide)).trans ((hk_ot rfl).trans q_op)))) (show (qm_up (qm_up (qm_up I 134 (r.toInt.toNat) li) 118 13 1) 118 14 v7) 118 30 = _ from ((hk_neq (by decide)).trans ((hk_neq (by decide)).trans ((hk_ot rfl).trans q_li)))) (by omega) (by omega) (by omega) (by omega) (pa_cg hA (fun i => ((hk_ot rfl).trans ((hk_ot rfl).trans ((hk_ot rfl).trans rfl)))) (fun i => ((hk_ot rfl).trans ((hk_ot rfl).trans ((hk_ot rfl).trans rfl))))) (pl_cg hL (fun i => ((hk_ot rfl).trans ((hk_ot rfl).trans ((hk_ot rfl).trans rfl)))) (fun i => ((hk_ot rfl).trans ((hk_ot rfl).trans ((hk_ot rfl).trans rfl)))) (fun i => ((hk_ot rfl).trans ((hk_ot rfl).trans ((hk_ot rfl).trans rfl))))) (fun i hi => ((hk_ot rfl).trans ((hk_ot rfl).trans ((hk_neq hi).trans ((e 134 rfl i).trans rfl))))) ((hk_ot rfl).trans ((hk_ot rfl).trans (hk_same))) (fun z => ru_sm (hR (by omega)) (fun i => ((hk_ot rfl).trans ((hk_ot rfl).trans ((hk_ot rfl).trans rfl)))) (fun i => ((hk_ot rfl).trans ((hk_ot rfl).trans ((hk_ot rfl).trans rfl)))) (fun i => ((hk_ot rfl).trans ((hk_ot rfl).trans ((hk_ot rfl).trans rfl)))) (fun i => ((hk_ot rfl).trans ((hk_ot rfl).trans ((hk_ot rfl).trans rfl)))) (fun i => ((hk_ot rfl).trans ((hk_ot rfl).trans ((hk_ot rfl).trans rfl)))))
        · refine qm_Ru.go 2 (c' := (25, [.ref 118, .int 4], [.int 1], (h.1, qm_up I 134 (r.toInt.toNat) li, J, h.2.2.2))) rfl ?_
          refine qm_Ru.rt (v := (some (.int 1))) (h' := (h.1, qm_up I 134 (r.toInt.toNat) li, J, h.2.2.2)) rfl ?_
          refine qm_Ru.go 2 (c' := (9, [.ref 118, .int 4], [.ref 118], (h.1, qm_up I 134 (r.toInt.toNat) li, J, h.2.2.2))) rfl ?_
          refine hk_inv (o := 118) (r := []) (as := [.ref 118]) rfl rfl (hH.1 118 (17, 105) rfl) rfl rfl rfl rfl ?_
          refine qm_Ru.go 1 (c' := (1, [.ref 118], [.ref 118], (h.1, qm_up I 134 (r.toInt.toNat) li, J, h.2.2.2))) rfl ?_
          refine hk_geti (v := t) rfl (hH.1 118 (17, 105) rfl) rfl (show (qm_up I 134 (r.toInt.toNat) li) 118 11 = _ from ((hk_ot rfl).trans q_t)) ?_
          refine qm_Ru.go 1 (c' := (7, [.ref 118], [.int 400, .int t], (h.1, qm_up I 134 (r.toInt.toNat) li, J, h.2.2.2))) rfl ?_
          refine hk_cne (ix := t.toInt) (iy := 400) rfl rfl rfl (fun z8 => ?_) (fun z8 => ?_)
          · refine qm_Ru.go 2 (c' := (20, [.ref 118], [.ref 118, .ref 118], (h.1, qm_up I 134 (r.toInt.toNat) li, J, h.2.2.2))) rfl ?_
            refine hk_geti (v := t) rfl (hH.1 118 (17, 105) rfl) rfl (show (qm_up I 134 (r.toInt.toNat) li) 118 11 = _ from ((hk_ot rfl).trans q_t)) ?_
            refine qm_Ru.go 2 (c' := (25, [.ref 118], [.int (t + 1), .ref 118], (h.1, qm_up I 134 (r.toInt.toNat) li, J, h.2.2.2))) rfl ?_
            obtain ⟨v9, q_v9, e_v9⟩ := hk_add (x := t) (y := 1) (a := t.toInt) (b := 1) rfl rfl (by omega) (by omega)
            rw [q_v9]
            refine hk_puti rfl (hH.1 118 (17, 105) rfl) rfl ?_
            refine qm_Ru.go 0 (c' := (28, [.ref 118], [], (h.1, qm_up (qm_up I 134 (r.toInt.toNat) li) 118 11 v9, J, h.2.2.2))) rfl ?_
            refine qm_Ru.rt (v := none) (h' := (h.1, qm_up (qm_up I 134 (r.toInt.toNat) li) 118 11 v9, J, h.2.2.2)) rfl ?_
            refine qm_Ru.go 1 (c' := (20, [.ref 118, .int 4], [], (h.1, qm_up (qm_up I 134 (r.toInt.toNat) li) 118 11 v9, J, h.2.2.2))) rfl ?_
            refine qm_Ru.rt (v := none) (h' := (h.1, qm_up (qm_up I 134 (r.toInt.toNat) li) 118 11 v9, J, h.2.2.2)) rfl ?_
            refine qm_Ru.go 0 (c' := (184, [.ref 118, .int r, .int na, .int fst, .int mo], [], (h.1, qm_up (qm_up I 134 (r.toInt.toNat) li) 118 11 v9, J, h.2.2.2))) rfl ?_
            refine qm_Ru.rt (v := none) (h' := (h.1, qm_up (qm_up I 134 (r.toInt.toNat) li) 118 11 v9, J, h.2.2.2)) rfl ?_
            exact k (qm_up (qm_up I 134 (r.toInt.toNat) li) 118 11 v9) (J) v9 f cd op li (hb_up (o := 118) (k := 11) (x := v9) (hb_up (o := 134) (k := r.toInt.toNat) (x := li) hBI ⟨by show (0 : Int) ≤ li.toInt; omega, by show li.toInt ≤ (300 : Int); omega⟩) ⟨by show (0 : Int) ≤ v9.toInt; omega, by show v9.toInt ≤ (400 : Int); omega⟩) (fun o ho i => ((hk_mod ho rfl).trans ((hk_mod ho rfl).trans ((e o (hk_ms rfl ho) i).trans rfl)))) (fun i hi => ((hk_neq (fun z => by subst z; cases hi)).trans ((hk_ot rfl).trans ((e8 i (hk_ms rfl hi)).trans rfl)))) (show (qm_up (qm_up I 134 (r.toInt.toNat) li) 118 11 v9) 118 11 = _ from (hk_same)) (show (qm_up (qm_up I 134 (r.toInt.toNat) li) 118 11 v9) 118 13 = _ from ((hk_neq (by decide)).trans ((hk_ot rfl).trans q_f))) (show (qm_up (qm_up I 134 (r.toInt.toNat) li) 118 11 v9) 118 37 = _ from ((hk_neq (by decide)).trans ((hk_ot rfl).trans q_cd))) (show (qm_up (qm_up I 134 (r.toInt.toNat) li) 118 11 v9) 118 12 = _ from ((hk_neq (by decide)).trans ((hk_ot rfl).trans q_op))) (show (qm_up (qm_up I 134 (r.toInt.toNat) li) 118 11 v9) 118 30 = _ from ((hk_neq (by decide)).trans ((hk_ot rfl).trans q_li))) (by omega) (by omega) (by omega) (by omega) (pa_cg hA (fun i => ((hk_ot rfl).trans ((hk_ot rfl).trans rfl))) (fun i => ((hk_ot rfl).trans ((hk_ot rfl).trans rfl)))) (pl_cg hL (fun i => ((hk_ot rfl).trans ((hk_ot rfl).trans rfl))) (fun i => ((hk_ot rfl).trans ((hk_ot rfl).trans rfl))) (fun i => ((hk_ot rfl).trans ((hk_ot rfl).trans rfl)))) (fun i hi => ((hk_ot rfl).trans ((hk_neq hi).trans ((e 134 rfl i).trans rfl)))) ((hk_ot rfl).trans (hk_same)) (fun z => ru_sm (hR (by omega)) (fun i => ((hk_ot rfl).trans ((hk_ot rfl).trans rfl))) (fun i => ((hk_ot rfl).trans ((hk_ot rfl).trans rfl))) (fun i => ((hk_ot rfl).trans ((hk_ot rfl).trans rfl))) (fun i => ((hk_ot rfl).trans ((hk_ot rfl).trans rfl))) (fun i => ((hk_ot rfl).trans ((hk_ot rfl).trans rfl))))
          · refine qm_Ru.go 2 (c' := (12, [.ref 118], [.int 2, .ref 118], (h.1, qm_up I 134 (r.toInt.toNat) li, J, h.2.2.2))) rfl ?_
            refine hk_inv (o := 118) (r := []) (as := [.ref 118, .int 2]) rfl rfl (hH.1 118 (17, 105) rfl) rfl rfl rfl rfl ?_
            refine qm_Ru.go 1 (c' := (1, [.ref 118, .int 2], [.ref 118], (h.1, qm_up I 134 (r.toInt.toNat) li, J, h.2.2.2))) rfl ?_
            refine hk_geti (v := f) rfl (hH.1 118 (17, 105) rfl) rfl (show (qm_up I 134 (r.toInt.toNat) li) 118 13 = _ from ((hk_ot rfl).trans q_f)) ?_
            refine qm_Ru.go 0 (c' := (4, [.ref 118, .int 2], [.int f], (h.1, qm_up I 134 (r.toInt.toNat) li, J, h.2.2.2))) rfl ?_
            refine hk_zle (ix := f.toInt) rfl rfl (fun z10 => ?_) (fun z10 => by exfalso; omega)
            refine qm_Ru.go 2 (c' := (10, [.ref 118, .int 2], [.int 2, .ref 118], (h.1, qm_up I 134 (r.toInt.toNat) li, J, h.2.2.2))) rfl ?_
            refine hk_puti rfl (hH.1 118 (17, 105) rfl) rfl ?_
            refine qm_Ru.go 2 (c' := (15, [.ref 118, .int 2], [.ref 118, .ref 118], (h.1, qm_up (qm_up I 134 (r.toInt.toNat) li) 118 13 2, J, h.2.2.2))) rfl ?_
            refine hk_getr rfl (hH.1 118 (17, 105) rfl) rfl (hH.2 118 6 (some 122) rfl) ?_
            refine qm_Ru.go 1 (c' := (19, [.ref 118, .int 2], [.ref 118, .ref 122, .ref 118], (h.1, qm_up (qm_up I 134 (r.toInt.toNat) li) 118 13 2, J, h.2.2.2))) rfl ?_
            refine hk_geti (v := t) rfl (hH.1 118 (17, 105) rfl) rfl (show (qm_up (qm_up I 134 (r.toInt.toNat) li) 118 13 2) 118 11 = _ from ((hk_neq (by decide)).trans ((hk_ot rfl).trans q_t))) ?_
            refine qm_Ru.go 0 (c' := (22, [.ref 118, .int 2], [.int t, .ref 122, .ref 118], (h.1, qm_up (qm_up I 134 (r.toInt.toNat) li) 118 13 2, J, h.2.2.2))) rfl ?_
            obtain ⟨v11, q_v11⟩ : ∃ v, h.2.1 122 (t.toInt.toNat) = v := ⟨_, rfl⟩
            refine hk_ial (v := v11) rfl (hH.1 122 (0, 403) rfl) (by omega) (by omega) (show (qm_up (qm_up I 134 (r.toInt.toNat) li) 118 13 2) 122 (t.toInt.toNat) = _ from ((hk_ot rfl).trans ((hk_ot rfl).trans ((e 122 rfl (t.toInt.toNat)).trans q_v11)))) ?_
            refine qm_Ru.go 0 (c' := (23, [.ref 118, .int 2], [.int v11, .ref 118], (h.1, qm_up (qm_up I 134 (r.toInt.toNat) li) 118 13 2, J, h.2.2.2))) rfl ?_
            refine hk_puti rfl (hH.1 118 (17, 105) rfl) rfl ?_
            refine qm_Ru.go 0 (c' := (26, [.ref 118, .int 2], [], (h.1, qm_up (qm_up (qm_up I 134 (r.toInt.toNat) li) 118 13 2) 118 14 v11, J, h.2.2.2))) rfl ?_
            refine qm_Ru.rt (v := none) (h' := (h.1, qm_up (qm_up (qm_up I 134 (r.toInt.toNat) li) 118 13 2) 118 14 v11, J, h.2.2.2)) rfl ?_
            refine qm_Ru.go 1 (c' := (28, [.ref 118], [], (h.1, qm_up (qm_up (qm_up I 134 (r.toInt.toNat) li) 118 13 2) 118 14 v11, J, h.2.2.2))) rfl ?_
            refine qm_Ru.rt (v := none) (h' := (h.1, qm_up (qm_up (qm_up I 134 (r.toInt.toNat) li) 118 13 2) 118 14 v11, J, h.2.2.2)) rfl ?_
            refine qm_Ru.go 1 (c' := (20, [.ref 118, .int 4], [], (h.1, qm_up (qm_up (qm_up I 134 (r.toInt.toNat) li) 118 13 2) 118 14 v11, J, h.2.2.2))) rfl ?_
            refine qm_Ru.rt (v := none) (h' := (h.1, qm_up (qm_up (qm_up I 134 (r.toInt.toNat) li) 118 13 2) 118 14 v11, J, h.2.2.2)) rfl ?_
            refine qm_Ru.go 0 (c' := (184, [.ref 118, .int r, .int na, .int fst, .int mo], [], (h.1, qm_up (qm_up (qm_up I 134 (r.toInt.toNat) li) 118 13 2) 118 14 v11, J, h.2.2.2))) rfl ?_
            refine qm_Ru.rt (v := none) (h' := (h.1, qm_up (qm_up (qm_up I 134 (r.toInt.toNat) li) 118 13 2) 118 14 v11, J, h.2.2.2)) rfl ?_
            exact k (qm_up (qm_up (qm_up I 134 (r.toInt.toNat) li) 118 13 2) 118 14 v11) (J) t 2 cd op li (hb_up (o := 118) (k := 14) (x := v11) (hb_up (o := 118) (k := 13) (x := 2) (hb_up (o := 134) (k := r.toInt.toNat) (x := li) hBI ⟨by show (0 : Int) ≤ li.toInt; omega, by show li.toInt ≤ (300 : Int); omega⟩) (qa_in_full _)) (qa_in_full _)) (fun o ho i => ((hk_mod ho rfl).trans ((hk_mod ho rfl).trans ((hk_mod ho rfl).trans ((e o (hk_ms rfl ho) i).trans rfl))))) (fun i hi => ((hk_neq (fun z => by subst z; cases hi)).trans ((hk_neq (fun z => by subst z; cases hi)).trans ((hk_ot rfl).trans ((e8 i (hk_ms rfl hi)).trans rfl))))) (show (qm_up (qm_up (qm_up I 134 (r.toInt.toNat) li) 118 13 2) 118 14 v11) 118 11 = _ from ((hk_neq (by decide)).trans ((hk_neq (by decide)).trans ((hk_ot rfl).trans q_t)))) (show (qm_up (qm_up (qm_up I 134 (r.toInt.toNat) li) 118 13 2) 118 14 v11) 118 13 = _ from ((hk_neq (by decide)).trans (hk_same))) (show (qm_up (qm_up (qm_up I 134 (r.toInt.toNat) li) 118 13 2) 118 14 v11) 118 37 = _ from ((hk_neq (by decide)).trans ((hk_neq (by decide)).trans ((hk_ot rfl).trans q_cd)))) (show (qm_up (qm_up (qm_up I 134 (r.toInt.toNat) li) 118 13 2) 118 14 v11) 118 12 = _ from ((hk_neq (by decide)).trans ((hk_neq (by decide)).trans ((hk_ot rfl).trans q_op)))) (show (qm_up (qm_up (qm_up I 134 (r.toInt.toNat) li) 118 13 2) 118 14 v11) 118 30 = _ from ((hk_neq (by decide)).trans ((hk_neq (by decide)).trans ((hk_ot rfl).trans q_li)))) (by omega) (by omega) (by omega) (by omega) (pa_cg hA (fun i => ((hk_ot rfl).trans ((hk_ot rfl).trans ((hk_ot rfl).trans rfl)))) (fun i => ((hk_ot rfl).trans ((hk_ot rfl).trans ((hk_ot rfl).trans rfl))))) (pl_cg hL (fun i => ((hk_ot rfl).trans ((hk_ot rfl).trans ((hk_ot rfl).trans rfl)))) (fun i => ((hk_ot rfl).trans ((hk_ot rfl).trans ((hk_ot rfl).trans rfl)))) (fun i => ((hk_ot rfl).trans ((hk_ot rfl).trans ((hk_ot rfl).trans rfl))))) (fun i hi => ((hk_ot rfl).trans ((hk_ot rfl).trans ((hk_neq hi).trans ((e 134 rfl i).trans rfl))))) ((hk_ot rfl).trans ((hk_ot rfl).trans (hk_same))) (fun z => ru_sm (hR (by omega)) (fun i => ((hk_ot rfl).trans ((hk_ot rfl).trans ((hk_ot rfl).trans rfl)))) (fun i => ((hk_ot rfl).trans ((hk_ot rfl).trans ((hk_ot rfl).trans rfl)))) (fun i => ((hk_ot rfl).trans ((hk_ot rfl).trans ((hk_ot rfl).trans rfl)))) (fun i => ((hk_ot rfl).trans ((hk_ot rfl).trans ((hk_ot rfl).trans rfl)))) (fun i => ((hk_ot rfl).trans ((hk_ot rfl).trans ((hk_ot rfl).trans rfl)))))
    · refine qm_Ru.go 1 (c' := (119, [.ref 118, .int r, .int na, .int fst, .int mo], [.ref 118], (h.1, I, J, h.2.2.2))) rfl ?_
      refine hk_geti (v := f) rfl (hH.1 118 (17, 105) rfl) rfl q_f ?_
      refine qm_Ru.go 0 (c' := (122, [.ref 118, .int r, .int na, .int fst, .int mo], [.int f], (h.1, I, J, h.2.2.2))) rfl ?_
      refine hk_zne (ix := f.toInt) rfl rfl (fun z12 => ?_) (fun z12 => ?_)
      · refine qm_Ru.go 1 (c' := (170, [.ref 118, .int r, .int na, .int fst, .int mo], [.ref 118], (h.1, I, J, h.2.2.2))) rfl ?_
        refine hk_getr rfl (hH.1 118 (17, 105) rfl) rfl (hH.2 118 29 (some 134) rfl) ?_
        refine qm_Ru.go 2 (c' := (175, [.ref 118, .int r, .int na, .int fst, .int mo], [.ref 118, .int r, .ref 134], (h.1, I, J, h.2.2.2))) rfl ?_
        refine hk_geti (v := li) rfl (hH.1 118 (17, 105) rfl) rfl q_li ?_
        refine qm_Ru.go 0 (c' := (178, [.ref 118, .int r, .int na, .int fst, .int mo], [.int li, .int r, .ref 134], (h.1, I, J, h.2.2.2))) rfl ?_
        refine hk_ias rfl (hH.1 134 (0, 32) rfl) (by omega) (by omega) ?_
        refine qm_Ru.go 2 (c' := (181, [.ref 118, .int r, .int na, .int fst, .int mo], [.int 4, .ref 118], (h.1, qm_up I 134 (r.toInt.toNat) li, J, h.2.2.2))) rfl ?_
        refine hk_inv (o := 118) (r := []) (as := [.ref 118, .int 4]) rfl rfl (hH.1 118 (17, 105) rfl) rfl rfl rfl rfl ?_
        refine qm_Ru.go 2 (c' := (2, [.ref 118, .int 4], [.int 4, .ref 118], (h.1, qm_up I 134 (r.toInt.toNat) li, J, h.2.2.2))) rfl ?_
        refine hk_inv (o := 118) (r := []) (as := [.ref 118, .int 4]) rfl rfl (hH.1 118 (17, 105) rfl) rfl rfl rfl rfl ?_
        refine qm_Ru.go 1 (c' := (1, [.ref 118, .int 4], [.ref 118], (h.1, qm_up I 134 (r.toInt.toNat) li, J, h.2.2.2))) rfl ?_
        refine hk_geti (v := f) rfl (hH.1 118 (17, 105) rfl) rfl (show (qm_up I 134 (r.toInt.toNat) li) 118 13 = _ from ((hk_ot rfl).trans q_f)) ?_
        refine qm_Ru.go 0 (c' := (4, [.ref 118, .int 4], [.int f], (h.1, qm_up I 134 (r.toInt.toNat) li, J, h.2.2.2))) rfl ?_
        refine hk_zne (ix := f.toInt) rfl rfl (fun z13 => ?_) (fun z13 => by exfalso; omega)
        refine qm_Ru.go 1 (c' := (25, [.ref 118, .int 4], [.int 0], (h.1, qm_up I 134 (r.toInt.toNat) li, J, h.2.2.2))) rfl ?_
        refine qm_Ru.rt (v := (some (.int 0))) (h' := (h.1, qm_up I 134 (r.toInt.toNat) li, J, h.2.2.2)) rfl ?_
        refine qm_Ru.go 3 (c' := (17, [.ref 118, .int 4], [.int 1, .ref 118], (h.1, qm_up I 134 (r.toInt.toNat) li, J, h.2.2.2))) rfl ?_
        refine hk_inv (o := 118) (r := []) (as := [.ref 118, .int 1]) rfl rfl (hH.1 118 (17, 105) rfl) rfl rfl rfl rfl ?_
        refine qm_Ru.go 1 (c' := (1, [.ref 118, .int 1], [.ref 118], (h.1, qm_up I 134 (r.toInt.toNat) li, J, h.2.2.2))) rfl ?_
        refine hk_geti (v := f) rfl (hH.1 118 (17, 105) rfl) rfl (show (qm_up I 134 (r.toInt.toNat) li) 118 13 = _ from ((hk_ot rfl).trans q_f)) ?_
        refine qm_Ru.go 0 (c' := (4, [.ref 118, .int 1], [.int f], (h.1, qm_up I 134 (r.toInt.toNat) li, J, h.2.2.2))) rfl ?_
        refine hk_zle (ix := f.toInt) rfl rfl (fun z14 => by exfalso; omega) (fun z14 => ?_)
        refine qm_Ru.go 0 (c' := (7, [.ref 118, .int 1], [], (h.1, qm_up I 134 (r.toInt.toNat) li, J, h.2.2.2))) rfl ?_
        refine qm_Ru.rt (v := none) (h' := (h.1, qm_up I 134 (r.toInt.toNat) li, J, h.2.2.2)) rfl ?_
        refine qm_Ru.go 0 (c' := (20, [.ref 118, .int 4], [], (h.1, qm_up I 134 (r.toInt.toNat) li, J, h.2.2.2))) rfl ?_
        refine qm_Ru.rt (v := none) (h' := (h.1, qm_up I 134 (r.toInt.toNat) li, J, h.2.2.2)) rfl ?_
        refine qm_Ru.go 0 (c' := (184, [.ref 118, .int r, .int na, .int fst, .int mo], [], (h.1, qm_up I 134 (r.toInt.toNat) li, J, h.2.2.2))) rfl ?_
        refine qm_Ru.rt (v := none) (h' := (h.1, qm_up I 134 (r.toInt.toNat) li, J, h.2.2.2)) rfl ?_
        exact k (qm_up I 134 (r.toInt.toNat) li) (J) t f cd op li (hb_up (o := 134) (k := r.toInt.toNat) (x := li) hBI ⟨by show (0 : Int) ≤ li.toInt; omega, by show li.toInt ≤ (300 : Int); omega⟩) (fun o ho i => ((hk_mod ho rfl).trans ((e o (hk_ms rfl ho) i).trans rfl))) (fun i hi => ((hk_ot rfl).trans ((e8 i (hk_ms rfl hi)).trans rfl))) (show (qm_up I 134 (r.toInt.toNat) li) 118 11 = _ from ((hk_ot rfl).trans q_t)) (show (qm_up I 134 (r.toInt.toNat) li) 118 13 = _ from ((hk_ot rfl).trans q_f)) (show (qm_up I 134 (r.toInt.toNat) li) 118 37 = _ from ((hk_ot rfl).trans q_cd)) (show (qm_up I 134 (r.toInt.toNat) li) 118 12 = _ from ((hk_ot rfl).trans q_op)) (show (qm_up I 134 (r.toInt.toNat) li) 118 30 = _ from ((hk_ot rfl).trans q_li)) (by omega) (by omega) (by omega) (by omega) (pa_cg hA (fun i => ((hk_ot rfl).trans rfl)) (fun i => ((hk_ot rfl).trans rfl))) (pl_cg hL (fun i => ((hk_ot rfl).trans rfl)) (fun i => ((hk_ot rfl).trans rfl)) (fun i => ((hk_ot rfl).trans rfl))) (fun i hi => ((hk_neq hi).trans ((e 134 rfl i).trans rfl))) (hk_same) (fun z => ru_sm (hR (by omega)) (fun i => ((hk_ot rfl).trans rfl)) (fun i => ((hk_ot rfl).trans rfl)) (fun i => ((hk_ot rfl).trans rfl)) (fun i => ((hk_ot rfl).trans rfl)) (fun i => ((hk_ot rfl).trans rfl)))
      · refine qm_Ru.go 2 (c' := (127, [.ref 118, .int r, .int na, .int fst, .int mo], [.int fst, .ref 118], (h.1, I, J, h.2.2.2))) rfl ?_
        refine hk_inv (o := 118) (r := []) (as := [.ref 118, .int fst]) rfl rfl (hH.1 118 (17, 105) rfl) rfl rfl rfl rfl (hs_li (h := (h.1, I, J, h.2.2.2)) hH hBI (w := fst) (ca := cd) (bs := op) (la := li) (t0 := Int32.toInt t) (c0 := c0) (f0 := Int32.toInt f) (lf := (Int32.toInt cd).toNat) (by omega) q_cd q_op q_li (by omega) hc0 (by omega) (by omega) (by omega) (ta := t) (fa := f) q_t q_f (by omega) (by omega) (fun I15 J16 t17 f18 c19 o20 l21 hB_I15 e_I15 e8_I15 q_t17 q_f18 q_c19 q_o20 q_l21 b1_I15 b2_I15 b3_I15 A_I15 L_I15 N_I15 Q_I15 => ?_))
        have B_I15 : pa h.2.1 (I) (lf : Int) (c0 + 420) := pa_cg hA (fun i => rfl) (fun i => rfl)
        have A_I15 : pa (I) I15 ((Int32.toInt cd).toNat : Int) (c0 + 420) := A_I15
        have A9_I15 : pa h.2.1 I15 (lf : Int) (c0 + 420) := pa_tr B_I15 A_I15 (by omega)
        have L_I15 : ∀ i : Nat, i ≠ li.toInt.toNat → I15 138 i = (I) 138 i ∧ I15 139 i = (I) 139 i ∧ I15 140 i = (I) 140 i := L_I15
        have M_I15 : pl h.2.1 I15 la.toInt l21.toInt := pl_more (pl_cg hL (fun i => rfl) (fun i => rfl) (fun i => rfl)) L_I15 (by omega)
        have R_I15 : f18.toInt = 0 → ru I15 la.toInt l21.toInt (lf : Int) c19.toInt := by
          intro z
          rw [show l21.toInt = li.toInt + 1 from by omega]
          exact ru_more (ru_sm (hR (by omega)) (fun i => rfl) (fun i => rfl) (fun i => rfl) (fun i => rfl) (fun i => rfl)) A_I15 L_I15 (Q_I15 z) (by omega)
        have e_I15 : ∀ o, [118, 135, 136, 137, 138, 139, 140, 141, 142, 143].contains o = false → ∀ i, I15 o i = (I) o i := e_I15
        have e8_I15 : ∀ i, [11, 12, 13, 14, 30, 37, 41].contains i = false → I15 118 i = (I) 118 i := e8_I15
        refine qm_Ru.go 2 (c' := (133, [.ref 118, .int r, .int na, .int fst, .int mo], [.int 29, .ref 118], (h.1, I15, J16, h.2.2.2))) rfl ?_
        refine hk_inv (o := 118) (r := []) (as := [.ref 118, .int 29]) rfl rfl (hH.1 118 (17, 105) rfl) rfl rfl rfl rfl ?_
        refine qm_Ru.go 1 (c' := (1, [.ref 118, .int 29], [.ref 118], (h.1, I15, J16, h.2.2.2))) rfl ?_
        refine hk_geti (v := f18) rfl (hH.1 118 (17, 105) rfl) rfl q_f18 ?_
        refine qm_Ru.go 0 (c' := (4, [.ref 118, .int 29], [.int f18], (h.1, I15, J16, h.2.2.2))) rfl ?_
        refine hk_zne (ix := f18.toInt) rfl rfl (fun z22 => ?_) (fun z22 => ?_)
        · refine qm_Ru.go 1 (c' := (25, [.ref 118, .int 29], [.int 0], (h.1, I15, J16, h.2.2.2))) rfl ?_
          refine qm_Ru.rt (v := (some (.int 0))) (h' := (h.1, I15, J16, h.2.2.2)) rfl ?_
          refine qm_Ru.go 5 (c' := (144, [.ref 118, .int r, .int na, .int 0, .int mo], [.int 30, .ref 118], (h.1, I15, J16, h.2.2.2))) rfl ?_
          refine hk_inv (o := 118) (r := []) (as := [.ref 118, .int 30]) rfl rfl (hH.1 118 (17, 105) rfl) rfl rfl rfl rfl ?_
          refine qm_Ru.go 1 (c' := (1, [.ref 118, .int 30], [.ref 118], (h.1, I15, J16, h.2.2.2))) rfl ?_
          refine hk_geti (v := f18) rfl (hH.1 118 (17, 105) rfl) rfl q_f18 ?_
          refine qm_Ru.go 0 (c' := (4, [.ref 118, .int 30], [.int f18], (h.1, I15, J16, h.2.2.2))) rfl ?_
          refine hk_zne (ix := f18.toInt) rfl rfl (fun z23 => ?_) (fun z23 => by exfalso; omega)
          refine qm_Ru.go 1 (c' := (25, [.ref 118, .int 30], [.int 0], (h.1, I15, J16, h.2.2.2))) rfl ?_
          refine qm_Ru.rt (v := (some (.int 0))) (h' := (h.1, I15, J16, h.2.2.2)) rfl ?_
          refine qm_Ru.go 5 (c' := (113, [.ref 118, .int r, .int na, .int 0, .int 0], [], (h.1, I15, J16, h.2.2.2))) rfl ?_
          exact ih (m - 1) (by omega) (I15) (J16) t17 f18 c19 o20 l21 0 0 hB_I15 (fun o ho i => ((e_I15 o (hk_ms rfl ho) i).trans ((e o (hk_ms rfl ho) i).trans rfl))) (fun i hi => ((e8_I15 i (hk_ms rfl hi)).trans ((e8 i (hk_ms rfl hi)).trans rfl))) q_t17 q_f18 q_c19 q_o20 q_l21 (by omega) (by omega) (by omega) (by omega) (pa_cg A9_I15 (fun i => rfl) (fun i => rfl)) (pl_cg M_I15 (fun i => rfl) (fun i => rfl) (fun i => rfl)) (fun z => ru_sm (R_I15 (by omega)) (fun i => rfl) (fun i => rfl) (fun i => rfl) (fun i => rfl) (fun i => rfl)) (by omega) (by omega) na
        · refine qm_Ru.go 1 (c' := (8, [.ref 118, .int 29], [.ref 118], (h.1, I15, J16, h.2.2.2))) rfl ?_
          refine hk_getr rfl (hH.1 118 (17, 105) rfl) rfl (hH.2 118 5 (some 121) rfl) ?_
          refine qm_Ru.go 1 (c' := (12, [.ref 118, .int 29], [.ref 118, .ref 121], (h.1, I15, J16, h.2.2.2))) rfl ?_
          refine hk_geti (v := t17) rfl (hH.1 118 (17, 105) rfl) rfl q_t17 ?_
          refine qm_Ru.go 0 (c' := (15, [.ref 118, .int 29], [.int t17, .ref 121], (h.1, I15, J16, h.2.2.2))) rfl ?_
          obtain ⟨v24, q_v24⟩ : ∃ v, h.2.1 121 (t17.toInt.toNat) = v := ⟨_, rfl⟩
          have b_v24 : (0 : Int) ≤ v24.toInt ∧ v24.toInt ≤ 44 := by rw [← q_v24]; exact hB 121 (t17.toInt.toNat)
          refine hk_ial (v := v24) rfl (hH.1 121 (0, 403) rfl) (by omega) (by omega) (show (I15) 121 (t17.toInt.toNat) = _ from ((e_I15 121 rfl (t17.toInt.toNat)).trans ((e 121 rfl (t17.toInt.toNat)).trans q_v24))) ?_
          refine qm_Ru.go 1 (c' := (17, [.ref 118, .int 29], [.int 29, .int v24], (h.1, I15, J16, h.2.2.2))) rfl ?_
          refine hk_cne (ix := v24.toInt) (iy := 29) rfl rfl rfl (fun z25 => ?_) (fun z25 => ?_)
          · refine qm_Ru.go 1 (c' := (25, [.ref 118, .int 29], [.int 0], (h.1, I15, J16, h.2.2.2))) rfl ?_
            refine qm_Ru.rt (v := (some (.int 0))) (h' := (h.1, I15, J16, h.2.2.2)) rfl ?_
            refine qm_Ru.go 5 (c' := (144, [.ref 118, .int r, .int na, .int 0, .int mo], [.int 30, .ref 118], (h.1, I15, J16, h.2.2.2))) rfl ?_
            refine hk_inv (o := 118) (r := []) (as := [.ref 118, .int 30]) rfl rfl (hH.1 118 (17, 105) rfl) rfl rfl rfl rfl ?_
            refine qm_Ru.go 1 (c' := (1, [.ref 118, .int 30], [.ref 118], (h.1, I15, J16, h.2.2.2))) rfl ?_
            refine hk_geti (v := f18) rfl (hH.1 118 (17, 105) rfl) rfl q_f18 ?_
            refine qm_Ru.go 0 (c' := (4, [.ref 118, .int 30], [.int f18], (h.1, I15, J16, h.2.2.2))) rfl ?_
            refine hk_zne (ix := f18.toInt) rfl rfl (fun z26 => by exfalso; omega) (fun z26 => ?_)
            refine qm_Ru.go 1 (c' := (8, [.ref 118, .int 30], [.ref 118], (h.1, I15, J16, h.2.2.2))) rfl ?_
            refine hk_getr rfl (hH.1 118 (17, 105) rfl) rfl (hH.2 118 5 (some 121) rfl) ?_
            refine qm_Ru.go 1 (c' := (12, [.ref 118, .int 30], [.ref 118, .ref 121], (h.1, I15, J16, h.2.2.2))) rfl ?_
            refine hk_geti (v := t17) rfl (hH.1 118 (17, 105) rfl) rfl q_t17 ?_
            refine qm_Ru.go 0 (c' := (15, [.ref 118, .int 30], [.int t17, .ref 121], (h.1, I15, J16, h.2.2.2))) rfl ?_
            refine hk_ial (v := v24) rfl (hH.1 121 (0, 403) rfl) (by omega) (by omega) (show (I15) 121 (t17.toInt.toNat) = _ from ((e_I15 121 rfl (t17.toInt.toNat)).trans ((e 121 rfl (t17.toInt.toNat)).trans q_v24))) ?_
            refine qm_Ru.go 1 (c' := (17, [.ref 118, .int 30], [.int 30, .int v24], (h.1, I15, J16, h.2.2.2))) rfl ?_
            refine hk_cne (ix := v24.toInt) (iy := 30) rfl rfl rfl (fun z27 => ?_) (fun z27 => ?_)
            · refine qm_Ru.go 1 (c' := (25, [.ref 118, .int 30], [.int 0], (h.1, I15, J16, h.2.2.2))) rfl ?_
              refine qm_Ru.rt (v := (some (.int 0))) (h' := (h.1, I15, J16, h.2.2.2)) rfl ?_
              refine qm_Ru.go 5 (c' := (113, [.ref 118, .int r, .int na, .int 0, .int 0], [], (h.1, I15, J16, h.2.2.2))) rfl ?_
              exact ih (m - 1) (by omega) (I15) (J16) t17 f18 c19 o20 l21 0 0 hB_I15 (fun o ho i => ((e_I15 o (hk_ms rfl ho) i).trans ((e o (hk_ms rfl ho) i).trans rfl))) (fun i hi => ((e8_I15 i (hk_ms rfl hi)).trans ((e8 i (hk_ms rfl hi)).trans rfl))) q_t17 q_f18 q_c19 q_o20 q_l21 (by omega) (by omega) (by omega) (by omega) (pa_cg A9_I15 (fun i => rfl) (fun i => rfl)) (pl_cg M_I15 (fun i => rfl) (fun i => rfl) (fun i => rfl)) (fun z => ru_sm (R_I15 (by omega)) (fun i => rfl) (fun i => rfl) (fun i => rfl) (fun i => rfl) (fun i => rfl)) (by omega) (by omega) na
            · refine qm_Ru.go 2 (c' := (25, [.ref 118, .int 30], [.int 1], (h.1, I15, J16, h.2.2.2))) rfl ?_
              refine qm_Ru.rt (v := (some (.int 1))) (h' := (h.1, I15, J16, h.2.2.2)) rfl ?_
              refine qm_Ru.go 7 (c' := (163, [.ref 118, .int r, .int na, .int 0, .int 1], [.ref 118], (h.1, I15, J16, h.2.2.2))) rfl ?_
              refine hk_inv (o := 118) (r := []) (as := [.ref 118]) rfl rfl (hH.1 118 (17, 105) rfl) rfl rfl rfl rfl ?_
              refine qm_Ru.go 1 (c' := (1, [.ref 118], [.ref 118], (h.1, I15, J16, h.2.2.2))) rfl ?_
              refine hk_geti (v := t17) rfl (hH.1 118 (17, 105) rfl) rfl q_t17 ?_
              refine qm_Ru.go 1 (c' := (7, [.ref 118], [.int 400, .int t17], (h.1, I15, J16, h.2.2.2))) rfl ?_
              refine hk_cne (ix := t17.toInt) (iy := 400) rfl rfl rfl (fun z28 => ?_) (fun z28 => ?_)
              · refine qm_Ru.go 2 (c' := (20, [.ref 118], [.ref 118, .ref 118], (h.1, I15, J16, h.2.2.2))) rfl ?_
                refine hk_geti (v := t17) rfl (hH.1 118 (17, 105) rfl) rfl q_t17 ?_
                refine qm_Ru.go 2 (c' := (25, [.ref 118], [.int (t17 + 1), .ref 118], (h.1, I15, J16, h.2.2.2))) rfl ?_
                obtain ⟨v29, q_v29, e_v29⟩ := hk_add (x := t17) (y := 1) (a := t17.toInt) (b := 1) rfl rfl (by omega) (by omega)
                rw [q_v29]
                refine hk_puti rfl (hH.1 118 (17, 105) rfl) rfl ?_
                refine qm_Ru.go 0 (c' := (28, [.ref 118], [], (h.1, qm_up I15 118 11 v29, J16, h.2.2.2))) rfl ?_
                refine qm_Ru.rt (v := none) (h' := (h.1, qm_up I15 118 11 v29, J16, h.2.2.2)) rfl ?_
                refine qm_Ru.go 1 (c' := (113, [.ref 118, .int r, .int na, .int 0, .int 1], [], (h.1, qm_up I15 118 11 v29, J16, h.2.2.2))) rfl ?_
                exact ih (m - 1) (by omega) (qm_up I15 118 11 v29) (J16) v29 f18 c19 o20 l21 0 1 (hb_up (o := 118) (k := 11) (x := v29) hB_I15 ⟨by show (0 : Int) ≤ v29.toInt; omega, by show v29.toInt ≤ (400 : Int); omega⟩) (fun o ho i => ((hk_mod ho rfl).trans ((e_I15 o (hk_ms rfl ho) i).trans ((e o (hk_ms rfl ho) i).trans rfl)))) (fun i hi => ((hk_neq (fun z => by subst z; cases hi)).trans ((e8_I15 i (hk_ms rfl hi)).trans ((e8 i (hk_ms rfl hi)).trans rfl)))) (show (qm_up I15 118 11 v29) 118 11 = _ from (hk_same)) (show (qm_up I15 118 11 v29) 118 13 = _ from ((hk_neq (by decide)).trans q_f18)) (show (qm_up I15 118 11 v29) 118 37 = _ from ((hk_neq (by decide)).trans q_c19)) (show (qm_up I15 118 11 v29) 118 12 = _ from ((hk_neq (by decide)).trans q_o20)) (show (qm_up I15 118 11 v29) 118 30 = _ from ((hk_neq (by decide)).trans q_l21)) (by omega) (by omega) (by omega) (by omega) (pa_cg A9_I15 (fun i => ((hk_ot rfl).trans rfl)) (fun i => ((hk_ot rfl).trans rfl))) (pl_cg M_I15 (fun i => ((hk_ot rfl).trans rfl)) (fun i => ((hk_ot rfl).trans rfl)) (fun i => ((hk_ot rfl).trans rfl))) (fun z => ru_sm (R_I15 (by omega)) (fun i => ((hk_ot rfl).trans rfl)) (fun i => ((hk_ot rfl).trans rfl)) (fun i => ((hk_ot rfl).trans rfl)) (fun i => ((hk_ot rfl).trans rfl)) (fun i => ((hk_ot rfl).trans rfl))) (by omega) (by omega) na
              · refine qm_Ru.go 2 (c' := (12, [.ref 118], [.int 2, .ref 118], (h.1, I15, J16, h.2.2.2))) rfl ?_
                refine hk_inv (o := 118) (r := []) (as := [.ref 118, .int 2]) rfl rfl (hH.1 118 (17, 105) rfl) rfl rfl rfl rfl ?_
                refine qm_Ru.go 1 (c' := (1, [.ref 118, .int 2], [.ref 118], (h.1, I15, J16, h.2.2.2))) rfl ?_
                refine hk_geti (v := f18) rfl (hH.1 118 (17, 105) rfl) rfl q_f18 ?_
                refine qm_Ru.go 0 (c' := (4, [.ref 118, .int 2], [.int f18], (h.1, I15, J16, h.2.2.2))) rfl ?_
                refine hk_zle (ix := f18.toInt) rfl rfl (fun z30 => ?_) (fun z30 => by exfalso; omega)
                refine qm_Ru.go 2 (c' := (10, [.ref 118, .int 2], [.int 2, .ref 118], (h.1, I15, J16, h.2.2.2))) rfl ?_
                refine hk_puti rfl (hH.1 118 (17, 105) rfl) rfl ?_
                refine qm_Ru.go 2 (c' := (15, [.ref 118, .int 2], [.ref 118, .ref 118], (h.1, qm_up I15 118 13 2, J16, h.2.2.2))) rfl ?_
                refine hk_getr rfl (hH.1 118 (17, 105) rfl) rfl (hH.2 118 6 (some 122) rfl) ?_
                refine qm_Ru.go 1 (c' := (19, [.ref 118, .int 2], [.ref 118, .ref 122, .ref 118], (h.1, qm_up I15 118 13 2, J16, h.2.2.2))) rfl ?_
                refine hk_geti (v := t17) rfl (hH.1 118 (17, 105) rfl) rfl (show (qm_up I15 118 13 2) 118 11 = _ from ((hk_neq (by decide)).trans q_t17)) ?_
                refine qm_Ru.go 0 (c' := (22, [.ref 118, .int 2], [.int t17, .ref 122, .ref 118], (h.1, qm_up I15 118 13 2, J16, h.2.2.2))) rfl ?_
                obtain ⟨v31, q_v31⟩ : ∃ v, h.2.1 122 (t17.toInt.toNat) = v := ⟨_, rfl⟩
                refine hk_ial (v := v31) rfl (hH.1 122 (0, 403) rfl) (by omega) (by omega) (show (qm_up I15 118 13 2) 122 (t17.toInt.toNat) = _ from ((hk_ot rfl).trans ((e_I15 122 rfl (t17.toInt.toNat)).trans ((e 122 rfl (t17.toInt.toNat)).trans q_v31)))) ?_
                refine qm_Ru.go 0 (c' := (23, [.ref 118, .int 2], [.int v31, .ref 118], (h.1, qm_up I15 118 13 2, J16, h.2.2.2))) rfl ?_
                refine hk_puti rfl (hH.1 118 (17, 105) rfl) rfl ?_
                refine qm_Ru.go 0 (c' := (26, [.ref 118, .int 2], [], (h.1, qm_up (qm_up I15 118 13 2) 118 14 v31, J16, h.2.2.2))) rfl ?_
                refine qm_Ru.rt (v := none) (h' := (h.1, qm_up (qm_up I15 118 13 2) 118 14 v31, J16, h.2.2.2)) rfl ?_
                refine qm_Ru.go 1 (c' := (28, [.ref 118], [], (h.1, qm_up (qm_up I15 118 13 2) 118 14 v31, J16, h.2.2.2))) rfl ?_
                refine qm_Ru.rt (v := none) (h' := (h.1, qm_up (qm_up I15 118 13 2) 118 14 v31, J16, h.2.2.2)) rfl ?_
                refine qm_Ru.go 1 (c' := (113, [.ref 118, .int r, .int na, .int 0, .int 1], [], (h.1, qm_up (qm_up I15 118 13 2) 118 14 v31, J16, h.2.2.2))) rfl ?_
                exact ih (m - 1) (by omega) (qm_up (qm_up I15 118 13 2) 118 14 v31) (J16) t17 2 c19 o20 l21 0 1 (hb_up (o := 118) (k := 14) (x := v31) (hb_up (o := 118) (k := 13) (x := 2) hB_I15 (qa_in_full _)) (qa_in_full _)) (fun o ho i => ((hk_mod ho rfl).trans ((hk_mod ho rfl).trans ((e_I15 o (hk_ms rfl ho) i).trans ((e o (hk_ms rfl ho) i).trans rfl))))) (fun i hi => ((hk_neq (fun z => by subst z; cases hi)).trans ((hk_neq (fun z => by subst z; cases hi)).trans ((e8_I15 i (hk_ms rfl hi)).trans ((e8 i (hk_ms rfl hi)).trans rfl))))) (show (qm_up (qm_up I15 118 13 2) 118 14 v31) 118 11 = _ from ((hk_neq (by decide)).trans ((hk_neq (by decide)).trans q_t17))) (show (qm_up (qm_up I15 118 13 2) 118 14 v31) 118 13 = _ from ((hk_neq (by decide)).trans (hk_same))) (show (qm_up (qm_up I15 118 13 2) 118 14 v31) 118 37 = _ from ((hk_neq (by decide)).trans ((hk_neq (by decide)).trans q_c19))) (show (qm_up (qm_up I15 118 13 2) 118 14 v31) 118 12 = _ from ((hk_neq (by decide)).trans ((hk_neq (by decide)).trans q_o20))) (show (qm_up (qm_up I15 118 13 2) 118 14 v31) 118 30 = _ from ((hk_neq (by decide)).trans ((hk_neq (by decide)).trans q_l21))) (by omega) (by omega) (by omega) (by omega) (pa_cg A9_I15 (fun i => ((hk_ot rfl).trans ((hk_ot rfl).trans rfl))) (fun i => ((hk_ot rfl).trans ((hk_ot rfl).trans rfl)))) (pl_cg M_I15 (fun i => ((hk_ot rfl).trans ((hk_ot rfl).trans rfl))) (fun i => ((hk_ot rfl).trans ((hk_ot rfl).trans rfl))) (fun i => ((hk_ot rfl).trans ((hk_ot rfl).trans rfl)))) (fun z => ru_sm (R_I15 (by omega)) (fun i => ((hk_ot rfl).trans ((hk_ot rfl).trans rfl))) (fun i => ((hk_ot rfl).trans ((hk_ot rfl).trans rfl))) (fun i => ((hk_ot rfl).trans ((hk_ot rfl).trans rfl))) (fun i => ((hk_ot rfl).trans ((hk_ot rfl).trans rfl))) (fun i => ((hk_ot rfl).trans ((hk_ot rfl).trans rfl)))) (by omega) (by omega) na
          · refine qm_Ru.go 2 (c' := (25, [.ref 118, .int 29], [.int 1], (h.1, I15, J16, h.2.2.2))) rfl ?_
            refine qm_Ru.rt (v := (some (.int 1))) (h' := (h.1, I15, J16, h.2.2.2)) rfl ?_
            refine qm_Ru.go 9 (c' := (163, [.ref 118, .int r, .int na, .int 1, .int 1], [.ref 118], (h.1, I15, J16, h.2.2.2))) rfl ?_
            refine hk_inv (o := 118) (r := []) (as := [.ref 118]) rfl rfl (hH.1 118 (17, 105) rfl) rfl rfl rfl rfl ?_
            refine qm_Ru.go 1 (c' := (1, [.ref 118], [.ref 118], (h.1, I15, J16, h.2.2.2))) rfl ?_
            refine hk_geti (v := t17) rfl (hH.1 118 (17, 105) rfl) rfl q_t17 ?_
            refine qm_Ru.go 1 (c' := (7, [.ref 118], [.int 400, .int t17], (h.1, I15, J16, h.2.2.2))) rfl ?_
            refine hk_cne (ix := t17.toInt) (iy := 400) rfl rfl rfl (fun z32 => ?_) (fun z32 => ?_)
            · refine qm_Ru.go 2 (c' := (20, [.ref 118], [.ref 118, .ref 118], (h.1, I15, J16, h.2.2.2))) rfl ?_
              refine hk_geti (v := t17) rfl (hH.1 118 (17, 105) rfl) rfl q_t17 ?_
              refine qm_Ru.go 2 (c' := (25, [.ref 118], [.int (t17 + 1), .ref 118], (h.1, I15, J16, h.2.2.2))) rfl ?_
              obtain ⟨v33, q_v33, e_v33⟩ := hk_add (x := t17) (y := 1) (a := t17.toInt) (b := 1) rfl rfl (by omega) (by omega)
              rw [q_v33]
              refine hk_puti rfl (hH.1 118 (17, 105) rfl) rfl ?_
              refine qm_Ru.go 0 (c' := (28, [.ref 118], [], (h.1, qm_up I15 118 11 v33, J16, h.2.2.2))) rfl ?_
              refine qm_Ru.rt (v := none) (h' := (h.1, qm_up I15 118 11 v33, J16, h.2.2.2)) rfl ?_
              refine qm_Ru.go 1 (c' := (113, [.ref 118, .int r, .int na, .int 1, .int 1], [], (h.1, qm_up I15 118 11 v33, J16, h.2.2.2))) rfl ?_
              exact ih (m - 1) (by omega) (qm_up I15 118 11 v33) (J16) v33 f18 c19 o20 l21 1 1 (hb_up (o := 118) (k := 11) (x := v33) hB_I15 ⟨by show (0 : Int) ≤ v33.toInt; omega, by show v33.toInt ≤ (400 : Int); omega⟩) (fun o ho i => ((hk_mod ho rfl).trans ((e_I15 o (hk_ms rfl ho) i).trans ((e o (hk_ms rfl ho) i).trans rfl)))) (fun i hi => ((hk_neq (fun z => by subst z; cases hi)).trans ((e8_I15 i (hk_ms rfl hi)).trans ((e8 i (hk_ms rfl hi)).trans rfl)))) (show (qm_up I15 118 11 v33) 118 11 = _ from (hk_same)) (show (qm_up I15 118 11 v33) 118 13 = _ from ((hk_neq (by decide)).trans q_f18)) (show (qm_up I15 118 11 v33) 118 37 = _ from ((hk_neq (by decide)).trans q_c19)) (show (qm_up I15 118 11 v33) 118 12 = _ from ((hk_neq (by decide)).trans q_o20)) (show (qm_up I15 118 11 v33) 118 30 = _ from ((hk_neq (by decide)).trans q_l21)) (by omega) (by omega) (by omega) (by omega) (pa_cg A9_I15 (fun i => ((hk_ot rfl).trans rfl)) (fun i => ((hk_ot rfl).trans rfl))) (pl_cg M_I15 (fun i => ((hk_ot rfl).trans rfl)) (fun i => ((hk_ot rfl).trans rfl)) (fun i => ((hk_ot rfl).trans rfl))) (fun z => ru_sm (R_I15 (by omega)) (fun i => ((hk_ot rfl).trans rfl)) (fun i => ((hk_ot rfl).trans rfl)) (fun i => ((hk_ot rfl).trans rfl)) (fun i => ((hk_ot rfl).trans rfl)) (fun i => ((hk_ot rfl).trans rfl))) (by omega) (by omega) na
            · refine qm_Ru.go 2 (c' := (12, [.ref 118], [.int 2, .ref 118], (h.1, I15, J16, h.2.2.2))) rfl ?_
              refine hk_inv (o := 118) (r := []) (as := [.ref 118, .int 2]) rfl rfl (hH.1 118 (17, 105) rfl) rfl rfl rfl rfl ?_
              refine qm_Ru.go 1 (c' := (1, [.ref 118, .int 2], [.ref 118], (h.1, I15, J16, h.2.2.2))) rfl ?_
              refine hk_geti (v := f18) rfl (hH.1 118 (17, 105) rfl) rfl q_f18 ?_
              refine qm_Ru.go 0 (c' := (4, [.ref 118, .int 2], [.int f18], (h.1, I15, J16, h.2.2.2))) rfl ?_
              refine hk_zle (ix := f18.toInt) rfl rfl (fun z34 => ?_) (fun z34 => by exfalso; omega)
              refine qm_Ru.go 2 (c' := (10, [.ref 118, .int 2], [.int 2, .ref 118], (h.1, I15, J16, h.2.2.2))) rfl ?_
              refine hk_puti rfl (hH.1 118 (17, 105) rfl) rfl ?_
              refine qm_Ru.go 2 (c' := (15, [.ref 118, .int 2], [.ref 118, .ref 118], (h.1, qm_up I15 118 13 2, J16, h.2.2.2))) rfl ?_
              refine hk_getr rfl (hH.1 118 (17, 105) rfl) rfl (hH.2 118 6 (some 122) rfl) ?_
              refine qm_Ru.go 1 (c' := (19, [.ref 118, .int 2], [.ref 118, .ref 122, .ref 118], (h.1, qm_up I15 118 13 2, J16, h.2.2.2))) rfl ?_
              refine hk_geti (v := t17) rfl (hH.1 118 (17, 105) rfl) rfl (show (qm_up I15 118 13 2) 118 11 = _ from ((hk_neq (by decide)).trans q_t17)) ?_
              refine qm_Ru.go 0 (c' := (22, [.ref 118, .int 2], [.int t17, .ref 122, .ref 118], (h.1, qm_up I15 118 13 2, J16, h.2.2.2))) rfl ?_
              obtain ⟨v35, q_v35⟩ : ∃ v, h.2.1 122 (t17.toInt.toNat) = v := ⟨_, rfl⟩
              refine hk_ial (v := v35) rfl (hH.1 122 (0, 403) rfl) (by omega) (by omega) (show (qm_up I15 118 13 2) 122 (t17.toInt.toNat) = _ from ((hk_ot rfl).trans ((e_I15 122 rfl (t17.toInt.toNat)).trans ((e 122 rfl (t17.toInt.toNat)).trans q_v35)))) ?_
              refine qm_Ru.go 0 (c' := (23, [.ref 118, .int 2], [.int v35, .ref 118], (h.1, qm_up I15 118 13 2, J16, h.2.2.2))) rfl ?_
              refine hk_puti rfl (hH.1 118 (17, 105) rfl) rfl ?_
              refine qm_Ru.go 0 (c' := (26, [.ref 118, .int 2], [], (h.1, qm_up (qm_up I15 118 13 2) 118 14 v35, J16, h.2.2.2))) rfl ?_
              refine qm_Ru.rt (v := none) (h' := (h.1, qm_up (qm_up I15 118 13 2) 118 14 v35, J16, h.2.2.2)) rfl ?_
              refine qm_Ru.go 1 (c' := (28, [.ref 118], [], (h.1, qm_up (qm_up I15 118 13 2) 118 14 v35, J16, h.2.2.2))) rfl ?_
              refine qm_Ru.rt (v := none) (h' := (h.1, qm_up (qm_up I15 118 13 2) 118 14 v35, J16, h.2.2.2)) rfl ?_
              refine qm_Ru.go 1 (c' := (113, [.ref 118, .int r, .int na, .int 1, .int 1], [], (h.1, qm_up (qm_up I15 118 13 2) 118 14 v35, J16, h.2.2.2))) rfl ?_
              exact ih (m - 1) (by omega) (qm_up (qm_up I15 118 13 2) 118 14 v35) (J16) t17 2 c19 o20 l21 1 1 (hb_up (o := 118) (k := 14) (x := v35) (hb_up (o := 118) (k := 13) (x := 2) hB_I15 (qa_in_full _)) (qa_in_full _)) (fun o ho i => ((hk_mod ho rfl).trans ((hk_mod ho rfl).trans ((e_I15 o (hk_ms rfl ho) i).trans ((e o (hk_ms rfl ho) i).trans rfl))))) (fun i hi => ((hk_neq (fun z => by subst z; cases hi)).trans ((hk_neq (fun z => by subst z; cases hi)).trans ((e8_I15 i (hk_ms rfl hi)).trans ((e8 i (hk_ms rfl hi)).trans rfl))))) (show (qm_up (qm_up I15 118 13 2) 118 14 v35) 118 11 = _ from ((hk_neq (by decide)).trans ((hk_neq (by decide)).trans q_t17))) (show (qm_up (qm_up I15 118 13 2) 118 14 v35) 118 13 = _ from ((hk_neq (by decide)).trans (hk_same))) (show (qm_up (qm_up I15 118 13 2) 118 14 v35) 118 37 = _ from ((hk_neq (by decide)).trans ((hk_neq (by decide)).trans q_c19))) (show (qm_up (qm_up I15 118 13 2) 118 14 v35) 118 12 = _ from ((hk_neq (by decide)).trans ((hk_neq (by decide)).trans q_o20))) (show (qm_up (qm_up I15 118 13 2) 118 14 v35) 118 30 = _ from ((hk_neq (by decide)).trans ((hk_neq (by decide)).trans q_l21))) (by omega) (by omega) (by omega) (by omega) (pa_cg A9_I15 (fun i => ((hk_ot rfl).trans ((hk_ot rfl).trans rfl))) (fun i => ((hk_ot rfl).trans ((hk_ot rfl).trans rfl)))) (pl_cg M_I15 (fun i => ((hk_ot rfl).trans ((hk_ot rfl).trans rfl))) (fun i => ((hk_ot rfl).trans ((hk_ot rfl).trans rfl))) (fun i => ((hk_ot rfl).trans ((hk_ot rfl).trans rfl)))) (fun z => ru_sm (R_I15 (by omega)) (fun i => ((hk_ot rfl).trans ((hk_ot rfl).trans rfl))) (fun i => ((hk_ot rfl).trans ((hk_ot rfl).trans rfl))) (fun i => ((hk_ot rfl).trans ((hk_ot rfl).trans rfl))) (fun i => ((hk_ot rfl).trans ((hk_ot rfl).trans rfl))) (fun i => ((hk_ot rfl).trans ((hk_ot rfl).trans rfl)))) (by omega) (by omega) na
