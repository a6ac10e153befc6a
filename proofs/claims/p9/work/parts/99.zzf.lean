/-! conditions of the reference as they are read -/
theorem wo_pop {w : Nat → Int} {n : Nat} (h : 1 ≤ n) (h6 : ¬ w (n - 1) = 6) : wo w (n - 1) = wo w n := by
  obtain ⟨m, rfl⟩ : ∃ m, n = m + 1 := ⟨n - 1, by omega⟩
  show wo w m = wo w m + (if w m = 6 then 1 else 0)
  rw [if_neg (show ¬ w m = 6 from h6), Nat.add_zero]
theorem wo_6 {w : Nat → Int} {n : Nat} (h : 1 ≤ n) (h6 : w (n - 1) = 6) : wo w (n - 1) + 1 = wo w n := by
  obtain ⟨m, rfl⟩ : ∃ m, n = m + 1 := ⟨n - 1, by omega⟩
  show wo w m + 1 = wo w m + (if w m = 6 then 1 else 0)
  rw [if_pos (show w m = 6 from h6)]
theorem ws_pop1 {w : Nat → Int} {n : Nat} (h : ws w n) : ws w (n - 1) := fun k hk => h k (by omega)
/-- items so far: the height is a and the signs that wait and are no open -/
noncomputable def pq (I : Nat → Nat → Int32) (lf : Nat) (a : Int) (cd wt : Int32) : Prop := pf_seg (pI I 141) (pI I 142) lf cd.toInt.toNat ∧ ht (pI I 141) lf (cd.toInt.toNat - lf) = a + wt.toInt - (wo (pI I 143) wt.toInt.toNat : Int)
/-- items below stay -/
noncomputable def pa (I0 I : Nat → Nat → Int32) (lo hi : Int) : Prop := ∀ i : Nat, (i : Int) < lo ∨ hi ≤ (i : Int) → I 141 i = I0 141 i ∧ I 142 i = I0 142 i
theorem pa_tr {I0 I1 I2 : Nat → Nat → Int32} {lo lo' hi : Int} (h : pa I0 I1 lo hi) (g : pa I1 I2 lo' hi) (hl : lo ≤ lo') : pa I0 I2 lo hi := fun i hi => ⟨((g i (by omega)).1).trans (h i hi).1, ((g i (by omega)).2).trans (h i hi).2⟩
theorem pa_up {I0 I : Nat → Nat → Int32} {lo hi : Int} {k : Nat} {x y : Int32} (h : pa I0 I lo hi) (hk : lo ≤ (k : Int) ∧ (k : Int) < hi) : pa I0 (qm_up (qm_up I 141 k x) 142 k y) lo hi := fun i hi => ⟨((hk_ot rfl).trans (hk_neq (by omega))).trans (h i hi).1, ((hk_neq (by omega)).trans (hk_ot rfl)).trans (h i hi).2⟩
theorem pa_cg {I0 I I' : Nat → Nat → Int32} {lo hi : Int} (h : pa I0 I lo hi) (e1 : ∀ i, I' 141 i = I 141 i) (e2 : ∀ i, I' 142 i = I 142 i) : pa I0 I' lo hi := fun i hi => ⟨(e1 i).trans (h i hi).1, (e2 i).trans (h i hi).2⟩
theorem hl_co {L : Nat} {xs : Nat → Int32} {d : Nat} {Z : Option Value → qm_H → Prop} {h : qm_H} (hH : hk_H h) (hB : hk_B h.2.1) {sg : Int32} (hsg : 0 ≤ sg.toInt ∧ sg.toInt ≤ 1) {lo c1 : Int} {o1 lf : Nat} {pz : Prop} (h0 : 0 ≤ lo) (hc1 : c1 ≤ 839) (hlf : pz → c1 ≤ (lf : Int) + 400) {hi : Int} (hhi : c1 ≤ hi) (k : ∀ (I : Nat → Nat → Int32) (J : Nat → Nat → Int64) (cd wt : Int32), hk_B I → (∀ o, [118, 141, 142].contains o = false → ∀ i, I o i = h.2.1 o i) → (∀ i, [37, 41].contains i = false → I 118 i = h.2.1 118 i) → I 118 37 = cd → I 118 41 = wt → (0 ≤ wt.toInt ∧ wt.toInt ≤ 64) → (lo ≤ cd.toInt ∧ cd.toInt + wt.toInt = c1) → ws (pI I 143) wt.toInt.toNat → wo (pI I 143) wt.toInt.toNat = o1 → pa h.2.1 I lo hi → (pz → pq I lf 1 cd wt) → (wt.toInt = 0 ∨ pI I 143 (wt.toInt.toNat - 1) = 6 ∨ (sg.toInt = 1 ∧ (pI I 143 (wt.toInt.toNat - 1) = 8 ∨ pI I 143 (wt.toInt.toNat - 1) = 9))) → Z none (h.1, I, J, h.2.2.2)) : ∀ (m : Nat) (I : Nat → Nat → Int32) (J : Nat → Nat → Int64) (cd wt : Int32) (l2 : Value), (hk_B I) → ((∀ o, [118, 141, 142].contains o = false → ∀ i, I o i = h.2.1 o i)) → ((∀ i, [37, 41].contains i = false → I 118 i = h.2.1 118 i)) → (I 118 37 = cd) → (I 118 41 = wt) → ((0 ≤ wt.toInt ∧ wt.toInt ≤ 64)) → ((lo ≤ cd.toInt ∧ cd.toInt + wt.toInt = c1)) → (ws (pI I 143) wt.toInt.toNat) → (wo (pI I 143) wt.toInt.toNat = o1) → (pa h.2.1 I lo hi) → ((pz → pq I lf 1 cd wt)) → wt.toInt.toNat = m → qm_Ru (some (L, xs)) (d + 3) cd_267 (0, [.ref 118, .int sg, l2], [], (h.1, I, J, h.2.2.2)) Z := by
  intro m
  induction m using Nat.strongRecOn with
  | ind m ih =>
    intro I J cd wt l2 hBI e e8 q_cd q_wt hwt hcd hW hO hA hP hm
    refine qm_Ru.go 1 (c' := (1, [.ref 118, .int sg, l2], [.ref 118], (h.1, I, J, h.2.2.2))) rfl ?_
    refine hk_geti (v := wt) rfl (hH.1 118 (17, 105) rfl) rfl q_wt ?_
    refine qm_Ru.go 0 (c' := (4, [.ref 118, .int sg, l2], [.int wt], (h.1, I, J, h.2.2.2))) rfl ?_
    refine hk_zle (ix := wt.toInt) rfl rfl (fun z1 => ?_) (fun z1 => ?_)
    · refine qm_Ru.go 0 (c' := (81, [.ref 118, .int sg, l2], [], (h.1, I, J, h.2.2.2))) rfl ?_
      refine qm_Ru.rt (v := none) (h' := (h.1, I, J, h.2.2.2)) rfl ?_
      exact k I J cd wt hBI e e8 q_cd q_wt (by omega) (by omega) hW hO hA hP (Or.inl (by omega))
    · refine qm_Ru.go 1 (c' := (8, [.ref 118, .int sg, l2], [.ref 118], (h.1, I, J, h.2.2.2))) rfl ?_
      refine hk_getr rfl (hH.1 118 (17, 105) rfl) rfl (hH.2 118 40 (some 143) rfl) ?_
      refine qm_Ru.go 1 (c' := (12, [.ref 118, .int sg, l2], [.ref 118, .ref 143], (h.1, I, J, h.2.2.2))) rfl ?_
      refine hk_geti (v := wt) rfl (hH.1 118 (17, 105) rfl) rfl q_wt ?_
      refine qm_Ru.go 2 (c' := (17, [.ref 118, .int sg, l2], [.int (wt - 1), .ref 143], (h.1, I, J, h.2.2.2))) rfl ?_
      obtain ⟨v2, q_v2, e_v2⟩ := hk_sub (x := wt) (y := 1) (a := wt.toInt) (b := 1) rfl rfl (by omega) (by omega)
      rw [q_v2]
      obtain ⟨v3, q_v3⟩ : ∃ v, h.2.1 143 (v2.toInt.toNat) = v := ⟨_, rfl⟩
      have b_v3 : (0 : Int) ≤ v3.toInt ∧ v3.toInt ≤ 44 := by rw [← q_v3]; exact hB 143 (v2.toInt.toNat)
      refine hk_ial (v := v3) rfl (hH.1 143 (0, 64) rfl) (by omega) (by omega) (show (I) 143 (v2.toInt.toNat) = _ from ((e 143 rfl (v2.toInt.toNat)).trans q_v3)) ?_
      refine qm_Ru.go 0 (c' := (18, [.ref 118, .int sg, l2], [.int v3], (h.1, I, J, h.2.2.2))) rfl ?_
      have hw143 : pI I 143 (wt.toInt.toNat - 1) = v3.toInt := by rw [show wt.toInt.toNat - 1 = v2.toInt.toNat from by omega]; exact congrArg Int32.toInt ((e 143 rfl _).trans q_v3)
      have hws := hW (wt.toInt.toNat - 1) (by omega)
      rw [hw143] at hws
      refine qm_Ru.go 3 (c' := (22, [.ref 118, .int sg, .int v3], [.int 6, .int v3], (h.1, I, J, h.2.2.2))) rfl ?_
      refine hk_ceq (ix := v3.toInt) (iy := 6) rfl rfl rfl (fun z4 => ?_) (fun z4 => ?_)
      · refine qm_Ru.go 0 (c' := (41, [.ref 118, .int sg, .int v3], [], (h.1, I, J, h.2.2.2))) rfl ?_
        refine qm_Ru.rt (v := none) (h' := (h.1, I, J, h.2.2.2)) rfl ?_
        exact k I J cd wt hBI e e8 q_cd q_wt (by omega) (by omega) hW hO hA hP (by rw [hw143]; omega)
      · refine qm_Ru.go 1 (c' := (26, [.ref 118, .int sg, .int v3], [.int sg], (h.1, I, J, h.2.2.2))) rfl ?_
        refine hk_zeq (ix := sg.toInt) rfl rfl (fun z5 => ?_) (fun z5 => ?_)
        · refine qm_Ru.go 2 (c' := (44, [.ref 118, .int sg, .int v3], [.ref 118, .ref 118], (h.1, I, J, h.2.2.2))) rfl ?_
          refine hk_geti (v := wt) rfl (hH.1 118 (17, 105) rfl) rfl q_wt ?_
          refine qm_Ru.go 2 (c' := (49, [.ref 118, .int sg, .int v3], [.int (wt - 1), .ref 118], (h.1, I, J, h.2.2.2))) rfl ?_
          rw [q_v2]
          refine hk_puti rfl (hH.1 118 (17, 105) rfl) rfl ?_
          refine qm_Ru.go 3 (c' := (56, [.ref 118, .int sg, .int v3], [.int 8, .int v3, .ref 118], (h.1, qm_up I 118 41 v2, J, h.2.2.2))) rfl ?_
          refine hk_cne (ix := v3.toInt) (iy := 8) rfl rfl rfl (fun z7 => ?_) (fun z7 => ?_)
          · refine qm_Ru.go 2 (c' := (66, [.ref 118, .int sg, .int v3], [.int 9, .int v3, .ref 118], (h.1, qm_up I 118 41 v2, J, h.2.2.2))) rfl ?_
            refine hk_cne (ix := v3.toInt) (iy := 9) rfl rfl rfl (fun z8 => ?_) (fun z8 => ?_)
            · refine qm_Ru.go 2 (c' := (75, [.ref 118, .int sg, .int v3], [.int 0, .int 4, .ref 118], (h.1, qm_up I 118 41 v2, J, h.2.2.2))) rfl ?_
              refine hk_inv (o := 118) (r := []) (as := [.ref 118, .int 4, .int 0]) rfl rfl (hH.1 118 (17, 105) rfl) rfl rfl rfl rfl ?_
              refine qm_Ru.go 1 (c' := (1, [.ref 118, .int 4, .int 0], [.ref 118], (h.1, qm_up I 118 41 v2, J, h.2.2.2))) rfl ?_
              refine hk_getr rfl (hH.1 118 (17, 105) rfl) rfl (hH.2 118 38 (some 141) rfl) ?_
              refine qm_Ru.go 1 (c' := (5, [.ref 118, .int 4, .int 0], [.ref 118, .ref 141], (h.1, qm_up I 118 41 v2, J, h.2.2.2))) rfl ?_
              refine hk_geti (v := cd) rfl (hH.1 118 (17, 105) rfl) rfl (show (qm_up I 118 41 v2) 118 37 = _ from ((hk_neq (by decide)).trans q_cd)) ?_
              refine qm_Ru.go 1 (c' := (9, [.ref 118, .int 4, .int 0], [.int 4, .int cd, .ref 141], (h.1, qm_up I 118 41 v2, J, h.2.2.2))) rfl ?_
              refine hk_ias rfl (hH.1 141 (0, 840) rfl) (by omega) (by omega) ?_
              refine qm_Ru.go 1 (c' := (11, [.ref 118, .int 4, .int 0], [.ref 118], (h.1, qm_up (qm_up I 118 41 v2) 141 (cd.toInt.toNat) 4, J, h.2.2.2))) rfl ?_
              refine hk_getr rfl (hH.1 118 (17, 105) rfl) rfl (hH.2 118 39 (some 142) rfl) ?_
              refine qm_Ru.go 1 (c' := (15, [.ref 118, .int 4, .int 0], [.ref 118, .ref 142], (h.1, qm_up (qm_up I 118 41 v2) 141 (cd.toInt.toNat) 4, J, h.2.2.2))) rfl ?_
              refine hk_geti (v := cd) rfl (hH.1 118 (17, 105) rfl) rfl (show (qm_up (qm_up I 118 41 v2) 141 (cd.toInt.toNat) 4) 118 37 = _ from ((hk_ot rfl).trans ((hk_neq (by decide)).trans q_cd))) ?_
              refine qm_Ru.go 1 (c' := (19, [.ref 118, .int 4, .int 0], [.int 0, .int cd, .ref 142], (h.1, qm_up (qm_up I 118 41 v2) 141 (cd.toInt.toNat) 4, J, h.2.2.2))) rfl ?_
              refine hk_ias rfl (hH.1 142 (0, 840) rfl) (by omega) (by omega) ?_
              refine qm_Ru.go 2 (c' := (22, [.ref 118, .int 4, .int 0], [.ref 118, .ref 118], (h.1, qm_up (qm_up (qm_up I 118 41 v2) 141 (cd.toInt.toNat) 4) 142 (cd.toInt.toNat) 0, J, h.2.2.2))) rfl ?_
              refine hk_geti (v := cd) rfl (hH.1 118 (17, 105) rfl) rfl (show (qm_up (qm_up (qm_up I 118 41 v2) 141 (cd.toInt.toNat) 4) 142 (cd.toInt.toNat) 0) 118 37 = _ from ((hk_ot rfl).trans ((hk_ot rfl).trans ((hk_neq (by decide)).trans q_cd)))) ?_
              refine qm_Ru.go 2 (c' := (27, [.ref 118, .int 4, .int 0], [.int (cd + 1), .ref 118], (h.1, qm_up (qm_up (qm_up I 118 41 v2) 141 (cd.toInt.toNat) 4) 142 (cd.toInt.toNat) 0, J, h.2.2.2))) rfl ?_
              obtain ⟨v9, q_v9, e_v9⟩ := hk_add (x := cd) (y := 1) (a := cd.toInt) (b := 1) rfl rfl (by omega) (by omega)
              rw [q_v9]
              refine hk_puti rfl (hH.1 118 (17, 105) rfl) rfl ?_
              refine qm_Ru.go 0 (c' := (30, [.ref 118, .int 4, .int 0], [], (h.1, qm_up (qm_up (qm_up (qm_up I 118 41 v2) 141 (cd.toInt.toNat) 4) 142 (cd.toInt.toNat) 0) 118 37 v9, J, h.2.2.2))) rfl ?_
              refine qm_Ru.rt (v := none) (h' := (h.1, qm_up (qm_up (qm_up (qm_up I 118 41 v2) 141 (cd.toInt.toNat) 4) 142 (cd.toInt.toNat) 0) 118 37 v9, J, h.2.2.2)) rfl ?_
              refine qm_Ru.go 1 (c' := (0, [.ref 118, .int sg, .int v3], [], (h.1, qm_up (qm_up (qm_up (qm_up I 118 41 v2) 141 (cd.toInt.toNat) 4) 142 (cd.toInt.toNat) 0) 118 37 v9, J, h.2.2.2))) rfl ?_
              have e143 : pI (qm_up (qm_up (qm_up (qm_up I 118 41 v2) 141 (cd.toInt.toNat) 4) 142 (cd.toInt.toNat) 0) 118 37 v9) 143 = pI I 143 := ((pI_sk rfl).trans ((pI_sk rfl).trans ((pI_sk rfl).trans ((pI_sk rfl).trans rfl))))
              have n6 : ¬ pI I 143 (wt.toInt.toNat - 1) = 6 := by rw [hw143]; omega
              have ew : v2.toInt.toNat = wt.toInt.toNat - 1 := by omega
              have wp := wo_pop (w := pI I 143) (n := wt.toInt.toNat) (by omega) n6
              have wl := wo_le (w := pI I 143) (wt.toInt.toNat - 1)
              refine ih _ (by omega) (qm_up (qm_up (qm_up (qm_up I 118 41 v2) 141 (cd.toInt.toNat) 4) 142 (cd.toInt.toNat) 0) 118 37 v9) (J) v9 v2 (.int v3) (hb_up (o := 118) (k := 37) (x := v9) (hb_up (o := 142) (k := cd.toInt.toNat) (x := 0) (hb_up (o := 141) (k := cd.toInt.toNat) (x := 4) (hb_up (o := 118) (k := 41) (x := v2) hBI ⟨by show (0 : Int) ≤ v2.toInt; omega, by show v2.toInt ≤ (64 : Int); omega⟩) ⟨(show (0 : Int) ≤ 4 from by decide), (show (4 : Int) ≤ 4 from by decide)⟩) (qa_in_full _)) ⟨by show (0 : Int) ≤ v9.toInt; omega, by show v9.toInt ≤ (840 : Int); omega⟩) (fun o ho i => ((hk_mod ho rfl).trans ((hk_mod ho rfl).trans ((hk_mod ho rfl).trans ((hk_mod ho rfl).trans ((e o (hk_ms rfl ho) i).trans rfl)))))) (fun i hi => ((hk_neq (fun z => by subst z; cases hi)).trans ((hk_ot rfl).trans ((hk_ot rfl).trans ((hk_neq (fun z => by subst z; cases hi)).trans ((e8 i (hk_ms rfl hi)).trans rfl)))))) (hk_same) ((hk_neq (by decide)).trans ((hk_ot rfl).trans ((hk_ot rfl).trans (hk_same)))) (by omega) (by omega) (by rw [e143, ew]; exact ws_pop1 hW) (by rw [e143, ew, wp]; exact hO) ?_ ?_ rfl
              · exact (pa_cg (pa_up (x := 4) (y := 0) (k := cd.toInt.toNat) (pa_cg hA (fun i => ((hk_ot rfl).trans rfl)) (fun i => ((hk_ot rfl).trans rfl))) (by omega)) (fun i => ((hk_ot rfl).trans rfl)) (fun i => ((hk_ot rfl).trans rfl)))
              · intro z
                obtain ⟨p1, p2⟩ := hP z
                have hz := hlf z
                have hlc := p1.1
                obtain ⟨g1, g2⟩ := pf_more (k := Int32.toInt 4) (v := Int32.toInt 0) p1 (by omega) (fun y => absurd y (by decide)) (fun _ => by omega)
                unfold pq
                rw [e143, show pI (qm_up (qm_up (qm_up (qm_up I 118 41 v2) 141 (cd.toInt.toNat) 4) 142 (cd.toInt.toNat) 0) 118 37 v9) 141 = fu_up (pI I 141) cd.toInt.toNat (Int32.toInt 4) from ((pI_sk rfl).trans ((pI_sk rfl).trans (pI_up.trans (congrArg (fun f => fu_up f cd.toInt.toNat (Int32.toInt 4)) ((pI_sk rfl).trans rfl))))), show pI (qm_up (qm_up (qm_up (qm_up I 118 41 v2) 141 (cd.toInt.toNat) 4) 142 (cd.toInt.toNat) 0) 118 37 v9) 142 = fu_up (pI I 142) cd.toInt.toNat (Int32.toInt 0) from ((pI_sk rfl).trans (pI_up.trans (congrArg (fun f => fu_up f cd.toInt.toNat (Int32.toInt 0)) ((pI_sk rfl).trans ((pI_sk rfl).trans rfl))))), show v9.toInt.toNat = cd.toInt.toNat + 1 from by omega, ew, wp]
                refine ⟨g1, g2.trans ?_⟩
                rw [if_neg (by decide), p2]
                omega
            · refine qm_Ru.go 3 (c' := (75, [.ref 118, .int sg, .int v3], [.int 0, .int 3, .ref 118], (h.1, qm_up I 118 41 v2, J, h.2.2.2))) rfl ?_
              refine hk_inv (o := 118) (r := []) (as := [.ref 118, .int 3, .int 0]) rfl rfl (hH.1 118 (17, 105) rfl) rfl rfl rfl rfl ?_
              refine qm_Ru.go 1 (c' := (1, [.ref 118, .int 3, .int 0], [.ref 118], (h.1, qm_up I 118 41 v2, J, h.2.2.2))) rfl ?_
              refine hk_getr rfl (hH.1 118 (17, 105) rfl) rfl (hH.2 118 38 (some 141) rfl) ?_
              refine qm_Ru.go 1 (c' := (5, [.ref 118, .int 3, .int 0], [.ref 118, .ref 141], (h.1, qm_up I 118 41 v2, J, h.2.2.2))) rfl ?_
              refine hk_geti (v := cd) rfl (hH.1 118 (17, 105) rfl) rfl (show (qm_up I 118 41 v2) 118 37 = _ from ((hk_neq (by decide)).trans q_cd)) ?_
              refine qm_Ru.go 1 (c' := (9, [.ref 118, .int 3, .int 0], [.int 3, .int cd, .ref 141], (h.1, qm_up I 118 41 v2, J, h.2.2.2))) rfl ?_
              refine hk_ias rfl (hH.1 141 (0, 840) rfl) (by omega) (by omega) ?_
              refine qm_Ru.go 1 (c' := (11, [.ref 118, .int 3, .int 0], [.ref 118], (h.1, qm_up (qm_up I 118 41 v2) 141 (cd.toInt.toNat) 3, J, h.2.2.2))) rfl ?_
              refine hk_getr rfl (hH.1 118 (17, 105) rfl) rfl (hH.2 118 39 (some 142) rfl) ?_
              refine qm_Ru.go 1 (c' := (15, [.ref 118, .int 3, .int 0], [.ref 118, .ref 142], (h.1, qm_up (qm_up I 118 41 v2) 141 (cd.toInt.toNat) 3, J, h.2.2.2))) rfl ?_
              refine hk_geti (v := cd) rfl (hH.1 118 (17, 105) rfl) rfl (show (qm_up (qm_up I 118 41 v2) 141 (cd.toInt.toNat) 3) 118 37 = _ from ((hk_ot rfl).trans ((hk_neq (by decide)).trans q_cd))) ?_
              refine qm_Ru.go 1 (c' := (19, [.ref 118, .int 3, .int 0], [.int 0, .int cd, .ref 142], (h.1, qm_up (qm_up I 118 41 v2) 141 (cd.toInt.toNat) 3, J, h.2.2.2))) rfl ?_
              refine hk_ias rfl (hH.1 142 (0, 840) rfl) (by omega) (by omega) ?_
              refine qm_Ru.go 2 (c' := (22, [.ref 118, .int 3, .int 0], [.ref 118, .ref 118], (h.1, qm_up (qm_up (qm_up I 118 41 v2) 141 (cd.toInt.toNat) 3) 142 (cd.toInt.toNat) 0, J, h.2.2.2))) rfl ?_
              refine hk_geti (v := cd) rfl (hH.1 118 (17, 105) rfl) rfl (show (qm_up (qm_up (qm_up I 118 41 v2) 141 (cd.toInt.toNat) 3) 142 (cd.toInt.toNat) 0) 118 37 = _ from ((hk_ot rfl).trans ((hk_ot rfl).trans ((hk_neq (by decide)).trans q_cd)))) ?_
              refine qm_Ru.go 2 (c' := (27, [.ref 118, .int 3, .int 0], [.int (cd + 1), .ref 118], (h.1, qm_up (qm_up (qm_up I 118 41 v2) 141 (cd.toInt.toNat) 3) 142 (cd.toInt.toNat) 0, J, h.2.2.2))) rfl ?_
              obtain ⟨v10, q_v10, e_v10⟩ := hk_add (x := cd) (y := 1) (a := cd.toInt) (b := 1) rfl rfl (by omega) (by omega)
              rw [q_v10]
              refine hk_puti rfl (hH.1 118 (17, 105) rfl) rfl ?_
              refine qm_Ru.go 0 (c' := (30, [.ref 118, .int 3, .int 0], [], (h.1, qm_up (qm_up (qm_up (qm_up I 118 41 v2) 141 (cd.toInt.toNat) 3) 142 (cd.toInt.toNat) 0) 118 37 v10, J, h.2.2.2))) rfl ?_
              refine qm_Ru.rt (v := none) (h' := (h.1, qm_up (qm_up (qm_up (qm_up I 118 41 v2) 141 (cd.toInt.toNat) 3) 142 (cd.toInt.toNat) 0) 118 37 v10, J, h.2.2.2)) rfl ?_
              refine qm_Ru.go 1 (c' := (0, [.ref 118, .int sg, .int v3], [], (h.1, qm_up (qm_up (qm_up (qm_up I 118 41 v2) 141 (cd.toInt.toNat) 3) 142 (cd.toInt.toNat) 0) 118 37 v10, J, h.2.2.2))) rfl ?_
              have e143 : pI (qm_up (qm_up (qm_up (qm_up I 118 41 v2) 141 (cd.toInt.toNat) 3) 142 (cd.toInt.toNat) 0) 118 37 v10) 143 = pI I 143 := ((pI_sk rfl).trans ((pI_sk rfl).trans ((pI_sk rfl).trans ((pI_sk rfl).trans rfl))))
              have n6 : ¬ pI I 143 (wt.toInt.toNat - 1) = 6 := by rw [hw143]; omega
              have ew : v2.toInt.toNat = wt.toInt.toNat - 1 := by omega
              have wp := wo_pop (w := pI I 143) (n := wt.toInt.toNat) (by omega) n6
              have wl := wo_le (w := pI I 143) (wt.toInt.toNat - 1)
              refine ih _ (by omega) (qm_up (qm_up (qm_up (qm_up I 118 41 v2) 141 (cd.toInt.toNat) 3) 142 (cd.toInt.toNat) 0) 118 37 v10) (J) v10 v2 (.int v3) (hb_up (o := 118) (k := 37) (x := v10) (hb_up (o := 142) (k := cd.toInt.toNat) (x := 0) (hb_up (o := 141) (k := cd.toInt.toNat) (x := 3) (hb_up (o := 118) (k := 41) (x := v2) hBI ⟨by show (0 : Int) ≤ v2.toInt; omega, by show v2.toInt ≤ (64 : Int); omega⟩) ⟨(show (0 : Int) ≤ 3 from by decide), (show (3 : Int) ≤ 4 from by decide)⟩) (qa_in_full _)) ⟨by show (0 : Int) ≤ v10.toInt; omega, by show v10.toInt ≤ (840 : Int); omega⟩) (fun o ho i => ((hk_mod ho rfl).trans ((hk_mod ho rfl).trans ((hk_mod ho rfl).trans ((hk_mod ho rfl).trans ((e o (hk_ms rfl ho) i).trans rfl)))))) (fun i hi => ((hk_neq (fun z => by subst z; cases hi)).trans ((hk_ot rfl).trans ((hk_ot rfl).trans ((hk_neq (fun z => by subst z; cases hi)).trans ((e8 i (hk_ms rfl hi)).trans rfl)))))) (hk_same) ((hk_neq (by decide)).trans ((hk_ot rfl).trans ((hk_ot rfl).trans (hk_same)))) (by omega) (by omega) (by rw [e143, ew]; exact ws_pop1 hW) (by rw [e143, ew, wp]; exact hO) ?_ ?_ rfl
              · exact (pa_cg (pa_up (x := 3) (y := 0) (k := cd.toInt.toNat) (pa_cg hA (fun i => ((hk_ot rfl).trans rfl)) (fun i => ((hk_ot rfl).trans rfl))) (by omega)) (fun i => ((hk_ot rfl).trans rfl)) (fun i => ((hk_ot rfl).trans rfl)))
              · intro z
                obtain ⟨p1, p2⟩ := hP z
                have hz := hlf z
                have hlc := p1.1
                obtain ⟨g1, g2⟩ := pf_more (k := Int32.toInt 3) (v := Int32.toInt 0) p1 (by omega) (fun y => absurd y (by decide)) (fun _ => by omega)
                unfold pq
                rw [e143, show pI (qm_up (qm_up (qm_up (qm_up I 118 41 v2) 141 (cd.toInt.toNat) 3) 142 (cd.toInt.toNat) 0) 118 37 v10) 141 = fu_up (pI I 141) cd.toInt.toNat (Int32.toInt 3) from ((pI_sk rfl).trans ((pI_sk rfl).trans (pI_up.trans (congrArg (fun f => fu_up f cd.toInt.toNat (Int32.toInt 3)) ((pI_sk rfl).trans rfl))))), show pI (qm_up (qm_up (qm_up (qm_up I 118 41 v2) 141 (cd.toInt.toNat) 3) 142 (cd.toInt.toNat) 0) 118 37 v10) 142 = fu_up (pI I 142) cd.toInt.toNat (Int32.toInt 0) from ((pI_sk rfl).trans (pI_up.trans (congrArg (fun f => fu_up f cd.toInt.toNat (Int32.toInt 0)) ((pI_sk rfl).trans ((pI_sk rfl).trans rfl))))), show v10.toInt.toNat = cd.toInt.toNat + 1 from by omega, ew, wp]
                refine ⟨g1, g2.trans ?_⟩
                rw [if_neg (by decide), p2]
                omega
          · refine qm_Ru.go 3 (c' := (75, [.ref 118, .int sg, .int v3], [.int 0, .int 2, .ref 118], (h.1, qm_up I 118 41 v2, J, h.2.2.2))) rfl ?_
            refine hk_inv (o := 118) (r := []) (as := [.ref 118, .int 2, .int 0]) rfl rfl (hH.1 118 (17, 105) rfl) rfl rfl rfl rfl ?_
            refine qm_Ru.go 1 (c' := (1, [.ref 118, .int 2, .int 0], [.ref 118], (h.1, qm_up I 118 41 v2, J, h.2.2.2))) rfl ?_
            refine hk_getr rfl (hH.1 118 (17, 105) rfl) rfl (hH.2 118 38 (some 141) rfl) ?_
            refine qm_Ru.go 1 (c' := (5, [.ref 118, .int 2, .int 0], [.ref 118, .ref 141], (h.1, qm_up I 118 41 v2, J, h.2.2.2))) rfl ?_
            refine hk_geti (v := cd) rfl (hH.1 118 (17, 105) rfl) rfl (show (qm_up I 118 41 v2) 118 37 = _ from ((hk_neq (by decide)).trans q_cd)) ?_
            refine qm_Ru.go 1 (c' := (9, [.ref 118, .int 2, .int 0], [.int 2, .int cd, .ref 141], (h.1, qm_up I 118 41 v2, J, h.2.2.2))) rfl ?_
            refine hk_ias rfl (hH.1 141 (0, 840) rfl) (by omega) (by omega) ?_
            refine qm_Ru.go 1 (c' := (11, [.ref 118, .int 2, .int 0], [.ref 118], (h.1, qm_up (qm_up I 118 41 v2) 141 (cd.toInt.toNat) 2, J, h.2.2.2))) rfl ?_
            refine hk_getr rfl (hH.1 118 (17, 105) rfl) rfl (hH.2 118 39 (some 142) rfl) ?_
            refine qm_Ru.go 1 (c' := (15, [.ref 118, .int 2, .int 0], [.ref 118, .ref 142], (h.1, qm_up (qm_up I 118 41 v2) 141 (cd.toInt.toNat) 2, J, h.2.2.2))) rfl ?_
            refine hk_geti (v := cd) rfl (hH.1 118 (17, 105) rfl) rfl (show (qm_up (qm_up I 118 41 v2) 141 (cd.toInt.toNat) 2) 118 37 = _ from ((hk_ot rfl).trans ((hk_neq (by decide)).trans q_cd))) ?_
            refine qm_Ru.go 1 (c' := (19, [.ref 118, .int 2, .int 0], [.int 0, .int cd, .ref 142], (h.1, qm_up (qm_up I 118 41 v2) 141 (cd.toInt.toNat) 2, J, h.2.2.2))) rfl ?_
            refine hk_ias rfl (hH.1 142 (0, 840) rfl) (by omega) (by omega) ?_
            refine qm_Ru.go 2 (c' := (22, [.ref 118, .int 2, .int 0], [.ref 118, .ref 118], (h.1, qm_up (qm_up (qm_up I 118 41 v2) 141 (cd.toInt.toNat) 2) 142 (cd.toInt.toNat) 0, J, h.2.2.2))) rfl ?_
            refine hk_geti (v := cd) rfl (hH.1 118 (17, 105) rfl) rfl (show (qm_up (qm_up (qm_up I 118 41 v2) 141 (cd.toInt.toNat) 2) 142 (cd.toInt.toNat) 0) 118 37 = _ from ((hk_ot rfl).trans ((hk_ot rfl).trans ((hk_neq (by decide)).trans q_cd)))) ?_
            refine qm_Ru.go 2 (c' := (27, [.ref 118, .int 2, .int 0], [.int (cd + 1), .ref 118], (h.1, qm_up (qm_up (qm_up I 118 41 v2) 141 (cd.toInt.toNat) 2) 142 (cd.toInt.toNat) 0, J, h.2.2.2))) rfl ?_
            obtain ⟨v11, q_v11, e_v11⟩ := hk_add (x := cd) (y := 1) (a := cd.toInt) (b := 1) rfl rfl (by omega) (by omega)
            rw [q_v11]
            refine hk_puti rfl (hH.1 118 (17, 105) rfl) rfl ?_
            refine qm_Ru.go 0 (c' := (30, [.ref 118, .int 2, .int 0], [], (h.1, qm_up (qm_up (qm_up (qm_up I 118 41 v2) 141 (cd.toInt.toNat) 2) 142 (cd.toInt.toNat) 0) 118 37 v11, J, h.2.2.2))) rfl ?_
            refine qm_Ru.rt (v := none) (h' := (h.1, qm_up (qm_up (qm_up (qm_up I 118 41 v2) 141 (cd.toInt.toNat) 2) 142 (cd.toInt.toNat) 0) 118 37 v11, J, h.2.2.2)) rfl ?_
            refine qm_Ru.go 1 (c' := (0, [.ref 118, .int sg, .int v3], [], (h.1, qm_up (qm_up (qm_up (qm_up I 118 41 v2) 141 (cd.toInt.toNat) 2) 142 (cd.toInt.toNat) 0) 118 37 v11, J, h.2.2.2))) rfl ?_
            have e143 : pI (qm_up (qm_up (qm_up (qm_up I 118 41 v2) 141 (cd.toInt.toNat) 2) 142 (cd.toInt.toNat) 0) 118 37 v11) 143 = pI I 143 := ((pI_sk rfl).trans ((pI_sk rfl).trans ((pI_sk rfl).trans ((pI_sk rfl).trans rfl))))
            have n6 : ¬ pI I 143 (wt.toInt.toNat - 1) = 6 := by rw [hw143]; omega
            have ew : v2.toInt.toNat = wt.toInt.toNat - 1 := by omega
            have wp := wo_pop (w := pI I 143) (n := wt.toInt.toNat) (by omega) n6
            have wl := wo_le (w := pI I 143) (wt.toInt.toNat - 1)
            refine ih _ (by omega) (qm_up (qm_up (qm_up (qm_up I 118 41 v2) 141 (cd.toInt.toNat) 2) 142 (cd.toInt.toNat) 0) 118 37 v11) (J) v11 v2 (.int v3) (hb_up (o := 118) (k := 37) (x := v11) (hb_up (o := 142) (k := cd.toInt.toNat) (x := 0) (hb_up (o := 141) (k := cd.toInt.toNat) (x := 2) (hb_up (o := 118) (k := 41) (x := v2) hBI ⟨by show (0 : Int) ≤ v2.toInt; omega, by show v2.toInt ≤ (64 : Int); omega⟩) ⟨(show (0 : Int) ≤ 2 from by decide), (show (2 : Int) ≤ 4 from by decide)⟩) (qa_in_full _)) ⟨by show (0 : Int) ≤ v11.toInt; omega, by show v11.toInt ≤ (840 : Int); omega⟩) (fun o ho i => ((hk_mod ho rfl).trans ((hk_mod ho rfl).trans ((hk_mod ho rfl).trans ((hk_mod ho rfl).trans ((e o (hk_ms rfl ho) i).trans rfl)))))) (fun i hi => ((hk_neq (fun z => by subst z; cases hi)).trans ((hk_ot rfl).trans ((hk_ot rfl).trans ((hk_neq (fun z => by subst z; cases hi)).trans ((e8 i (hk_ms rfl hi)).trans rfl)))))) (hk_same) ((hk_neq (by decide)).trans ((hk_ot rfl).trans ((hk_ot rfl).trans (hk_same)))) (by omega) (by omega) (by rw [e143, ew]; exact ws_pop1 hW) (by rw [e143, ew, wp]; exact hO) ?_ ?_ rfl
            · exact (pa_cg (pa_up (x := 2) (y := 0) (k := cd.toInt.toNat) (pa_cg hA (fun i => ((hk_ot rfl).trans rfl)) (fun i => ((hk_ot rfl).trans rfl))) (by omega)) (fun i => ((hk_ot rfl).trans rfl)) (fun i => ((hk_ot rfl).trans rfl)))
            · intro z
              obtain ⟨p1, p2⟩ := hP z
              have hz := hlf z
              have hlc := p1.1
              obtain ⟨g1, g2⟩ := pf_more (k := Int32.toInt 2) (v := Int32.toInt 0) p1 (by omega) (fun y => absurd y (by decide)) (fun _ => by omega)
              unfold pq
              rw [e143, show pI (qm_up (qm_up (qm_up (qm_up I 118 41 v2) 141 (cd.toInt.toNat) 2) 142 (cd.toInt.toNat) 0) 118 37 v11) 141 = fu_up (pI I 141) cd.toInt.toNat (Int32.toInt 2) from ((pI_sk rfl).trans ((pI_sk rfl).trans (pI_up.trans (congrArg (fun f => fu_up f cd.toInt.toNat (Int32.toInt 2)) ((pI_sk rfl).trans rfl))))), show pI (qm_up (qm_up (qm_up (qm_up I 118 41 v2) 141 (cd.toInt.toNat) 2) 142 (cd.toInt.toNat) 0) 118 37 v11) 142 = fu_up (pI I 142) cd.toInt.toNat (Int32.toInt 0) from ((pI_sk rfl).trans (pI_up.trans (congrArg (fun f => fu_up f cd.toInt.toNat (Int32.toInt 0)) ((pI_sk rfl).trans ((pI_sk rfl).trans rfl))))), show v11.toInt.toNat = cd.toInt.toNat + 1 from by omega, ew, wp]
              refine ⟨g1, g2.trans ?_⟩
              rw [if_neg (by decide), p2]
              omega
        · refine qm_Ru.go 2 (c' := (32, [.ref 118, .int sg, .int v3], [.int 8, .int v3], (h.1, I, J, h.2.2.2))) rfl ?_
          refine hk_ceq (ix := v3.toInt) (iy := 8) rfl rfl rfl (fun z12 => ?_) (fun z12 => ?_)
          · refine qm_Ru.go 0 (c' := (41, [.ref 118, .int sg, .int v3], [], (h.1, I, J, h.2.2.2))) rfl ?_
            refine qm_Ru.rt (v := none) (h' := (h.1, I, J, h.2.2.2)) rfl ?_
            exact k I J cd wt hBI e e8 q_cd q_wt (by omega) (by omega) hW hO hA hP (by rw [hw143]; omega)
          · refine qm_Ru.go 2 (c' := (38, [.ref 118, .int sg, .int v3], [.int 9, .int v3], (h.1, I, J, h.2.2.2))) rfl ?_
            refine hk_cne (ix := v3.toInt) (iy := 9) rfl rfl rfl (fun z13 => ?_) (fun z13 => ?_)
            · refine qm_Ru.go 2 (c' := (44, [.ref 118, .int sg, .int v3], [.ref 118, .ref 118], (h.1, I, J, h.2.2.2))) rfl ?_
              refine hk_geti (v := wt) rfl (hH.1 118 (17, 105) rfl) rfl q_wt ?_
              refine qm_Ru.go 2 (c' := (49, [.ref 118, .int sg, .int v3], [.int (wt - 1), .ref 118], (h.1, I, J, h.2.2.2))) rfl ?_
              rw [q_v2]
              refine hk_puti rfl (hH.1 118 (17, 105) rfl) rfl ?_
              refine qm_Ru.go 3 (c' := (56, [.ref 118, .int sg, .int v3], [.int 8, .int v3, .ref 118], (h.1, qm_up I 118 41 v2, J, h.2.2.2))) rfl ?_
              refine hk_cne (ix := v3.toInt) (iy := 8) rfl rfl rfl (fun z15 => ?_) (fun z15 => by exfalso; omega)
              refine qm_Ru.go 2 (c' := (66, [.ref 118, .int sg, .int v3], [.int 9, .int v3, .ref 118], (h.1, qm_up I 118 41 v2, J, h.2.2.2))) rfl ?_
              refine hk_cne (ix := v3.toInt) (iy := 9) rfl rfl rfl (fun z16 => ?_) (fun z16 => by exfalso; omega)
              refine qm_Ru.go 2 (c' := (75, [.ref 118, .int sg, .int v3], [.int 0, .int 4, .ref 118], (h.1, qm_up I 118 41 v2, J, h.2.2.2))) rfl ?_
              refine hk_inv (o := 118) (r := []) (as := [.ref 118, .int 4, .int 0]) rfl rfl (hH.1 118 (17, 105) rfl) rfl rfl rfl rfl ?_
              refine qm_Ru.go 1 (c' := (1, [.ref 118, .int 4, .int 0], [.ref 118], (h.1, qm_up I 118 41 v2, J, h.2.2.2))) rfl ?_
              refine hk_getr rfl (hH.1 118 (17, 105) rfl) rfl (hH.2 118 38 (some 141) rfl) ?_
              refine qm_Ru.go 1 (c' := (5, [.ref 118, .int 4, .int 0], [.ref 118, .ref 141], (h.1, qm_up I 118 41 v2, J, h.2.2.2))) rfl ?_
              refine hk_geti (v := cd) rfl (hH.1 118 (17, 105) rfl) rfl (show (qm_up I 118 41 v2) 118 37 = _ from ((hk_neq (by decide)).trans q_cd)) ?_
              refine qm_Ru.go 1 (c' := (9, [.ref 118, .int 4, .int 0], [.int 4, .int cd, .ref 141], (h.1, qm_up I 118 41 v2, J, h.2.2.2))) rfl ?_
              refine hk_ias rfl (hH.1 141 (0, 840) rfl) (by omega) (by omega) ?_
              refine qm_Ru.go 1 (c' := (11, [.ref 118, .int 4, .int 0], [.ref 118], (h.1, qm_up (qm_up I 118 41 v2) 141 (cd.toInt.toNat) 4, J, h.2.2.2))) rfl ?_
              refine hk_getr rfl (hH.1 118 (17, 105) rfl) rfl (hH.2 118 39 (some 142) rfl) ?_
              refine qm_Ru.go 1 (c' := (15, [.ref 118, .int 4, .int 0], [.ref 118, .ref 142], (h.1, qm_up (qm_up I 118 41 v2) 141 (cd.toInt.toNat) 4, J, h.2.2.2))) rfl ?_
              refine hk_geti (v := cd) rfl (hH.1 118 (17, 105) rfl) rfl (show (qm_up (qm_up I 118 41 v2) 141 (cd.toInt.toNat) 4) 118 37 = _ from ((hk_ot rfl).trans ((hk_neq (by decide)).trans q_cd))) ?_
              refine qm_Ru.go 1 (c' := (19, [.ref 118, .int 4, .int 0], [.int 0, .int cd, .ref 142], (h.1, qm_up (qm_up I 118 41 v2) 141 (cd.toInt.toNat) 4, J, h.2.2.2))) rfl ?_
              refine hk_ias rfl (hH.1 142 (0, 840) rfl) (by omega) (by omega) ?_
              refine qm_Ru.go 2 (c' := (22, [.ref 118, .int 4, .int 0], [.ref 118, .ref 118], (h.1, qm_up (qm_up (qm_up I 118 41 v2) 141 (cd.toInt.toNat) 4) 142 (cd.toInt.toNat) 0, J, h.2.2.2))) rfl ?_
              refine hk_geti (v := cd) rfl (hH.1 118 (17, 105) rfl) rfl (show (qm_up (qm_up (qm_up I 118 41 v2) 141 (cd.toInt.toNat) 4) 142 (cd.toInt.toNat) 0) 118 37 = _ from ((hk_ot rfl).trans ((hk_ot rfl).trans ((hk_neq (by decide)).trans q_cd)))) ?_
              refine qm_Ru.go 2 (c' := (27, [.ref 118, .int 4, .int 0], [.int (cd + 1), .ref 118], (h.1, qm_up (qm_up (qm_up I 118 41 v2) 141 (cd.toInt.toNat) 4) 142 (cd.toInt.toNat) 0, J, h.2.2.2))) rfl ?_
              obtain ⟨v17, q_v17, e_v17⟩ := hk_add (x := cd) (y := 1) (a := cd.toInt) (b := 1) rfl rfl (by omega) (by omega)
              rw [q_v17]
              refine hk_puti rfl (hH.1 118 (17, 105) rfl) rfl ?_
              refine qm_Ru.go 0 (c' := (30, [.ref 118, .int 4, .int 0], [], (h.1, qm_up (qm_up (qm_up (qm_up I 118 41 v2) 141 (cd.toInt.toNat) 4) 142 (cd.toInt.toNat) 0) 118 37 v17, J, h.2.2.2))) rfl ?_
              refine qm_Ru.rt (v := none) (h' := (h.1, qm_up (qm_up (qm_up (qm_up I 118 41 v2) 141 (cd.toInt.toNat) 4) 142 (cd.toInt.toNat) 0) 118 37 v17, J, h.2.2.2)) rfl ?_
              refine qm_Ru.go 1 (c' := (0, [.ref 118, .int sg, .int v3], [], (h.1, qm_up (qm_up (qm_up (qm_up I 118 41 v2) 141 (cd.toInt.toNat) 4) 142 (cd.toInt.toNat) 0) 118 37 v17, J, h.2.2.2))) rfl ?_
              have e143 : pI (qm_up (qm_up (qm_up (qm_up I 118 41 v2) 141 (cd.toInt.toNat) 4) 142 (cd.toInt.toNat) 0) 118 37 v17) 143 = pI I 143 := ((pI_sk rfl).trans ((pI_sk rfl).trans ((pI_sk rfl).trans ((pI_sk rfl).trans rfl))))
              have n6 : ¬ pI I 143 (wt.toInt.toNat - 1) = 6 := by rw [hw143]; omega
              have ew : v2.toInt.toNat = wt.toInt.toNat - 1 := by omega
              have wp := wo_pop (w := pI I 143) (n := wt.toInt.toNat) (by omega) n6
              have wl := wo_le (w := pI I 143) (wt.toInt.toNat - 1)
              refine ih _ (by omega) (qm_up (qm_up (qm_up (qm_up I 118 41 v2) 141 (cd.toInt.toNat) 4) 142 (cd.toInt.toNat) 0) 118 37 v17) (J) v17 v2 (.int v3) (hb_up (o := 118) (k := 37) (x := v17) (hb_up (o := 142) (k := cd.toInt.toNat) (x := 0) (hb_up (o := 141) (k := cd.toInt.toNat) (x := 4) (hb_up (o := 118) (k := 41) (x := v2) hBI ⟨by show (0 : Int) ≤ v2.toInt; omega, by show v2.toInt ≤ (64 : Int); omega⟩) ⟨(show (0 : Int) ≤ 4 from by decide), (show (4 : Int) ≤ 4 from by decide)⟩) (qa_in_full _)) ⟨by show (0 : Int) ≤ v17.toInt; omega, by show v17.toInt ≤ (840 : Int); omega⟩) (fun o ho i => ((hk_mod ho rfl).trans ((hk_mod ho rfl).trans ((hk_mod ho rfl).trans ((hk_mod ho rfl).trans ((e o (hk_ms rfl ho) i).trans rfl)))))) (fun i hi => ((hk_neq (fun z => by subst z; cases hi)).trans ((hk_ot rfl).trans ((hk_ot rfl).trans ((hk_neq (fun z => by subst z; cases hi)).trans ((e8 i (hk_ms rfl hi)).trans rfl)))))) (hk_same) ((hk_neq (by decide)).trans ((hk_ot rfl).trans ((hk_ot rfl).trans (hk_same)))) (by omega) (by omega) (by rw [e143, ew]; exact ws_pop1 hW) (by rw [e143, ew, wp]; exact hO) ?_ ?_ rfl
              · exact (pa_cg (pa_up (x := 4) (y := 0) (k := cd.toInt.toNat) (pa_cg hA (fun i => ((hk_ot rfl).trans rfl)) (fun i => ((hk_ot rfl).trans rfl))) (by omega)) (fun i => ((hk_ot rfl).trans rfl)) (fun i => ((hk_ot rfl).trans rfl)))
              · intro z
                obtain ⟨p1, p2⟩ := hP z
                have hz := hlf z
                have hlc := p1.1
                obtain ⟨g1, g2⟩ := pf_more (k := Int32.toInt 4) (v := Int32.toInt 0) p1 (by omega) (fun y => absurd y (by decide)) (fun _ => by omega)
                unfold pq
                rw [e143, show pI (qm_up (qm_up (qm_up (qm_up I 118 41 v2) 141 (cd.toInt.toNat) 4) 142 (cd.toInt.toNat) 0) 118 37 v17) 141 = fu_up (pI I 141) cd.toInt.toNat (Int32.toInt 4) from ((pI_sk rfl).trans ((pI_sk rfl).trans (pI_up.trans (congrArg (fun f => fu_up f cd.toInt.toNat (Int32.toInt 4)) ((pI_sk rfl).trans rfl))))), show pI (qm_up (qm_up (qm_up (qm_up I 118 41 v2) 141 (cd.toInt.toNat) 4) 142 (cd.toInt.toNat) 0) 118 37 v17) 142 = fu_up (pI I 142) cd.toInt.toNat (Int32.toInt 0) from ((pI_sk rfl).trans (pI_up.trans (congrArg (fun f => fu_up f cd.toInt.toNat (Int32.toInt 0)) ((pI_sk rfl).trans ((pI_sk rfl).trans rfl))))), show v17.toInt.toNat = cd.toInt.toNat + 1 from by omega, ew, wp]
                refine ⟨g1, g2.trans ?_⟩
                rw [if_neg (by decide), p2]
                omega
            · refine qm_Ru.go 0 (c' := (41, [.ref 118, .int sg, .int v3], [], (h.1, I, J, h.2.2.2))) rfl ?_
              refine qm_Ru.rt (v := none) (h' := (h.1, I, J, h.2.2.2)) rfl ?_
              exact k I J cd wt hBI e e8 q_cd q_wt (by omega) (by omega) hW hO hA hP (by rw [hw143]; omega)
