/-! read of the class: measures, by hand -/
theorem qa_Rt0_no {o i : Nat} (h : 192 ≤ o) : qa_Rt0 o i = none := by
  rw [qa_Rt0_tr]
  rw [show Nat.blt o 42 = false from by cases hb : Nat.blt o 42 with
    | false => rfl
    | true => exact absurd (Nat.le_of_ble_eq_true hb) (by omega), cond_false]
  rw [show Nat.blt o 101 = false from by cases hb : Nat.blt o 101 with
    | false => rfl
    | true => exact absurd (Nat.le_of_ble_eq_true hb) (by omega), cond_false]
  rw [show Nat.blt o 107 = false from by cases hb : Nat.blt o 107 with
    | false => rfl
    | true => exact absurd (Nat.le_of_ble_eq_true hb) (by omega), cond_false]
  rw [show Nat.blt o 111 = false from by cases hb : Nat.blt o 111 with
    | false => rfl
    | true => exact absurd (Nat.le_of_ble_eq_true hb) (by omega), cond_false]
  rw [show Nat.blt o 118 = false from by cases hb : Nat.blt o 118 with
    | false => rfl
    | true => exact absurd (Nat.le_of_ble_eq_true hb) (by omega), cond_false]
  rw [show Nat.beq o 118 = false from qm_bne (by omega), cond_false]
/-- behind measure, measureRules: what stays; the terms at t -/
noncomputable def mS (t : Nat) (h h' : qm_H) : Prop := (∀ o, o < 192 → h'.1[o]? = h.1[o]?) ∧ (∀ o i, o < 192 → ¬ (o = t ∧ i = 15) → h'.2.2.2 o i = h.2.2.2 o i) ∧ (∀ o, o < 192 → o ≠ t + 4 → ∀ i, h'.2.1 o i = h.2.1 o i) ∧ hk_B h'.2.1 ∧ wI h'
theorem mS_trans {t : Nat} {h h1 h2 : qm_H} (a : mS t h h1) (b : mS t h1 h2) : mS t h h2 := ⟨fun o ho => (b.1 o ho).trans (a.1 o ho), fun o i ho hi => (b.2.1 o i ho hi).trans (a.2.1 o i ho hi), fun o ho hn i => (b.2.2.1 o ho hn i).trans (a.2.2.1 o ho hn i), b.2.2.2.1, b.2.2.2.2⟩
theorem hk_H_of {h h' : qm_H} (hH : hk_H h) (e1 : ∀ o, o < 192 → h'.1[o]? = h.1[o]?) (e2 : ∀ o i, o < 192 → qa_Rt0 o i ≠ none → h'.2.2.2 o i = h.2.2.2 o i) : hk_H h' := by
  refine ⟨fun o q hq => ?_, fun o i w hq => ?_⟩
  · rw [e1 o (qa_Psh_lt hq)]
    exact hH.1 o q hq
  · have hlt : o < 192 := by
      rcases Nat.lt_or_ge o 192 with c | c
      · exact c
      · rw [qa_Rt0_no c] at hq
        cases hq
    rw [e2 o i hlt (by rw [hq]; exact fun z => nomatch z)]
    exact hH.2 o i w hq
theorem mS_H {t : Nat} {h h' : qm_H} (ht : t = 29 ∨ t = 111) (hH : hk_H h) (m : mS t h h') : hk_H h' := hk_H_of hH m.1 (fun o i ho hn => m.2.1 o i ho (fun z => by
  obtain ⟨rfl, rfl⟩ := z
  rcases ht with rfl | rfl
  · exact hn rfl
  · exact hn rfl))
theorem lg_pos {a : Int64} {v : Int32} (q : lg_cmp a 0 = v) (h : 0 < v.toInt) : decide (a = 0) = false := by
  rw [decide_eq_false_iff_not]
  intro e
  subst e
  rw [← q] at h
  exact absurd h (by decide)
theorem hk_ldiv {X : Option (Nat × (Nat → Int32))} {d : Nat} {cd : qm_Cd} {pc np a b : Nat} {v : Value} {ls r : List Value} {h : qm_H} {Z : Option Value → qm_H → Prop} {x y : Int64} (hf : qm_fetch cd pc = some (pc, np, .ldiv, a, b, v)) (hy : decide (y = 0) = false) (kk : qm_Ru X d cd (np, ls, .long (x / y) :: r, h) Z) : qm_Ru X d cd (pc, ls, .long y :: .long x :: r, h) Z := by
  refine qm_Ru.nx ?_ kk
  rw [hk_st (it := (pc, np, .ldiv, a, b, v)) hf]
  show (bif decide (y = 0) then none else qm_nx (np, ls, .long (x / y) :: r, h)) = _
  rw [hy]
  rfl
theorem hs_bound {X : Option (Nat × (Nat → Int32))} {d : Nat} {Z : Option Value → qm_H → Prop} {h : qm_H} {x : Int32} {a b : Int64} (k : ∀ v : Int64, Z (some (.long v)) h) : qm_Ru X d cd_59 (qm_ent 5 [.int x, .long a, .long b] h) Z := by
  show qm_Ru X d cd_59 (0, [.int x, .long a, .float 0, .long b, .float 0], [], h) Z
  refine qm_Ru.go 2 (c' := (3, [.int x, .long a, .float 0, .long b, .float 0], [.int 28, .int x], h)) rfl ?_
  refine hk_ceq (ix := x.toInt) (iy := 28) rfl rfl rfl (fun z1 => ?_) (fun z1 => ?_)
  · refine qm_Ru.go 3 (c' := (15, [.int x, .long a, .float 0, .long b, .float 0], [.long (a + b)], h)) rfl ?_
    obtain ⟨v2, q_v2⟩ : ∃ v, (a + b) = v := ⟨_, rfl⟩
    rw [q_v2]
    refine qm_Ru.go 1 (c' := (18, [.int x, .long a, .float 0, .long b, .float 0], [.long 2305843009213693952, .long v2], h)) rfl ?_
    refine qm_Ru.go 1 (c' := (21, [.int x, .long a, .float 0, .long b, .float 0], [.long (if 2305843009213693952 < v2 then 2305843009213693952 else v2)], h)) rfl ?_
    obtain ⟨v3, q_v3⟩ : ∃ v, (if 2305843009213693952 < v2 then 2305843009213693952 else v2) = v := ⟨_, rfl⟩
    rw [q_v3]
    refine qm_Ru.rt (v := (some (.long v3))) (h' := h) rfl ?_
    exact k v3
  · refine qm_Ru.go 2 (c' := (9, [.int x, .long a, .float 0, .long b, .float 0], [.int 29, .int x], h)) rfl ?_
    refine hk_cne (ix := x.toInt) (iy := 29) rfl rfl rfl (fun z4 => ?_) (fun z4 => ?_)
    · refine qm_Ru.go 2 (c' := (25, [.int x, .long a, .float 0, .long b, .float 0], [.int 30, .int x], h)) rfl ?_
      refine hk_cne (ix := x.toInt) (iy := 30) rfl rfl rfl (fun z5 => ?_) (fun z5 => ?_)
      · refine qm_Ru.go 1 (c' := (55, [.int x, .long a, .float 0, .long b, .float 0], [.long 1], h)) rfl ?_
        refine qm_Ru.rt (v := (some (.long 1))) (h' := h) rfl ?_
        exact k 1
      · refine qm_Ru.go 3 (c' := (31, [.int x, .long a, .float 0, .long b, .float 0], [.int (lg_cmp a 0)], h)) rfl ?_
        obtain ⟨v6, q_v6⟩ : ∃ v, (lg_cmp a 0) = v := ⟨_, rfl⟩
        rw [q_v6]
        refine hk_zle (ix := v6.toInt) rfl rfl (fun z7 => ?_) (fun z7 => ?_)
        · refine qm_Ru.go 3 (c' := (53, [.int x, .long a, .float 0, .long b, .float 0], [.long (a * b)], h)) rfl ?_
          obtain ⟨v8, q_v8⟩ : ∃ v, (a * b) = v := ⟨_, rfl⟩
          rw [q_v8]
          refine qm_Ru.rt (v := (some (.long v8))) (h' := h) rfl ?_
          exact k v8
        · refine qm_Ru.go 3 (c' := (39, [.int x, .long a, .float 0, .long b, .float 0], [.long a, .long 2305843009213693952, .long b], h)) rfl ?_
          refine hk_ldiv rfl (lg_pos q_v6 (by omega)) ?_
          obtain ⟨v9, q_v9⟩ : ∃ v, (2305843009213693952 / a) = v := ⟨_, rfl⟩
          rw [q_v9]
          refine qm_Ru.go 1 (c' := (41, [.int x, .long a, .float 0, .long b, .float 0], [.int (lg_cmp b v9)], h)) rfl ?_
          obtain ⟨v10, q_v10⟩ : ∃ v, (lg_cmp b v9) = v := ⟨_, rfl⟩
          rw [q_v10]
          refine hk_zle (ix := v10.toInt) rfl rfl (fun z11 => ?_) (fun z11 => ?_)
          · refine qm_Ru.go 3 (c' := (53, [.int x, .long a, .float 0, .long b, .float 0], [.long (a * b)], h)) rfl ?_
            obtain ⟨v12, q_v12⟩ : ∃ v, (a * b) = v := ⟨_, rfl⟩
            rw [q_v12]
            refine qm_Ru.rt (v := (some (.long v12))) (h' := h) rfl ?_
            exact k v12
          · refine qm_Ru.go 2 (c' := (53, [.int x, .long a, .float 0, .long b, .float 0], [.long 2305843009213693952], h)) rfl ?_
            refine qm_Ru.rt (v := (some (.long 2305843009213693952))) (h' := h) rfl ?_
            exact k 2305843009213693952
    · refine qm_Ru.go 3 (c' := (15, [.int x, .long a, .float 0, .long b, .float 0], [.long (a + b)], h)) rfl ?_
      obtain ⟨v13, q_v13⟩ : ∃ v, (a + b) = v := ⟨_, rfl⟩
      rw [q_v13]
      refine qm_Ru.go 1 (c' := (18, [.int x, .long a, .float 0, .long b, .float 0], [.long 2305843009213693952, .long v13], h)) rfl ?_
      refine qm_Ru.go 1 (c' := (21, [.int x, .long a, .float 0, .long b, .float 0], [.long (if 2305843009213693952 < v13 then 2305843009213693952 else v13)], h)) rfl ?_
      obtain ⟨v14, q_v14⟩ : ∃ v, (if 2305843009213693952 < v13 then 2305843009213693952 else v13) = v := ⟨_, rfl⟩
      rw [q_v14]
      refine qm_Ru.rt (v := (some (.long v14))) (h' := h) rfl ?_
      exact k v14
theorem hl_meas29 {L : Nat} {xs : Nat → Int32} {d : Nat} {Z : Option Value → qm_H → Prop} {h : qm_H} (hH : hk_H h) (hB : hk_B h.2.1) {s : Int32} (hs : (0 : Int) ≤ s.toInt ∧ s.toInt ≤ 15) (k : ∀ (v : Int32) (J : Nat → Nat → Int64) (tp op i : Int32) (g : Int64) (l7 : Value), (0 : Int) ≤ v.toInt ∧ v.toInt ≤ 101 → qm_Ru (some (L, xs)) (d + 3) cd_57 (166, [.ref 29, .int s, .int tp, .int op, .long g, .float 0, .int i, l7], [], (h.1, qm_up h.2.1 33 s.toInt.toNat v, J, h.2.2.2)) Z) : ∀ (m : Nat) (J : Nat → Nat → Int64) (tp op i : Int32) (g : Int64) (l7 : Value), (0 ≤ tp.toInt ∧ tp.toInt ≤ 18) → (0 ≤ op.toInt ∧ op.toInt ≤ i.toInt ∧ i.toInt ≤ 400) → (400 - i.toInt).toNat = m → qm_Ru (some (L, xs)) (d + 3) cd_57 (15, [.ref 29, .int s, .int tp, .int op, .long g, .float 0, .int i, l7], [], (h.1, h.2.1, J, h.2.2.2)) Z := by
  intro m
  induction m using Nat.strongRecOn with
  | ind m ih =>
    intro J tp op i g l7 ht ho hm
    refine qm_Ru.go 2 (c' := (18, [.ref 29, .int s, .int tp, .int op, .long g, .float 0, .int i, l7], [.ref 29, .int i], (h.1, h.2.1, J, h.2.2.2))) rfl ?_
    refine hk_getr rfl (hH.1 29 (11, 16) rfl) rfl (hH.2 29 10 (some 32) rfl) ?_
    refine qm_Ru.go 1 (c' := (22, [.ref 29, .int s, .int tp, .int op, .long g, .float 0, .int i, l7], [.int s, .ref 32, .int i], (h.1, h.2.1, J, h.2.2.2))) rfl ?_
    obtain ⟨v1, q_v1⟩ : ∃ v, h.2.1 32 (s.toInt.toNat) = v := ⟨_, rfl⟩
    have b_v1 : (0 : Int) ≤ v1.toInt ∧ v1.toInt ≤ 400 := by rw [← q_v1]; exact hB 32 (s.toInt.toNat)
    refine hk_ial (v := v1) rfl (hH.1 32 (0, 16) rfl) (by omega) (by omega) q_v1 ?_
    refine qm_Ru.go 0 (c' := (23, [.ref 29, .int s, .int tp, .int op, .long g, .float 0, .int i, l7], [.int v1, .int i], (h.1, h.2.1, J, h.2.2.2))) rfl ?_
    refine hk_cge (ix := i.toInt) (iy := v1.toInt) rfl rfl rfl (fun z2 => ?_) (fun z2 => ?_)
    · refine qm_Ru.go 1 (c' := (144, [.ref 29, .int s, .int tp, .int op, .long g, .float 0, .int i, l7], [.ref 29], (h.1, h.2.1, J, h.2.2.2))) rfl ?_
      refine hk_getr rfl (hH.1 29 (11, 16) rfl) rfl (hH.2 29 11 (some 33) rfl) ?_
      refine qm_Ru.go 4 (c' := (154, [.ref 29, .int s, .int tp, .int op, .long g, .float 0, .int i, l7], [.int (lg_cmp g 2305843009213693952), .int s, .ref 33], (h.1, h.2.1, J, h.2.2.2))) rfl ?_
      obtain ⟨v3, q_v3⟩ : ∃ v, (lg_cmp g 2305843009213693952) = v := ⟨_, rfl⟩
      rw [q_v3]
      refine hk_zlt (ix := v3.toInt) rfl rfl (fun z4 => ?_) (fun z4 => ?_)
      · refine qm_Ru.go 1 (c' := (165, [.ref 29, .int s, .int tp, .int op, .long g, .float 0, .int i, l7], [.int 0, .int s, .ref 33], (h.1, h.2.1, J, h.2.2.2))) rfl ?_
        refine hk_ias rfl (hH.1 33 (0, 16) rfl) (by omega) (by omega) ?_
        refine qm_Ru.go 0 (c' := (166, [.ref 29, .int s, .int tp, .int op, .long g, .float 0, .int i, l7], [], (h.1, qm_up h.2.1 33 (s.toInt.toNat) 0, J, h.2.2.2))) rfl ?_
        exact k 0 (J) tp op i g l7 (by decide)
      · refine qm_Ru.go 1 (c' := (158, [.ref 29, .int s, .int tp, .int op, .long g, .float 0, .int i, l7], [.int op, .int s, .ref 33], (h.1, h.2.1, J, h.2.2.2))) rfl ?_
        refine qm_Ru.call (j := 60) (as := [.int op]) (c' := (161, [.ref 29, .int s, .int tp, .int op, .long g, .float 0, .int i, l7], [.int s, .ref 33], (h.1, h.2.1, J, h.2.2.2))) rfl rfl rfl ?_
        refine qm_Ru.go 4 (c' := (5, [.int op], [.int (op / 2), .int 101], (h.1, h.2.1, J, h.2.2.2))) rfl ?_
        obtain ⟨v5, q_v5, e_v5⟩ := hk_div (x := op) (y := 2) (a := op.toInt) (b := 2) rfl rfl (by omega) (by omega)
        rw [q_v5]
        refine qm_Ru.go 2 (c' := (7, [.int op], [.int (v5 + 2), .int 101], (h.1, h.2.1, J, h.2.2.2))) rfl ?_
        obtain ⟨v6, q_v6, e_v6⟩ := hk_add (x := v5) (y := 2) (a := v5.toInt) (b := 2) rfl rfl (by omega) (by omega)
        rw [q_v6]
        refine qm_Ru.go 1 (c' := (10, [.int op], [.int (if v6 < 101 then v6 else 101)], (h.1, h.2.1, J, h.2.2.2))) rfl ?_
        obtain ⟨v7, q_v7⟩ : ∃ v, (if v6 < 101 then v6 else 101) = v := ⟨_, rfl⟩
        rw [q_v7]
        have m_v7 : (0 : Int) ≤ v7.toInt ∧ v7.toInt ≤ 101 := by
          have e101 : (101 : Int32).toInt = 101 := rfl
          rw [← q_v7]
          split
          · rename_i hc
            have h9 := hk_lti.mp hc
            omega
          · decide
        refine qm_Ru.rt (v := (some (.int v7))) (h' := (h.1, h.2.1, J, h.2.2.2)) rfl ?_
        refine qm_Ru.go 1 (c' := (165, [.ref 29, .int s, .int tp, .int op, .long g, .float 0, .int i, l7], [.int v7, .int s, .ref 33], (h.1, h.2.1, J, h.2.2.2))) rfl ?_
        refine hk_ias rfl (hH.1 33 (0, 16) rfl) (by omega) (by omega) ?_
        refine qm_Ru.go 0 (c' := (166, [.ref 29, .int s, .int tp, .int op, .long g, .float 0, .int i, l7], [], (h.1, qm_up h.2.1 33 (s.toInt.toNat) v7, J, h.2.2.2))) rfl ?_
        exact k v7 (J) tp op i g l7 (by omega)
    · refine qm_Ru.go 1 (c' := (27, [.ref 29, .int s, .int tp, .int op, .long g, .float 0, .int i, l7], [.ref 29], (h.1, h.2.1, J, h.2.2.2))) rfl ?_
      refine hk_getr rfl (hH.1 29 (11, 16) rfl) rfl (hH.2 29 8 (some 30) rfl) ?_
      refine qm_Ru.go 1 (c' := (32, [.ref 29, .int s, .int tp, .int op, .long g, .float 0, .int i, l7], [.int i, .ref 30], (h.1, h.2.1, J, h.2.2.2))) rfl ?_
      obtain ⟨v8, q_v8⟩ : ∃ v, h.2.1 30 (i.toInt.toNat) = v := ⟨_, rfl⟩
      refine hk_ial (v := v8) rfl (hH.1 30 (0, 400) rfl) (by omega) (by omega) q_v8 ?_
      refine qm_Ru.go 2 (c' := (37, [.ref 29, .int s, .int tp, .int op, .long g, .float 0, .int i, .int v8], [.int v8], (h.1, h.2.1, J, h.2.2.2))) rfl ?_
      refine qm_Ru.call (j := 58) (as := [.int v8]) (c' := (40, [.ref 29, .int s, .int tp, .int op, .long g, .float 0, .int i, .int v8], [], (h.1, h.2.1, J, h.2.2.2))) rfl rfl rfl ?_
      refine qm_Ru.go 1 (c' := (1, [.int v8], [.int v8], (h.1, h.2.1, J, h.2.2.2))) rfl ?_
      refine hk_zge (ix := v8.toInt) rfl rfl (fun z9 => ?_) (fun z9 => ?_)
      · refine qm_Ru.go 2 (c' := (18, [.int v8], [.int 1], (h.1, h.2.1, J, h.2.2.2))) rfl ?_
        refine qm_Ru.rt (v := (some (.int 1))) (h' := (h.1, h.2.1, J, h.2.2.2)) rfl ?_
        refine qm_Ru.go 3 (c' := (46, [.ref 29, .int s, .int tp, .int op, .long g, .float 0, .int i, .int v8], [.int 18, .int tp], (h.1, h.2.1, J, h.2.2.2))) rfl ?_
        refine hk_cge (ix := tp.toInt) (iy := 18) rfl rfl rfl (fun z10 => ?_) (fun z10 => ?_)
        · refine qm_Ru.go 2 (c' := (82, [.ref 29, .int s, .int tp, .int op, .long g, .float 0, .int i, .int v8], [.int (-12), .int v8], (h.1, h.2.1, J, h.2.2.2))) rfl ?_
          refine hk_ceq (ix := v8.toInt) (iy := (-12)) rfl rfl rfl (fun z11 => by exfalso; omega) (fun z11 => ?_)
          refine qm_Ru.go 2 (c' := (87, [.ref 29, .int s, .int tp, .int op, .long g, .float 0, .int i, .int v8], [.int 1, .int tp], (h.1, h.2.1, J, h.2.2.2))) rfl ?_
          refine hk_cle (ix := tp.toInt) (iy := 1) rfl rfl rfl (fun z12 => by exfalso; omega) (fun z12 => ?_)
          refine qm_Ru.go 1 (c' := (93, [.ref 29, .int s, .int (tp + (-1)), .int op, .long g, .float 0, .int i, .int v8], [], (h.1, h.2.1, J, h.2.2.2))) rfl ?_
          obtain ⟨v13, q_v13, e_v13⟩ := hk_add (x := tp) (y := (-1)) (a := tp.toInt) (b := (-1)) rfl rfl (by omega) (by omega)
          rw [q_v13]
          refine qm_Ru.go 1 (c' := (94, [.ref 29, .int s, .int v13, .int op, .long g, .float 0, .int i, .int v8], [.ref 29], (h.1, h.2.1, J, h.2.2.2))) rfl ?_
          refine hk_getr rfl (hH.1 29 (11, 16) rfl) rfl (hH.2 29 13 (some 35) rfl) ?_
          refine qm_Ru.go 3 (c' := (100, [.ref 29, .int s, .int v13, .int op, .long g, .float 0, .int i, .int v8], [.int (v13 - 1), .ref 35], (h.1, h.2.1, J, h.2.2.2))) rfl ?_
          obtain ⟨v14, q_v14, e_v14⟩ := hk_sub (x := v13) (y := 1) (a := v13.toInt) (b := 1) rfl rfl (by omega) (by omega)
          rw [q_v14]
          refine qm_Ru.go 3 (c' := (104, [.ref 29, .int s, .int v13, .int op, .long g, .float 0, .int i, .int v8], [.int (v8 ^^^ (-1)), .int v14, .ref 35], (h.1, h.2.1, J, h.2.2.2))) rfl ?_
          obtain ⟨v15, q_v15⟩ : ∃ v, (v8 ^^^ (-1)) = v := ⟨_, rfl⟩
          rw [q_v15]
          refine qm_Ru.go 1 (c' := (105, [.ref 29, .int s, .int v13, .int op, .long g, .float 0, .int i, .int v8], [.ref 29, .int v15, .int v14, .ref 35], (h.1, h.2.1, J, h.2.2.2))) rfl ?_
          refine hk_getr rfl (hH.1 29 (11, 16) rfl) rfl (hH.2 29 13 (some 35) rfl) ?_
          refine qm_Ru.go 3 (c' := (111, [.ref 29, .int s, .int v13, .int op, .long g, .float 0, .int i, .int v8], [.int (v13 - 1), .ref 35, .int v15, .int v14, .ref 35], (h.1, h.2.1, J, h.2.2.2))) rfl ?_
          rw [q_v14]
          obtain ⟨v17, q_v17⟩ : ∃ v, (h.1, h.2.1, J, h.2.2.2).2.2.1 35 (v14.toInt.toNat) = v := ⟨_, rfl⟩
          refine hk_lal rfl (hH.1 35 (3, 18) rfl) (by omega) (by omega) q_v17 ?_
          refine qm_Ru.go 1 (c' := (113, [.ref 29, .int s, .int v13, .int op, .long g, .float 0, .int i, .int v8], [.ref 29, .long v17, .int v15, .int v14, .ref 35], (h.1, h.2.1, J, h.2.2.2))) rfl ?_
          refine hk_getr rfl (hH.1 29 (11, 16) rfl) rfl (hH.2 29 13 (some 35) rfl) ?_
          refine qm_Ru.go 1 (c' := (117, [.ref 29, .int s, .int v13, .int op, .long g, .float 0, .int i, .int v8], [.int v13, .ref 35, .long v17, .int v15, .int v14, .ref 35], (h.1, h.2.1, J, h.2.2.2))) rfl ?_
          obtain ⟨v18, q_v18⟩ : ∃ v, (h.1, h.2.1, J, h.2.2.2).2.2.1 35 (v13.toInt.toNat) = v := ⟨_, rfl⟩
          refine hk_lal rfl (hH.1 35 (3, 18) rfl) (by omega) (by omega) q_v18 ?_
          refine qm_Ru.go 0 (c' := (118, [.ref 29, .int s, .int v13, .int op, .long g, .float 0, .int i, .int v8], [.long v18, .long v17, .int v15, .int v14, .ref 35], (h.1, h.2.1, J, h.2.2.2))) rfl ?_
          refine qm_Ru.call (j := 59) (as := [.int v15, .long v17, .long v18]) (c' := (121, [.ref 29, .int s, .int v13, .int op, .long g, .float 0, .int i, .int v8], [.int v14, .ref 35], (h.1, h.2.1, J, h.2.2.2))) rfl rfl rfl (hs_bound (h := (h.1, h.2.1, J, h.2.2.2)) (fun v19 => ?_))
          refine qm_Ru.go 0 (c' := (121, [.ref 29, .int s, .int v13, .int op, .long g, .float 0, .int i, .int v8], [.long v19, .int v14, .ref 35], (h.1, h.2.1, J, h.2.2.2))) rfl ?_
          refine hk_las rfl (hH.1 35 (3, 18) rfl) (by omega) (by omega) ?_
          refine qm_Ru.go 2 (c' := (125, [.ref 29, .int s, .int v13, .int op, .long g, .float 0, .int i, .int v8], [.ref 29, .long g], (h.1, h.2.1, qm_up J 35 (v14.toInt.toNat) v19, h.2.2.2))) rfl ?_
          refine hk_getr rfl (hH.1 29 (11, 16) rfl) rfl (hH.2 29 13 (some 35) rfl) ?_
          refine qm_Ru.go 3 (c' := (131, [.ref 29, .int s, .int v13, .int op, .long g, .float 0, .int i, .int v8], [.int (v13 - 1), .ref 35, .long g], (h.1, h.2.1, qm_up J 35 (v14.toInt.toNat) v19, h.2.2.2))) rfl ?_
          rw [q_v14]
          obtain ⟨v21, q_v21⟩ : ∃ v, (h.1, h.2.1, qm_up J 35 (v14.toInt.toNat) v19, h.2.2.2).2.2.1 35 (v14.toInt.toNat) = v := ⟨_, rfl⟩
          refine hk_lal rfl (hH.1 35 (3, 18) rfl) (by omega) (by omega) q_v21 ?_
          refine qm_Ru.go 0 (c' := (132, [.ref 29, .int s, .int v13, .int op, .long g, .float 0, .int i, .int v8], [.long v21, .long g], (h.1, h.2.1, qm_up J 35 (v14.toInt.toNat) v19, h.2.2.2))) rfl ?_
          refine qm_Ru.go 1 (c' := (135, [.ref 29, .int s, .int v13, .int op, .long g, .float 0, .int i, .int v8], [.long (if v21 < g then g else v21)], (h.1, h.2.1, qm_up J 35 (v14.toInt.toNat) v19, h.2.2.2))) rfl ?_
          obtain ⟨v22, q_v22⟩ : ∃ v, (if v21 < g then g else v21) = v := ⟨_, rfl⟩
          rw [q_v22]
          refine qm_Ru.go 2 (c' := (140, [.ref 29, .int s, .int v13, .int op, .long v22, .float 0, .int (i + 1), .int v8], [], (h.1, h.2.1, qm_up J 35 (v14.toInt.toNat) v19, h.2.2.2))) rfl ?_
          obtain ⟨v23, q_v23, e_v23⟩ := hk_add (x := i) (y := 1) (a := i.toInt) (b := 1) rfl rfl (by omega) (by omega)
          rw [q_v23]
          refine qm_Ru.go 1 (c' := (15, [.ref 29, .int s, .int v13, .int op, .long v22, .float 0, .int v23, .int v8], [], (h.1, h.2.1, qm_up J 35 (v14.toInt.toNat) v19, h.2.2.2))) rfl ?_
          exact ih _ (by omega) (qm_up J 35 (v14.toInt.toNat) v19) v13 op v23 v22 (.int v8) (by omega) (by omega) rfl
        · refine qm_Ru.go 1 (c' := (50, [.ref 29, .int s, .int tp, .int op, .long g, .float 0, .int i, .int v8], [.ref 29], (h.1, h.2.1, J, h.2.2.2))) rfl ?_
          refine hk_getr rfl (hH.1 29 (11, 16) rfl) rfl (hH.2 29 13 (some 35) rfl) ?_
          refine qm_Ru.go 2 (c' := (56, [.ref 29, .int s, .int tp, .int op, .long g, .float 0, .int i, .int v8], [.int v8, .int tp, .ref 35], (h.1, h.2.1, J, h.2.2.2))) rfl ?_
          refine hk_zlt (ix := v8.toInt) rfl rfl (fun z24 => by exfalso; omega) (fun z24 => ?_)
          refine qm_Ru.go 2 (c' := (62, [.ref 29, .int s, .int tp, .int op, .long g, .float 0, .int i, .int v8], [.long (Int32.toInt64 v8), .int tp, .ref 35], (h.1, h.2.1, J, h.2.2.2))) rfl ?_
          obtain ⟨v25, q_v25⟩ : ∃ v, (Int32.toInt64 v8) = v := ⟨_, rfl⟩
          rw [q_v25]
          refine qm_Ru.go 1 (c' := (68, [.ref 29, .int s, .int tp, .int op, .long g, .float 0, .int i, .int v8], [.long v25, .int tp, .ref 35], (h.1, h.2.1, J, h.2.2.2))) rfl ?_
          refine hk_las rfl (hH.1 35 (3, 18) rfl) (by omega) (by omega) ?_
          refine qm_Ru.go 1 (c' := (72, [.ref 29, .int s, .int (tp + 1), .int op, .long g, .float 0, .int i, .int v8], [], (h.1, h.2.1, qm_up J 35 (tp.toInt.toNat) v25, h.2.2.2))) rfl ?_
          obtain ⟨v26, q_v26, e_v26⟩ := hk_add (x := tp) (y := 1) (a := tp.toInt) (b := 1) rfl rfl (by omega) (by omega)
          rw [q_v26]
          refine qm_Ru.go 1 (c' := (75, [.ref 29, .int s, .int v26, .int (op + 1), .long g, .float 0, .int i, .int v8], [], (h.1, h.2.1, qm_up J 35 (tp.toInt.toNat) v25, h.2.2.2))) rfl ?_
          obtain ⟨v27, q_v27, e_v27⟩ := hk_add (x := op) (y := 1) (a := op.toInt) (b := 1) rfl rfl (by omega) (by omega)
          rw [q_v27]
          refine qm_Ru.go 2 (c' := (140, [.ref 29, .int s, .int v26, .int v27, .long g, .float 0, .int (i + 1), .int v8], [], (h.1, h.2.1, qm_up J 35 (tp.toInt.toNat) v25, h.2.2.2))) rfl ?_
          obtain ⟨v28, q_v28, e_v28⟩ := hk_add (x := i) (y := 1) (a := i.toInt) (b := 1) rfl rfl (by omega) (by omega)
          rw [q_v28]
          refine qm_Ru.go 1 (c' := (15, [.ref 29, .int s, .int v26, .int v27, .long g, .float 0, .int v28, .int v8], [], (h.1, h.2.1, qm_up J 35 (tp.toInt.toNat) v25, h.2.2.2))) rfl ?_
          exact ih _ (by omega) (qm_up J 35 (tp.toInt.toNat) v25) v26 v27 v28 g (.int v8) (by omega) (by omega) rfl
      · refine qm_Ru.go 3 (c' := (7, [.int v8], [.int (v8 ^^^ (-1))], (h.1, h.2.1, J, h.2.2.2))) rfl ?_
        obtain ⟨v29, q_v29⟩ : ∃ v, (v8 ^^^ (-1)) = v := ⟨_, rfl⟩
        rw [q_v29]
        refine qm_Ru.call (j := 33) (as := [.int v29]) (c' := (10, [.int v8], [], (h.1, h.2.1, J, h.2.2.2))) rfl rfl rfl ?_
        refine qm_Ru.go 2 (c' := (3, [.int v29], [.int 12, .int v29], (h.1, h.2.1, J, h.2.2.2))) rfl ?_
        refine hk_clt (ix := v29.toInt) (iy := 12) rfl rfl rfl (fun z30 => ?_) (fun z30 => ?_)
        · refine qm_Ru.go 1 (c' := (17, [.int v29], [.int 0], (h.1, h.2.1, J, h.2.2.2))) rfl ?_
          refine qm_Ru.rt (v := (some (.int 0))) (h' := (h.1, h.2.1, J, h.2.2.2)) rfl ?_
          refine qm_Ru.go 2 (c' := (18, [.int v8], [.int 0], (h.1, h.2.1, J, h.2.2.2))) rfl ?_
          refine qm_Ru.rt (v := (some (.int 0))) (h' := (h.1, h.2.1, J, h.2.2.2)) rfl ?_
          refine qm_Ru.go 3 (c' := (82, [.ref 29, .int s, .int tp, .int op, .long g, .float 0, .int i, .int v8], [.int (-12), .int v8], (h.1, h.2.1, J, h.2.2.2))) rfl ?_
          refine hk_ceq (ix := v8.toInt) (iy := (-12)) rfl rfl rfl (fun z31 => ?_) (fun z31 => ?_)
          · refine qm_Ru.go 1 (c' := (140, [.ref 29, .int s, .int tp, .int op, .long g, .float 0, .int (i + 1), .int v8], [], (h.1, h.2.1, J, h.2.2.2))) rfl ?_
            obtain ⟨v32, q_v32, e_v32⟩ := hk_add (x := i) (y := 1) (a := i.toInt) (b := 1) rfl rfl (by omega) (by omega)
            rw [q_v32]
            refine qm_Ru.go 1 (c' := (15, [.ref 29, .int s, .int tp, .int op, .long g, .float 0, .int v32, .int v8], [], (h.1, h.2.1, J, h.2.2.2))) rfl ?_
            exact ih _ (by omega) (J) tp op v32 g (.int v8) (by omega) (by omega) rfl
          · refine qm_Ru.go 2 (c' := (87, [.ref 29, .int s, .int tp, .int op, .long g, .float 0, .int i, .int v8], [.int 1, .int tp], (h.1, h.2.1, J, h.2.2.2))) rfl ?_
            refine hk_cle (ix := tp.toInt) (iy := 1) rfl rfl rfl (fun z33 => ?_) (fun z33 => ?_)
            · refine qm_Ru.go 1 (c' := (140, [.ref 29, .int s, .int tp, .int op, .long g, .float 0, .int (i + 1), .int v8], [], (h.1, h.2.1, J, h.2.2.2))) rfl ?_
              obtain ⟨v34, q_v34, e_v34⟩ := hk_add (x := i) (y := 1) (a := i.toInt) (b := 1) rfl rfl (by omega) (by omega)
              rw [q_v34]
              refine qm_Ru.go 1 (c' := (15, [.ref 29, .int s, .int tp, .int op, .long g, .float 0, .int v34, .int v8], [], (h.1, h.2.1, J, h.2.2.2))) rfl ?_
              exact ih _ (by omega) (J) tp op v34 g (.int v8) (by omega) (by omega) rfl
            · refine qm_Ru.go 1 (c' := (93, [.ref 29, .int s, .int (tp + (-1)), .int op, .long g, .float 0, .int i, .int v8], [], (h.1, h.2.1, J, h.2.2.2))) rfl ?_
              obtain ⟨v35, q_v35, e_v35⟩ := hk_add (x := tp) (y := (-1)) (a := tp.toInt) (b := (-1)) rfl rfl (by omega) (by omega)
              rw [q_v35]
              refine qm_Ru.go 1 (c' := (94, [.ref 29, .int s, .int v35, .int op, .long g, .float 0, .int i, .int v8], [.ref 29], (h.1, h.2.1, J, h.2.2.2))) rfl ?_
              refine hk_getr rfl (hH.1 29 (11, 16) rfl) rfl (hH.2 29 13 (some 35) rfl) ?_
              refine qm_Ru.go 3 (c' := (100, [.ref 29, .int s, .int v35, .int op, .long g, .float 0, .int i, .int v8], [.int (v35 - 1), .ref 35], (h.1, h.2.1, J, h.2.2.2))) rfl ?_
              obtain ⟨v36, q_v36, e_v36⟩ := hk_sub (x := v35) (y := 1) (a := v35.toInt) (b := 1) rfl rfl (by omega) (by omega)
              rw [q_v36]
              refine qm_Ru.go 3 (c' := (104, [.ref 29, .int s, .int v35, .int op, .long g, .float 0, .int i, .int v8], [.int (v8 ^^^ (-1)), .int v36, .ref 35], (h.1, h.2.1, J, h.2.2.2))) rfl ?_
              rw [q_v29]
              refine qm_Ru.go 1 (c' := (105, [.ref 29, .int s, .int v35, .int op, .long g, .float 0, .int i, .int v8], [.ref 29, .int v29, .int v36, .ref 35], (h.1, h.2.1, J, h.2.2.2))) rfl ?_
              refine hk_getr rfl (hH.1 29 (11, 16) rfl) rfl (hH.2 29 13 (some 35) rfl) ?_
              refine qm_Ru.go 3 (c' := (111, [.ref 29, .int s, .int v35, .int op, .long g, .float 0, .int i, .int v8], [.int (v35 - 1), .ref 35, .int v29, .int v36, .ref 35], (h.1, h.2.1, J, h.2.2.2))) rfl ?_
              rw [q_v36]
              obtain ⟨v39, q_v39⟩ : ∃ v, (h.1, h.2.1, J, h.2.2.2).2.2.1 35 (v36.toInt.toNat) = v := ⟨_, rfl⟩
              refine hk_lal rfl (hH.1 35 (3, 18) rfl) (by omega) (by omega) q_v39 ?_
              refine qm_Ru.go 1 (c' := (113, [.ref 29, .int s, .int v35, .int op, .long g, .float 0, .int i, .int v8], [.ref 29, .long v39, .int v29, .int v36, .ref 35], (h.1, h.2.1, J, h.2.2.2))) rfl ?_
              refine hk_getr rfl (hH.1 29 (11, 16) rfl) rfl (hH.2 29 13 (some 35) rfl) ?_
              refine qm_Ru.go 1 (c' := (117, [.ref 29, .int s, .int v35, .int op, .long g, .float 0, .int i, .int v8], [.int v35, .ref 35, .long v39, .int v29, .int v36, .ref 35], (h.1, h.2.1, J, h.2.2.2))) rfl ?_
              obtain ⟨v40, q_v40⟩ : ∃ v, (h.1, h.2.1, J, h.2.2.2).2.2.1 35 (v35.toInt.toNat) = v := ⟨_, rfl⟩
              refine hk_lal rfl (hH.1 35 (3, 18) rfl) (by omega) (by omega) q_v40 ?_
              refine qm_Ru.go 0 (c' := (118, [.ref 29, .int s, .int v35, .int op, .long g, .float 0, .int i, .int v8], [.long v40, .long v39, .int v29, .int v36, .ref 35], (h.1, h.2.1, J, h.2.2.2))) rfl ?_
              refine qm_Ru.call (j := 59) (as := [.int v29, .long v39, .long v40]) (c' := (121, [.ref 29, .int s, .int v35, .int op, .long g, .float 0, .int i, .int v8], [.int v36, .ref 35], (h.1, h.2.1, J, h.2.2.2))) rfl rfl rfl (hs_bound (h := (h.1, h.2.1, J, h.2.2.2)) (fun v41 => ?_))
              refine qm_Ru.go 0 (c' := (121, [.ref 29, .int s, .int v35, .int op, .long g, .float 0, .int i, .int v8], [.long v41, .int v36, .ref 35], (h.1, h.2.1, J, h.2.2.2))) rfl ?_
              refine hk_las rfl (hH.1 35 (3, 18) rfl) (by omega) (by omega) ?_
              refine qm_Ru.go 2 (c' := (125, [.ref 29, .int s, .int v35, .int op, .long g, .float 0, .int i, .int v8], [.ref 29, .long g], (h.1, h.2.1, qm_up J 35 (v36.toInt.toNat) v41, h.2.2.2))) rfl ?_
              refine hk_getr rfl (hH.1 29 (11, 16) rfl) rfl (hH.2 29 13 (some 35) rfl) ?_
              refine qm_Ru.go 3 (c' := (131, [.ref 29, .int s, .int v35, .int op, .long g, .float 0, .int i, .int v8], [.int (v35 - 1), .ref 35, .long g], (h.1, h.2.1, qm_up J 35 (v36.toInt.toNat) v41, h.2.2.2))) rfl ?_
              rw [q_v36]
              obtain ⟨v43, q_v43⟩ : ∃ v, (h.1, h.2.1, qm_up J 35 (v36.toInt.toNat) v41, h.2.2.2).2.2.1 35 (v36.toInt.toNat) = v := ⟨_, rfl⟩
              refine hk_lal rfl (hH.1 35 (3, 18) rfl) (by omega) (by omega) q_v43 ?_
              refine qm_Ru.go 0 (c' := (132, [.ref 29, .int s, .int v35, .int op, .long g, .float 0, .int i, .int v8], [.long v43, .long g], (h.1, h.2.1, qm_up J 35 (v36.toInt.toNat) v41, h.2.2.2))) rfl ?_
              refine qm_Ru.go 1 (c' := (135, [.ref 29, .int s, .int v35, .int op, .long g, .float 0, .int i, .int v8], [.long (if v43 < g then g else v43)], (h.1, h.2.1, qm_up J 35 (v36.toInt.toNat) v41, h.2.2.2))) rfl ?_
              obtain ⟨v44, q_v44⟩ : ∃ v, (if v43 < g then g else v43) = v := ⟨_, rfl⟩
              rw [q_v44]
              refine qm_Ru.go 2 (c' := (140, [.ref 29, .int s, .int v35, .int op, .long v44, .float 0, .int (i + 1), .int v8], [], (h.1, h.2.1, qm_up J 35 (v36.toInt.toNat) v41, h.2.2.2))) rfl ?_
              obtain ⟨v45, q_v45, e_v45⟩ := hk_add (x := i) (y := 1) (a := i.toInt) (b := 1) rfl rfl (by omega) (by omega)
              rw [q_v45]
              refine qm_Ru.go 1 (c' := (15, [.ref 29, .int s, .int v35, .int op, .long v44, .float 0, .int v45, .int v8], [], (h.1, h.2.1, qm_up J 35 (v36.toInt.toNat) v41, h.2.2.2))) rfl ?_
              exact ih _ (by omega) (qm_up J 35 (v36.toInt.toNat) v41) v35 op v45 v44 (.int v8) (by omega) (by omega) rfl
        · refine qm_Ru.go 2 (c' := (9, [.int v29], [.int 24, .int v29], (h.1, h.2.1, J, h.2.2.2))) rfl ?_
          refine hk_cgt (ix := v29.toInt) (iy := 24) rfl rfl rfl (fun z46 => ?_) (fun z46 => ?_)
          · refine qm_Ru.go 1 (c' := (17, [.int v29], [.int 0], (h.1, h.2.1, J, h.2.2.2))) rfl ?_
            refine qm_Ru.rt (v := (some (.int 0))) (h' := (h.1, h.2.1, J, h.2.2.2)) rfl ?_
            refine qm_Ru.go 2 (c' := (18, [.int v8], [.int 0], (h.1, h.2.1, J, h.2.2.2))) rfl ?_
            refine qm_Ru.rt (v := (some (.int 0))) (h' := (h.1, h.2.1, J, h.2.2.2)) rfl ?_
            refine qm_Ru.go 3 (c' := (82, [.ref 29, .int s, .int tp, .int op, .long g, .float 0, .int i, .int v8], [.int (-12), .int v8], (h.1, h.2.1, J, h.2.2.2))) rfl ?_
            refine hk_ceq (ix := v8.toInt) (iy := (-12)) rfl rfl rfl (fun z47 => ?_) (fun z47 => ?_)
            · refine qm_Ru.go 1 (c' := (140, [.ref 29, .int s, .int tp, .int op, .long g, .float 0, .int (i + 1), .int v8], [], (h.1, h.2.1, J, h.2.2.2))) rfl ?_
              obtain ⟨v48, q_v48, e_v48⟩ := hk_add (x := i) (y := 1) (a := i.toInt) (b := 1) rfl rfl (by omega) (by omega)
              rw [q_v48]
              refine qm_Ru.go 1 (c' := (15, [.ref 29, .int s, .int tp, .int op, .long g, .float 0, .int v48, .int v8], [], (h.1, h.2.1, J, h.2.2.2))) rfl ?_
              exact ih _ (by omega) (J) tp op v48 g (.int v8) (by omega) (by omega) rfl
            · refine qm_Ru.go 2 (c' := (87, [.ref 29, .int s, .int tp, .int op, .long g, .float 0, .int i, .int v8], [.int 1, .int tp], (h.1, h.2.1, J, h.2.2.2))) rfl ?_
              refine hk_cle (ix := tp.toInt) (iy := 1) rfl rfl rfl (fun z49 => ?_) (fun z49 => ?_)
              · refine qm_Ru.go 1 (c' := (140, [.ref 29, .int s, .int tp, .int op, .long g, .float 0, .int (i + 1), .int v8], [], (h.1, h.2.1, J, h.2.2.2))) rfl ?_
                obtain ⟨v50, q_v50, e_v50⟩ := hk_add (x := i) (y := 1) (a := i.toInt) (b := 1) rfl rfl (by omega) (by omega)
                rw [q_v50]
                refine qm_Ru.go 1 (c' := (15, [.ref 29, .int s, .int tp, .int op, .long g, .float 0, .int v50, .int v8], [], (h.1, h.2.1, J, h.2.2.2))) rfl ?_
                exact ih _ (by omega) (J) tp op v50 g (.int v8) (by omega) (by omega) rfl
              · refine qm_Ru.go 1 (c' := (93, [.ref 29, .int s, .int (tp + (-1)), .int op, .long g, .float 0, .int i, .int v8], [], (h.1, h.2.1, J, h.2.2.2))) rfl ?_
                obtain ⟨v51, q_v51, e_v51⟩ := hk_add (x := tp) (y := (-1)) (a := tp.toInt) (b := (-1)) rfl rfl (by omega) (by omega)
                rw [q_v51]
                refine qm_Ru.go 1 (c' := (94, [.ref 29, .int s, .int v51, .int op, .long g, .float 0, .int i, .int v8], [.ref 29], (h.1, h.2.1, J, h.2.2.2))) rfl ?_
                refine hk_getr rfl (hH.1 29 (11, 16) rfl) rfl (hH.2 29 13 (some 35) rfl) ?_
                refine qm_Ru.go 3 (c' := (100, [.ref 29, .int s, .int v51, .int op, .long g, .float 0, .int i, .int v8], [.int (v51 - 1), .ref 35], (h.1, h.2.1, J, h.2.2.2))) rfl ?_
                obtain ⟨v52, q_v52, e_v52⟩ := hk_sub (x := v51) (y := 1) (a := v51.toInt) (b := 1) rfl rfl (by omega) (by omega)
                rw [q_v52]
                refine qm_Ru.go 3 (c' := (104, [.ref 29, .int s, .int v51, .int op, .long g, .float 0, .int i, .int v8], [.int (v8 ^^^ (-1)), .int v52, .ref 35], (h.1, h.2.1, J, h.2.2.2))) rfl ?_
                rw [q_v29]
                refine qm_Ru.go 1 (c' := (105, [.ref 29, .int s, .int v51, .int op, .long g, .float 0, .int i, .int v8], [.ref 29, .int v29, .int v52, .ref 35], (h.1, h.2.1, J, h.2.2.2))) rfl ?_
                refine hk_getr rfl (hH.1 29 (11, 16) rfl) rfl (hH.2 29 13 (some 35) rfl) ?_
                refine qm_Ru.go 3 (c' := (111, [.ref 29, .int s, .int v51, .int op, .long g, .float 0, .int i, .int v8], [.int (v51 - 1), .ref 35, .int v29, .int v52, .ref 35], (h.1, h.2.1, J, h.2.2.2))) rfl ?_
                rw [q_v52]
                obtain ⟨v55, q_v55⟩ : ∃ v, (h.1, h.2.1, J, h.2.2.2).2.2.1 35 (v52.toInt.toNat) = v := ⟨_, rfl⟩
                refine hk_lal rfl (hH.1 35 (3, 18) rfl) (by omega) (by omega) q_v55 ?_
                refine qm_Ru.go 1 (c' := (113, [.ref 29, .int s, .int v51, .int op, .long g, .float 0, .int i, .int v8], [.ref 29, .long v55, .int v29, .int v52, .ref 35], (h.1, h.2.1, J, h.2.2.2))) rfl ?_
                refine hk_getr rfl (hH.1 29 (11, 16) rfl) rfl (hH.2 29 13 (some 35) rfl) ?_
                refine qm_Ru.go 1 (c' := (117, [.ref 29, .int s, .int v51, .int op, .long g, .float 0, .int i, .int v8], [.int v51, .ref 35, .long v55, .int v29, .int v52, .ref 35], (h.1, h.2.1, J, h.2.2.2))) rfl ?_
                obtain ⟨v56, q_v56⟩ : ∃ v, (h.1, h.2.1, J, h.2.2.2).2.2.1 35 (v51.toInt.toNat) = v := ⟨_, rfl⟩
                refine hk_lal rfl (hH.1 35 (3, 18) rfl) (by omega) (by omega) q_v56 ?_
                refine qm_Ru.go 0 (c' := (118, [.ref 29, .int s, .int v51, .int op, .long g, .float 0, .int i, .int v8], [.long v56, .long v55, .int v29, .int v52, .ref 35], (h.1, h.2.1, J, h.2.2.2))) rfl ?_
                refine qm_Ru.call (j := 59) (as := [.int v29, .long v55, .long v56]) (c' := (121, [.ref 29, .int s, .int v51, .int op, .long g, .float 0, .int i, .int v8], [.int v52, .ref 35], (h.1, h.2.1, J, h.2.2.2))) rfl rfl rfl (hs_bound (h := (h.1, h.2.1, J, h.2.2.2)) (fun v57 => ?_))
                refine qm_Ru.go 0 (c' := (121, [.ref 29, .int s, .int v51, .int op, .long g, .float 0, .int i, .int v8], [.long v57, .int v52, .ref 35], (h.1, h.2.1, J, h.2.2.2))) rfl ?_
                refine hk_las rfl (hH.1 35 (3, 18) rfl) (by omega) (by omega) ?_
                refine qm_Ru.go 2 (c' := (125, [.ref 29, .int s, .int v51, .int op, .long g, .float 0, .int i, .int v8], [.ref 29, .long g], (h.1, h.2.1, qm_up J 35 (v52.toInt.toNat) v57, h.2.2.2))) rfl ?_
                refine hk_getr rfl (hH.1 29 (11, 16) rfl) rfl (hH.2 29 13 (some 35) rfl) ?_
                refine qm_Ru.go 3 (c' := (131, [.ref 29, .int s, .int v51, .int op, .long g, .float 0, .int i, .int v8], [.int (v51 - 1), .ref 35, .long g], (h.1, h.2.1, qm_up J 35 (v52.toInt.toNat) v57, h.2.2.2))) rfl ?_
                rw [q_v52]
                obtain ⟨v59, q_v59⟩ : ∃ v, (h.1, h.2.1, qm_up J 35 (v52.toInt.toNat) v57, h.2.2.2).2.2.1 35 (v52.toInt.toNat) = v := ⟨_, rfl⟩
                refine hk_lal rfl (hH.1 35 (3, 18) rfl) (by omega) (by omega) q_v59 ?_
                refine qm_Ru.go 0 (c' := (132, [.ref 29, .int s, .int v51, .int op, .long g, .float 0, .int i, .int v8], [.long v59, .long g], (h.1, h.2.1, qm_up J 35 (v52.toInt.toNat) v57, h.2.2.2))) rfl ?_
                refine qm_Ru.go 1 (c' := (135, [.ref 29, .int s, .int v51, .int op, .long g, .float 0, .int i, .int v8], [.long (if v59 < g then g else v59)], (h.1, h.2.1, qm_up J 35 (v52.toInt.toNat) v57, h.2.2.2))) rfl ?_
                obtain ⟨v60, q_v60⟩ : ∃ v, (if v59 < g then g else v59) = v := ⟨_, rfl⟩
                rw [q_v60]
                refine qm_Ru.go 2 (c' := (140, [.ref 29, .int s, .int v51, .int op, .long v60, .float 0, .int (i + 1), .int v8], [], (h.1, h.2.1, qm_up J 35 (v52.toInt.toNat) v57, h.2.2.2))) rfl ?_
                obtain ⟨v61, q_v61, e_v61⟩ := hk_add (x := i) (y := 1) (a := i.toInt) (b := 1) rfl rfl (by omega) (by omega)
                rw [q_v61]
                refine qm_Ru.go 1 (c' := (15, [.ref 29, .int s, .int v51, .int op, .long v60, .float 0, .int v61, .int v8], [], (h.1, h.2.1, qm_up J 35 (v52.toInt.toNat) v57, h.2.2.2))) rfl ?_
                exact ih _ (by omega) (qm_up J 35 (v52.toInt.toNat) v57) v51 op v61 v60 (.int v8) (by omega) (by omega) rfl
          · refine qm_Ru.go 2 (c' := (17, [.int v29], [.int 1], (h.1, h.2.1, J, h.2.2.2))) rfl ?_
            refine qm_Ru.rt (v := (some (.int 1))) (h' := (h.1, h.2.1, J, h.2.2.2)) rfl ?_
            refine qm_Ru.go 3 (c' := (18, [.int v8], [.int 1], (h.1, h.2.1, J, h.2.2.2))) rfl ?_
            refine qm_Ru.rt (v := (some (.int 1))) (h' := (h.1, h.2.1, J, h.2.2.2)) rfl ?_
            refine qm_Ru.go 3 (c' := (46, [.ref 29, .int s, .int tp, .int op, .long g, .float 0, .int i, .int v8], [.int 18, .int tp], (h.1, h.2.1, J, h.2.2.2))) rfl ?_
            refine hk_cge (ix := tp.toInt) (iy := 18) rfl rfl rfl (fun z62 => ?_) (fun z62 => ?_)
            · refine qm_Ru.go 2 (c' := (82, [.ref 29, .int s, .int tp, .int op, .long g, .float 0, .int i, .int v8], [.int (-12), .int v8], (h.1, h.2.1, J, h.2.2.2))) rfl ?_
              refine hk_ceq (ix := v8.toInt) (iy := (-12)) rfl rfl rfl (fun z63 => ?_) (fun z63 => ?_)
              · refine qm_Ru.go 1 (c' := (140, [.ref 29, .int s, .int tp, .int op, .long g, .float 0, .int (i + 1), .int v8], [], (h.1, h.2.1, J, h.2.2.2))) rfl ?_
                obtain ⟨v64, q_v64, e_v64⟩ := hk_add (x := i) (y := 1) (a := i.toInt) (b := 1) rfl rfl (by omega) (by omega)
                rw [q_v64]
                refine qm_Ru.go 1 (c' := (15, [.ref 29, .int s, .int tp, .int op, .long g, .float 0, .int v64, .int v8], [], (h.1, h.2.1, J, h.2.2.2))) rfl ?_
                exact ih _ (by omega) (J) tp op v64 g (.int v8) (by omega) (by omega) rfl
              · refine qm_Ru.go 2 (c' := (87, [.ref 29, .int s, .int tp, .int op, .long g, .float 0, .int i, .int v8], [.int 1, .int tp], (h.1, h.2.1, J, h.2.2.2))) rfl ?_
                refine hk_cle (ix := tp.toInt) (iy := 1) rfl rfl rfl (fun z65 => by exfalso; omega) (fun z65 => ?_)
                refine qm_Ru.go 1 (c' := (93, [.ref 29, .int s, .int (tp + (-1)), .int op, .long g, .float 0, .int i, .int v8], [], (h.1, h.2.1, J, h.2.2.2))) rfl ?_
                obtain ⟨v66, q_v66, e_v66⟩ := hk_add (x := tp) (y := (-1)) (a := tp.toInt) (b := (-1)) rfl rfl (by omega) (by omega)
                rw [q_v66]
                refine qm_Ru.go 1 (c' := (94, [.ref 29, .int s, .int v66, .int op, .long g, .float 0, .int i, .int v8], [.ref 29], (h.1, h.2.1, J, h.2.2.2))) rfl ?_
                refine hk_getr rfl (hH.1 29 (11, 16) rfl) rfl (hH.2 29 13 (some 35) rfl) ?_
                refine qm_Ru.go 3 (c' := (100, [.ref 29, .int s, .int v66, .int op, .long g, .float 0, .int i, .int v8], [.int (v66 - 1), .ref 35], (h.1, h.2.1, J, h.2.2.2))) rfl ?_
                obtain ⟨v67, q_v67, e_v67⟩ := hk_sub (x := v66) (y := 1) (a := v66.toInt) (b := 1) rfl rfl (by omega) (by omega)
                rw [q_v67]
                refine qm_Ru.go 3 (c' := (104, [.ref 29, .int s, .int v66, .int op, .long g, .float 0, .int i, .int v8], [.int (v8 ^^^ (-1)), .int v67, .ref 35], (h.1, h.2.1, J, h.2.2.2))) rfl ?_
                rw [q_v29]
                refine qm_Ru.go 1 (c' := (105, [.ref 29, .int s, .int v66, .int op, .long g, .float 0, .int i, .int v8], [.ref 29, .int v29, .int v67, .ref 35], (h.1, h.2.1, J, h.2.2.2))) rfl ?_
                refine hk_getr rfl (hH.1 29 (11, 16) rfl) rfl (hH.2 29 13 (some 35) rfl) ?_
                refine qm_Ru.go 3 (c' := (111, [.ref 29, .int s, .int v66, .int op, .long g, .float 0, .int i, .int v8], [.int (v66 - 1), .ref 35, .int v29, .int v67, .ref 35], (h.1, h.2.1, J, h.2.2.2))) rfl ?_
                rw [q_v67]
                obtain ⟨v70, q_v70⟩ : ∃ v, (h.1, h.2.1, J, h.2.2.2).2.2.1 35 (v67.toInt.toNat) = v := ⟨_, rfl⟩
                refine hk_lal rfl (hH.1 35 (3, 18) rfl) (by omega) (by omega) q_v70 ?_
                refine qm_Ru.go 1 (c' := (113, [.ref 29, .int s, .int v66, .int op, .long g, .float 0, .int i, .int v8], [.ref 29, .long v70, .int v29, .int v67, .ref 35], (h.1, h.2.1, J, h.2.2.2))) rfl ?_
                refine hk_getr rfl (hH.1 29 (11, 16) rfl) rfl (hH.2 29 13 (some 35) rfl) ?_
                refine qm_Ru.go 1 (c' := (117, [.ref 29, .int s, .int v66, .int op, .long g, .float 0, .int i, .int v8], [.int v66, .ref 35, .long v70, .int v29, .int v67, .ref 35], (h.1, h.2.1, J, h.2.2.2))) rfl ?_
                obtain ⟨v71, q_v71⟩ : ∃ v, (h.1, h.2.1, J, h.2.2.2).2.2.1 35 (v66.toInt.toNat) = v := ⟨_, rfl⟩
                refine hk_lal rfl (hH.1 35 (3, 18) rfl) (by omega) (by omega) q_v71 ?_
                refine qm_Ru.go 0 (c' := (118, [.ref 29, .int s, .int v66, .int op, .long g, .float 0, .int i, .int v8], [.long v71, .long v70, .int v29, .int v67, .ref 35], (h.1, h.2.1, J, h.2.2.2))) rfl ?_
                refine qm_Ru.call (j := 59) (as := [.int v29, .long v70, .long v71]) (c' := (121, [.ref 29, .int s, .int v66, .int op, .long g, .float 0, .int i, .int v8], [.int v67, .ref 35], (h.1, h.2.1, J, h.2.2.2))) rfl rfl rfl (hs_bound (h := (h.1, h.2.1, J, h.2.2.2)) (fun v72 => ?_))
                refine qm_Ru.go 0 (c' := (121, [.ref 29, .int s, .int v66, .int op, .long g, .float 0, .int i, .int v8], [.long v72, .int v67, .ref 35], (h.1, h.2.1, J, h.2.2.2))) rfl ?_
                refine hk_las rfl (hH.1 35 (3, 18) rfl) (by omega) (by omega) ?_
                refine qm_Ru.go 2 (c' := (125, [.ref 29, .int s, .int v66, .int op, .long g, .float 0, .int i, .int v8], [.ref 29, .long g], (h.1, h.2.1, qm_up J 35 (v67.toInt.toNat) v72, h.2.2.2))) rfl ?_
                refine hk_getr rfl (hH.1 29 (11, 16) rfl) rfl (hH.2 29 13 (some 35) rfl) ?_
                refine qm_Ru.go 3 (c' := (131, [.ref 29, .int s, .int v66, .int op, .long g, .float 0, .int i, .int v8], [.int (v66 - 1), .ref 35, .long g], (h.1, h.2.1, qm_up J 35 (v67.toInt.toNat) v72, h.2.2.2))) rfl ?_
                rw [q_v67]
                obtain ⟨v74, q_v74⟩ : ∃ v, (h.1, h.2.1, qm_up J 35 (v67.toInt.toNat) v72, h.2.2.2).2.2.1 35 (v67.toInt.toNat) = v := ⟨_, rfl⟩
                refine hk_lal rfl (hH.1 35 (3, 18) rfl) (by omega) (by omega) q_v74 ?_
                refine qm_Ru.go 0 (c' := (132, [.ref 29, .int s, .int v66, .int op, .long g, .float 0, .int i, .int v8], [.long v74, .long g], (h.1, h.2.1, qm_up J 35 (v67.toInt.toNat) v72, h.2.2.2))) rfl ?_
                refine qm_Ru.go 1 (c' := (135, [.ref 29, .int s, .int v66, .int op, .long g, .float 0, .int i, .int v8], [.long (if v74 < g then g else v74)], (h.1, h.2.1, qm_up J 35 (v67.toInt.toNat) v72, h.2.2.2))) rfl ?_
                obtain ⟨v75, q_v75⟩ : ∃ v, (if v74 < g then g else v74) = v := ⟨_, rfl⟩
                rw [q_v75]
                refine qm_Ru.go 2 (c' := (140, [.ref 29, .int s, .int v66, .int op, .long v75, .float 0, .int (i + 1), .int v8], [], (h.1, h.2.1, qm_up J 35 (v67.toInt.toNat) v72, h.2.2.2))) rfl ?_
                obtain ⟨v76, q_v76, e_v76⟩ := hk_add (x := i) (y := 1) (a := i.toInt) (b := 1) rfl rfl (by omega) (by omega)
                rw [q_v76]
                refine qm_Ru.go 1 (c' := (15, [.ref 29, .int s, .int v66, .int op, .long v75, .float 0, .int v76, .int v8], [], (h.1, h.2.1, qm_up J 35 (v67.toInt.toNat) v72, h.2.2.2))) rfl ?_
                exact ih _ (by omega) (qm_up J 35 (v67.toInt.toNat) v72) v66 op v76 v75 (.int v8) (by omega) (by omega) rfl
            · refine qm_Ru.go 1 (c' := (50, [.ref 29, .int s, .int tp, .int op, .long g, .float 0, .int i, .int v8], [.ref 29], (h.1, h.2.1, J, h.2.2.2))) rfl ?_
              refine hk_getr rfl (hH.1 29 (11, 16) rfl) rfl (hH.2 29 13 (some 35) rfl) ?_
              refine qm_Ru.go 2 (c' := (56, [.ref 29, .int s, .int tp, .int op, .long g, .float 0, .int i, .int v8], [.int v8, .int tp, .ref 35], (h.1, h.2.1, J, h.2.2.2))) rfl ?_
              refine hk_zlt (ix := v8.toInt) rfl rfl (fun z77 => ?_) (fun z77 => by exfalso; omega)
              refine qm_Ru.go 1 (c' := (68, [.ref 29, .int s, .int tp, .int op, .long g, .float 0, .int i, .int v8], [.long 40, .int tp, .ref 35], (h.1, h.2.1, J, h.2.2.2))) rfl ?_
              refine hk_las rfl (hH.1 35 (3, 18) rfl) (by omega) (by omega) ?_
              refine qm_Ru.go 1 (c' := (72, [.ref 29, .int s, .int (tp + 1), .int op, .long g, .float 0, .int i, .int v8], [], (h.1, h.2.1, qm_up J 35 (tp.toInt.toNat) 40, h.2.2.2))) rfl ?_
              obtain ⟨v78, q_v78, e_v78⟩ := hk_add (x := tp) (y := 1) (a := tp.toInt) (b := 1) rfl rfl (by omega) (by omega)
              rw [q_v78]
              refine qm_Ru.go 1 (c' := (75, [.ref 29, .int s, .int v78, .int (op + 1), .long g, .float 0, .int i, .int v8], [], (h.1, h.2.1, qm_up J 35 (tp.toInt.toNat) 40, h.2.2.2))) rfl ?_
              obtain ⟨v79, q_v79, e_v79⟩ := hk_add (x := op) (y := 1) (a := op.toInt) (b := 1) rfl rfl (by omega) (by omega)
              rw [q_v79]
              refine qm_Ru.go 2 (c' := (140, [.ref 29, .int s, .int v78, .int v79, .long g, .float 0, .int (i + 1), .int v8], [], (h.1, h.2.1, qm_up J 35 (tp.toInt.toNat) 40, h.2.2.2))) rfl ?_
              obtain ⟨v80, q_v80, e_v80⟩ := hk_add (x := i) (y := 1) (a := i.toInt) (b := 1) rfl rfl (by omega) (by omega)
              rw [q_v80]
              refine qm_Ru.go 1 (c' := (15, [.ref 29, .int s, .int v78, .int v79, .long g, .float 0, .int v80, .int v8], [], (h.1, h.2.1, qm_up J 35 (tp.toInt.toNat) 40, h.2.2.2))) rfl ?_
              exact ih _ (by omega) (qm_up J 35 (tp.toInt.toNat) 40) v78 v79 v80 g (.int v8) (by omega) (by omega) rfl
theorem hs_meas29 {L : Nat} {xs : Nat → Int32} {d : Nat} {Z : Option Value → qm_H → Prop} {h : qm_H} (hH : hk_H h) (hB : hk_B h.2.1) {s : Int32} (hs : (0 : Int) ≤ s.toInt ∧ s.toInt ≤ 15) (hw : wI h) (k : ∀ h' : qm_H, mS 29 h h' → Z none h') : qm_Ru (some (L, xs)) (d + 3) cd_57 (qm_ent 8 [.ref 29, .int s] h) Z := by
  show qm_Ru (some (L, xs)) (d + 3) cd_57 (0, [.ref 29, .int s, .float 0, .float 0, .float 0, .float 0, .float 0, .float 0], [], h) Z
  refine qm_Ru.go 7 (c' := (8, [.ref 29, .int s, .int 0, .int 0, .long 0, .float 0, .float 0, .float 0], [.ref 29], h)) rfl ?_
  refine hk_getr rfl (hH.1 29 (11, 16) rfl) rfl (hH.2 29 9 (some 31) rfl) ?_
  refine qm_Ru.go 1 (c' := (12, [.ref 29, .int s, .int 0, .int 0, .long 0, .float 0, .float 0, .float 0], [.int s, .ref 31], h)) rfl ?_
  obtain ⟨v1, q_v1⟩ : ∃ v, h.2.1 31 (s.toInt.toNat) = v := ⟨_, rfl⟩
  have b_v1 : (0 : Int) ≤ v1.toInt ∧ v1.toInt ≤ 400 := by rw [← q_v1]; exact hB 31 (s.toInt.toNat)
  refine hk_ial (v := v1) rfl (hH.1 31 (0, 16) rfl) (by omega) (by omega) q_v1 ?_
  refine qm_Ru.go 1 (c' := (15, [.ref 29, .int s, .int 0, .int 0, .long 0, .float 0, .int v1, .float 0], [], h)) rfl ?_
  refine hl_meas29 hH hB hs (fun v J tp op i g l7 bv => ?_) _ h.2.2.1 0 0 v1 0 _ (by decide) (by have e0 : (0 : Int32).toInt = 0 := rfl; omega) rfl
  have hB1 : hk_B (qm_up h.2.1 33 s.toInt.toNat v) := hb_up hB ⟨by show (0 : Int) ≤ v.toInt; omega, by show v.toInt ≤ (101 : Int); omega⟩
  have m0 : mS 29 h (h.1, qm_up h.2.1 33 s.toInt.toNat v, J, h.2.2.2) := ⟨fun _ _ => rfl, fun _ _ _ _ => rfl, fun o ho hn i => hk_on (by omega), hB1, wI_same hw rfl rfl⟩
  refine qm_Ru.go 1 (c' := (167, [.ref 29, .int s, .int tp, .int op, .long g, .float 0, .int i, l7], [.ref 29], (h.1, qm_up h.2.1 33 s.toInt.toNat v, J, h.2.2.2))) rfl ?_
  refine hk_getr rfl (hH.1 29 (11, 16) rfl) rfl (hH.2 29 11 (some 33) rfl) ?_
  refine qm_Ru.go 1 (c' := (171, [.ref 29, .int s, .int tp, .int op, .long g, .float 0, .int i, l7], [.int s, .ref 33], (h.1, qm_up h.2.1 33 s.toInt.toNat v, J, h.2.2.2))) rfl ?_
  refine hk_ial (v := v) rfl (hH.1 33 (0, 16) rfl) (by omega) (by omega) hk_same ?_
  refine hk_zle (ix := v.toInt) rfl rfl (fun z => ?_) (fun z => ?_)
  · exact qm_Ru.rt (v := none) (h' := (h.1, qm_up h.2.1 33 s.toInt.toNat v, J, h.2.2.2)) rfl (k _ m0)
  · refine qm_Ru.go 1 (c' := (176, [.ref 29, .int s, .int tp, .int op, .long g, .float 0, .int i, l7], [.ref 29], (h.1, qm_up h.2.1 33 s.toInt.toNat v, J, h.2.2.2))) rfl ?_
    cases hn : h.2.2.2 29 15 with
    | some w =>
      refine hk_getr rfl (hH.1 29 (11, 16) rfl) rfl (o2 := w) hn ?_
      refine qm_Ru.go 1 (c' := (193, [.ref 29, .int s, .int tp, .int op, .long g, .float 0, .int i, l7], [], (h.1, qm_up h.2.1 33 s.toInt.toNat v, J, h.2.2.2))) rfl ?_
      exact qm_Ru.rt (v := none) (h' := (h.1, qm_up h.2.1 33 s.toInt.toNat v, J, h.2.2.2)) rfl (k _ m0)
    | none =>
      refine hk_getn rfl (hH.1 29 (11, 16) rfl) rfl hn ?_
      refine qm_Ru.go 1 (c' := (182, [.ref 29, .int s, .int tp, .int op, .long g, .float 0, .int i, l7], [], (h.1, qm_up h.2.1 33 s.toInt.toNat v, J, h.2.2.2))) rfl ?_
      refine hs_wnew (h := (h.1, qm_up h.2.1 33 s.toInt.toNat v, J, h.2.2.2)) (d := d + 1) (hH.1 29 (11, 16) rfl) ?_
      refine qm_Ru.rt (v := none) (h' := (h.1 ++ wsh, qm_up h.2.1 33 s.toInt.toNat v, J, wrf (h.1, qm_up h.2.1 33 s.toInt.toNat v, J, h.2.2.2) 29)) rfl (k _ ?_)
      have hl : 192 ≤ h.1.length := by rcases hw.2 with ⟨b1, _⟩ | ⟨b1, _⟩ | ⟨b1, _⟩ <;> omega
      refine ⟨fun o ho => ?_, fun o i ho hi => wrf_old (h := (h.1, qm_up h.2.1 33 s.toInt.toNat v, J, h.2.2.2)) (by show o < h.1.length; omega) hi, fun o ho hn i => hk_on (by omega), hB1, wI_new (h := (h.1, qm_up h.2.1 33 s.toInt.toNat v, J, h.2.2.2)) (wI_same hw rfl rfl) (by decide) hn⟩
      show (h.1 ++ wsh)[o]? = h.1[o]?
      rw [List.getElem?_append_left (by omega)]
theorem hl_mr29_b {L : Nat} {xs : Nat → Int32} {d : Nat} {Z : Option Value → qm_H → Prop} : ∀ (m : Nat) (h : qm_H) (i : Int32), hk_H h → hk_B h.2.1 → wI h → (∀ h' : qm_H, mS 29 h h' → Z none h') → (0 ≤ i.toInt ∧ i.toInt ≤ 8) → (8 - i.toInt).toNat = m → qm_Ru (some (L, xs)) (d + 4) cd_56 (23, [.ref 29, .int i], [], h) Z := by
  intro m
  induction m using Nat.strongRecOn with
  | ind m ih =>
    intro h i hH hB hw k hi hm
    refine qm_Ru.go 2 (c' := (25, [.ref 29, .int i], [.ref 29, .int i], h)) rfl ?_
    obtain ⟨v1, q_v1⟩ : ∃ v, h.2.1 29 7 = v := ⟨_, rfl⟩
    have b_v1 : (0 : Int) ≤ v1.toInt ∧ v1.toInt ≤ 8 := by rw [← q_v1]; exact hB 29 7
    refine hk_geti (v := v1) rfl (hH.1 29 (11, 16) rfl) rfl q_v1 ?_
    refine qm_Ru.go 0 (c' := (28, [.ref 29, .int i], [.int v1, .int i], h)) rfl ?_
    refine hk_cge (ix := i.toInt) (iy := v1.toInt) rfl rfl rfl (fun z2 => ?_) (fun z2 => ?_)
    · refine qm_Ru.go 0 (c' := (45, [.ref 29, .int i], [], h)) rfl ?_
      refine qm_Ru.rt (v := none) (h' := h) rfl ?_
      exact k _ ⟨fun _ _ => rfl, fun _ _ _ _ => rfl, fun _ _ _ _ => rfl, hB, hw⟩
    · refine qm_Ru.go 4 (c' := (36, [.ref 29, .int i], [.int (8 + i), .ref 29], h)) rfl ?_
      obtain ⟨v3, q_v3, e_v3⟩ := hk_add (x := 8) (y := i) (a := 8) (b := i.toInt) rfl rfl (by omega) (by omega)
      rw [q_v3]
      refine hk_inv (o := 29) (r := []) (as := [.ref 29, .int v3]) rfl rfl (hH.1 29 (11, 16) rfl) rfl rfl rfl rfl (hs_meas29 (d := d) hH hB (s := v3) (by omega) hw (fun h1 m1 => ?_))
      refine qm_Ru.go 1 (c' := (42, [.ref 29, .int (i + 1)], [], h1)) rfl ?_
      obtain ⟨v4, q_v4, e_v4⟩ := hk_add (x := i) (y := 1) (a := i.toInt) (b := 1) rfl rfl (by omega) (by omega)
      rw [q_v4]
      refine qm_Ru.go 1 (c' := (23, [.ref 29, .int v4], [], h1)) rfl ?_
      exact ih _ (by omega) h1 v4 (mS_H (by decide) hH m1) m1.2.2.2.1 m1.2.2.2.2 (fun h2 m2 => k h2 (mS_trans m1 m2)) (by omega) rfl
theorem hl_mr29_a {L : Nat} {xs : Nat → Int32} {d : Nat} {Z : Option Value → qm_H → Prop} : ∀ (m : Nat) (h : qm_H) (i : Int32), hk_H h → hk_B h.2.1 → wI h → (∀ h' : qm_H, mS 29 h h' → Z none h') → (0 ≤ i.toInt ∧ i.toInt ≤ 8) → (8 - i.toInt).toNat = m → qm_Ru (some (L, xs)) (d + 4) cd_56 (2, [.ref 29, .int i], [], h) Z := by
  intro m
  induction m using Nat.strongRecOn with
  | ind m ih =>
    intro h i hH hB hw k hi hm
    refine qm_Ru.go 2 (c' := (4, [.ref 29, .int i], [.ref 29, .int i], h)) rfl ?_
    obtain ⟨v1, q_v1⟩ : ∃ v, h.2.1 29 6 = v := ⟨_, rfl⟩
    have b_v1 : (0 : Int) ≤ v1.toInt ∧ v1.toInt ≤ 8 := by rw [← q_v1]; exact hB 29 6
    refine hk_geti (v := v1) rfl (hH.1 29 (11, 16) rfl) rfl q_v1 ?_
    refine qm_Ru.go 0 (c' := (7, [.ref 29, .int i], [.int v1, .int i], h)) rfl ?_
    refine hk_cge (ix := i.toInt) (iy := v1.toInt) rfl rfl rfl (fun z2 => ?_) (fun z2 => ?_)
    · refine qm_Ru.go 2 (c' := (23, [.ref 29, .int 0], [], h)) rfl ?_
      exact hl_mr29_b (d := d) _ h 0 hH hB hw k (by decide) rfl
    · refine qm_Ru.go 2 (c' := (12, [.ref 29, .int i], [.int i, .ref 29], h)) rfl ?_
      refine hk_inv (o := 29) (r := []) (as := [.ref 29, .int i]) rfl rfl (hH.1 29 (11, 16) rfl) rfl rfl rfl rfl (hs_meas29 (d := d) hH hB (s := i) (by omega) hw (fun h1 m1 => ?_))
      refine qm_Ru.go 1 (c' := (18, [.ref 29, .int (i + 1)], [], h1)) rfl ?_
      obtain ⟨v3, q_v3, e_v3⟩ := hk_add (x := i) (y := 1) (a := i.toInt) (b := 1) rfl rfl (by omega) (by omega)
      rw [q_v3]
      refine qm_Ru.go 1 (c' := (2, [.ref 29, .int v3], [], h1)) rfl ?_
      exact ih _ (by omega) h1 v3 (mS_H (by decide) hH m1) m1.2.2.2.1 m1.2.2.2.2 (fun h2 m2 => k h2 (mS_trans m1 m2)) (by omega) rfl
theorem hs_mr29 {L : Nat} {xs : Nat → Int32} {d : Nat} {Z : Option Value → qm_H → Prop} {h : qm_H} (hH : hk_H h) (hB : hk_B h.2.1) (hw : wI h) (k : ∀ h' : qm_H, mS 29 h h' → Z none h') : qm_Ru (some (L, xs)) (d + 4) cd_56 (qm_ent 2 [.ref 29] h) Z := by
  refine qm_Ru.go 2 (c' := (2, [.ref 29, .int 0], [], h)) rfl ?_
  exact hl_mr29_a (d := d) _ h 0 hH hB hw k (by decide) rfl
theorem hl_meas111 {L : Nat} {xs : Nat → Int32} {d : Nat} {Z : Option Value → qm_H → Prop} {h : qm_H} (hH : hk_H h) (hB : hk_B h.2.1) {s : Int32} (hs : (0 : Int) ≤ s.toInt ∧ s.toInt ≤ 15) (k : ∀ (v : Int32) (J : Nat → Nat → Int64) (tp op i : Int32) (g : Int64) (l7 : Value), (0 : Int) ≤ v.toInt ∧ v.toInt ≤ 101 → qm_Ru (some (L, xs)) (d + 3) cd_57 (166, [.ref 111, .int s, .int tp, .int op, .long g, .float 0, .int i, l7], [], (h.1, qm_up h.2.1 115 s.toInt.toNat v, J, h.2.2.2)) Z) : ∀ (m : Nat) (J : Nat → Nat → Int64) (tp op i : Int32) (g : Int64) (l7 : Value), (0 ≤ tp.toInt ∧ tp.toInt ≤ 18) → (0 ≤ op.toInt ∧ op.toInt ≤ i.toInt ∧ i.toInt ≤ 400) → (400 - i.toInt).toNat = m → qm_Ru (some (L, xs)) (d + 3) cd_57 (15, [.ref 111, .int s, .int tp, .int op, .long g, .float 0, .int i, l7], [], (h.1, h.2.1, J, h.2.2.2)) Z := by
  intro m
  induction m using Nat.strongRecOn with
  | ind m ih =>
    intro J tp op i g l7 ht ho hm
    refine qm_Ru.go 2 (c' := (18, [.ref 111, .int s, .int tp, .int op, .long g, .float 0, .int i, l7], [.ref 111, .int i], (h.1, h.2.1, J, h.2.2.2))) rfl ?_
    refine hk_getr rfl (hH.1 111 (11, 16) rfl) rfl (hH.2 111 10 (some 114) rfl) ?_
    refine qm_Ru.go 1 (c' := (22, [.ref 111, .int s, .int tp, .int op, .long g, .float 0, .int i, l7], [.int s, .ref 114, .int i], (h.1, h.2.1, J, h.2.2.2))) rfl ?_
    obtain ⟨v1, q_v1⟩ : ∃ v, h.2.1 114 (s.toInt.toNat) = v := ⟨_, rfl⟩
    have b_v1 : (0 : Int) ≤ v1.toInt ∧ v1.toInt ≤ 400 := by rw [← q_v1]; exact hB 114 (s.toInt.toNat)
    refine hk_ial (v := v1) rfl (hH.1 114 (0, 16) rfl) (by omega) (by omega) q_v1 ?_
    refine qm_Ru.go 0 (c' := (23, [.ref 111, .int s, .int tp, .int op, .long g, .float 0, .int i, l7], [.int v1, .int i], (h.1, h.2.1, J, h.2.2.2))) rfl ?_
    refine hk_cge (ix := i.toInt) (iy := v1.toInt) rfl rfl rfl (fun z2 => ?_) (fun z2 => ?_)
    · refine qm_Ru.go 1 (c' := (144, [.ref 111, .int s, .int tp, .int op, .long g, .float 0, .int i, l7], [.ref 111], (h.1, h.2.1, J, h.2.2.2))) rfl ?_
      refine hk_getr rfl (hH.1 111 (11, 16) rfl) rfl (hH.2 111 11 (some 115) rfl) ?_
      refine qm_Ru.go 4 (c' := (154, [.ref 111, .int s, .int tp, .int op, .long g, .float 0, .int i, l7], [.int (lg_cmp g 2305843009213693952), .int s, .ref 115], (h.1, h.2.1, J, h.2.2.2))) rfl ?_
      obtain ⟨v3, q_v3⟩ : ∃ v, (lg_cmp g 2305843009213693952) = v := ⟨_, rfl⟩
      rw [q_v3]
      refine hk_zlt (ix := v3.toInt) rfl rfl (fun z4 => ?_) (fun z4 => ?_)
      · refine qm_Ru.go 1 (c' := (165, [.ref 111, .int s, .int tp, .int op, .long g, .float 0, .int i, l7], [.int 0, .int s, .ref 115], (h.1, h.2.1, J, h.2.2.2))) rfl ?_
        refine hk_ias rfl (hH.1 115 (0, 16) rfl) (by omega) (by omega) ?_
        refine qm_Ru.go 0 (c' := (166, [.ref 111, .int s, .int tp, .int op, .long g, .float 0, .int i, l7], [], (h.1, qm_up h.2.1 115 (s.toInt.toNat) 0, J, h.2.2.2))) rfl ?_
        exact k 0 (J) tp op i g l7 (by decide)
      · refine qm_Ru.go 1 (c' := (158, [.ref 111, .int s, .int tp, .int op, .long g, .float 0, .int i, l7], [.int op, .int s, .ref 115], (h.1, h.2.1, J, h.2.2.2))) rfl ?_
        refine qm_Ru.call (j := 60) (as := [.int op]) (c' := (161, [.ref 111, .int s, .int tp, .int op, .long g, .float 0, .int i, l7], [.int s, .ref 115], (h.1, h.2.1, J, h.2.2.2))) rfl rfl rfl ?_
        refine qm_Ru.go 4 (c' := (5, [.int op], [.int (op / 2), .int 101], (h.1, h.2.1, J, h.2.2.2))) rfl ?_
        obtain ⟨v5, q_v5, e_v5⟩ := hk_div (x := op) (y := 2) (a := op.toInt) (b := 2) rfl rfl (by omega) (by omega)
        rw [q_v5]
        refine qm_Ru.go 2 (c' := (7, [.int op], [.int (v5 + 2), .int 101], (h.1, h.2.1, J, h.2.2.2))) rfl ?_
        obtain ⟨v6, q_v6, e_v6⟩ := hk_add (x := v5) (y := 2) (a := v5.toInt) (b := 2) rfl rfl (by omega) (by omega)
        rw [q_v6]
        refine qm_Ru.go 1 (c' := (10, [.int op], [.int (if v6 < 101 then v6 else 101)], (h.1, h.2.1, J, h.2.2.2))) rfl ?_
        obtain ⟨v7, q_v7⟩ : ∃ v, (if v6 < 101 then v6 else 101) = v := ⟨_, rfl⟩
        rw [q_v7]
        have m_v7 : (0 : Int) ≤ v7.toInt ∧ v7.toInt ≤ 101 := by
          have e101 : (101 : Int32).toInt = 101 := rfl
          rw [← q_v7]
          split
          · rename_i hc
            have h9 := hk_lti.mp hc
            omega
          · decide
        refine qm_Ru.rt (v := (some (.int v7))) (h' := (h.1, h.2.1, J, h.2.2.2)) rfl ?_
        refine qm_Ru.go 1 (c' := (165, [.ref 111, .int s, .int tp, .int op, .long g, .float 0, .int i, l7], [.int v7, .int s, .ref 115], (h.1, h.2.1, J, h.2.2.2))) rfl ?_
        refine hk_ias rfl (hH.1 115 (0, 16) rfl) (by omega) (by omega) ?_
        refine qm_Ru.go 0 (c' := (166, [.ref 111, .int s, .int tp, .int op, .long g, .float 0, .int i, l7], [], (h.1, qm_up h.2.1 115 (s.toInt.toNat) v7, J, h.2.2.2))) rfl ?_
        exact k v7 (J) tp op i g l7 (by omega)
    · refine qm_Ru.go 1 (c' := (27, [.ref 111, .int s, .int tp, .int op, .long g, .float 0, .int i, l7], [.ref 111], (h.1, h.2.1, J, h.2.2.2))) rfl ?_
      refine hk_getr rfl (hH.1 111 (11, 16) rfl) rfl (hH.2 111 8 (some 112) rfl) ?_
      refine qm_Ru.go 1 (c' := (32, [.ref 111, .int s, .int tp, .int op, .long g, .float 0, .int i, l7], [.int i, .ref 112], (h.1, h.2.1, J, h.2.2.2))) rfl ?_
      obtain ⟨v8, q_v8⟩ : ∃ v, h.2.1 112 (i.toInt.toNat) = v := ⟨_, rfl⟩
      refine hk_ial (v := v8) rfl (hH.1 112 (0, 400) rfl) (by omega) (by omega) q_v8 ?_
      refine qm_Ru.go 2 (c' := (37, [.ref 111, .int s, .int tp, .int op, .long g, .float 0, .int i, .int v8], [.int v8], (h.1, h.2.1, J, h.2.2.2))) rfl ?_
      refine qm_Ru.call (j := 58) (as := [.int v8]) (c' := (40, [.ref 111, .int s, .int tp, .int op, .long g, .float 0, .int i, .int v8], [], (h.1, h.2.1, J, h.2.2.2))) rfl rfl rfl ?_
      refine qm_Ru.go 1 (c' := (1, [.int v8], [.int v8], (h.1, h.2.1, J, h.2.2.2))) rfl ?_
      refine hk_zge (ix := v8.toInt) rfl rfl (fun z9 => ?_) (fun z9 => ?_)
      · refine qm_Ru.go 2 (c' := (18, [.int v8], [.int 1], (h.1, h.2.1, J, h.2.2.2))) rfl ?_
        refine qm_Ru.rt (v := (some (.int 1))) (h' := (h.1, h.2.1, J, h.2.2.2)) rfl ?_
        refine qm_Ru.go 3 (c' := (46, [.ref 111, .int s, .int tp, .int op, .long g, .float 0, .int i, .int v8], [.int 18, .int tp], (h.1, h.2.1, J, h.2.2.2))) rfl ?_
        refine hk_cge (ix := tp.toInt) (iy := 18) rfl rfl rfl (fun z10 => ?_) (fun z10 => ?_)
        · refine qm_Ru.go 2 (c' := (82, [.ref 111, .int s, .int tp, .int op, .long g, .float 0, .int i, .int v8], [.int (-12), .int v8], (h.1, h.2.1, J, h.2.2.2))) rfl ?_
          refine hk_ceq (ix := v8.toInt) (iy := (-12)) rfl rfl rfl (fun z11 => by exfalso; omega) (fun z11 => ?_)
          refine qm_Ru.go 2 (c' := (87, [.ref 111, .int s, .int tp, .int op, .long g, .float 0, .int i, .int v8], [.int 1, .int tp], (h.1, h.2.1, J, h.2.2.2))) rfl ?_
          refine hk_cle (ix := tp.toInt) (iy := 1) rfl rfl rfl (fun z12 => by exfalso; omega) (fun z12 => ?_)
          refine qm_Ru.go 1 (c' := (93, [.ref 111, .int s, .int (tp + (-1)), .int op, .long g, .float 0, .int i, .int v8], [], (h.1, h.2.1, J, h.2.2.2))) rfl ?_
          obtain ⟨v13, q_v13, e_v13⟩ := hk_add (x := tp) (y := (-1)) (a := tp.toInt) (b := (-1)) rfl rfl (by omega) (by omega)
          rw [q_v13]
          refine qm_Ru.go 1 (c' := (94, [.ref 111, .int s, .int v13, .int op, .long g, .float 0, .int i, .int v8], [.ref 111], (h.1, h.2.1, J, h.2.2.2))) rfl ?_
          refine hk_getr rfl (hH.1 111 (11, 16) rfl) rfl (hH.2 111 13 (some 117) rfl) ?_
          refine qm_Ru.go 3 (c' := (100, [.ref 111, .int s, .int v13, .int op, .long g, .float 0, .int i, .int v8], [.int (v13 - 1), .ref 117], (h.1, h.2.1, J, h.2.2.2))) rfl ?_
          obtain ⟨v14, q_v14, e_v14⟩ := hk_sub (x := v13) (y := 1) (a := v13.toInt) (b := 1) rfl rfl (by omega) (by omega)
          rw [q_v14]
          refine qm_Ru.go 3 (c' := (104, [.ref 111, .int s, .int v13, .int op, .long g, .float 0, .int i, .int v8], [.int (v8 ^^^ (-1)), .int v14, .ref 117], (h.1, h.2.1, J, h.2.2.2))) rfl ?_
          obtain ⟨v15, q_v15⟩ : ∃ v, (v8 ^^^ (-1)) = v := ⟨_, rfl⟩
          rw [q_v15]
          refine qm_Ru.go 1 (c' := (105, [.ref 111, .int s, .int v13, .int op, .long g, .float 0, .int i, .int v8], [.ref 111, .int v15, .int v14, .ref 117], (h.1, h.2.1, J, h.2.2.2))) rfl ?_
          refine hk_getr rfl (hH.1 111 (11, 16) rfl) rfl (hH.2 111 13 (some 117) rfl) ?_
          refine qm_Ru.go 3 (c' := (111, [.ref 111, .int s, .int v13, .int op, .long g, .float 0, .int i, .int v8], [.int (v13 - 1), .ref 117, .int v15, .int v14, .ref 117], (h.1, h.2.1, J, h.2.2.2))) rfl ?_
          rw [q_v14]
          obtain ⟨v17, q_v17⟩ : ∃ v, (h.1, h.2.1, J, h.2.2.2).2.2.1 117 (v14.toInt.toNat) = v := ⟨_, rfl⟩
          refine hk_lal rfl (hH.1 117 (3, 18) rfl) (by omega) (by omega) q_v17 ?_
          refine qm_Ru.go 1 (c' := (113, [.ref 111, .int s, .int v13, .int op, .long g, .float 0, .int i, .int v8], [.ref 111, .long v17, .int v15, .int v14, .ref 117], (h.1, h.2.1, J, h.2.2.2))) rfl ?_
          refine hk_getr rfl (hH.1 111 (11, 16) rfl) rfl (hH.2 111 13 (some 117) rfl) ?_
          refine qm_Ru.go 1 (c' := (117, [.ref 111, .int s, .int v13, .int op, .long g, .float 0, .int i, .int v8], [.int v13, .ref 117, .long v17, .int v15, .int v14, .ref 117], (h.1, h.2.1, J, h.2.2.2))) rfl ?_
          obtain ⟨v18, q_v18⟩ : ∃ v, (h.1, h.2.1, J, h.2.2.2).2.2.1 117 (v13.toInt.toNat) = v := ⟨_, rfl⟩
          refine hk_lal rfl (hH.1 117 (3, 18) rfl) (by omega) (by omega) q_v18 ?_
          refine qm_Ru.go 0 (c' := (118, [.ref 111, .int s, .int v13, .int op, .long g, .float 0, .int i, .int v8], [.long v18, .long v17, .int v15, .int v14, .ref 117], (h.1, h.2.1, J, h.2.2.2))) rfl ?_
          refine qm_Ru.call (j := 59) (as := [.int v15, .long v17, .long v18]) (c' := (121, [.ref 111, .int s, .int v13, .int op, .long g, .float 0, .int i, .int v8], [.int v14, .ref 117], (h.1, h.2.1, J, h.2.2.2))) rfl rfl rfl (hs_bound (h := (h.1, h.2.1, J, h.2.2.2)) (fun v19 => ?_))
          refine qm_Ru.go 0 (c' := (121, [.ref 111, .int s, .int v13, .int op, .long g, .float 0, .int i, .int v8], [.long v19, .int v14, .ref 117], (h.1, h.2.1, J, h.2.2.2))) rfl ?_
          refine hk_las rfl (hH.1 117 (3, 18) rfl) (by omega) (by omega) ?_
          refine qm_Ru.go 2 (c' := (125, [.ref 111, .int s, .int v13, .int op, .long g, .float 0, .int i, .int v8], [.ref 111, .long g], (h.1, h.2.1, qm_up J 117 (v14.toInt.toNat) v19, h.2.2.2))) rfl ?_
          refine hk_getr rfl (hH.1 111 (11, 16) rfl) rfl (hH.2 111 13 (some 117) rfl) ?_
          refine qm_Ru.go 3 (c' := (131, [.ref 111, .int s, .int v13, .int op, .long g, .float 0, .int i, .int v8], [.int (v13 - 1), .ref 117, .long g], (h.1, h.2.1, qm_up J 117 (v14.toInt.toNat) v19, h.2.2.2))) rfl ?_
          rw [q_v14]
          obtain ⟨v21, q_v21⟩ : ∃ v, (h.1, h.2.1, qm_up J 117 (v14.toInt.toNat) v19, h.2.2.2).2.2.1 117 (v14.toInt.toNat) = v := ⟨_, rfl⟩
          refine hk_lal rfl (hH.1 117 (3, 18) rfl) (by omega) (by omega) q_v21 ?_
          refine qm_Ru.go 0 (c' := (132, [.ref 111, .int s, .int v13, .int op, .long g, .float 0, .int i, .int v8], [.long v21, .long g], (h.1, h.2.1, qm_up J 117 (v14.toInt.toNat) v19, h.2.2.2))) rfl ?_
          refine qm_Ru.go 1 (c' := (135, [.ref 111, .int s, .int v13, .int op, .long g, .float 0, .int i, .int v8], [.long (if v21 < g then g else v21)], (h.1, h.2.1, qm_up J 117 (v14.toInt.toNat) v19, h.2.2.2))) rfl ?_
          obtain ⟨v22, q_v22⟩ : ∃ v, (if v21 < g then g else v21) = v := ⟨_, rfl⟩
          rw [q_v22]
          refine qm_Ru.go 2 (c' := (140, [.ref 111, .int s, .int v13, .int op, .long v22, .float 0, .int (i + 1), .int v8], [], (h.1, h.2.1, qm_up J 117 (v14.toInt.toNat) v19, h.2.2.2))) rfl ?_
          obtain ⟨v23, q_v23, e_v23⟩ := hk_add (x := i) (y := 1) (a := i.toInt) (b := 1) rfl rfl (by omega) (by omega)
          rw [q_v23]
          refine qm_Ru.go 1 (c' := (15, [.ref 111, .int s, .int v13, .int op, .long v22, .float 0, .int v23, .int v8], [], (h.1, h.2.1, qm_up J 117 (v14.toInt.toNat) v19, h.2.2.2))) rfl ?_
          exact ih _ (by omega) (qm_up J 117 (v14.toInt.toNat) v19) v13 op v23 v22 (.int v8) (by omega) (by omega) rfl
        · refine qm_Ru.go 1 (c' := (50, [.ref 111, .int s, .int tp, .int op, .long g, .float 0, .int i, .int v8], [.ref 111], (h.1, h.2.1, J, h.2.2.2))) rfl ?_
          refine hk_getr rfl (hH.1 111 (11, 16) rfl) rfl (hH.2 111 13 (some 117) rfl) ?_
          refine qm_Ru.go 2 (c' := (56, [.ref 111, .int s, .int tp, .int op, .long g, .float 0, .int i, .int v8], [.int v8, .int tp, .ref 117], (h.1, h.2.1, J, h.2.2.2))) rfl ?_
          refine hk_zlt (ix := v8.toInt) rfl rfl (fun z24 => by exfalso; omega) (fun z24 => ?_)
          refine qm_Ru.go 2 (c' := (62, [.ref 111, .int s, .int tp, .int op, .long g, .float 0, .int i, .int v8], [.long (Int32.toInt64 v8), .int tp, .ref 117], (h.1, h.2.1, J, h.2.2.2))) rfl ?_
          obtain ⟨v25, q_v25⟩ : ∃ v, (Int32.toInt64 v8) = v := ⟨_, rfl⟩
          rw [q_v25]
          refine qm_Ru.go 1 (c' := (68, [.ref 111, .int s, .int tp, .int op, .long g, .float 0, .int i, .int v8], [.long v25, .int tp, .ref 117], (h.1, h.2.1, J, h.2.2.2))) rfl ?_
          refine hk_las rfl (hH.1 117 (3, 18) rfl) (by omega) (by omega) ?_
          refine qm_Ru.go 1 (c' := (72, [.ref 111, .int s, .int (tp + 1), .int op, .long g, .float 0, .int i, .int v8], [], (h.1, h.2.1, qm_up J 117 (tp.toInt.toNat) v25, h.2.2.2))) rfl ?_
          obtain ⟨v26, q_v26, e_v26⟩ := hk_add (x := tp) (y := 1) (a := tp.toInt) (b := 1) rfl rfl (by omega) (by omega)
          rw [q_v26]
          refine qm_Ru.go 1 (c' := (75, [.ref 111, .int s, .int v26, .int (op + 1), .long g, .float 0, .int i, .int v8], [], (h.1, h.2.1, qm_up J 117 (tp.toInt.toNat) v25, h.2.2.2))) rfl ?_
          obtain ⟨v27, q_v27, e_v27⟩ := hk_add (x := op) (y := 1) (a := op.toInt) (b := 1) rfl rfl (by omega) (by omega)
          rw [q_v27]
          refine qm_Ru.go 2 (c' := (140, [.ref 111, .int s, .int v26, .int v27, .long g, .float 0, .int (i + 1), .int v8], [], (h.1, h.2.1, qm_up J 117 (tp.toInt.toNat) v25, h.2.2.2))) rfl ?_
          obtain ⟨v28, q_v28, e_v28⟩ := hk_add (x := i) (y := 1) (a := i.toInt) (b := 1) rfl rfl (by omega) (by omega)
          rw [q_v28]
          refine qm_Ru.go 1 (c' := (15, [.ref 111, .int s, .int v26, .int v27, .long g, .float 0, .int v28, .int v8], [], (h.1, h.2.1, qm_up J 117 (tp.toInt.toNat) v25, h.2.2.2))) rfl ?_
          exact ih _ (by omega) (qm_up J 117 (tp.toInt.toNat) v25) v26 v27 v28 g (.int v8) (by omega) (by omega) rfl
      · refine qm_Ru.go 3 (c' := (7, [.int v8], [.int (v8 ^^^ (-1))], (h.1, h.2.1, J, h.2.2.2))) rfl ?_
        obtain ⟨v29, q_v29⟩ : ∃ v, (v8 ^^^ (-1)) = v := ⟨_, rfl⟩
        rw [q_v29]
        refine qm_Ru.call (j := 33) (as := [.int v29]) (c' := (10, [.int v8], [], (h.1, h.2.1, J, h.2.2.2))) rfl rfl rfl ?_
        refine qm_Ru.go 2 (c' := (3, [.int v29], [.int 12, .int v29], (h.1, h.2.1, J, h.2.2.2))) rfl ?_
        refine hk_clt (ix := v29.toInt) (iy := 12) rfl rfl rfl (fun z30 => ?_) (fun z30 => ?_)
        · refine qm_Ru.go 1 (c' := (17, [.int v29], [.int 0], (h.1, h.2.1, J, h.2.2.2))) rfl ?_
          refine qm_Ru.rt (v := (some (.int 0))) (h' := (h.1, h.2.1, J, h.2.2.2)) rfl ?_
          refine qm_Ru.go 2 (c' := (18, [.int v8], [.int 0], (h.1, h.2.1, J, h.2.2.2))) rfl ?_
          refine qm_Ru.rt (v := (some (.int 0))) (h' := (h.1, h.2.1, J, h.2.2.2)) rfl ?_
          refine qm_Ru.go 3 (c' := (82, [.ref 111, .int s, .int tp, .int op, .long g, .float 0, .int i, .int v8], [.int (-12), .int v8], (h.1, h.2.1, J, h.2.2.2))) rfl ?_
          refine hk_ceq (ix := v8.toInt) (iy := (-12)) rfl rfl rfl (fun z31 => ?_) (fun z31 => ?_)
          · refine qm_Ru.go 1 (c' := (140, [.ref 111, .int s, .int tp, .int op, .long g, .float 0, .int (i + 1), .int v8], [], (h.1, h.2.1, J, h.2.2.2))) rfl ?_
            obtain ⟨v32, q_v32, e_v32⟩ := hk_add (x := i) (y := 1) (a := i.toInt) (b := 1) rfl rfl (by omega) (by omega)
            rw [q_v32]
            refine qm_Ru.go 1 (c' := (15, [.ref 111, .int s, .int tp, .int op, .long g, .float 0, .int v32, .int v8], [], (h.1, h.2.1, J, h.2.2.2))) rfl ?_
            exact ih _ (by omega) (J) tp op v32 g (.int v8) (by omega) (by omega) rfl
          · refine qm_Ru.go 2 (c' := (87, [.ref 111, .int s, .int tp, .int op, .long g, .float 0, .int i, .int v8], [.int 1, .int tp], (h.1, h.2.1, J, h.2.2.2))) rfl ?_
            refine hk_cle (ix := tp.toInt) (iy := 1) rfl rfl rfl (fun z33 => ?_) (fun z33 => ?_)
            · refine qm_Ru.go 1 (c' := (140, [.ref 111, .int s, .int tp, .int op, .long g, .float 0, .int (i + 1), .int v8], [], (h.1, h.2.1, J, h.2.2.2))) rfl ?_
              obtain ⟨v34, q_v34, e_v34⟩ := hk_add (x := i) (y := 1) (a := i.toInt) (b := 1) rfl rfl (by omega) (by omega)
              rw [q_v34]
              refine qm_Ru.go 1 (c' := (15, [.ref 111, .int s, .int tp, .int op, .long g, .float 0, .int v34, .int v8], [], (h.1, h.2.1, J, h.2.2.2))) rfl ?_
              exact ih _ (by omega) (J) tp op v34 g (.int v8) (by omega) (by omega) rfl
            · refine qm_Ru.go 1 (c' := (93, [.ref 111, .int s, .int (tp + (-1)), .int op, .long g, .float 0, .int i, .int v8], [], (h.1, h.2.1, J, h.2.2.2))) rfl ?_
              obtain ⟨v35, q_v35, e_v35⟩ := hk_add (x := tp) (y := (-1)) (a := tp.toInt) (b := (-1)) rfl rfl (by omega) (by omega)
              rw [q_v35]
              refine qm_Ru.go 1 (c' := (94, [.ref 111, .int s, .int v35, .int op, .long g, .float 0, .int i, .int v8], [.ref 111], (h.1, h.2.1, J, h.2.2.2))) rfl ?_
              refine hk_getr rfl (hH.1 111 (11, 16) rfl) rfl (hH.2 111 13 (some 117) rfl) ?_
              refine qm_Ru.go 3 (c' := (100, [.ref 111, .int s, .int v35, .int op, .long g, .float 0, .int i, .int v8], [.int (v35 - 1), .ref 117], (h.1, h.2.1, J, h.2.2.2))) rfl ?_
              obtain ⟨v36, q_v36, e_v36⟩ := hk_sub (x := v35) (y := 1) (a := v35.toInt) (b := 1) rfl rfl (by omega) (by omega)
              rw [q_v36]
              refine qm_Ru.go 3 (c' := (104, [.ref 111, .int s, .int v35, .int op, .long g, .float 0, .int i, .int v8], [.int (v8 ^^^ (-1)), .int v36, .ref 117], (h.1, h.2.1, J, h.2.2.2))) rfl ?_
              rw [q_v29]
              refine qm_Ru.go 1 (c' := (105, [.ref 111, .int s, .int v35, .int op, .long g, .float 0, .int i, .int v8], [.ref 111, .int v29, .int v36, .ref 117], (h.1, h.2.1, J, h.2.2.2))) rfl ?_
              refine hk_getr rfl (hH.1 111 (11, 16) rfl) rfl (hH.2 111 13 (some 117) rfl) ?_
              refine qm_Ru.go 3 (c' := (111, [.ref 111, .int s, .int v35, .int op, .long g, .float 0, .int i, .int v8], [.int (v35 - 1), .ref 117, .int v29, .int v36, .ref 117], (h.1, h.2.1, J, h.2.2.2))) rfl ?_
              rw [q_v36]
              obtain ⟨v39, q_v39⟩ : ∃ v, (h.1, h.2.1, J, h.2.2.2).2.2.1 117 (v36.toInt.toNat) = v := ⟨_, rfl⟩
              refine hk_lal rfl (hH.1 117 (3, 18) rfl) (by omega) (by omega) q_v39 ?_
              refine qm_Ru.go 1 (c' := (113, [.ref 111, .int s, .int v35, .int op, .long g, .float 0, .int i, .int v8], [.ref 111, .long v39, .int v29, .int v36, .ref 117], (h.1, h.2.1, J, h.2.2.2))) rfl ?_
              refine hk_getr rfl (hH.1 111 (11, 16) rfl) rfl (hH.2 111 13 (some 117) rfl) ?_
              refine qm_Ru.go 1 (c' := (117, [.ref 111, .int s, .int v35, .int op, .long g, .float 0, .int i, .int v8], [.int v35, .ref 117, .long v39, .int v29, .int v36, .ref 117], (h.1, h.2.1, J, h.2.2.2))) rfl ?_
              obtain ⟨v40, q_v40⟩ : ∃ v, (h.1, h.2.1, J, h.2.2.2).2.2.1 117 (v35.toInt.toNat) = v := ⟨_, rfl⟩
              refine hk_lal rfl (hH.1 117 (3, 18) rfl) (by omega) (by omega) q_v40 ?_
              refine qm_Ru.go 0 (c' := (118, [.ref 111, .int s, .int v35, .int op, .long g, .float 0, .int i, .int v8], [.long v40, .long v39, .int v29, .int v36, .ref 117], (h.1, h.2.1, J, h.2.2.2))) rfl ?_
              refine qm_Ru.call (j := 59) (as := [.int v29, .long v39, .long v40]) (c' := (121, [.ref 111, .int s, .int v35, .int op, .long g, .float 0, .int i, .int v8], [.int v36, .ref 117], (h.1, h.2.1, J, h.2.2.2))) rfl rfl rfl (hs_bound (h := (h.1, h.2.1, J, h.2.2.2)) (fun v41 => ?_))
              refine qm_Ru.go 0 (c' := (121, [.ref 111, .int s, .int v35, .int op, .long g, .float 0, .int i, .int v8], [.long v41, .int v36, .ref 117], (h.1, h.2.1, J, h.2.2.2))) rfl ?_
              refine hk_las rfl (hH.1 117 (3, 18) rfl) (by omega) (by omega) ?_
              refine qm_Ru.go 2 (c' := (125, [.ref 111, .int s, .int v35, .int op, .long g, .float 0, .int i, .int v8], [.ref 111, .long g], (h.1, h.2.1, qm_up J 117 (v36.toInt.toNat) v41, h.2.2.2))) rfl ?_
              refine hk_getr rfl (hH.1 111 (11, 16) rfl) rfl (hH.2 111 13 (some 117) rfl) ?_
              refine qm_Ru.go 3 (c' := (131, [.ref 111, .int s, .int v35, .int op, .long g, .float 0, .int i, .int v8], [.int (v35 - 1), .ref 117, .long g], (h.1, h.2.1, qm_up J 117 (v36.toInt.toNat) v41, h.2.2.2))) rfl ?_
              rw [q_v36]
              obtain ⟨v43, q_v43⟩ : ∃ v, (h.1, h.2.1, qm_up J 117 (v36.toInt.toNat) v41, h.2.2.2).2.2.1 117 (v36.toInt.toNat) = v := ⟨_, rfl⟩
              refine hk_lal rfl (hH.1 117 (3, 18) rfl) (by omega) (by omega) q_v43 ?_
              refine qm_Ru.go 0 (c' := (132, [.ref 111, .int s, .int v35, .int op, .long g, .float 0, .int i, .int v8], [.long v43, .long g], (h.1, h.2.1, qm_up J 117 (v36.toInt.toNat) v41, h.2.2.2))) rfl ?_
              refine qm_Ru.go 1 (c' := (135, [.ref 111, .int s, .int v35, .int op, .long g, .float 0, .int i, .int v8], [.long (if v43 < g then g else v43)], (h.1, h.2.1, qm_up J 117 (v36.toInt.toNat) v41, h.2.2.2))) rfl ?_
              obtain ⟨v44, q_v44⟩ : ∃ v, (if v43 < g then g else v43) = v := ⟨_, rfl⟩
              rw [q_v44]
              refine qm_Ru.go 2 (c' := (140, [.ref 111, .int s, .int v35, .int op, .long v44, .float 0, .int (i + 1), .int v8], [], (h.1, h.2.1, qm_up J 117 (v36.toInt.toNat) v41, h.2.2.2))) rfl ?_
              obtain ⟨v45, q_v45, e_v45⟩ := hk_add (x := i) (y := 1) (a := i.toInt) (b := 1) rfl rfl (by omega) (by omega)
              rw [q_v45]
              refine qm_Ru.go 1 (c' := (15, [.ref 111, .int s, .int v35, .int op, .long v44, .float 0, .int v45, .int v8], [], (h.1, h.2.1, qm_up J 117 (v36.toInt.toNat) v41, h.2.2.2))) rfl ?_
              exact ih _ (by omega) (qm_up J 117 (v36.toInt.toNat) v41) v35 op v45 v44 (.int v8) (by omega) (by omega) rfl
        · refine qm_Ru.go 2 (c' := (9, [.int v29], [.int 24, .int v29], (h.1, h.2.1, J, h.2.2.2))) rfl ?_
          refine hk_cgt (ix := v29.toInt) (iy := 24) rfl rfl rfl (fun z46 => ?_) (fun z46 => ?_)
          · refine qm_Ru.go 1 (c' := (17, [.int v29], [.int 0], (h.1, h.2.1, J, h.2.2.2))) rfl ?_
            refine qm_Ru.rt (v := (some (.int 0))) (h' := (h.1, h.2.1, J, h.2.2.2)) rfl ?_
            refine qm_Ru.go 2 (c' := (18, [.int v8], [.int 0], (h.1, h.2.1, J, h.2.2.2))) rfl ?_
            refine qm_Ru.rt (v := (some (.int 0))) (h' := (h.1, h.2.1, J, h.2.2.2)) rfl ?_
            refine qm_Ru.go 3 (c' := (82, [.ref 111, .int s, .int tp, .int op, .long g, .float 0, .int i, .int v8], [.int (-12), .int v8], (h.1, h.2.1, J, h.2.2.2))) rfl ?_
            refine hk_ceq (ix := v8.toInt) (iy := (-12)) rfl rfl rfl (fun z47 => ?_) (fun z47 => ?_)
            · refine qm_Ru.go 1 (c' := (140, [.ref 111, .int s, .int tp, .int op, .long g, .float 0, .int (i + 1), .int v8], [], (h.1, h.2.1, J, h.2.2.2))) rfl ?_
              obtain ⟨v48, q_v48, e_v48⟩ := hk_add (x := i) (y := 1) (a := i.toInt) (b := 1) rfl rfl (by omega) (by omega)
              rw [q_v48]
              refine qm_Ru.go 1 (c' := (15, [.ref 111, .int s, .int tp, .int op, .long g, .float 0, .int v48, .int v8], [], (h.1, h.2.1, J, h.2.2.2))) rfl ?_
              exact ih _ (by omega) (J) tp op v48 g (.int v8) (by omega) (by omega) rfl
            · refine qm_Ru.go 2 (c' := (87, [.ref 111, .int s, .int tp, .int op, .long g, .float 0, .int i, .int v8], [.int 1, .int tp], (h.1, h.2.1, J, h.2.2.2))) rfl ?_
              refine hk_cle (ix := tp.toInt) (iy := 1) rfl rfl rfl (fun z49 => ?_) (fun z49 => ?_)
              · refine qm_Ru.go 1 (c' := (140, [.ref 111, .int s, .int tp, .int op, .long g, .float 0, .int (i + 1), .int v8], [], (h.1, h.2.1, J, h.2.2.2))) rfl ?_
                obtain ⟨v50, q_v50, e_v50⟩ := hk_add (x := i) (y := 1) (a := i.toInt) (b := 1) rfl rfl (by omega) (by omega)
                rw [q_v50]
                refine qm_Ru.go 1 (c' := (15, [.ref 111, .int s, .int tp, .int op, .long g, .float 0, .int v50, .int v8], [], (h.1, h.2.1, J, h.2.2.2))) rfl ?_
                exact ih _ (by omega) (J) tp op v50 g (.int v8) (by omega) (by omega) rfl
              · refine qm_Ru.go 1 (c' := (93, [.ref 111, .int s, .int (tp + (-1)), .int op, .long g, .float 0, .int i, .int v8], [], (h.1, h.2.1, J, h.2.2.2))) rfl ?_
                obtain ⟨v51, q_v51, e_v51⟩ := hk_add (x := tp) (y := (-1)) (a := tp.toInt) (b := (-1)) rfl rfl (by omega) (by omega)
                rw [q_v51]
                refine qm_Ru.go 1 (c' := (94, [.ref 111, .int s, .int v51, .int op, .long g, .float 0, .int i, .int v8], [.ref 111], (h.1, h.2.1, J, h.2.2.2))) rfl ?_
                refine hk_getr rfl (hH.1 111 (11, 16) rfl) rfl (hH.2 111 13 (some 117) rfl) ?_
                refine qm_Ru.go 3 (c' := (100, [.ref 111, .int s, .int v51, .int op, .long g, .float 0, .int i, .int v8], [.int (v51 - 1), .ref 117], (h.1, h.2.1, J, h.2.2.2))) rfl ?_
                obtain ⟨v52, q_v52, e_v52⟩ := hk_sub (x := v51) (y := 1) (a := v51.toInt) (b := 1) rfl rfl (by omega) (by omega)
                rw [q_v52]
                refine qm_Ru.go 3 (c' := (104, [.ref 111, .int s, .int v51, .int op, .long g, .float 0, .int i, .int v8], [.int (v8 ^^^ (-1)), .int v52, .ref 117], (h.1, h.2.1, J, h.2.2.2))) rfl ?_
                rw [q_v29]
                refine qm_Ru.go 1 (c' := (105, [.ref 111, .int s, .int v51, .int op, .long g, .float 0, .int i, .int v8], [.ref 111, .int v29, .int v52, .ref 117], (h.1, h.2.1, J, h.2.2.2))) rfl ?_
                refine hk_getr rfl (hH.1 111 (11, 16) rfl) rfl (hH.2 111 13 (some 117) rfl) ?_
                refine qm_Ru.go 3 (c' := (111, [.ref 111, .int s, .int v51, .int op, .long g, .float 0, .int i, .int v8], [.int (v51 - 1), .ref 117, .int v29, .int v52, .ref 117], (h.1, h.2.1, J, h.2.2.2))) rfl ?_
                rw [q_v52]
                obtain ⟨v55, q_v55⟩ : ∃ v, (h.1, h.2.1, J, h.2.2.2).2.2.1 117 (v52.toInt.toNat) = v := ⟨_, rfl⟩
                refine hk_lal rfl (hH.1 117 (3, 18) rfl) (by omega) (by omega) q_v55 ?_
                refine qm_Ru.go 1 (c' := (113, [.ref 111, .int s, .int v51, .int op, .long g, .float 0, .int i, .int v8], [.ref 111, .long v55, .int v29, .int v52, .ref 117], (h.1, h.2.1, J, h.2.2.2))) rfl ?_
                refine hk_getr rfl (hH.1 111 (11, 16) rfl) rfl (hH.2 111 13 (some 117) rfl) ?_
                refine qm_Ru.go 1 (c' := (117, [.ref 111, .int s, .int v51, .int op, .long g, .float 0, .int i, .int v8], [.int v51, .ref 117, .long v55, .int v29, .int v52, .ref 117], (h.1, h.2.1, J, h.2.2.2))) rfl ?_
                obtain ⟨v56, q_v56⟩ : ∃ v, (h.1, h.2.1, J, h.2.2.2).2.2.1 117 (v51.toInt.toNat) = v := ⟨_, rfl⟩
                refine hk_lal rfl (hH.1 117 (3, 18) rfl) (by omega) (by omega) q_v56 ?_
                refine qm_Ru.go 0 (c' := (118, [.ref 111, .int s, .int v51, .int op, .long g, .float 0, .int i, .int v8], [.long v56, .long v55, .int v29, .int v52, .ref 117], (h.1, h.2.1, J, h.2.2.2))) rfl ?_
                refine qm_Ru.call (j := 59) (as := [.int v29, .long v55, .long v56]) (c' := (121, [.ref 111, .int s, .int v51, .int op, .long g, .float 0, .int i, .int v8], [.int v52, .ref 117], (h.1, h.2.1, J, h.2.2.2))) rfl rfl rfl (hs_bound (h := (h.1, h.2.1, J, h.2.2.2)) (fun v57 => ?_))
                refine qm_Ru.go 0 (c' := (121, [.ref 111, .int s, .int v51, .int op, .long g, .float 0, .int i, .int v8], [.long v57, .int v52, .ref 117], (h.1, h.2.1, J, h.2.2.2))) rfl ?_
                refine hk_las rfl (hH.1 117 (3, 18) rfl) (by omega) (by omega) ?_
                refine qm_Ru.go 2 (c' := (125, [.ref 111, .int s, .int v51, .int op, .long g, .float 0, .int i, .int v8], [.ref 111, .long g], (h.1, h.2.1, qm_up J 117 (v52.toInt.toNat) v57, h.2.2.2))) rfl ?_
                refine hk_getr rfl (hH.1 111 (11, 16) rfl) rfl (hH.2 111 13 (some 117) rfl) ?_
                refine qm_Ru.go 3 (c' := (131, [.ref 111, .int s, .int v51, .int op, .long g, .float 0, .int i, .int v8], [.int (v51 - 1), .ref 117, .long g], (h.1, h.2.1, qm_up J 117 (v52.toInt.toNat) v57, h.2.2.2))) rfl ?_
                rw [q_v52]
                obtain ⟨v59, q_v59⟩ : ∃ v, (h.1, h.2.1, qm_up J 117 (v52.toInt.toNat) v57, h.2.2.2).2.2.1 117 (v52.toInt.toNat) = v := ⟨_, rfl⟩
                refine hk_lal rfl (hH.1 117 (3, 18) rfl) (by omega) (by omega) q_v59 ?_
                refine qm_Ru.go 0 (c' := (132, [.ref 111, .int s, .int v51, .int op, .long g, .float 0, .int i, .int v8], [.long v59, .long g], (h.1, h.2.1, qm_up J 117 (v52.toInt.toNat) v57, h.2.2.2))) rfl ?_
                refine qm_Ru.go 1 (c' := (135, [.ref 111, .int s, .int v51, .int op, .long g, .float 0, .int i, .int v8], [.long (if v59 < g then g else v59)], (h.1, h.2.1, qm_up J 117 (v52.toInt.toNat) v57, h.2.2.2))) rfl ?_
                obtain ⟨v60, q_v60⟩ : ∃ v, (if v59 < g then g else v59) = v := ⟨_, rfl⟩
                rw [q_v60]
                refine qm_Ru.go 2 (c' := (140, [.ref 111, .int s, .int v51, .int op, .long v60, .float 0, .int (i + 1), .int v8], [], (h.1, h.2.1, qm_up J 117 (v52.toInt.toNat) v57, h.2.2.2))) rfl ?_
                obtain ⟨v61, q_v61, e_v61⟩ := hk_add (x := i) (y := 1) (a := i.toInt) (b := 1) rfl rfl (by omega) (by omega)
                rw [q_v61]
                refine qm_Ru.go 1 (c' := (15, [.ref 111, .int s, .int v51, .int op, .long v60, .float 0, .int v61, .int v8], [], (h.1, h.2.1, qm_up J 117 (v52.toInt.toNat) v57, h.2.2.2))) rfl ?_
                exact ih _ (by omega) (qm_up J 117 (v52.toInt.toNat) v57) v51 op v61 v60 (.int v8) (by omega) (by omega) rfl
          · refine qm_Ru.go 2 (c' := (17, [.int v29], [.int 1], (h.1, h.2.1, J, h.2.2.2))) rfl ?_
            refine qm_Ru.rt (v := (some (.int 1))) (h' := (h.1, h.2.1, J, h.2.2.2)) rfl ?_
            refine qm_Ru.go 3 (c' := (18, [.int v8], [.int 1], (h.1, h.2.1, J, h.2.2.2))) rfl ?_
            refine qm_Ru.rt (v := (some (.int 1))) (h' := (h.1, h.2.1, J, h.2.2.2)) rfl ?_
            refine qm_Ru.go 3 (c' := (46, [.ref 111, .int s, .int tp, .int op, .long g, .float 0, .int i, .int v8], [.int 18, .int tp], (h.1, h.2.1, J, h.2.2.2))) rfl ?_
            refine hk_cge (ix := tp.toInt) (iy := 18) rfl rfl rfl (fun z62 => ?_) (fun z62 => ?_)
            · refine qm_Ru.go 2 (c' := (82, [.ref 111, .int s, .int tp, .int op, .long g, .float 0, .int i, .int v8], [.int (-12), .int v8], (h.1, h.2.1, J, h.2.2.2))) rfl ?_
              refine hk_ceq (ix := v8.toInt) (iy := (-12)) rfl rfl rfl (fun z63 => ?_) (fun z63 => ?_)
              · refine qm_Ru.go 1 (c' := (140, [.ref 111, .int s, .int tp, .int op, .long g, .float 0, .int (i + 1), .int v8], [], (h.1, h.2.1, J, h.2.2.2))) rfl ?_
                obtain ⟨v64, q_v64, e_v64⟩ := hk_add (x := i) (y := 1) (a := i.toInt) (b := 1) rfl rfl (by omega) (by omega)
                rw [q_v64]
                refine qm_Ru.go 1 (c' := (15, [.ref 111, .int s, .int tp, .int op, .long g, .float 0, .int v64, .int v8], [], (h.1, h.2.1, J, h.2.2.2))) rfl ?_
                exact ih _ (by omega) (J) tp op v64 g (.int v8) (by omega) (by omega) rfl
              · refine qm_Ru.go 2 (c' := (87, [.ref 111, .int s, .int tp, .int op, .long g, .float 0, .int i, .int v8], [.int 1, .int tp], (h.1, h.2.1, J, h.2.2.2))) rfl ?_
                refine hk_cle (ix := tp.toInt) (iy := 1) rfl rfl rfl (fun z65 => by exfalso; omega) (fun z65 => ?_)
                refine qm_Ru.go 1 (c' := (93, [.ref 111, .int s, .int (tp + (-1)), .int op, .long g, .float 0, .int i, .int v8], [], (h.1, h.2.1, J, h.2.2.2))) rfl ?_
                obtain ⟨v66, q_v66, e_v66⟩ := hk_add (x := tp) (y := (-1)) (a := tp.toInt) (b := (-1)) rfl rfl (by omega) (by omega)
                rw [q_v66]
                refine qm_Ru.go 1 (c' := (94, [.ref 111, .int s, .int v66, .int op, .long g, .float 0, .int i, .int v8], [.ref 111], (h.1, h.2.1, J, h.2.2.2))) rfl ?_
                refine hk_getr rfl (hH.1 111 (11, 16) rfl) rfl (hH.2 111 13 (some 117) rfl) ?_
                refine qm_Ru.go 3 (c' := (100, [.ref 111, .int s, .int v66, .int op, .long g, .float 0, .int i, .int v8], [.int (v66 - 1), .ref 117], (h.1, h.2.1, J, h.2.2.2))) rfl ?_
                obtain ⟨v67, q_v67, e_v67⟩ := hk_sub (x := v66) (y := 1) (a := v66.toInt) (b := 1) rfl rfl (by omega) (by omega)
                rw [q_v67]
                refine qm_Ru.go 3 (c' := (104, [.ref 111, .int s, .int v66, .int op, .long g, .float 0, .int i, .int v8], [.int (v8 ^^^ (-1)), .int v67, .ref 117], (h.1, h.2.1, J, h.2.2.2))) rfl ?_
                rw [q_v29]
                refine qm_Ru.go 1 (c' := (105, [.ref 111, .int s, .int v66, .int op, .long g, .float 0, .int i, .int v8], [.ref 111, .int v29, .int v67, .ref 117], (h.1, h.2.1, J, h.2.2.2))) rfl ?_
                refine hk_getr rfl (hH.1 111 (11, 16) rfl) rfl (hH.2 111 13 (some 117) rfl) ?_
                refine qm_Ru.go 3 (c' := (111, [.ref 111, .int s, .int v66, .int op, .long g, .float 0, .int i, .int v8], [.int (v66 - 1), .ref 117, .int v29, .int v67, .ref 117], (h.1, h.2.1, J, h.2.2.2))) rfl ?_
                rw [q_v67]
                obtain ⟨v70, q_v70⟩ : ∃ v, (h.1, h.2.1, J, h.2.2.2).2.2.1 117 (v67.toInt.toNat) = v := ⟨_, rfl⟩
                refine hk_lal rfl (hH.1 117 (3, 18) rfl) (by omega) (by omega) q_v70 ?_
                refine qm_Ru.go 1 (c' := (113, [.ref 111, .int s, .int v66, .int op, .long g, .float 0, .int i, .int v8], [.ref 111, .long v70, .int v29, .int v67, .ref 117], (h.1, h.2.1, J, h.2.2.2))) rfl ?_
                refine hk_getr rfl (hH.1 111 (11, 16) rfl) rfl (hH.2 111 13 (some 117) rfl) ?_
                refine qm_Ru.go 1 (c' := (117, [.ref 111, .int s, .int v66, .int op, .long g, .float 0, .int i, .int v8], [.int v66, .ref 117, .long v70, .int v29, .int v67, .ref 117], (h.1, h.2.1, J, h.2.2.2))) rfl ?_
                obtain ⟨v71, q_v71⟩ : ∃ v, (h.1, h.2.1, J, h.2.2.2).2.2.1 117 (v66.toInt.toNat) = v := ⟨_, rfl⟩
                refine hk_lal rfl (hH.1 117 (3, 18) rfl) (by omega) (by omega) q_v71 ?_
                refine qm_Ru.go 0 (c' := (118, [.ref 111, .int s, .int v66, .int op, .long g, .float 0, .int i, .int v8], [.long v71, .long v70, .int v29, .int v67, .ref 117], (h.1, h.2.1, J, h.2.2.2))) rfl ?_
                refine qm_Ru.call (j := 59) (as := [.int v29, .long v70, .long v71]) (c' := (121, [.ref 111, .int s, .int v66, .int op, .long g, .float 0, .int i, .int v8], [.int v67, .ref 117], (h.1, h.2.1, J, h.2.2.2))) rfl rfl rfl (hs_bound (h := (h.1, h.2.1, J, h.2.2.2)) (fun v72 => ?_))
                refine qm_Ru.go 0 (c' := (121, [.ref 111, .int s, .int v66, .int op, .long g, .float 0, .int i, .int v8], [.long v72, .int v67, .ref 117], (h.1, h.2.1, J, h.2.2.2))) rfl ?_
                refine hk_las rfl (hH.1 117 (3, 18) rfl) (by omega) (by omega) ?_
                refine qm_Ru.go 2 (c' := (125, [.ref 111, .int s, .int v66, .int op, .long g, .float 0, .int i, .int v8], [.ref 111, .long g], (h.1, h.2.1, qm_up J 117 (v67.toInt.toNat) v72, h.2.2.2))) rfl ?_
                refine hk_getr rfl (hH.1 111 (11, 16) rfl) rfl (hH.2 111 13 (some 117) rfl) ?_
                refine qm_Ru.go 3 (c' := (131, [.ref 111, .int s, .int v66, .int op, .long g, .float 0, .int i, .int v8], [.int (v66 - 1), .ref 117, .long g], (h.1, h.2.1, qm_up J 117 (v67.toInt.toNat) v72, h.2.2.2))) rfl ?_
                rw [q_v67]
                obtain ⟨v74, q_v74⟩ : ∃ v, (h.1, h.2.1, qm_up J 117 (v67.toInt.toNat) v72, h.2.2.2).2.2.1 117 (v67.toInt.toNat) = v := ⟨_, rfl⟩
                refine hk_lal rfl (hH.1 117 (3, 18) rfl) (by omega) (by omega) q_v74 ?_
                refine qm_Ru.go 0 (c' := (132, [.ref 111, .int s, .int v66, .int op, .long g, .float 0, .int i, .int v8], [.long v74, .long g], (h.1, h.2.1, qm_up J 117 (v67.toInt.toNat) v72, h.2.2.2))) rfl ?_
                refine qm_Ru.go 1 (c' := (135, [.ref 111, .int s, .int v66, .int op, .long g, .float 0, .int i, .int v8], [.long (if v74 < g then g else v74)], (h.1, h.2.1, qm_up J 117 (v67.toInt.toNat) v72, h.2.2.2))) rfl ?_
                obtain ⟨v75, q_v75⟩ : ∃ v, (if v74 < g then g else v74) = v := ⟨_, rfl⟩
                rw [q_v75]
                refine qm_Ru.go 2 (c' := (140, [.ref 111, .int s, .int v66, .int op, .long v75, .float 0, .int (i + 1), .int v8], [], (h.1, h.2.1, qm_up J 117 (v67.toInt.toNat) v72, h.2.2.2))) rfl ?_
                obtain ⟨v76, q_v76, e_v76⟩ := hk_add (x := i) (y := 1) (a := i.toInt) (b := 1) rfl rfl (by omega) (by omega)
                rw [q_v76]
                refine qm_Ru.go 1 (c' := (15, [.ref 111, .int s, .int v66, .int op, .long v75, .float 0, .int v76, .int v8], [], (h.1, h.2.1, qm_up J 117 (v67.toInt.toNat) v72, h.2.2.2))) rfl ?_
                exact ih _ (by omega) (qm_up J 117 (v67.toInt.toNat) v72) v66 op v76 v75 (.int v8) (by omega) (by omega) rfl
            · refine qm_Ru.go 1 (c' := (50, [.ref 111, .int s, .int tp, .int op, .long g, .float 0, .int i, .int v8], [.ref 111], (h.1, h.2.1, J, h.2.2.2))) rfl ?_
              refine hk_getr rfl (hH.1 111 (11, 16) rfl) rfl (hH.2 111 13 (some 117) rfl) ?_
              refine qm_Ru.go 2 (c' := (56, [.ref 111, .int s, .int tp, .int op, .long g, .float 0, .int i, .int v8], [.int v8, .int tp, .ref 117], (h.1, h.2.1, J, h.2.2.2))) rfl ?_
              refine hk_zlt (ix := v8.toInt) rfl rfl (fun z77 => ?_) (fun z77 => by exfalso; omega)
              refine qm_Ru.go 1 (c' := (68, [.ref 111, .int s, .int tp, .int op, .long g, .float 0, .int i, .int v8], [.long 40, .int tp, .ref 117], (h.1, h.2.1, J, h.2.2.2))) rfl ?_
              refine hk_las rfl (hH.1 117 (3, 18) rfl) (by omega) (by omega) ?_
              refine qm_Ru.go 1 (c' := (72, [.ref 111, .int s, .int (tp + 1), .int op, .long g, .float 0, .int i, .int v8], [], (h.1, h.2.1, qm_up J 117 (tp.toInt.toNat) 40, h.2.2.2))) rfl ?_
              obtain ⟨v78, q_v78, e_v78⟩ := hk_add (x := tp) (y := 1) (a := tp.toInt) (b := 1) rfl rfl (by omega) (by omega)
              rw [q_v78]
              refine qm_Ru.go 1 (c' := (75, [.ref 111, .int s, .int v78, .int (op + 1), .long g, .float 0, .int i, .int v8], [], (h.1, h.2.1, qm_up J 117 (tp.toInt.toNat) 40, h.2.2.2))) rfl ?_
              obtain ⟨v79, q_v79, e_v79⟩ := hk_add (x := op) (y := 1) (a := op.toInt) (b := 1) rfl rfl (by omega) (by omega)
              rw [q_v79]
              refine qm_Ru.go 2 (c' := (140, [.ref 111, .int s, .int v78, .int v79, .long g, .float 0, .int (i + 1), .int v8], [], (h.1, h.2.1, qm_up J 117 (tp.toInt.toNat) 40, h.2.2.2))) rfl ?_
              obtain ⟨v80, q_v80, e_v80⟩ := hk_add (x := i) (y := 1) (a := i.toInt) (b := 1) rfl rfl (by omega) (by omega)
              rw [q_v80]
              refine qm_Ru.go 1 (c' := (15, [.ref 111, .int s, .int v78, .int v79, .long g, .float 0, .int v80, .int v8], [], (h.1, h.2.1, qm_up J 117 (tp.toInt.toNat) 40, h.2.2.2))) rfl ?_
              exact ih _ (by omega) (qm_up J 117 (tp.toInt.toNat) 40) v78 v79 v80 g (.int v8) (by omega) (by omega) rfl
theorem hs_meas111 {L : Nat} {xs : Nat → Int32} {d : Nat} {Z : Option Value → qm_H → Prop} {h : qm_H} (hH : hk_H h) (hB : hk_B h.2.1) {s : Int32} (hs : (0 : Int) ≤ s.toInt ∧ s.toInt ≤ 15) (hw : wI h) (k : ∀ h' : qm_H, mS 111 h h' → Z none h') : qm_Ru (some (L, xs)) (d + 3) cd_57 (qm_ent 8 [.ref 111, .int s] h) Z := by
  show qm_Ru (some (L, xs)) (d + 3) cd_57 (0, [.ref 111, .int s, .float 0, .float 0, .float 0, .float 0, .float 0, .float 0], [], h) Z
  refine qm_Ru.go 7 (c' := (8, [.ref 111, .int s, .int 0, .int 0, .long 0, .float 0, .float 0, .float 0], [.ref 111], h)) rfl ?_
  refine hk_getr rfl (hH.1 111 (11, 16) rfl) rfl (hH.2 111 9 (some 113) rfl) ?_
  refine qm_Ru.go 1 (c' := (12, [.ref 111, .int s, .int 0, .int 0, .long 0, .float 0, .float 0, .float 0], [.int s, .ref 113], h)) rfl ?_
  obtain ⟨v1, q_v1⟩ : ∃ v, h.2.1 113 (s.toInt.toNat) = v := ⟨_, rfl⟩
  have b_v1 : (0 : Int) ≤ v1.toInt ∧ v1.toInt ≤ 400 := by rw [← q_v1]; exact hB 113 (s.toInt.toNat)
  refine hk_ial (v := v1) rfl (hH.1 113 (0, 16) rfl) (by omega) (by omega) q_v1 ?_
  refine qm_Ru.go 1 (c' := (15, [.ref 111, .int s, .int 0, .int 0, .long 0, .float 0, .int v1, .float 0], [], h)) rfl ?_
  refine hl_meas111 hH hB hs (fun v J tp op i g l7 bv => ?_) _ h.2.2.1 0 0 v1 0 _ (by decide) (by have e0 : (0 : Int32).toInt = 0 := rfl; omega) rfl
  have hB1 : hk_B (qm_up h.2.1 115 s.toInt.toNat v) := hb_up hB ⟨by show (0 : Int) ≤ v.toInt; omega, by show v.toInt ≤ (101 : Int); omega⟩
  have m0 : mS 111 h (h.1, qm_up h.2.1 115 s.toInt.toNat v, J, h.2.2.2) := ⟨fun _ _ => rfl, fun _ _ _ _ => rfl, fun o ho hn i => hk_on (by omega), hB1, wI_same hw rfl rfl⟩
  refine qm_Ru.go 1 (c' := (167, [.ref 111, .int s, .int tp, .int op, .long g, .float 0, .int i, l7], [.ref 111], (h.1, qm_up h.2.1 115 s.toInt.toNat v, J, h.2.2.2))) rfl ?_
  refine hk_getr rfl (hH.1 111 (11, 16) rfl) rfl (hH.2 111 11 (some 115) rfl) ?_
  refine qm_Ru.go 1 (c' := (171, [.ref 111, .int s, .int tp, .int op, .long g, .float 0, .int i, l7], [.int s, .ref 115], (h.1, qm_up h.2.1 115 s.toInt.toNat v, J, h.2.2.2))) rfl ?_
  refine hk_ial (v := v) rfl (hH.1 115 (0, 16) rfl) (by omega) (by omega) hk_same ?_
  refine hk_zle (ix := v.toInt) rfl rfl (fun z => ?_) (fun z => ?_)
  · exact qm_Ru.rt (v := none) (h' := (h.1, qm_up h.2.1 115 s.toInt.toNat v, J, h.2.2.2)) rfl (k _ m0)
  · refine qm_Ru.go 1 (c' := (176, [.ref 111, .int s, .int tp, .int op, .long g, .float 0, .int i, l7], [.ref 111], (h.1, qm_up h.2.1 115 s.toInt.toNat v, J, h.2.2.2))) rfl ?_
    cases hn : h.2.2.2 111 15 with
    | some w =>
      refine hk_getr rfl (hH.1 111 (11, 16) rfl) rfl (o2 := w) hn ?_
      refine qm_Ru.go 1 (c' := (193, [.ref 111, .int s, .int tp, .int op, .long g, .float 0, .int i, l7], [], (h.1, qm_up h.2.1 115 s.toInt.toNat v, J, h.2.2.2))) rfl ?_
      exact qm_Ru.rt (v := none) (h' := (h.1, qm_up h.2.1 115 s.toInt.toNat v, J, h.2.2.2)) rfl (k _ m0)
    | none =>
      refine hk_getn rfl (hH.1 111 (11, 16) rfl) rfl hn ?_
      refine qm_Ru.go 1 (c' := (182, [.ref 111, .int s, .int tp, .int op, .long g, .float 0, .int i, l7], [], (h.1, qm_up h.2.1 115 s.toInt.toNat v, J, h.2.2.2))) rfl ?_
      refine hs_wnew (h := (h.1, qm_up h.2.1 115 s.toInt.toNat v, J, h.2.2.2)) (d := d + 1) (hH.1 111 (11, 16) rfl) ?_
      refine qm_Ru.rt (v := none) (h' := (h.1 ++ wsh, qm_up h.2.1 115 s.toInt.toNat v, J, wrf (h.1, qm_up h.2.1 115 s.toInt.toNat v, J, h.2.2.2) 111)) rfl (k _ ?_)
      have hl : 192 ≤ h.1.length := by rcases hw.2 with ⟨b1, _⟩ | ⟨b1, _⟩ | ⟨b1, _⟩ <;> omega
      refine ⟨fun o ho => ?_, fun o i ho hi => wrf_old (h := (h.1, qm_up h.2.1 115 s.toInt.toNat v, J, h.2.2.2)) (by show o < h.1.length; omega) hi, fun o ho hn i => hk_on (by omega), hB1, wI_new (h := (h.1, qm_up h.2.1 115 s.toInt.toNat v, J, h.2.2.2)) (wI_same hw rfl rfl) (by decide) hn⟩
      show (h.1 ++ wsh)[o]? = h.1[o]?
      rw [List.getElem?_append_left (by omega)]
theorem hl_mr111_b {L : Nat} {xs : Nat → Int32} {d : Nat} {Z : Option Value → qm_H → Prop} : ∀ (m : Nat) (h : qm_H) (i : Int32), hk_H h → hk_B h.2.1 → wI h → (∀ h' : qm_H, mS 111 h h' → Z none h') → (0 ≤ i.toInt ∧ i.toInt ≤ 8) → (8 - i.toInt).toNat = m → qm_Ru (some (L, xs)) (d + 4) cd_56 (23, [.ref 111, .int i], [], h) Z := by
  intro m
  induction m using Nat.strongRecOn with
  | ind m ih =>
    intro h i hH hB hw k hi hm
    refine qm_Ru.go 2 (c' := (25, [.ref 111, .int i], [.ref 111, .int i], h)) rfl ?_
    obtain ⟨v1, q_v1⟩ : ∃ v, h.2.1 111 7 = v := ⟨_, rfl⟩
    have b_v1 : (0 : Int) ≤ v1.toInt ∧ v1.toInt ≤ 8 := by rw [← q_v1]; exact hB 111 7
    refine hk_geti (v := v1) rfl (hH.1 111 (11, 16) rfl) rfl q_v1 ?_
    refine qm_Ru.go 0 (c' := (28, [.ref 111, .int i], [.int v1, .int i], h)) rfl ?_
    refine hk_cge (ix := i.toInt) (iy := v1.toInt) rfl rfl rfl (fun z2 => ?_) (fun z2 => ?_)
    · refine qm_Ru.go 0 (c' := (45, [.ref 111, .int i], [], h)) rfl ?_
      refine qm_Ru.rt (v := none) (h' := h) rfl ?_
      exact k _ ⟨fun _ _ => rfl, fun _ _ _ _ => rfl, fun _ _ _ _ => rfl, hB, hw⟩
    · refine qm_Ru.go 4 (c' := (36, [.ref 111, .int i], [.int (8 + i), .ref 111], h)) rfl ?_
      obtain ⟨v3, q_v3, e_v3⟩ := hk_add (x := 8) (y := i) (a := 8) (b := i.toInt) rfl rfl (by omega) (by omega)
      rw [q_v3]
      refine hk_inv (o := 111) (r := []) (as := [.ref 111, .int v3]) rfl rfl (hH.1 111 (11, 16) rfl) rfl rfl rfl rfl (hs_meas111 (d := d) hH hB (s := v3) (by omega) hw (fun h1 m1 => ?_))
      refine qm_Ru.go 1 (c' := (42, [.ref 111, .int (i + 1)], [], h1)) rfl ?_
      obtain ⟨v4, q_v4, e_v4⟩ := hk_add (x := i) (y := 1) (a := i.toInt) (b := 1) rfl rfl (by omega) (by omega)
      rw [q_v4]
      refine qm_Ru.go 1 (c' := (23, [.ref 111, .int v4], [], h1)) rfl ?_
      exact ih _ (by omega) h1 v4 (mS_H (by decide) hH m1) m1.2.2.2.1 m1.2.2.2.2 (fun h2 m2 => k h2 (mS_trans m1 m2)) (by omega) rfl
theorem hl_mr111_a {L : Nat} {xs : Nat → Int32} {d : Nat} {Z : Option Value → qm_H → Prop} : ∀ (m : Nat) (h : qm_H) (i : Int32), hk_H h → hk_B h.2.1 → wI h → (∀ h' : qm_H, mS 111 h h' → Z none h') → (0 ≤ i.toInt ∧ i.toInt ≤ 8) → (8 - i.toInt).toNat = m → qm_Ru (some (L, xs)) (d + 4) cd_56 (2, [.ref 111, .int i], [], h) Z := by
  intro m
  induction m using Nat.strongRecOn with
  | ind m ih =>
    intro h i hH hB hw k hi hm
    refine qm_Ru.go 2 (c' := (4, [.ref 111, .int i], [.ref 111, .int i], h)) rfl ?_
    obtain ⟨v1, q_v1⟩ : ∃ v, h.2.1 111 6 = v := ⟨_, rfl⟩
    have b_v1 : (0 : Int) ≤ v1.toInt ∧ v1.toInt ≤ 8 := by rw [← q_v1]; exact hB 111 6
    refine hk_geti (v := v1) rfl (hH.1 111 (11, 16) rfl) rfl q_v1 ?_
    refine qm_Ru.go 0 (c' := (7, [.ref 111, .int i], [.int v1, .int i], h)) rfl ?_
    refine hk_cge (ix := i.toInt) (iy := v1.toInt) rfl rfl rfl (fun z2 => ?_) (fun z2 => ?_)
    · refine qm_Ru.go 2 (c' := (23, [.ref 111, .int 0], [], h)) rfl ?_
      exact hl_mr111_b (d := d) _ h 0 hH hB hw k (by decide) rfl
    · refine qm_Ru.go 2 (c' := (12, [.ref 111, .int i], [.int i, .ref 111], h)) rfl ?_
      refine hk_inv (o := 111) (r := []) (as := [.ref 111, .int i]) rfl rfl (hH.1 111 (11, 16) rfl) rfl rfl rfl rfl (hs_meas111 (d := d) hH hB (s := i) (by omega) hw (fun h1 m1 => ?_))
      refine qm_Ru.go 1 (c' := (18, [.ref 111, .int (i + 1)], [], h1)) rfl ?_
      obtain ⟨v3, q_v3, e_v3⟩ := hk_add (x := i) (y := 1) (a := i.toInt) (b := 1) rfl rfl (by omega) (by omega)
      rw [q_v3]
      refine qm_Ru.go 1 (c' := (2, [.ref 111, .int v3], [], h1)) rfl ?_
      exact ih _ (by omega) h1 v3 (mS_H (by decide) hH m1) m1.2.2.2.1 m1.2.2.2.2 (fun h2 m2 => k h2 (mS_trans m1 m2)) (by omega) rfl
theorem hs_mr111 {L : Nat} {xs : Nat → Int32} {d : Nat} {Z : Option Value → qm_H → Prop} {h : qm_H} (hH : hk_H h) (hB : hk_B h.2.1) (hw : wI h) (k : ∀ h' : qm_H, mS 111 h h' → Z none h') : qm_Ru (some (L, xs)) (d + 4) cd_56 (qm_ent 2 [.ref 111] h) Z := by
  refine qm_Ru.go 2 (c' := (2, [.ref 111, .int 0], [], h)) rfl ?_
  exact hl_mr111_a (d := d) _ h 0 hH hB hw k (by decide) rfl
