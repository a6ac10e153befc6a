/-! the wide numbers: a Wide at w, its row of rows, its rows, its product; and runs over it, by hand -/
noncomputable def wd (h : qm_H) (w : Nat) : Prop := h.1[w]? = some (13, 3) ∧ h.1[w + 1]? = some (4, 18) ∧ h.2.2.2 w 0 = some (w + 1) ∧ h.2.2.2 w 1 = some (w + 20) ∧ (∀ i, i < 18 → h.2.2.2 (w + 1) i = some (w + 2 + i)) ∧ (∀ o, w + 2 ≤ o → o < w + 21 → h.1[o]? = some (0, 101))
theorem wd_same {h h' : qm_H} {w : Nat} (hD : wd h w) (e1 : h'.1 = h.1) (e2 : h'.2.2.2 = h.2.2.2) : wd h' w := by
  unfold wd at *
  rw [e1, e2]
  exact hD
theorem hk_on {I : Nat → Nat → Int32} {o k o' i : Nat} {x : Int32} (h : o' ≠ o) : qm_up I o k x o' i = I o' i := hk_ot (qm_bne h)
theorem qa_Ptb_no {o : Nat} (h : 192 ≤ o) : qa_Ptb o = (qa_full, []) := by
  rw [qa_Ptb_tr]
  rw [show Nat.blt o 96 = false from by cases hb : Nat.blt o 96 with
    | false => rfl
    | true => exact absurd (Nat.le_of_ble_eq_true hb) (by omega), cond_false]
  rw [show Nat.blt o 144 = false from by cases hb : Nat.blt o 144 with
    | false => rfl
    | true => exact absurd (Nat.le_of_ble_eq_true hb) (by omega), cond_false]
  rw [show Nat.blt o 168 = false from by cases hb : Nat.blt o 168 with
    | false => rfl
    | true => exact absurd (Nat.le_of_ble_eq_true hb) (by omega), cond_false]
  rw [show Nat.blt o 180 = false from by cases hb : Nat.blt o 180 with
    | false => rfl
    | true => exact absurd (Nat.le_of_ble_eq_true hb) (by omega), cond_false]
  rw [show Nat.blt o 186 = false from by cases hb : Nat.blt o 186 with
    | false => rfl
    | true => exact absurd (Nat.le_of_ble_eq_true hb) (by omega), cond_false]
  rw [show Nat.blt o 189 = false from by cases hb : Nat.blt o 189 with
    | false => rfl
    | true => exact absurd (Nat.le_of_ble_eq_true hb) (by omega), cond_false]
  rw [show Nat.blt o 190 = false from by cases hb : Nat.blt o 190 with
    | false => rfl
    | true => exact absurd (Nat.le_of_ble_eq_true hb) (by omega), cond_false]
  rw [show Nat.blt o 191 = false from by cases hb : Nat.blt o 191 with
    | false => rfl
    | true => exact absurd (Nat.le_of_ble_eq_true hb) (by omega), cond_false]
  rw [show Nat.beq o 191 = false from qm_bne (by omega), cond_false]
theorem hb_hi {o k : Nat} {x : Int32} (h : 192 ≤ o) : qa_in (qa_bd2 o k) x := by
  have e : qa_Ptb o = (qa_full, []) := qa_Ptb_no h
  unfold qa_bd2
  rw [e]
  exact qa_in_full x
/-- a switch by its list: every way -/
theorem hk_look {d x : Int} : ∀ {ps : List (Int × Int)}, Op.lookupswitch.offset ps d x ∈ d :: ps.map Prod.snd
  | [] => List.mem_cons_self
  | q :: ps => by
    obtain ⟨a, o⟩ := q
    rw [Op.lookupswitch.offset_cons]
    split
    · exact List.mem_cons_of_mem _ List.mem_cons_self
    · rcases List.mem_cons.mp (hk_look (d := d) (x := x) (ps := ps)) with h | h
      · rw [h]
        exact List.mem_cons_self
      · exact List.mem_cons_of_mem _ (List.mem_cons_of_mem _ h)
theorem hk_lsw {X : Option (Nat × (Nat → Int32))} {dd : Nat} {cd : qm_Cd} {pc np a b : Nat} {v : Value} {ls r : List Value} {h : qm_H} {Z : Option Value → qm_H → Prop} {d : Int} {ps : Array (Int × Int)} {x : Int32} (hf : qm_fetch cd pc = some (pc, np, .lookupswitch d ps, a, b, v)) (k : ∀ off ∈ d :: ps.toList.map Prod.snd, qm_Ru X dd cd (qm_tgt pc off, ls, r, h) Z) : qm_Ru X dd cd (pc, ls, .int x :: r, h) Z := by
  refine qm_Ru.nx (c' := (qm_tgt pc (Op.lookupswitch.offset ps.toList d x.toInt), ls, r, h)) ?_ (k _ hk_look)
  rw [hk_st (it := (pc, np, .lookupswitch d ps, a, b, v)) hf]
  rfl
/-- a switch by its table: every way -/
theorem hk_tsw {X : Option (Nat × (Nat → Int32))} {dd : Nat} {cd : qm_Cd} {pc np a b : Nat} {v : Value} {ls r : List Value} {h : qm_H} {Z : Option Value → qm_H → Prop} {d lo hi : Int} {offs : Array Int} {x : Int32} (hf : qm_fetch cd pc = some (pc, np, .tableswitch d lo hi offs, a, b, v)) (hn : (hi - lo).toNat < offs.size) (k : ∀ off ∈ d :: offs.toList, qm_Ru X dd cd (qm_tgt pc off, ls, r, h) Z) : qm_Ru X dd cd (pc, ls, .int x :: r, h) Z := by
  by_cases hx : x.toInt < lo ∨ hi < x.toInt
  · refine qm_Ru.nx (c' := (qm_tgt pc d, ls, r, h)) ?_ (k _ List.mem_cons_self)
    rw [hk_st (it := (pc, np, .tableswitch d lo hi offs, a, b, v)) hf]
    simp only [qm_x, hx, decide_true, cond_true, qm_nx]
  · have hlt : (x.toInt - lo).toNat < offs.size := by omega
    refine qm_Ru.nx (c' := (qm_tgt pc offs[(x.toInt - lo).toNat], ls, r, h)) ?_ (k _ (List.mem_cons_of_mem _ (Array.getElem_mem_toList hlt)))
    rw [hk_st (it := (pc, np, .tableswitch d lo hi offs, a, b, v)) hf]
    have e : offs[(x.toInt - lo).toNat]? = some offs[(x.toInt - lo).toNat] := Array.getElem?_eq_getElem hlt
    simp only [qm_x, hx, decide_false, cond_false, e, qm_nx]
theorem hl_mul4 {L : Nat} {xs : Nat → Int32} {d : Nat} {Z : Option Value → qm_H → Prop} {h : qm_H} {w : Nat} (hw : 192 ≤ w) (hD : wd h w) (hl : (h.2.1 w 2).toInt ≤ 101) {a b : Nat} (ha : w + 2 ≤ a ∧ a < w + 21) (hb : w + 2 ≤ b ∧ b < w + 21) (k : ∀ (I : Nat → Nat → Int32) (J : Nat → Nat → Int64), (∀ o, o < w + 2 ∨ w + 21 ≤ o → ∀ i, I o i = h.2.1 o i) → Z none (h.1, I, J, h.2.2.2)) : ∀ (m : Nat) (I : Nat → Nat → Int32) (J : Nat → Nat → Int64) (i : Int32) (l4 l5 l6 l7 l8 : Value), (∀ o, o < w + 2 ∨ w + 21 ≤ o → ∀ i, I o i = h.2.1 o i) → (0 ≤ i.toInt ∧ i.toInt ≤ 101) → (101 - i.toInt).toNat = m → qm_Ru (some (L, xs)) (d + 0) cd_129 (120, [.ref w, .ref a, .ref b, .int i, l4, l5, l6, l7, l8], [], (h.1, I, J, h.2.2.2)) Z := by
  intro m
  induction m using Nat.strongRecOn with
  | ind m ih =>
    intro I J i l4 l5 l6 l7 l8 e hi hm
    refine qm_Ru.go 2 (c' := (122, [.ref w, .ref a, .ref b, .int i, l4, l5, l6, l7, l8], [.ref w, .int i], (h.1, I, J, h.2.2.2))) rfl ?_
    obtain ⟨v1, q_v1⟩ : ∃ v, h.2.1 w 2 = v := ⟨_, rfl⟩
    refine hk_geti (v := v1) rfl hD.1 rfl (show (I) w 2 = _ from ((e w (Or.inl (by omega)) 2).trans q_v1)) ?_
    refine qm_Ru.go 0 (c' := (125, [.ref w, .ref a, .ref b, .int i, l4, l5, l6, l7, l8], [.int v1, .int i], (h.1, I, J, h.2.2.2))) rfl ?_
    have l_v1 : v1.toInt ≤ 101 := by rw [← q_v1]; exact hl
    refine hk_cge (ix := i.toInt) (iy := v1.toInt) rfl rfl rfl (fun z2 => ?_) (fun z2 => ?_)
    · refine qm_Ru.go 0 (c' := (143, [.ref w, .ref a, .ref b, .int i, l4, l5, l6, l7, l8], [], (h.1, I, J, h.2.2.2))) rfl ?_
      refine qm_Ru.rt (v := none) (h' := (h.1, I, J, h.2.2.2)) rfl ?_
      exact k (I) (J) (fun o ho i => (e o ho i))
    · refine qm_Ru.go 3 (c' := (131, [.ref w, .ref a, .ref b, .int i, l4, l5, l6, l7, l8], [.ref w, .int i, .ref a], (h.1, I, J, h.2.2.2))) rfl ?_
      refine hk_getr rfl hD.1 rfl hD.2.2.2.1 ?_
      refine qm_Ru.go 1 (c' := (135, [.ref w, .ref a, .ref b, .int i, l4, l5, l6, l7, l8], [.int i, .ref (w + 20), .int i, .ref a], (h.1, I, J, h.2.2.2))) rfl ?_
      obtain ⟨v3, q_v3⟩ : ∃ v, (I) (w + 20) (i.toInt.toNat) = v := ⟨_, rfl⟩
      refine hk_ial (v := v3) rfl (hD.2.2.2.2.2 _ (by omega) (by omega)) (by omega) (by omega) q_v3 ?_
      refine qm_Ru.go 0 (c' := (136, [.ref w, .ref a, .ref b, .int i, l4, l5, l6, l7, l8], [.int v3, .int i, .ref a], (h.1, I, J, h.2.2.2))) rfl ?_
      refine hk_ias rfl (hD.2.2.2.2.2 _ (by omega) (by omega)) (by omega) (by omega) ?_
      refine qm_Ru.go 1 (c' := (140, [.ref w, .ref a, .ref b, .int (i + 1), l4, l5, l6, l7, l8], [], (h.1, qm_up I a (i.toInt.toNat) v3, J, h.2.2.2))) rfl ?_
      obtain ⟨v4, q_v4, e_v4⟩ := hk_add (x := i) (y := 1) (a := i.toInt) (b := 1) rfl rfl (by omega) (by omega)
      rw [q_v4]
      refine qm_Ru.go 1 (c' := (120, [.ref w, .ref a, .ref b, .int v4, l4, l5, l6, l7, l8], [], (h.1, qm_up I a (i.toInt.toNat) v3, J, h.2.2.2))) rfl ?_
      exact ih _ (by omega) (qm_up I a (i.toInt.toNat) v3) (J) v4 l4 l5 l6 l7 l8 (fun o ho i => ((hk_on (by omega)).trans (e o ho i))) (by omega) rfl
theorem hl_mul3 {L : Nat} {xs : Nat → Int32} {d : Nat} {Z : Option Value → qm_H → Prop} {h : qm_H} {w : Nat} (hw : 192 ≤ w) (hD : wd h w) (hl : (h.2.1 w 2).toInt ≤ 101) {a b : Nat} (ha : w + 2 ≤ a ∧ a < w + 21) (hb : w + 2 ≤ b ∧ b < w + 21) {i : Int32} (hi : 0 ≤ i.toInt ∧ i.toInt ≤ 100) (k : ∀ (I : Nat → Nat → Int32) (J : Nat → Nat → Int64) (l4 l5 l6 l7 l8 : Value), (∀ o, o < w + 2 ∨ w + 21 ≤ o → ∀ i, I o i = h.2.1 o i) → qm_Ru (some (L, xs)) d cd_129 (112, [.ref w, .ref a, .ref b, .int i, l4, l5, l6, l7, l8], [], (h.1, I, J, h.2.2.2)) Z) : ∀ (m : Nat) (I : Nat → Nat → Int32) (J : Nat → Nat → Int64) (y : Int64) (j : Int32) (l7 l8 : Value), (∀ o, o < w + 2 ∨ w + 21 ≤ o → ∀ i, I o i = h.2.1 o i) → (0 ≤ j.toInt ∧ j.toInt ≤ 101) → (101 - j.toInt).toNat = m → qm_Ru (some (L, xs)) (d + 0) cd_129 (39, [.ref w, .ref a, .ref b, .int i, .long y, .float 0, .int j, l7, l8], [], (h.1, I, J, h.2.2.2)) Z := by
  intro m
  induction m using Nat.strongRecOn with
  | ind m ih =>
    intro I J y j l7 l8 e hj hm
    refine qm_Ru.go 2 (c' := (41, [.ref w, .ref a, .ref b, .int i, .long y, .float 0, .int j, l7, l8], [.int i, .ref b], (h.1, I, J, h.2.2.2))) rfl ?_
    obtain ⟨v1, q_v1⟩ : ∃ v, (I) b (i.toInt.toNat) = v := ⟨_, rfl⟩
    refine hk_ial (v := v1) rfl (hD.2.2.2.2.2 _ (by omega) (by omega)) (by omega) (by omega) q_v1 ?_
    refine qm_Ru.go 0 (c' := (42, [.ref w, .ref a, .ref b, .int i, .long y, .float 0, .int j, l7, l8], [.int v1], (h.1, I, J, h.2.2.2))) rfl ?_
    refine hk_zeq (ix := v1.toInt) rfl rfl (fun z2 => ?_) (fun z2 => ?_)
    · refine qm_Ru.go 0 (c' := (112, [.ref w, .ref a, .ref b, .int i, .long y, .float 0, .int j, l7, l8], [], (h.1, I, J, h.2.2.2))) rfl ?_
      exact k (I) (J) (.long y) (.float 0) (.int j) l7 l8 (fun o ho i => (e o ho i))
    · refine qm_Ru.go 3 (c' := (49, [.ref w, .ref a, .ref b, .int i, .long y, .float 0, .int j, l7, l8], [.int (j + i)], (h.1, I, J, h.2.2.2))) rfl ?_
      obtain ⟨v3, q_v3, e_v3⟩ := hk_add (x := j) (y := i) (a := j.toInt) (b := i.toInt) rfl rfl (by omega) (by omega)
      rw [q_v3]
      refine qm_Ru.go 1 (c' := (50, [.ref w, .ref a, .ref b, .int i, .long y, .float 0, .int j, l7, l8], [.ref w, .int v3], (h.1, I, J, h.2.2.2))) rfl ?_
      obtain ⟨v4, q_v4⟩ : ∃ v, h.2.1 w 2 = v := ⟨_, rfl⟩
      refine hk_geti (v := v4) rfl hD.1 rfl (show (I) w 2 = _ from ((e w (Or.inl (by omega)) 2).trans q_v4)) ?_
      refine qm_Ru.go 0 (c' := (53, [.ref w, .ref a, .ref b, .int i, .long y, .float 0, .int j, l7, l8], [.int v4, .int v3], (h.1, I, J, h.2.2.2))) rfl ?_
      have l_v4 : v4.toInt ≤ 101 := by rw [← q_v4]; exact hl
      refine hk_cge (ix := v3.toInt) (iy := v4.toInt) rfl rfl rfl (fun z5 => ?_) (fun z5 => ?_)
      · refine qm_Ru.go 0 (c' := (112, [.ref w, .ref a, .ref b, .int i, .long y, .float 0, .int j, l7, l8], [], (h.1, I, J, h.2.2.2))) rfl ?_
        exact k (I) (J) (.long y) (.float 0) (.int j) l7 l8 (fun o ho i => (e o ho i))
      · refine qm_Ru.go 1 (c' := (57, [.ref w, .ref a, .ref b, .int i, .long y, .float 0, .int j, l7, l8], [.ref w], (h.1, I, J, h.2.2.2))) rfl ?_
        refine hk_getr rfl hD.1 rfl hD.2.2.2.1 ?_
        refine qm_Ru.go 3 (c' := (64, [.ref w, .ref a, .ref b, .int i, .long y, .float 0, .int j, l7, l8], [.int (j + i), .ref (w + 20)], (h.1, I, J, h.2.2.2))) rfl ?_
        rw [q_v3]
        obtain ⟨v7, q_v7⟩ : ∃ v, (I) (w + 20) (v3.toInt.toNat) = v := ⟨_, rfl⟩
        refine hk_ial (v := v7) rfl (hD.2.2.2.2.2 _ (by omega) (by omega)) (by omega) (by omega) q_v7 ?_
        refine qm_Ru.go 1 (c' := (66, [.ref w, .ref a, .ref b, .int i, .long y, .float 0, .int j, l7, l8], [.long (Int32.toInt64 v7)], (h.1, I, J, h.2.2.2))) rfl ?_
        obtain ⟨v8, q_v8⟩ : ∃ v, (Int32.toInt64 v7) = v := ⟨_, rfl⟩
        rw [q_v8]
        refine qm_Ru.go 2 (c' := (69, [.ref w, .ref a, .ref b, .int i, .long y, .float 0, .int j, l7, l8], [.int j, .ref a, .long v8], (h.1, I, J, h.2.2.2))) rfl ?_
        obtain ⟨v9, q_v9⟩ : ∃ v, (I) a (j.toInt.toNat) = v := ⟨_, rfl⟩
        refine hk_ial (v := v9) rfl (hD.2.2.2.2.2 _ (by omega) (by omega)) (by omega) (by omega) q_v9 ?_
        refine qm_Ru.go 1 (c' := (71, [.ref w, .ref a, .ref b, .int i, .long y, .float 0, .int j, l7, l8], [.long (Int32.toInt64 v9), .long v8], (h.1, I, J, h.2.2.2))) rfl ?_
        obtain ⟨v10, q_v10⟩ : ∃ v, (Int32.toInt64 v9) = v := ⟨_, rfl⟩
        rw [q_v10]
        refine qm_Ru.go 2 (c' := (73, [.ref w, .ref a, .ref b, .int i, .long y, .float 0, .int j, l7, l8], [.int i, .ref b, .long v10, .long v8], (h.1, I, J, h.2.2.2))) rfl ?_
        obtain ⟨v11, q_v11⟩ : ∃ v, (I) b (i.toInt.toNat) = v := ⟨_, rfl⟩
        refine hk_ial (v := v11) rfl (hD.2.2.2.2.2 _ (by omega) (by omega)) (by omega) (by omega) q_v11 ?_
        refine qm_Ru.go 1 (c' := (75, [.ref w, .ref a, .ref b, .int i, .long y, .float 0, .int j, l7, l8], [.long (Int32.toInt64 v11), .long v10, .long v8], (h.1, I, J, h.2.2.2))) rfl ?_
        obtain ⟨v12, q_v12⟩ : ∃ v, (Int32.toInt64 v11) = v := ⟨_, rfl⟩
        rw [q_v12]
        refine qm_Ru.go 1 (c' := (76, [.ref w, .ref a, .ref b, .int i, .long y, .float 0, .int j, l7, l8], [.long (v10 * v12), .long v8], (h.1, I, J, h.2.2.2))) rfl ?_
        obtain ⟨v13, q_v13⟩ : ∃ v, (v10 * v12) = v := ⟨_, rfl⟩
        rw [q_v13]
        refine qm_Ru.go 1 (c' := (77, [.ref w, .ref a, .ref b, .int i, .long y, .float 0, .int j, l7, l8], [.long (v8 + v13)], (h.1, I, J, h.2.2.2))) rfl ?_
        obtain ⟨v14, q_v14⟩ : ∃ v, (v8 + v13) = v := ⟨_, rfl⟩
        rw [q_v14]
        refine qm_Ru.go 2 (c' := (80, [.ref w, .ref a, .ref b, .int i, .long y, .float 0, .int j, l7, l8], [.long (v14 + y)], (h.1, I, J, h.2.2.2))) rfl ?_
        obtain ⟨v15, q_v15⟩ : ∃ v, (v14 + y) = v := ⟨_, rfl⟩
        rw [q_v15]
        refine qm_Ru.go 2 (c' := (83, [.ref w, .ref a, .ref b, .int i, .long y, .float 0, .int j, .long v15, .float 0], [.ref w], (h.1, I, J, h.2.2.2))) rfl ?_
        refine hk_getr rfl hD.1 rfl hD.2.2.2.1 ?_
        refine qm_Ru.go 3 (c' := (90, [.ref w, .ref a, .ref b, .int i, .long y, .float 0, .int j, .long v15, .float 0], [.int (j + i), .ref (w + 20)], (h.1, I, J, h.2.2.2))) rfl ?_
        rw [q_v3]
        refine qm_Ru.go 3 (c' := (96, [.ref w, .ref a, .ref b, .int i, .long y, .float 0, .int j, .long v15, .float 0], [.long (v15 - v15 / 100000000 * 100000000), .int v3, .ref (w + 20)], (h.1, I, J, h.2.2.2))) rfl ?_
        obtain ⟨v17, q_v17⟩ : ∃ v, (v15 - v15 / 100000000 * 100000000) = v := ⟨_, rfl⟩
        rw [q_v17]
        refine qm_Ru.go 1 (c' := (97, [.ref w, .ref a, .ref b, .int i, .long y, .float 0, .int j, .long v15, .float 0], [.int (Int64.toInt32 v17), .int v3, .ref (w + 20)], (h.1, I, J, h.2.2.2))) rfl ?_
        obtain ⟨v18, q_v18⟩ : ∃ v, (Int64.toInt32 v17) = v := ⟨_, rfl⟩
        rw [q_v18]
        refine hk_ias rfl (hD.2.2.2.2.2 _ (by omega) (by omega)) (by omega) (by omega) ?_
        refine qm_Ru.go 3 (c' := (104, [.ref w, .ref a, .ref b, .int i, .long y, .float 0, .int j, .long v15, .float 0], [.long (v15 / 100000000)], (h.1, qm_up I (w + 20) (v3.toInt.toNat) v18, J, h.2.2.2))) rfl ?_
        obtain ⟨v19, q_v19⟩ : ∃ v, (v15 / 100000000) = v := ⟨_, rfl⟩
        rw [q_v19]
        refine qm_Ru.go 2 (c' := (109, [.ref w, .ref a, .ref b, .int i, .long v19, .float 0, .int (j + 1), .long v15, .float 0], [], (h.1, qm_up I (w + 20) (v3.toInt.toNat) v18, J, h.2.2.2))) rfl ?_
        obtain ⟨v20, q_v20, e_v20⟩ := hk_add (x := j) (y := 1) (a := j.toInt) (b := 1) rfl rfl (by omega) (by omega)
        rw [q_v20]
        refine qm_Ru.go 1 (c' := (39, [.ref w, .ref a, .ref b, .int i, .long v19, .float 0, .int v20, .long v15, .float 0], [], (h.1, qm_up I (w + 20) (v3.toInt.toNat) v18, J, h.2.2.2))) rfl ?_
        exact ih _ (by omega) (qm_up I (w + 20) (v3.toInt.toNat) v18) (J) v19 v20 (.long v15) (.float 0) (fun o ho i => ((hk_on (by omega)).trans (e o ho i))) (by omega) rfl
theorem hl_mul2 {L : Nat} {xs : Nat → Int32} {d : Nat} {Z : Option Value → qm_H → Prop} {h : qm_H} {w : Nat} (hw : 192 ≤ w) (hD : wd h w) (hl : (h.2.1 w 2).toInt ≤ 101) {a b : Nat} (ha : w + 2 ≤ a ∧ a < w + 21) (hb : w + 2 ≤ b ∧ b < w + 21) (k : ∀ (I : Nat → Nat → Int32) (J : Nat → Nat → Int64), (∀ o, o < w + 2 ∨ w + 21 ≤ o → ∀ i, I o i = h.2.1 o i) → Z none (h.1, I, J, h.2.2.2)) : ∀ (m : Nat) (I : Nat → Nat → Int32) (J : Nat → Nat → Int64) (i : Int32) (l4 l5 l6 l7 l8 : Value), (∀ o, o < w + 2 ∨ w + 21 ≤ o → ∀ i, I o i = h.2.1 o i) → (0 ≤ i.toInt ∧ i.toInt ≤ 101) → (101 - i.toInt).toNat = m → qm_Ru (some (L, xs)) (d + 0) cd_129 (25, [.ref w, .ref a, .ref b, .int i, l4, l5, l6, l7, l8], [], (h.1, I, J, h.2.2.2)) Z := by
  intro m
  induction m using Nat.strongRecOn with
  | ind m ih =>
    intro I J i l4 l5 l6 l7 l8 e hi hm
    refine qm_Ru.go 2 (c' := (27, [.ref w, .ref a, .ref b, .int i, l4, l5, l6, l7, l8], [.ref w, .int i], (h.1, I, J, h.2.2.2))) rfl ?_
    obtain ⟨v1, q_v1⟩ : ∃ v, h.2.1 w 2 = v := ⟨_, rfl⟩
    refine hk_geti (v := v1) rfl hD.1 rfl (show (I) w 2 = _ from ((e w (Or.inl (by omega)) 2).trans q_v1)) ?_
    refine qm_Ru.go 0 (c' := (30, [.ref w, .ref a, .ref b, .int i, l4, l5, l6, l7, l8], [.int v1, .int i], (h.1, I, J, h.2.2.2))) rfl ?_
    have l_v1 : v1.toInt ≤ 101 := by rw [← q_v1]; exact hl
    refine hk_cge (ix := i.toInt) (iy := v1.toInt) rfl rfl rfl (fun z2 => ?_) (fun z2 => ?_)
    · refine qm_Ru.go 2 (c' := (120, [.ref w, .ref a, .ref b, .int 0, l4, l5, l6, l7, l8], [], (h.1, I, J, h.2.2.2))) rfl ?_
      exact hl_mul4 hw hD hl ha hb k _ (I) (J) 0 l4 l5 l6 l7 l8 (fun o ho i => (e o ho i)) (by decide) rfl
    · refine qm_Ru.go 4 (c' := (39, [.ref w, .ref a, .ref b, .int i, .long 0, .float 0, .int 0, l7, l8], [], (h.1, I, J, h.2.2.2))) rfl ?_
      refine hl_mul3 hw hD hl ha hb (i := i) (by omega) ?_ _ (I) (J) 0 0 l7 l8 (fun o ho i => (e o ho i)) (by decide) rfl
      intro I J l4 l5 l6 l7 l8 e
      refine qm_Ru.go 1 (c' := (115, [.ref w, .ref a, .ref b, .int (i + 1), l4, l5, l6, l7, l8], [], (h.1, I, J, h.2.2.2))) rfl ?_
      obtain ⟨v3, q_v3, e_v3⟩ := hk_add (x := i) (y := 1) (a := i.toInt) (b := 1) rfl rfl (by omega) (by omega)
      rw [q_v3]
      refine qm_Ru.go 1 (c' := (25, [.ref w, .ref a, .ref b, .int v3, l4, l5, l6, l7, l8], [], (h.1, I, J, h.2.2.2))) rfl ?_
      exact ih _ (by omega) (I) (J) v3 l4 l5 l6 l7 l8 (fun o ho i => (e o ho i)) (by omega) rfl
theorem hl_mul1 {L : Nat} {xs : Nat → Int32} {d : Nat} {Z : Option Value → qm_H → Prop} {h : qm_H} {w : Nat} (hw : 192 ≤ w) (hD : wd h w) (hl : (h.2.1 w 2).toInt ≤ 101) {a b : Nat} (ha : w + 2 ≤ a ∧ a < w + 21) (hb : w + 2 ≤ b ∧ b < w + 21) (k : ∀ (I : Nat → Nat → Int32) (J : Nat → Nat → Int64), (∀ o, o < w + 2 ∨ w + 21 ≤ o → ∀ i, I o i = h.2.1 o i) → Z none (h.1, I, J, h.2.2.2)) : ∀ (m : Nat) (I : Nat → Nat → Int32) (J : Nat → Nat → Int64) (i : Int32) (l4 l5 l6 l7 l8 : Value), (∀ o, o < w + 2 ∨ w + 21 ≤ o → ∀ i, I o i = h.2.1 o i) → (0 ≤ i.toInt ∧ i.toInt ≤ 101) → (101 - i.toInt).toNat = m → qm_Ru (some (L, xs)) (d + 0) cd_129 (2, [.ref w, .ref a, .ref b, .int i, l4, l5, l6, l7, l8], [], (h.1, I, J, h.2.2.2)) Z := by
  intro m
  induction m using Nat.strongRecOn with
  | ind m ih =>
    intro I J i l4 l5 l6 l7 l8 e hi hm
    refine qm_Ru.go 2 (c' := (4, [.ref w, .ref a, .ref b, .int i, l4, l5, l6, l7, l8], [.ref w, .int i], (h.1, I, J, h.2.2.2))) rfl ?_
    obtain ⟨v1, q_v1⟩ : ∃ v, h.2.1 w 2 = v := ⟨_, rfl⟩
    refine hk_geti (v := v1) rfl hD.1 rfl (show (I) w 2 = _ from ((e w (Or.inl (by omega)) 2).trans q_v1)) ?_
    refine qm_Ru.go 0 (c' := (7, [.ref w, .ref a, .ref b, .int i, l4, l5, l6, l7, l8], [.int v1, .int i], (h.1, I, J, h.2.2.2))) rfl ?_
    have l_v1 : v1.toInt ≤ 101 := by rw [← q_v1]; exact hl
    refine hk_cge (ix := i.toInt) (iy := v1.toInt) rfl rfl rfl (fun z2 => ?_) (fun z2 => ?_)
    · refine qm_Ru.go 2 (c' := (25, [.ref w, .ref a, .ref b, .int 0, l4, l5, l6, l7, l8], [], (h.1, I, J, h.2.2.2))) rfl ?_
      exact hl_mul2 hw hD hl ha hb k _ (I) (J) 0 l4 l5 l6 l7 l8 (fun o ho i => (e o ho i)) (by decide) rfl
    · refine qm_Ru.go 1 (c' := (11, [.ref w, .ref a, .ref b, .int i, l4, l5, l6, l7, l8], [.ref w], (h.1, I, J, h.2.2.2))) rfl ?_
      refine hk_getr rfl hD.1 rfl hD.2.2.2.1 ?_
      refine qm_Ru.go 2 (c' := (16, [.ref w, .ref a, .ref b, .int i, l4, l5, l6, l7, l8], [.int 0, .int i, .ref (w + 20)], (h.1, I, J, h.2.2.2))) rfl ?_
      refine hk_ias rfl (hD.2.2.2.2.2 _ (by omega) (by omega)) (by omega) (by omega) ?_
      refine qm_Ru.go 1 (c' := (20, [.ref w, .ref a, .ref b, .int (i + 1), l4, l5, l6, l7, l8], [], (h.1, qm_up I (w + 20) (i.toInt.toNat) 0, J, h.2.2.2))) rfl ?_
      obtain ⟨v3, q_v3, e_v3⟩ := hk_add (x := i) (y := 1) (a := i.toInt) (b := 1) rfl rfl (by omega) (by omega)
      rw [q_v3]
      refine qm_Ru.go 1 (c' := (2, [.ref w, .ref a, .ref b, .int v3, l4, l5, l6, l7, l8], [], (h.1, qm_up I (w + 20) (i.toInt.toNat) 0, J, h.2.2.2))) rfl ?_
      exact ih _ (by omega) (qm_up I (w + 20) (i.toInt.toNat) 0) (J) v3 l4 l5 l6 l7 l8 (fun o ho i => ((hk_on (by omega)).trans (e o ho i))) (by omega) rfl
theorem hs_mul {L : Nat} {xs : Nat → Int32} {d : Nat} {Z : Option Value → qm_H → Prop} {h : qm_H} {w : Nat} (hw : 192 ≤ w) (hD : wd h w) (hl : (h.2.1 w 2).toInt ≤ 101) {a b : Nat} (ha : w + 2 ≤ a ∧ a < w + 21) (hb : w + 2 ≤ b ∧ b < w + 21) (k : ∀ (I : Nat → Nat → Int32) (J : Nat → Nat → Int64), (∀ o, o < w + 2 ∨ w + 21 ≤ o → ∀ i, I o i = h.2.1 o i) → Z none (h.1, I, J, h.2.2.2)) : qm_Ru (some (L, xs)) (d + 0) cd_129 (qm_ent 9 [.ref w, .ref a, .ref b] h) Z := by
  refine qm_Ru.go 2 (c' := (2, [.ref w, .ref a, .ref b, .int 0, .float 0, .float 0, .float 0, .float 0, .float 0], [], h)) rfl ?_
  exact hl_mul1 hw hD hl ha hb k _ h.2.1 h.2.2.1 0 _ _ _ _ _ (fun _ _ _ => rfl) (by decide) rfl
theorem hl_wadd {L : Nat} {xs : Nat → Int32} {d : Nat} {Z : Option Value → qm_H → Prop} {h : qm_H} {w : Nat} (hw : 192 ≤ w) (hD : wd h w) (hl : (h.2.1 w 2).toInt ≤ 101) {a b : Nat} (ha : w + 2 ≤ a ∧ a < w + 21) (hb : w + 2 ≤ b ∧ b < w + 21) (k : ∀ (I : Nat → Nat → Int32) (J : Nat → Nat → Int64), (∀ o, o < w + 2 ∨ w + 21 ≤ o → ∀ i, I o i = h.2.1 o i) → Z none (h.1, I, J, h.2.2.2)) : ∀ (m : Nat) (I : Nat → Nat → Int32) (J : Nat → Nat → Int64) (y i : Int32) (l5 : Value), (∀ o, o < w + 2 ∨ w + 21 ≤ o → ∀ i, I o i = h.2.1 o i) → (0 ≤ i.toInt ∧ i.toInt ≤ 101) → (101 - i.toInt).toNat = m → qm_Ru (some (L, xs)) (d + 0) cd_127 (5, [.ref w, .ref a, .ref b, .int y, .int i, l5], [], (h.1, I, J, h.2.2.2)) Z := by
  intro m
  induction m using Nat.strongRecOn with
  | ind m ih =>
    intro I J y i l5 e hi hm
    refine qm_Ru.go 2 (c' := (8, [.ref w, .ref a, .ref b, .int y, .int i, l5], [.ref w, .int i], (h.1, I, J, h.2.2.2))) rfl ?_
    obtain ⟨v1, q_v1⟩ : ∃ v, h.2.1 w 2 = v := ⟨_, rfl⟩
    refine hk_geti (v := v1) rfl hD.1 rfl (show (I) w 2 = _ from ((e w (Or.inl (by omega)) 2).trans q_v1)) ?_
    refine qm_Ru.go 0 (c' := (11, [.ref w, .ref a, .ref b, .int y, .int i, l5], [.int v1, .int i], (h.1, I, J, h.2.2.2))) rfl ?_
    have l_v1 : v1.toInt ≤ 101 := by rw [← q_v1]; exact hl
    refine hk_cge (ix := i.toInt) (iy := v1.toInt) rfl rfl rfl (fun z2 => ?_) (fun z2 => ?_)
    · refine qm_Ru.go 0 (c' := (48, [.ref w, .ref a, .ref b, .int y, .int i, l5], [], (h.1, I, J, h.2.2.2))) rfl ?_
      refine qm_Ru.rt (v := none) (h' := (h.1, I, J, h.2.2.2)) rfl ?_
      exact k (I) (J) (fun o ho i => (e o ho i))
    · refine qm_Ru.go 2 (c' := (17, [.ref w, .ref a, .ref b, .int y, .int i, l5], [.int i, .ref a], (h.1, I, J, h.2.2.2))) rfl ?_
      obtain ⟨v3, q_v3⟩ : ∃ v, (I) a (i.toInt.toNat) = v := ⟨_, rfl⟩
      refine hk_ial (v := v3) rfl (hD.2.2.2.2.2 _ (by omega) (by omega)) (by omega) (by omega) q_v3 ?_
      refine qm_Ru.go 2 (c' := (21, [.ref w, .ref a, .ref b, .int y, .int i, l5], [.int i, .ref b, .int v3], (h.1, I, J, h.2.2.2))) rfl ?_
      obtain ⟨v4, q_v4⟩ : ∃ v, (I) b (i.toInt.toNat) = v := ⟨_, rfl⟩
      refine hk_ial (v := v4) rfl (hD.2.2.2.2.2 _ (by omega) (by omega)) (by omega) (by omega) q_v4 ?_
      refine qm_Ru.go 1 (c' := (23, [.ref w, .ref a, .ref b, .int y, .int i, l5], [.int (v3 + v4)], (h.1, I, J, h.2.2.2))) rfl ?_
      obtain ⟨v5, q_v5⟩ : ∃ v, (v3 + v4) = v := ⟨_, rfl⟩
      rw [q_v5]
      refine qm_Ru.go 2 (c' := (25, [.ref w, .ref a, .ref b, .int y, .int i, l5], [.int (v5 + y)], (h.1, I, J, h.2.2.2))) rfl ?_
      obtain ⟨v6, q_v6⟩ : ∃ v, (v5 + y) = v := ⟨_, rfl⟩
      rw [q_v6]
      refine qm_Ru.go 4 (c' := (32, [.ref w, .ref a, .ref b, .int y, .int i, .int v6], [.int (v6 / 100000000)], (h.1, I, J, h.2.2.2))) rfl ?_
      obtain ⟨v7, q_v7⟩ : ∃ v, (v6 / 100000000) = v := ⟨_, rfl⟩
      rw [q_v7]
      refine qm_Ru.go 6 (c' := (41, [.ref w, .ref a, .ref b, .int v7, .int i, .int v6], [.int (v6 - v6 / 100000000 * 100000000), .int i, .ref a], (h.1, I, J, h.2.2.2))) rfl ?_
      obtain ⟨v8, q_v8⟩ : ∃ v, (v6 - v6 / 100000000 * 100000000) = v := ⟨_, rfl⟩
      rw [q_v8]
      refine hk_ias rfl (hD.2.2.2.2.2 _ (by omega) (by omega)) (by omega) (by omega) ?_
      refine qm_Ru.go 1 (c' := (45, [.ref w, .ref a, .ref b, .int v7, .int (i + 1), .int v6], [], (h.1, qm_up I a (i.toInt.toNat) v8, J, h.2.2.2))) rfl ?_
      obtain ⟨v9, q_v9, e_v9⟩ := hk_add (x := i) (y := 1) (a := i.toInt) (b := 1) rfl rfl (by omega) (by omega)
      rw [q_v9]
      refine qm_Ru.go 1 (c' := (5, [.ref w, .ref a, .ref b, .int v7, .int v9, .int v6], [], (h.1, qm_up I a (i.toInt.toNat) v8, J, h.2.2.2))) rfl ?_
      exact ih _ (by omega) (qm_up I a (i.toInt.toNat) v8) (J) v7 v9 (.int v6) (fun o ho i => ((hk_on (by omega)).trans (e o ho i))) (by omega) rfl
theorem hs_wadd {L : Nat} {xs : Nat → Int32} {d : Nat} {Z : Option Value → qm_H → Prop} {h : qm_H} {w : Nat} (hw : 192 ≤ w) (hD : wd h w) (hl : (h.2.1 w 2).toInt ≤ 101) {a b : Nat} (ha : w + 2 ≤ a ∧ a < w + 21) (hb : w + 2 ≤ b ∧ b < w + 21) (k : ∀ (I : Nat → Nat → Int32) (J : Nat → Nat → Int64), (∀ o, o < w + 2 ∨ w + 21 ≤ o → ∀ i, I o i = h.2.1 o i) → Z none (h.1, I, J, h.2.2.2)) : qm_Ru (some (L, xs)) (d + 0) cd_127 (qm_ent 6 [.ref w, .ref a, .ref b] h) Z := by
  refine qm_Ru.go 4 (c' := (5, [.ref w, .ref a, .ref b, .int 0, .int 0, .float 0], [], h)) rfl ?_
  exact hl_wadd hw hD hl ha hb k _ h.2.1 h.2.2.1 0 0 _ (fun _ _ _ => rfl) (by decide) rfl
theorem hl_wsub {L : Nat} {xs : Nat → Int32} {d : Nat} {Z : Option Value → qm_H → Prop} {h : qm_H} {w : Nat} (hw : 192 ≤ w) (hD : wd h w) (hl : (h.2.1 w 2).toInt ≤ 101) {a b : Nat} (ha : w + 2 ≤ a ∧ a < w + 21) (hb : w + 2 ≤ b ∧ b < w + 21) (k : ∀ (I : Nat → Nat → Int32) (J : Nat → Nat → Int64), (∀ o, o < w + 2 ∨ w + 21 ≤ o → ∀ i, I o i = h.2.1 o i) → Z none (h.1, I, J, h.2.2.2)) : ∀ (m : Nat) (I : Nat → Nat → Int32) (J : Nat → Nat → Int64) (y i : Int32) (l5 : Value), (∀ o, o < w + 2 ∨ w + 21 ≤ o → ∀ i, I o i = h.2.1 o i) → (0 ≤ i.toInt ∧ i.toInt ≤ 101) → (101 - i.toInt).toNat = m → qm_Ru (some (L, xs)) (d + 0) cd_128 (5, [.ref w, .ref a, .ref b, .int y, .int i, l5], [], (h.1, I, J, h.2.2.2)) Z := by
  intro m
  induction m using Nat.strongRecOn with
  | ind m ih =>
    intro I J y i l5 e hi hm
    refine qm_Ru.go 2 (c' := (8, [.ref w, .ref a, .ref b, .int y, .int i, l5], [.ref w, .int i], (h.1, I, J, h.2.2.2))) rfl ?_
    obtain ⟨v1, q_v1⟩ : ∃ v, h.2.1 w 2 = v := ⟨_, rfl⟩
    refine hk_geti (v := v1) rfl hD.1 rfl (show (I) w 2 = _ from ((e w (Or.inl (by omega)) 2).trans q_v1)) ?_
    refine qm_Ru.go 0 (c' := (11, [.ref w, .ref a, .ref b, .int y, .int i, l5], [.int v1, .int i], (h.1, I, J, h.2.2.2))) rfl ?_
    have l_v1 : v1.toInt ≤ 101 := by rw [← q_v1]; exact hl
    refine hk_cge (ix := i.toInt) (iy := v1.toInt) rfl rfl rfl (fun z2 => ?_) (fun z2 => ?_)
    · refine qm_Ru.go 0 (c' := (48, [.ref w, .ref a, .ref b, .int y, .int i, l5], [], (h.1, I, J, h.2.2.2))) rfl ?_
      refine qm_Ru.rt (v := none) (h' := (h.1, I, J, h.2.2.2)) rfl ?_
      exact k (I) (J) (fun o ho i => (e o ho i))
    · refine qm_Ru.go 2 (c' := (17, [.ref w, .ref a, .ref b, .int y, .int i, l5], [.int i, .ref a], (h.1, I, J, h.2.2.2))) rfl ?_
      obtain ⟨v3, q_v3⟩ : ∃ v, (I) a (i.toInt.toNat) = v := ⟨_, rfl⟩
      refine hk_ial (v := v3) rfl (hD.2.2.2.2.2 _ (by omega) (by omega)) (by omega) (by omega) q_v3 ?_
      refine qm_Ru.go 2 (c' := (21, [.ref w, .ref a, .ref b, .int y, .int i, l5], [.int i, .ref b, .int v3], (h.1, I, J, h.2.2.2))) rfl ?_
      obtain ⟨v4, q_v4⟩ : ∃ v, (I) b (i.toInt.toNat) = v := ⟨_, rfl⟩
      refine hk_ial (v := v4) rfl (hD.2.2.2.2.2 _ (by omega) (by omega)) (by omega) (by omega) q_v4 ?_
      refine qm_Ru.go 1 (c' := (23, [.ref w, .ref a, .ref b, .int y, .int i, l5], [.int (v3 - v4)], (h.1, I, J, h.2.2.2))) rfl ?_
      obtain ⟨v5, q_v5⟩ : ∃ v, (v3 - v4) = v := ⟨_, rfl⟩
      rw [q_v5]
      refine qm_Ru.go 2 (c' := (25, [.ref w, .ref a, .ref b, .int y, .int i, l5], [.int (v5 + y)], (h.1, I, J, h.2.2.2))) rfl ?_
      obtain ⟨v6, q_v6⟩ : ∃ v, (v5 + y) = v := ⟨_, rfl⟩
      rw [q_v6]
      refine qm_Ru.go 4 (c' := (32, [.ref w, .ref a, .ref b, .int y, .int i, .int v6], [.int (v6 / 100000000)], (h.1, I, J, h.2.2.2))) rfl ?_
      obtain ⟨v7, q_v7⟩ : ∃ v, (v6 / 100000000) = v := ⟨_, rfl⟩
      rw [q_v7]
      refine qm_Ru.go 6 (c' := (41, [.ref w, .ref a, .ref b, .int v7, .int i, .int v6], [.int (v6 - v6 / 100000000 * 100000000), .int i, .ref a], (h.1, I, J, h.2.2.2))) rfl ?_
      obtain ⟨v8, q_v8⟩ : ∃ v, (v6 - v6 / 100000000 * 100000000) = v := ⟨_, rfl⟩
      rw [q_v8]
      refine hk_ias rfl (hD.2.2.2.2.2 _ (by omega) (by omega)) (by omega) (by omega) ?_
      refine qm_Ru.go 1 (c' := (45, [.ref w, .ref a, .ref b, .int v7, .int (i + 1), .int v6], [], (h.1, qm_up I a (i.toInt.toNat) v8, J, h.2.2.2))) rfl ?_
      obtain ⟨v9, q_v9, e_v9⟩ := hk_add (x := i) (y := 1) (a := i.toInt) (b := 1) rfl rfl (by omega) (by omega)
      rw [q_v9]
      refine qm_Ru.go 1 (c' := (5, [.ref w, .ref a, .ref b, .int v7, .int v9, .int v6], [], (h.1, qm_up I a (i.toInt.toNat) v8, J, h.2.2.2))) rfl ?_
      exact ih _ (by omega) (qm_up I a (i.toInt.toNat) v8) (J) v7 v9 (.int v6) (fun o ho i => ((hk_on (by omega)).trans (e o ho i))) (by omega) rfl
theorem hs_wsub {L : Nat} {xs : Nat → Int32} {d : Nat} {Z : Option Value → qm_H → Prop} {h : qm_H} {w : Nat} (hw : 192 ≤ w) (hD : wd h w) (hl : (h.2.1 w 2).toInt ≤ 101) {a b : Nat} (ha : w + 2 ≤ a ∧ a < w + 21) (hb : w + 2 ≤ b ∧ b < w + 21) (k : ∀ (I : Nat → Nat → Int32) (J : Nat → Nat → Int64), (∀ o, o < w + 2 ∨ w + 21 ≤ o → ∀ i, I o i = h.2.1 o i) → Z none (h.1, I, J, h.2.2.2)) : qm_Ru (some (L, xs)) (d + 0) cd_128 (qm_ent 6 [.ref w, .ref a, .ref b] h) Z := by
  refine qm_Ru.go 4 (c' := (5, [.ref w, .ref a, .ref b, .int 0, .int 0, .float 0], [], h)) rfl ?_
  exact hl_wsub hw hD hl ha hb k _ h.2.1 h.2.2.1 0 0 _ (fun _ _ _ => rfl) (by decide) rfl
theorem hl_wwr {L : Nat} {xs : Nat → Int32} {d : Nat} {Z : Option Value → qm_H → Prop} {h : qm_H} {w : Nat} (hw : 192 ≤ w) (hD : wd h w) (hl : (h.2.1 w 2).toInt ≤ 101) {a : Nat} (ha : w + 2 ≤ a ∧ a < w + 21) {x : Int32} (k : ∀ (I : Nat → Nat → Int32) (J : Nat → Nat → Int64), (∀ o, o < w + 2 ∨ w + 21 ≤ o → ∀ i, I o i = h.2.1 o i) → Z none (h.1, I, J, h.2.2.2)) : ∀ (m : Nat) (I : Nat → Nat → Int32) (J : Nat → Nat → Int64) (i : Int32), (∀ o, o < w + 2 ∨ w + 21 ≤ o → ∀ i, I o i = h.2.1 o i) → (0 ≤ i.toInt ∧ i.toInt ≤ 101) → (101 - i.toInt).toNat = m → qm_Ru (some (L, xs)) (d + 0) cd_125 (2, [.ref w, .ref a, .int x, .int i], [], (h.1, I, J, h.2.2.2)) Z := by
  intro m
  induction m using Nat.strongRecOn with
  | ind m ih =>
    intro I J i e hi hm
    refine qm_Ru.go 2 (c' := (4, [.ref w, .ref a, .int x, .int i], [.ref w, .int i], (h.1, I, J, h.2.2.2))) rfl ?_
    obtain ⟨v1, q_v1⟩ : ∃ v, h.2.1 w 2 = v := ⟨_, rfl⟩
    refine hk_geti (v := v1) rfl hD.1 rfl (show (I) w 2 = _ from ((e w (Or.inl (by omega)) 2).trans q_v1)) ?_
    refine qm_Ru.go 0 (c' := (7, [.ref w, .ref a, .int x, .int i], [.int v1, .int i], (h.1, I, J, h.2.2.2))) rfl ?_
    have l_v1 : v1.toInt ≤ 101 := by rw [← q_v1]; exact hl
    refine hk_cge (ix := i.toInt) (iy := v1.toInt) rfl rfl rfl (fun z2 => ?_) (fun z2 => ?_)
    · refine qm_Ru.go 3 (c' := (23, [.ref w, .ref a, .int x, .int i], [.int x, .int 0, .ref a], (h.1, I, J, h.2.2.2))) rfl ?_
      refine hk_ias rfl (hD.2.2.2.2.2 _ (by omega) (by omega)) (by decide) (by decide) ?_
      refine qm_Ru.go 0 (c' := (24, [.ref w, .ref a, .int x, .int i], [], (h.1, qm_up I a 0 x, J, h.2.2.2))) rfl ?_
      refine qm_Ru.rt (v := none) (h' := (h.1, qm_up I a 0 x, J, h.2.2.2)) rfl ?_
      exact k (qm_up I a 0 x) (J) (fun o ho i => ((hk_on (by omega)).trans (e o ho i)))
    · refine qm_Ru.go 3 (c' := (13, [.ref w, .ref a, .int x, .int i], [.int 0, .int i, .ref a], (h.1, I, J, h.2.2.2))) rfl ?_
      refine hk_ias rfl (hD.2.2.2.2.2 _ (by omega) (by omega)) (by omega) (by omega) ?_
      refine qm_Ru.go 1 (c' := (17, [.ref w, .ref a, .int x, .int (i + 1)], [], (h.1, qm_up I a (i.toInt.toNat) 0, J, h.2.2.2))) rfl ?_
      obtain ⟨v3, q_v3, e_v3⟩ := hk_add (x := i) (y := 1) (a := i.toInt) (b := 1) rfl rfl (by omega) (by omega)
      rw [q_v3]
      refine qm_Ru.go 1 (c' := (2, [.ref w, .ref a, .int x, .int v3], [], (h.1, qm_up I a (i.toInt.toNat) 0, J, h.2.2.2))) rfl ?_
      exact ih _ (by omega) (qm_up I a (i.toInt.toNat) 0) (J) v3 (fun o ho i => ((hk_on (by omega)).trans (e o ho i))) (by omega) rfl
theorem hs_wwr {L : Nat} {xs : Nat → Int32} {d : Nat} {Z : Option Value → qm_H → Prop} {h : qm_H} {w : Nat} (hw : 192 ≤ w) (hD : wd h w) (hl : (h.2.1 w 2).toInt ≤ 101) {a : Nat} (ha : w + 2 ≤ a ∧ a < w + 21) {x : Int32} (k : ∀ (I : Nat → Nat → Int32) (J : Nat → Nat → Int64), (∀ o, o < w + 2 ∨ w + 21 ≤ o → ∀ i, I o i = h.2.1 o i) → Z none (h.1, I, J, h.2.2.2)) : qm_Ru (some (L, xs)) (d + 0) cd_125 (qm_ent 4 [.ref w, .ref a, .int x] h) Z := by
  refine qm_Ru.go 2 (c' := (2, [.ref w, .ref a, .int x, .int 0], [], h)) rfl ?_
  exact hl_wwr hw hD hl ha k _ h.2.1 h.2.2.1 0 (fun _ _ _ => rfl) (by decide) rfl
theorem hl_wcmp {L : Nat} {xs : Nat → Int32} {d : Nat} {Z : Option Value → qm_H → Prop} {h : qm_H} {w : Nat} (hw : 192 ≤ w) (hD : wd h w) (hl : (h.2.1 w 2).toInt ≤ 101) {a b : Nat} (ha : w + 2 ≤ a ∧ a < w + 21) (hb : w + 2 ≤ b ∧ b < w + 21) {x : Int32} (k : ∀ (I : Nat → Nat → Int32) (J : Nat → Nat → Int64), (∀ o, o < w + 2 ∨ w + 21 ≤ o → ∀ i, I o i = h.2.1 o i) → Z none (h.1, I, J, h.2.2.2)) : ∀ (m : Nat) (I : Nat → Nat → Int32) (J : Nat → Nat → Int64) (y z i : Int32) (l7 : Value), (∀ o, o < w + 2 ∨ w + 21 ≤ o → ∀ i, I o i = h.2.1 o i) → (0 ≤ i.toInt ∧ i.toInt ≤ 101) → (101 - i.toInt).toNat = m → qm_Ru (some (L, xs)) (d + 0) cd_130 (9, [.ref w, .int x, .ref a, .ref b, .int y, .int z, .int i, l7], [], (h.1, I, J, h.2.2.2)) Z := by
  intro m
  induction m using Nat.strongRecOn with
  | ind m ih =>
    intro I J y z i l7 e hi hm
    refine qm_Ru.go 2 (c' := (12, [.ref w, .int x, .ref a, .ref b, .int y, .int z, .int i, l7], [.ref w, .int i], (h.1, I, J, h.2.2.2))) rfl ?_
    obtain ⟨v1, q_v1⟩ : ∃ v, h.2.1 w 2 = v := ⟨_, rfl⟩
    refine hk_geti (v := v1) rfl hD.1 rfl (show (I) w 2 = _ from ((e w (Or.inl (by omega)) 2).trans q_v1)) ?_
    refine qm_Ru.go 0 (c' := (15, [.ref w, .int x, .ref a, .ref b, .int y, .int z, .int i, l7], [.int v1, .int i], (h.1, I, J, h.2.2.2))) rfl ?_
    have l_v1 : v1.toInt ≤ 101 := by rw [← q_v1]; exact hl
    refine hk_cge (ix := i.toInt) (iy := v1.toInt) rfl rfl rfl (fun z2 => ?_) (fun z2 => ?_)
    · refine qm_Ru.go 1 (c' := (87, [.ref w, .int x, .ref a, .ref b, .int y, .int z, .int i, l7], [.int y], (h.1, I, J, h.2.2.2))) rfl ?_
      refine hk_zge (ix := y.toInt) rfl rfl (fun z3 => ?_) (fun z3 => ?_)
      · refine qm_Ru.go 3 (c' := (99, [.ref w, .int x, .ref a, .ref b, .int y, .int z, .int 0, l7], [.int z], (h.1, I, J, h.2.2.2))) rfl ?_
        refine hk_zeq (ix := z.toInt) rfl rfl (fun z4 => ?_) (fun z4 => ?_)
        · refine qm_Ru.go 4 (c' := (117, [.ref w, .int x, .ref a, .ref b, .int y, .int 0, .int 0, l7], [.int 31, .int x], (h.1, I, J, h.2.2.2))) rfl ?_
          refine hk_cne (ix := x.toInt) (iy := 31) rfl rfl rfl (fun z5 => ?_) (fun z5 => ?_)
          · refine qm_Ru.go 2 (c' := (128, [.ref w, .int x, .ref a, .ref b, .int y, .int 0, .int 0, l7], [.int 32, .int x], (h.1, I, J, h.2.2.2))) rfl ?_
            refine hk_cne (ix := x.toInt) (iy := 32) rfl rfl rfl (fun z6 => ?_) (fun z6 => ?_)
            · refine qm_Ru.go 2 (c' := (147, [.ref w, .int x, .ref a, .ref b, .int y, .int 0, .int 0, l7], [.int 33, .int x], (h.1, I, J, h.2.2.2))) rfl ?_
              refine hk_cne (ix := x.toInt) (iy := 33) rfl rfl rfl (fun z7 => ?_) (fun z7 => ?_)
              · refine qm_Ru.go 11 (c' := (184, [.ref w, .int x, .ref a, .ref b, .int y, .int 0, .int 0, .int 0], [.int 0, .int 0, .ref a], (h.1, I, J, h.2.2.2))) rfl ?_
                refine hk_ias rfl (hD.2.2.2.2.2 _ (by omega) (by omega)) (by decide) (by decide) ?_
                refine qm_Ru.go 0 (c' := (185, [.ref w, .int x, .ref a, .ref b, .int y, .int 0, .int 0, .int 0], [], (h.1, qm_up I a 0 0, J, h.2.2.2))) rfl ?_
                refine qm_Ru.rt (v := none) (h' := (h.1, qm_up I a 0 0, J, h.2.2.2)) rfl ?_
                exact k (qm_up I a 0 0) (J) (fun o ho i => ((hk_on (by omega)).trans (e o ho i)))
              · refine qm_Ru.go 8 (c' := (184, [.ref w, .int x, .ref a, .ref b, .int y, .int 0, .int 0, .int 0], [.int 0, .int 0, .ref a], (h.1, I, J, h.2.2.2))) rfl ?_
                refine hk_ias rfl (hD.2.2.2.2.2 _ (by omega) (by omega)) (by decide) (by decide) ?_
                refine qm_Ru.go 0 (c' := (185, [.ref w, .int x, .ref a, .ref b, .int y, .int 0, .int 0, .int 0], [], (h.1, qm_up I a 0 0, J, h.2.2.2))) rfl ?_
                refine qm_Ru.rt (v := none) (h' := (h.1, qm_up I a 0 0, J, h.2.2.2)) rfl ?_
                exact k (qm_up I a 0 0) (J) (fun o ho i => ((hk_on (by omega)).trans (e o ho i)))
            · refine qm_Ru.go 11 (c' := (184, [.ref w, .int x, .ref a, .ref b, .int y, .int 0, .int 0, .int 1], [.int 1, .int 0, .ref a], (h.1, I, J, h.2.2.2))) rfl ?_
              refine hk_ias rfl (hD.2.2.2.2.2 _ (by omega) (by omega)) (by decide) (by decide) ?_
              refine qm_Ru.go 0 (c' := (185, [.ref w, .int x, .ref a, .ref b, .int y, .int 0, .int 0, .int 1], [], (h.1, qm_up I a 0 1, J, h.2.2.2))) rfl ?_
              refine qm_Ru.rt (v := none) (h' := (h.1, qm_up I a 0 1, J, h.2.2.2)) rfl ?_
              exact k (qm_up I a 0 1) (J) (fun o ho i => ((hk_on (by omega)).trans (e o ho i)))
          · refine qm_Ru.go 8 (c' := (184, [.ref w, .int x, .ref a, .ref b, .int y, .int 0, .int 0, .int 0], [.int 0, .int 0, .ref a], (h.1, I, J, h.2.2.2))) rfl ?_
            refine hk_ias rfl (hD.2.2.2.2.2 _ (by omega) (by omega)) (by decide) (by decide) ?_
            refine qm_Ru.go 0 (c' := (185, [.ref w, .int x, .ref a, .ref b, .int y, .int 0, .int 0, .int 0], [], (h.1, qm_up I a 0 0, J, h.2.2.2))) rfl ?_
            refine qm_Ru.rt (v := none) (h' := (h.1, qm_up I a 0 0, J, h.2.2.2)) rfl ?_
            exact k (qm_up I a 0 0) (J) (fun o ho i => ((hk_on (by omega)).trans (e o ho i)))
        · refine qm_Ru.go 1 (c' := (104, [.ref w, .int x, .ref a, .ref b, .int y, .int z, .int 0, l7], [.int y], (h.1, I, J, h.2.2.2))) rfl ?_
          refine hk_zne (ix := y.toInt) rfl rfl (fun z8 => ?_) (fun z8 => ?_)
          · refine qm_Ru.go 4 (c' := (117, [.ref w, .int x, .ref a, .ref b, .int y, .int 0, .int 0, l7], [.int 31, .int x], (h.1, I, J, h.2.2.2))) rfl ?_
            refine hk_cne (ix := x.toInt) (iy := 31) rfl rfl rfl (fun z9 => ?_) (fun z9 => ?_)
            · refine qm_Ru.go 2 (c' := (128, [.ref w, .int x, .ref a, .ref b, .int y, .int 0, .int 0, l7], [.int 32, .int x], (h.1, I, J, h.2.2.2))) rfl ?_
              refine hk_cne (ix := x.toInt) (iy := 32) rfl rfl rfl (fun z10 => ?_) (fun z10 => ?_)
              · refine qm_Ru.go 2 (c' := (147, [.ref w, .int x, .ref a, .ref b, .int y, .int 0, .int 0, l7], [.int 33, .int x], (h.1, I, J, h.2.2.2))) rfl ?_
                refine hk_cne (ix := x.toInt) (iy := 33) rfl rfl rfl (fun z11 => ?_) (fun z11 => ?_)
                · refine qm_Ru.go 11 (c' := (184, [.ref w, .int x, .ref a, .ref b, .int y, .int 0, .int 0, .int 0], [.int 0, .int 0, .ref a], (h.1, I, J, h.2.2.2))) rfl ?_
                  refine hk_ias rfl (hD.2.2.2.2.2 _ (by omega) (by omega)) (by decide) (by decide) ?_
                  refine qm_Ru.go 0 (c' := (185, [.ref w, .int x, .ref a, .ref b, .int y, .int 0, .int 0, .int 0], [], (h.1, qm_up I a 0 0, J, h.2.2.2))) rfl ?_
                  refine qm_Ru.rt (v := none) (h' := (h.1, qm_up I a 0 0, J, h.2.2.2)) rfl ?_
                  exact k (qm_up I a 0 0) (J) (fun o ho i => ((hk_on (by omega)).trans (e o ho i)))
                · refine qm_Ru.go 8 (c' := (184, [.ref w, .int x, .ref a, .ref b, .int y, .int 0, .int 0, .int 0], [.int 0, .int 0, .ref a], (h.1, I, J, h.2.2.2))) rfl ?_
                  refine hk_ias rfl (hD.2.2.2.2.2 _ (by omega) (by omega)) (by decide) (by decide) ?_
                  refine qm_Ru.go 0 (c' := (185, [.ref w, .int x, .ref a, .ref b, .int y, .int 0, .int 0, .int 0], [], (h.1, qm_up I a 0 0, J, h.2.2.2))) rfl ?_
                  refine qm_Ru.rt (v := none) (h' := (h.1, qm_up I a 0 0, J, h.2.2.2)) rfl ?_
                  exact k (qm_up I a 0 0) (J) (fun o ho i => ((hk_on (by omega)).trans (e o ho i)))
              · refine qm_Ru.go 11 (c' := (184, [.ref w, .int x, .ref a, .ref b, .int y, .int 0, .int 0, .int 1], [.int 1, .int 0, .ref a], (h.1, I, J, h.2.2.2))) rfl ?_
                refine hk_ias rfl (hD.2.2.2.2.2 _ (by omega) (by omega)) (by decide) (by decide) ?_
                refine qm_Ru.go 0 (c' := (185, [.ref w, .int x, .ref a, .ref b, .int y, .int 0, .int 0, .int 1], [], (h.1, qm_up I a 0 1, J, h.2.2.2))) rfl ?_
                refine qm_Ru.rt (v := none) (h' := (h.1, qm_up I a 0 1, J, h.2.2.2)) rfl ?_
                exact k (qm_up I a 0 1) (J) (fun o ho i => ((hk_on (by omega)).trans (e o ho i)))
            · refine qm_Ru.go 8 (c' := (184, [.ref w, .int x, .ref a, .ref b, .int y, .int 0, .int 0, .int 0], [.int 0, .int 0, .ref a], (h.1, I, J, h.2.2.2))) rfl ?_
              refine hk_ias rfl (hD.2.2.2.2.2 _ (by omega) (by omega)) (by decide) (by decide) ?_
              refine qm_Ru.go 0 (c' := (185, [.ref w, .int x, .ref a, .ref b, .int y, .int 0, .int 0, .int 0], [], (h.1, qm_up I a 0 0, J, h.2.2.2))) rfl ?_
              refine qm_Ru.rt (v := none) (h' := (h.1, qm_up I a 0 0, J, h.2.2.2)) rfl ?_
              exact k (qm_up I a 0 0) (J) (fun o ho i => ((hk_on (by omega)).trans (e o ho i)))
          · refine qm_Ru.go 5 (c' := (117, [.ref w, .int x, .ref a, .ref b, .int y, .int 1, .int 0, l7], [.int 31, .int x], (h.1, I, J, h.2.2.2))) rfl ?_
            refine hk_cne (ix := x.toInt) (iy := 31) rfl rfl rfl (fun z12 => ?_) (fun z12 => ?_)
            · refine qm_Ru.go 2 (c' := (128, [.ref w, .int x, .ref a, .ref b, .int y, .int 1, .int 0, l7], [.int 32, .int x], (h.1, I, J, h.2.2.2))) rfl ?_
              refine hk_cne (ix := x.toInt) (iy := 32) rfl rfl rfl (fun z13 => ?_) (fun z13 => ?_)
              · refine qm_Ru.go 2 (c' := (147, [.ref w, .int x, .ref a, .ref b, .int y, .int 1, .int 0, l7], [.int 33, .int x], (h.1, I, J, h.2.2.2))) rfl ?_
                refine hk_cne (ix := x.toInt) (iy := 33) rfl rfl rfl (fun z14 => ?_) (fun z14 => ?_)
                · refine qm_Ru.go 13 (c' := (184, [.ref w, .int x, .ref a, .ref b, .int y, .int 1, .int 0, .int 1], [.int 1, .int 0, .ref a], (h.1, I, J, h.2.2.2))) rfl ?_
                  refine hk_ias rfl (hD.2.2.2.2.2 _ (by omega) (by omega)) (by decide) (by decide) ?_
                  refine qm_Ru.go 0 (c' := (185, [.ref w, .int x, .ref a, .ref b, .int y, .int 1, .int 0, .int 1], [], (h.1, qm_up I a 0 1, J, h.2.2.2))) rfl ?_
                  refine qm_Ru.rt (v := none) (h' := (h.1, qm_up I a 0 1, J, h.2.2.2)) rfl ?_
                  exact k (qm_up I a 0 1) (J) (fun o ho i => ((hk_on (by omega)).trans (e o ho i)))
                · refine qm_Ru.go 8 (c' := (184, [.ref w, .int x, .ref a, .ref b, .int y, .int 1, .int 0, .int 0], [.int 0, .int 0, .ref a], (h.1, I, J, h.2.2.2))) rfl ?_
                  refine hk_ias rfl (hD.2.2.2.2.2 _ (by omega) (by omega)) (by decide) (by decide) ?_
                  refine qm_Ru.go 0 (c' := (185, [.ref w, .int x, .ref a, .ref b, .int y, .int 1, .int 0, .int 0], [], (h.1, qm_up I a 0 0, J, h.2.2.2))) rfl ?_
                  refine qm_Ru.rt (v := none) (h' := (h.1, qm_up I a 0 0, J, h.2.2.2)) rfl ?_
                  exact k (qm_up I a 0 0) (J) (fun o ho i => ((hk_on (by omega)).trans (e o ho i)))
              · refine qm_Ru.go 10 (c' := (184, [.ref w, .int x, .ref a, .ref b, .int y, .int 1, .int 0, .int 0], [.int 0, .int 0, .ref a], (h.1, I, J, h.2.2.2))) rfl ?_
                refine hk_ias rfl (hD.2.2.2.2.2 _ (by omega) (by omega)) (by decide) (by decide) ?_
                refine qm_Ru.go 0 (c' := (185, [.ref w, .int x, .ref a, .ref b, .int y, .int 1, .int 0, .int 0], [], (h.1, qm_up I a 0 0, J, h.2.2.2))) rfl ?_
                refine qm_Ru.rt (v := none) (h' := (h.1, qm_up I a 0 0, J, h.2.2.2)) rfl ?_
                exact k (qm_up I a 0 0) (J) (fun o ho i => ((hk_on (by omega)).trans (e o ho i)))
            · refine qm_Ru.go 9 (c' := (184, [.ref w, .int x, .ref a, .ref b, .int y, .int 1, .int 0, .int 1], [.int 1, .int 0, .ref a], (h.1, I, J, h.2.2.2))) rfl ?_
              refine hk_ias rfl (hD.2.2.2.2.2 _ (by omega) (by omega)) (by decide) (by decide) ?_
              refine qm_Ru.go 0 (c' := (185, [.ref w, .int x, .ref a, .ref b, .int y, .int 1, .int 0, .int 1], [], (h.1, qm_up I a 0 1, J, h.2.2.2))) rfl ?_
              refine qm_Ru.rt (v := none) (h' := (h.1, qm_up I a 0 1, J, h.2.2.2)) rfl ?_
              exact k (qm_up I a 0 1) (J) (fun o ho i => ((hk_on (by omega)).trans (e o ho i)))
      · refine qm_Ru.go 4 (c' := (99, [.ref w, .int x, .ref a, .ref b, .int y, .int z, .int 1, l7], [.int z], (h.1, I, J, h.2.2.2))) rfl ?_
        refine hk_zeq (ix := z.toInt) rfl rfl (fun z15 => ?_) (fun z15 => ?_)
        · refine qm_Ru.go 4 (c' := (117, [.ref w, .int x, .ref a, .ref b, .int y, .int 0, .int 1, l7], [.int 31, .int x], (h.1, I, J, h.2.2.2))) rfl ?_
          refine hk_cne (ix := x.toInt) (iy := 31) rfl rfl rfl (fun z16 => ?_) (fun z16 => ?_)
          · refine qm_Ru.go 2 (c' := (128, [.ref w, .int x, .ref a, .ref b, .int y, .int 0, .int 1, l7], [.int 32, .int x], (h.1, I, J, h.2.2.2))) rfl ?_
            refine hk_cne (ix := x.toInt) (iy := 32) rfl rfl rfl (fun z17 => ?_) (fun z17 => ?_)
            · refine qm_Ru.go 2 (c' := (147, [.ref w, .int x, .ref a, .ref b, .int y, .int 0, .int 1, l7], [.int 33, .int x], (h.1, I, J, h.2.2.2))) rfl ?_
              refine hk_cne (ix := x.toInt) (iy := 33) rfl rfl rfl (fun z18 => ?_) (fun z18 => ?_)
              · refine qm_Ru.go 11 (c' := (184, [.ref w, .int x, .ref a, .ref b, .int y, .int 0, .int 1, .int 1], [.int 1, .int 0, .ref a], (h.1, I, J, h.2.2.2))) rfl ?_
                refine hk_ias rfl (hD.2.2.2.2.2 _ (by omega) (by omega)) (by decide) (by decide) ?_
                refine qm_Ru.go 0 (c' := (185, [.ref w, .int x, .ref a, .ref b, .int y, .int 0, .int 1, .int 1], [], (h.1, qm_up I a 0 1, J, h.2.2.2))) rfl ?_
                refine qm_Ru.rt (v := none) (h' := (h.1, qm_up I a 0 1, J, h.2.2.2)) rfl ?_
                exact k (qm_up I a 0 1) (J) (fun o ho i => ((hk_on (by omega)).trans (e o ho i)))
              · refine qm_Ru.go 9 (c' := (184, [.ref w, .int x, .ref a, .ref b, .int y, .int 0, .int 1, .int 1], [.int 1, .int 0, .ref a], (h.1, I, J, h.2.2.2))) rfl ?_
                refine hk_ias rfl (hD.2.2.2.2.2 _ (by omega) (by omega)) (by decide) (by decide) ?_
                refine qm_Ru.go 0 (c' := (185, [.ref w, .int x, .ref a, .ref b, .int y, .int 0, .int 1, .int 1], [], (h.1, qm_up I a 0 1, J, h.2.2.2))) rfl ?_
                refine qm_Ru.rt (v := none) (h' := (h.1, qm_up I a 0 1, J, h.2.2.2)) rfl ?_
                exact k (qm_up I a 0 1) (J) (fun o ho i => ((hk_on (by omega)).trans (e o ho i)))
            · refine qm_Ru.go 11 (c' := (184, [.ref w, .int x, .ref a, .ref b, .int y, .int 0, .int 1, .int 1], [.int 1, .int 0, .ref a], (h.1, I, J, h.2.2.2))) rfl ?_
              refine hk_ias rfl (hD.2.2.2.2.2 _ (by omega) (by omega)) (by decide) (by decide) ?_
              refine qm_Ru.go 0 (c' := (185, [.ref w, .int x, .ref a, .ref b, .int y, .int 0, .int 1, .int 1], [], (h.1, qm_up I a 0 1, J, h.2.2.2))) rfl ?_
              refine qm_Ru.rt (v := none) (h' := (h.1, qm_up I a 0 1, J, h.2.2.2)) rfl ?_
              exact k (qm_up I a 0 1) (J) (fun o ho i => ((hk_on (by omega)).trans (e o ho i)))
          · refine qm_Ru.go 8 (c' := (184, [.ref w, .int x, .ref a, .ref b, .int y, .int 0, .int 1, .int 0], [.int 0, .int 0, .ref a], (h.1, I, J, h.2.2.2))) rfl ?_
            refine hk_ias rfl (hD.2.2.2.2.2 _ (by omega) (by omega)) (by decide) (by decide) ?_
            refine qm_Ru.go 0 (c' := (185, [.ref w, .int x, .ref a, .ref b, .int y, .int 0, .int 1, .int 0], [], (h.1, qm_up I a 0 0, J, h.2.2.2))) rfl ?_
            refine qm_Ru.rt (v := none) (h' := (h.1, qm_up I a 0 0, J, h.2.2.2)) rfl ?_
            exact k (qm_up I a 0 0) (J) (fun o ho i => ((hk_on (by omega)).trans (e o ho i)))
        · refine qm_Ru.go 1 (c' := (104, [.ref w, .int x, .ref a, .ref b, .int y, .int z, .int 1, l7], [.int y], (h.1, I, J, h.2.2.2))) rfl ?_
          refine hk_zne (ix := y.toInt) rfl rfl (fun z19 => ?_) (fun z19 => by exfalso; omega)
          refine qm_Ru.go 4 (c' := (117, [.ref w, .int x, .ref a, .ref b, .int y, .int 0, .int 1, l7], [.int 31, .int x], (h.1, I, J, h.2.2.2))) rfl ?_
          refine hk_cne (ix := x.toInt) (iy := 31) rfl rfl rfl (fun z20 => ?_) (fun z20 => ?_)
          · refine qm_Ru.go 2 (c' := (128, [.ref w, .int x, .ref a, .ref b, .int y, .int 0, .int 1, l7], [.int 32, .int x], (h.1, I, J, h.2.2.2))) rfl ?_
            refine hk_cne (ix := x.toInt) (iy := 32) rfl rfl rfl (fun z21 => ?_) (fun z21 => ?_)
            · refine qm_Ru.go 2 (c' := (147, [.ref w, .int x, .ref a, .ref b, .int y, .int 0, .int 1, l7], [.int 33, .int x], (h.1, I, J, h.2.2.2))) rfl ?_
              refine hk_cne (ix := x.toInt) (iy := 33) rfl rfl rfl (fun z22 => ?_) (fun z22 => ?_)
              · refine qm_Ru.go 11 (c' := (184, [.ref w, .int x, .ref a, .ref b, .int y, .int 0, .int 1, .int 1], [.int 1, .int 0, .ref a], (h.1, I, J, h.2.2.2))) rfl ?_
                refine hk_ias rfl (hD.2.2.2.2.2 _ (by omega) (by omega)) (by decide) (by decide) ?_
                refine qm_Ru.go 0 (c' := (185, [.ref w, .int x, .ref a, .ref b, .int y, .int 0, .int 1, .int 1], [], (h.1, qm_up I a 0 1, J, h.2.2.2))) rfl ?_
                refine qm_Ru.rt (v := none) (h' := (h.1, qm_up I a 0 1, J, h.2.2.2)) rfl ?_
                exact k (qm_up I a 0 1) (J) (fun o ho i => ((hk_on (by omega)).trans (e o ho i)))
              · refine qm_Ru.go 9 (c' := (184, [.ref w, .int x, .ref a, .ref b, .int y, .int 0, .int 1, .int 1], [.int 1, .int 0, .ref a], (h.1, I, J, h.2.2.2))) rfl ?_
                refine hk_ias rfl (hD.2.2.2.2.2 _ (by omega) (by omega)) (by decide) (by decide) ?_
                refine qm_Ru.go 0 (c' := (185, [.ref w, .int x, .ref a, .ref b, .int y, .int 0, .int 1, .int 1], [], (h.1, qm_up I a 0 1, J, h.2.2.2))) rfl ?_
                refine qm_Ru.rt (v := none) (h' := (h.1, qm_up I a 0 1, J, h.2.2.2)) rfl ?_
                exact k (qm_up I a 0 1) (J) (fun o ho i => ((hk_on (by omega)).trans (e o ho i)))
            · refine qm_Ru.go 11 (c' := (184, [.ref w, .int x, .ref a, .ref b, .int y, .int 0, .int 1, .int 1], [.int 1, .int 0, .ref a], (h.1, I, J, h.2.2.2))) rfl ?_
              refine hk_ias rfl (hD.2.2.2.2.2 _ (by omega) (by omega)) (by decide) (by decide) ?_
              refine qm_Ru.go 0 (c' := (185, [.ref w, .int x, .ref a, .ref b, .int y, .int 0, .int 1, .int 1], [], (h.1, qm_up I a 0 1, J, h.2.2.2))) rfl ?_
              refine qm_Ru.rt (v := none) (h' := (h.1, qm_up I a 0 1, J, h.2.2.2)) rfl ?_
              exact k (qm_up I a 0 1) (J) (fun o ho i => ((hk_on (by omega)).trans (e o ho i)))
          · refine qm_Ru.go 8 (c' := (184, [.ref w, .int x, .ref a, .ref b, .int y, .int 0, .int 1, .int 0], [.int 0, .int 0, .ref a], (h.1, I, J, h.2.2.2))) rfl ?_
            refine hk_ias rfl (hD.2.2.2.2.2 _ (by omega) (by omega)) (by decide) (by decide) ?_
            refine qm_Ru.go 0 (c' := (185, [.ref w, .int x, .ref a, .ref b, .int y, .int 0, .int 1, .int 0], [], (h.1, qm_up I a 0 0, J, h.2.2.2))) rfl ?_
            refine qm_Ru.rt (v := none) (h' := (h.1, qm_up I a 0 0, J, h.2.2.2)) rfl ?_
            exact k (qm_up I a 0 0) (J) (fun o ho i => ((hk_on (by omega)).trans (e o ho i)))
    · refine qm_Ru.go 2 (c' := (21, [.ref w, .int x, .ref a, .ref b, .int y, .int z, .int i, l7], [.int i, .ref a], (h.1, I, J, h.2.2.2))) rfl ?_
      obtain ⟨v23, q_v23⟩ : ∃ v, (I) a (i.toInt.toNat) = v := ⟨_, rfl⟩
      refine hk_ial (v := v23) rfl (hD.2.2.2.2.2 _ (by omega) (by omega)) (by omega) (by omega) q_v23 ?_
      refine qm_Ru.go 2 (c' := (25, [.ref w, .int x, .ref a, .ref b, .int y, .int z, .int i, l7], [.int i, .ref b, .int v23], (h.1, I, J, h.2.2.2))) rfl ?_
      obtain ⟨v24, q_v24⟩ : ∃ v, (I) b (i.toInt.toNat) = v := ⟨_, rfl⟩
      refine hk_ial (v := v24) rfl (hD.2.2.2.2.2 _ (by omega) (by omega)) (by omega) (by omega) q_v24 ?_
      refine qm_Ru.go 1 (c' := (27, [.ref w, .int x, .ref a, .ref b, .int y, .int z, .int i, l7], [.int (v23 - v24)], (h.1, I, J, h.2.2.2))) rfl ?_
      obtain ⟨v25, q_v25⟩ : ∃ v, (v23 - v24) = v := ⟨_, rfl⟩
      rw [q_v25]
      refine qm_Ru.go 2 (c' := (30, [.ref w, .int x, .ref a, .ref b, .int y, .int z, .int i, l7], [.int (v25 + y)], (h.1, I, J, h.2.2.2))) rfl ?_
      obtain ⟨v26, q_v26⟩ : ∃ v, (v25 + y) = v := ⟨_, rfl⟩
      rw [q_v26]
      refine qm_Ru.go 4 (c' := (37, [.ref w, .int x, .ref a, .ref b, .int y, .int z, .int i, .int v26], [.int (v26 - v26 / 100000000 * 100000000)], (h.1, I, J, h.2.2.2))) rfl ?_
      obtain ⟨v27, q_v27⟩ : ∃ v, (v26 - v26 / 100000000 * 100000000) = v := ⟨_, rfl⟩
      rw [q_v27]
      refine hk_zge (ix := v27.toInt) rfl rfl (fun z28 => ?_) (fun z28 => ?_)
      · refine qm_Ru.go 3 (c' := (55, [.ref w, .int x, .ref a, .ref b, .int y, .int z, .int i, .int v26], [.int (v26 / 100000000)], (h.1, I, J, h.2.2.2))) rfl ?_
        obtain ⟨v29, q_v29⟩ : ∃ v, (v26 / 100000000) = v := ⟨_, rfl⟩
        rw [q_v29]
        refine qm_Ru.go 2 (c' := (59, [.ref w, .int x, .ref a, .ref b, .int v29, .int z, .int i, .int v26], [.int z], (h.1, I, J, h.2.2.2))) rfl ?_
        refine hk_zeq (ix := z.toInt) rfl rfl (fun z30 => ?_) (fun z30 => ?_)
        · refine qm_Ru.go 3 (c' := (82, [.ref w, .int x, .ref a, .ref b, .int v29, .int 0, .int (i + 1), .int v26], [], (h.1, I, J, h.2.2.2))) rfl ?_
          obtain ⟨v31, q_v31, e_v31⟩ := hk_add (x := i) (y := 1) (a := i.toInt) (b := 1) rfl rfl (by omega) (by omega)
          rw [q_v31]
          refine qm_Ru.go 1 (c' := (9, [.ref w, .int x, .ref a, .ref b, .int v29, .int 0, .int v31, .int v26], [], (h.1, I, J, h.2.2.2))) rfl ?_
          exact ih _ (by omega) (I) (J) v29 0 v31 (.int v26) (fun o ho i => (e o ho i)) (by omega) rfl
        · refine qm_Ru.go 4 (c' := (69, [.ref w, .int x, .ref a, .ref b, .int v29, .int z, .int i, .int v26], [.int (v29 * 100000000), .int v26], (h.1, I, J, h.2.2.2))) rfl ?_
          obtain ⟨v32, q_v32⟩ : ∃ v, (v29 * 100000000) = v := ⟨_, rfl⟩
          rw [q_v32]
          refine hk_cne (ix := v26.toInt) (iy := v32.toInt) rfl rfl rfl (fun z33 => ?_) (fun z33 => ?_)
          · refine qm_Ru.go 3 (c' := (82, [.ref w, .int x, .ref a, .ref b, .int v29, .int 0, .int (i + 1), .int v26], [], (h.1, I, J, h.2.2.2))) rfl ?_
            obtain ⟨v34, q_v34, e_v34⟩ := hk_add (x := i) (y := 1) (a := i.toInt) (b := 1) rfl rfl (by omega) (by omega)
            rw [q_v34]
            refine qm_Ru.go 1 (c' := (9, [.ref w, .int x, .ref a, .ref b, .int v29, .int 0, .int v34, .int v26], [], (h.1, I, J, h.2.2.2))) rfl ?_
            exact ih _ (by omega) (I) (J) v29 0 v34 (.int v26) (fun o ho i => (e o ho i)) (by omega) rfl
          · refine qm_Ru.go 4 (c' := (82, [.ref w, .int x, .ref a, .ref b, .int v29, .int 1, .int (i + 1), .int v26], [], (h.1, I, J, h.2.2.2))) rfl ?_
            obtain ⟨v35, q_v35, e_v35⟩ := hk_add (x := i) (y := 1) (a := i.toInt) (b := 1) rfl rfl (by omega) (by omega)
            rw [q_v35]
            refine qm_Ru.go 1 (c' := (9, [.ref w, .int x, .ref a, .ref b, .int v29, .int 1, .int v35, .int v26], [], (h.1, I, J, h.2.2.2))) rfl ?_
            exact ih _ (by omega) (I) (J) v29 1 v35 (.int v26) (fun o ho i => (e o ho i)) (by omega) rfl
      · refine qm_Ru.go 3 (c' := (45, [.ref w, .int x, .ref a, .ref b, .int y, .int z, .int i, .int v26], [.int (v26 / 100000000)], (h.1, I, J, h.2.2.2))) rfl ?_
        obtain ⟨v36, q_v36⟩ : ∃ v, (v26 / 100000000) = v := ⟨_, rfl⟩
        rw [q_v36]
        refine qm_Ru.go 2 (c' := (47, [.ref w, .int x, .ref a, .ref b, .int y, .int z, .int i, .int v26], [.int (v36 - 1)], (h.1, I, J, h.2.2.2))) rfl ?_
        obtain ⟨v37, q_v37⟩ : ∃ v, (v36 - 1) = v := ⟨_, rfl⟩
        rw [q_v37]
        refine qm_Ru.go 3 (c' := (59, [.ref w, .int x, .ref a, .ref b, .int v37, .int z, .int i, .int v26], [.int z], (h.1, I, J, h.2.2.2))) rfl ?_
        refine hk_zeq (ix := z.toInt) rfl rfl (fun z38 => ?_) (fun z38 => ?_)
        · refine qm_Ru.go 3 (c' := (82, [.ref w, .int x, .ref a, .ref b, .int v37, .int 0, .int (i + 1), .int v26], [], (h.1, I, J, h.2.2.2))) rfl ?_
          obtain ⟨v39, q_v39, e_v39⟩ := hk_add (x := i) (y := 1) (a := i.toInt) (b := 1) rfl rfl (by omega) (by omega)
          rw [q_v39]
          refine qm_Ru.go 1 (c' := (9, [.ref w, .int x, .ref a, .ref b, .int v37, .int 0, .int v39, .int v26], [], (h.1, I, J, h.2.2.2))) rfl ?_
          exact ih _ (by omega) (I) (J) v37 0 v39 (.int v26) (fun o ho i => (e o ho i)) (by omega) rfl
        · refine qm_Ru.go 4 (c' := (69, [.ref w, .int x, .ref a, .ref b, .int v37, .int z, .int i, .int v26], [.int (v37 * 100000000), .int v26], (h.1, I, J, h.2.2.2))) rfl ?_
          obtain ⟨v40, q_v40⟩ : ∃ v, (v37 * 100000000) = v := ⟨_, rfl⟩
          rw [q_v40]
          refine hk_cne (ix := v26.toInt) (iy := v40.toInt) rfl rfl rfl (fun z41 => ?_) (fun z41 => ?_)
          · refine qm_Ru.go 3 (c' := (82, [.ref w, .int x, .ref a, .ref b, .int v37, .int 0, .int (i + 1), .int v26], [], (h.1, I, J, h.2.2.2))) rfl ?_
            obtain ⟨v42, q_v42, e_v42⟩ := hk_add (x := i) (y := 1) (a := i.toInt) (b := 1) rfl rfl (by omega) (by omega)
            rw [q_v42]
            refine qm_Ru.go 1 (c' := (9, [.ref w, .int x, .ref a, .ref b, .int v37, .int 0, .int v42, .int v26], [], (h.1, I, J, h.2.2.2))) rfl ?_
            exact ih _ (by omega) (I) (J) v37 0 v42 (.int v26) (fun o ho i => (e o ho i)) (by omega) rfl
          · refine qm_Ru.go 4 (c' := (82, [.ref w, .int x, .ref a, .ref b, .int v37, .int 1, .int (i + 1), .int v26], [], (h.1, I, J, h.2.2.2))) rfl ?_
            obtain ⟨v43, q_v43, e_v43⟩ := hk_add (x := i) (y := 1) (a := i.toInt) (b := 1) rfl rfl (by omega) (by omega)
            rw [q_v43]
            refine qm_Ru.go 1 (c' := (9, [.ref w, .int x, .ref a, .ref b, .int v37, .int 1, .int v43, .int v26], [], (h.1, I, J, h.2.2.2))) rfl ?_
            exact ih _ (by omega) (I) (J) v37 1 v43 (.int v26) (fun o ho i => (e o ho i)) (by omega) rfl
theorem hs_wcmp {L : Nat} {xs : Nat → Int32} {d : Nat} {Z : Option Value → qm_H → Prop} {h : qm_H} {w : Nat} (hw : 192 ≤ w) (hD : wd h w) (hl : (h.2.1 w 2).toInt ≤ 101) {a b : Nat} (ha : w + 2 ≤ a ∧ a < w + 21) (hb : w + 2 ≤ b ∧ b < w + 21) {x : Int32} (k : ∀ (I : Nat → Nat → Int32) (J : Nat → Nat → Int64), (∀ o, o < w + 2 ∨ w + 21 ≤ o → ∀ i, I o i = h.2.1 o i) → Z none (h.1, I, J, h.2.2.2)) : qm_Ru (some (L, xs)) (d + 0) cd_130 (qm_ent 8 [.ref w, .int x, .ref a, .ref b] h) Z := by
  refine qm_Ru.go 6 (c' := (9, [.ref w, .int x, .ref a, .ref b, .int 0, .int 1, .int 0, .float 0], [], h)) rfl ?_
  exact hl_wcmp hw hD hl ha hb k _ h.2.1 h.2.2.1 0 1 0 _ (fun _ _ _ => rfl) (by decide) rfl
theorem hs_wjoin {L : Nat} {xs : Nat → Int32} {d : Nat} {Z : Option Value → qm_H → Prop} {h : qm_H} {w : Nat} (hw : 192 ≤ w) (hD : wd h w) (hl : (h.2.1 w 2).toInt ≤ 101) {a b : Nat} (ha : w + 2 ≤ a ∧ a < w + 21) (hb : w + 2 ≤ b ∧ b < w + 21) {x : Int32} (k : ∀ (I : Nat → Nat → Int32) (J : Nat → Nat → Int64), (∀ o, o < w + 2 ∨ w + 21 ≤ o → ∀ i, I o i = h.2.1 o i) → Z none (h.1, I, J, h.2.2.2)) : qm_Ru (some (L, xs)) (d + 1) cd_126 (qm_ent 4 [.ref w, .int x, .ref a, .ref b] h) Z := by
  show qm_Ru (some (L, xs)) (d + 1) cd_126 (0, [.ref w, .int x, .ref a, .ref b], [], h) Z
  refine qm_Ru.go 1 (c' := (1, [.ref w, .int x, .ref a, .ref b], [.int x], h)) rfl ?_
  refine hk_lsw rfl (fun off ho => ?_)
  have g1 : off = 102 ∨ off = 90 ∨ off = 78 ∨ off = 51 ∨ off = 60 ∨ off = 69 := by
    simpa using ho
  rcases g1 with rfl | rfl | rfl | rfl | rfl | rfl
  · refine qm_Ru.go 4 (c' := (107, [.ref w, .int x, .ref a, .ref b], [.ref b, .ref a, .int x, .ref w], h)) rfl ?_
    refine hk_inv (o := w) (r := []) (as := [.ref w, .int x, .ref a, .ref b]) rfl rfl hD.1 rfl rfl rfl rfl (hs_wcmp hw (wd_same hD rfl rfl) (by show (h.2.1 w 2).toInt ≤ 101; exact hl) (by omega) (by omega) (fun I2 J3 fe4 => ?_))
    have e4 : ∀ o, o < w + 2 ∨ w + 21 ≤ o → ∀ i, I2 o i = h.2.1 o i := fun o ho i => (fe4 o ho i).trans ((fun o ho i => rfl) o ho i)
    refine qm_Ru.go 0 (c' := (110, [.ref w, .int x, .ref a, .ref b], [], (h.1, I2, J3, h.2.2.2))) rfl ?_
    refine qm_Ru.rt (v := none) (h' := (h.1, I2, J3, h.2.2.2)) rfl ?_
    exact k (I2) (J3) (fun o ho i => (e4 o ho i))
  · refine qm_Ru.go 3 (c' := (94, [.ref w, .int x, .ref a, .ref b], [.int 0, .ref a, .int 0, .ref a], h)) rfl ?_
    obtain ⟨v5, q_v5⟩ : ∃ v, h.2.1 a 0 = v := ⟨_, rfl⟩
    refine hk_ial (v := v5) rfl (hD.2.2.2.2.2 _ (by omega) (by omega)) (by decide) (by decide) q_v5 ?_
    refine qm_Ru.go 2 (c' := (97, [.ref w, .int x, .ref a, .ref b], [.int 0, .ref b, .int v5, .int 0, .ref a], h)) rfl ?_
    obtain ⟨v6, q_v6⟩ : ∃ v, h.2.1 b 0 = v := ⟨_, rfl⟩
    refine hk_ial (v := v6) rfl (hD.2.2.2.2.2 _ (by omega) (by omega)) (by decide) (by decide) q_v6 ?_
    refine qm_Ru.go 1 (c' := (99, [.ref w, .int x, .ref a, .ref b], [.int (v5 ||| v6), .int 0, .ref a], h)) rfl ?_
    obtain ⟨v7, q_v7⟩ : ∃ v, (v5 ||| v6) = v := ⟨_, rfl⟩
    rw [q_v7]
    refine hk_ias rfl (hD.2.2.2.2.2 _ (by omega) (by omega)) (by decide) (by decide) ?_
    refine qm_Ru.go 1 (c' := (110, [.ref w, .int x, .ref a, .ref b], [], (h.1, qm_up h.2.1 a 0 v7, h.2.2.1, h.2.2.2))) rfl ?_
    refine qm_Ru.rt (v := none) (h' := (h.1, qm_up h.2.1 a 0 v7, h.2.2.1, h.2.2.2)) rfl ?_
    exact k (qm_up h.2.1 a 0 v7) (h.2.2.1) (fun o ho i => ((hk_on (by omega)).trans rfl))
  · refine qm_Ru.go 3 (c' := (82, [.ref w, .int x, .ref a, .ref b], [.int 0, .ref a, .int 0, .ref a], h)) rfl ?_
    obtain ⟨v8, q_v8⟩ : ∃ v, h.2.1 a 0 = v := ⟨_, rfl⟩
    refine hk_ial (v := v8) rfl (hD.2.2.2.2.2 _ (by omega) (by omega)) (by decide) (by decide) q_v8 ?_
    refine qm_Ru.go 2 (c' := (85, [.ref w, .int x, .ref a, .ref b], [.int 0, .ref b, .int v8, .int 0, .ref a], h)) rfl ?_
    obtain ⟨v9, q_v9⟩ : ∃ v, h.2.1 b 0 = v := ⟨_, rfl⟩
    refine hk_ial (v := v9) rfl (hD.2.2.2.2.2 _ (by omega) (by omega)) (by decide) (by decide) q_v9 ?_
    refine qm_Ru.go 1 (c' := (87, [.ref w, .int x, .ref a, .ref b], [.int (v8 &&& v9), .int 0, .ref a], h)) rfl ?_
    obtain ⟨v10, q_v10⟩ : ∃ v, (v8 &&& v9) = v := ⟨_, rfl⟩
    rw [q_v10]
    refine hk_ias rfl (hD.2.2.2.2.2 _ (by omega) (by omega)) (by decide) (by decide) ?_
    refine qm_Ru.go 1 (c' := (110, [.ref w, .int x, .ref a, .ref b], [], (h.1, qm_up h.2.1 a 0 v10, h.2.2.1, h.2.2.2))) rfl ?_
    refine qm_Ru.rt (v := none) (h' := (h.1, qm_up h.2.1 a 0 v10, h.2.2.1, h.2.2.2)) rfl ?_
    exact k (qm_up h.2.1 a 0 v10) (h.2.2.1) (fun o ho i => ((hk_on (by omega)).trans rfl))
  · refine qm_Ru.go 3 (c' := (55, [.ref w, .int x, .ref a, .ref b], [.ref b, .ref a, .ref w], h)) rfl ?_
    refine hk_inv (o := w) (r := []) (as := [.ref w, .ref a, .ref b]) rfl rfl hD.1 rfl rfl rfl rfl (hs_wadd hw (wd_same hD rfl rfl) (by show (h.2.1 w 2).toInt ≤ 101; exact hl) (by omega) (by omega) (fun I11 J12 fe13 => ?_))
    have e13 : ∀ o, o < w + 2 ∨ w + 21 ≤ o → ∀ i, I11 o i = h.2.1 o i := fun o ho i => (fe13 o ho i).trans ((fun o ho i => rfl) o ho i)
    refine qm_Ru.go 1 (c' := (110, [.ref w, .int x, .ref a, .ref b], [], (h.1, I11, J12, h.2.2.2))) rfl ?_
    refine qm_Ru.rt (v := none) (h' := (h.1, I11, J12, h.2.2.2)) rfl ?_
    exact k (I11) (J12) (fun o ho i => (e13 o ho i))
  · refine qm_Ru.go 3 (c' := (64, [.ref w, .int x, .ref a, .ref b], [.ref b, .ref a, .ref w], h)) rfl ?_
    refine hk_inv (o := w) (r := []) (as := [.ref w, .ref a, .ref b]) rfl rfl hD.1 rfl rfl rfl rfl (hs_wsub hw (wd_same hD rfl rfl) (by show (h.2.1 w 2).toInt ≤ 101; exact hl) (by omega) (by omega) (fun I14 J15 fe16 => ?_))
    have e16 : ∀ o, o < w + 2 ∨ w + 21 ≤ o → ∀ i, I14 o i = h.2.1 o i := fun o ho i => (fe16 o ho i).trans ((fun o ho i => rfl) o ho i)
    refine qm_Ru.go 1 (c' := (110, [.ref w, .int x, .ref a, .ref b], [], (h.1, I14, J15, h.2.2.2))) rfl ?_
    refine qm_Ru.rt (v := none) (h' := (h.1, I14, J15, h.2.2.2)) rfl ?_
    exact k (I14) (J15) (fun o ho i => (e16 o ho i))
  · refine qm_Ru.go 3 (c' := (73, [.ref w, .int x, .ref a, .ref b], [.ref b, .ref a, .ref w], h)) rfl ?_
    refine hk_inv (o := w) (r := []) (as := [.ref w, .ref a, .ref b]) rfl rfl hD.1 rfl rfl rfl rfl (hs_mul hw (wd_same hD rfl rfl) (by show (h.2.1 w 2).toInt ≤ 101; exact hl) (by omega) (by omega) (fun I17 J18 fe19 => ?_))
    have e19 : ∀ o, o < w + 2 ∨ w + 21 ≤ o → ∀ i, I17 o i = h.2.1 o i := fun o ho i => (fe19 o ho i).trans ((fun o ho i => rfl) o ho i)
    refine qm_Ru.go 1 (c' := (110, [.ref w, .int x, .ref a, .ref b], [], (h.1, I17, J18, h.2.2.2))) rfl ?_
    refine qm_Ru.rt (v := none) (h' := (h.1, I17, J18, h.2.2.2)) rfl ?_
    exact k (I17) (J18) (fun o ho i => (e19 o ho i))
