/-! read of the class, by hand -/
theorem hk_ru_up {I : Nat → Nat → Int32} {o k : Nat} {x : Int32} (h : hk_ru I) (ho : [11, 12, 13, 14, 150, 151].contains o = false) : hk_ru (qm_up I o k x) := hk_ru_cg h (fun o' ho' i => hk_on (fun e => by
  subst e
  rw [ho'] at ho
  cases ho))
/-- behind parse: what stays -/
noncomputable def pS (t : Nat) (pm : List Nat) (h h' : qm_H) : Prop := (∀ o, o < 192 → h'.1[o]? = h.1[o]?) ∧ (∀ o i, o < 192 → ¬ (o = t ∧ i = 15) → ¬ (o = 3 ∧ i = 3) → h'.2.2.2 o i = h.2.2.2 o i) ∧ (∀ o, o < 192 → pm.contains o = false → ∀ i, h'.2.1 o i = h.2.1 o i) ∧ hk_B h'.2.1 ∧ wI h' ∧ h'.2.1 1 1 = 0
/-- behind read -/
noncomputable def rD (h h' : qm_H) : Prop := (∀ o, o < 192 → h'.1[o]? = h.1[o]?) ∧ (∀ o i, o < 192 → qa_Rt0 o i ≠ none → h'.2.2.2 o i = h.2.2.2 o i) ∧ (∀ o, o < 192 → [1, 3, 4, 5, 29, 30, 31, 32, 33, 34, 35, 51, 93, 94, 95, 96, 97, 111, 112, 113, 114, 115, 116, 117].contains o = false → ∀ i, h'.2.1 o i = h.2.1 o i) ∧ hk_B h'.2.1 ∧ wI h' ∧ h'.2.1 1 1 = 0
theorem rD_trans {h h1 h2 : qm_H} (a : rD h h1) (b : rD h1 h2) : rD h h2 := ⟨fun o ho => (b.1 o ho).trans (a.1 o ho), fun o i ho hi => (b.2.1 o i ho hi).trans (a.2.1 o i ho hi), fun o ho hn i => (b.2.2.1 o ho hn i).trans (a.2.2.1 o ho hn i), b.2.2.2.1, b.2.2.2.2⟩
theorem rt_same {h h' : qm_H} (hH : hk_H h) (hH' : hk_H h') {o i : Nat} (hn : qa_Rt0 o i ≠ none) : h'.2.2.2 o i = h.2.2.2 o i := by
  cases e : qa_Rt0 o i with
  | none => exact absurd e hn
  | some w => rw [hH'.2 o i w e, hH.2 o i w e]
theorem rD_H {h h' : qm_H} (hH : hk_H h) (m : rD h h') : hk_H h' := hk_H_of hH m.1 m.2.1
theorem hp_parse29 {L : Nat} {xs : Nat → Int32} {d : Nat} {Z : Option Value → qm_H → Prop} {h : qm_H} (h6 : 6 ≤ L) (hH : hk_H h) (hB : hk_B h.2.1) (hr : hk_ru h.2.1) (hw : wI h) (hR3 : h.2.2.2 3 3 = some 29) (k : ∀ (v : Int32) (h' : qm_H), pS 29 [1, 3, 4, 5, 29, 30, 31, 32, 33, 34, 35] h h' → Z (some (.int v)) h') : qm_Ru (some (L, xs)) (d + 30) cd_19 (9, [.ref 3, .ref 29, .float 0], [], h) Z := by
  refine qm_Ru.go 2 (c' := (11, [.ref 3, .ref 29, .float 0], [.int 0, .ref 3], h)) rfl ?_
  refine hk_puti rfl (hH.1 3 (8, 14) rfl) rfl ?_
  refine qm_Ru.go 2 (c' := (16, [.ref 3, .ref 29, .float 0], [.int 0, .ref 3], (h.1, qm_up h.2.1 3 5 0, h.2.2.1, h.2.2.2))) rfl ?_
  refine hk_puti rfl (hH.1 3 (8, 14) rfl) rfl ?_
  refine qm_Ru.go 2 (c' := (21, [.ref 3, .ref 29, .float 0], [.int 0, .ref 3], (h.1, qm_up (qm_up h.2.1 3 5 0) 3 8 0, h.2.2.1, h.2.2.2))) rfl ?_
  refine hk_puti rfl (hH.1 3 (8, 14) rfl) rfl ?_
  refine qm_Ru.go 2 (c' := (26, [.ref 3, .ref 29, .float 0], [.int 0, .ref 3], (h.1, qm_up (qm_up (qm_up h.2.1 3 5 0) 3 8 0) 3 10 0, h.2.2.1, h.2.2.2))) rfl ?_
  refine hk_puti rfl (hH.1 3 (8, 14) rfl) rfl ?_
  refine qm_Ru.go 2 (c' := (31, [.ref 3, .ref 29, .float 0], [.int 0, .ref 3], (h.1, qm_up (qm_up (qm_up (qm_up h.2.1 3 5 0) 3 8 0) 3 10 0) 3 11 0, h.2.2.1, h.2.2.2))) rfl ?_
  refine hk_puti rfl (hH.1 3 (8, 14) rfl) rfl ?_
  refine qm_Ru.go 2 (c' := (36, [.ref 3, .ref 29, .float 0], [.int (-1), .ref 3], (h.1, qm_up (qm_up (qm_up (qm_up (qm_up h.2.1 3 5 0) 3 8 0) 3 10 0) 3 11 0) 3 12 0, h.2.2.1, h.2.2.2))) rfl ?_
  refine hk_puti rfl (hH.1 3 (8, 14) rfl) rfl ?_
  refine qm_Ru.go 1 (c' := (40, [.ref 3, .ref 29, .float 0], [.ref 3], (h.1, qm_up (qm_up (qm_up (qm_up (qm_up (qm_up h.2.1 3 5 0) 3 8 0) 3 10 0) 3 11 0) 3 12 0) 3 13 (-1), h.2.2.1, h.2.2.2))) rfl ?_
  refine hk_getr rfl (hH.1 3 (8, 14) rfl) rfl (hH.2 3 0 (some 1) rfl) ?_
  refine qm_Ru.go 1 (c' := (44, [.ref 3, .ref 29, .float 0], [.int 0, .ref 1], (h.1, qm_up (qm_up (qm_up (qm_up (qm_up (qm_up h.2.1 3 5 0) 3 8 0) 3 10 0) 3 11 0) 3 12 0) 3 13 (-1), h.2.2.1, h.2.2.2))) rfl ?_
  refine hk_puti rfl (hH.1 1 (12, 7) rfl) rfl ?_
  refine qm_Ru.go 1 (c' := (48, [.ref 3, .ref 29, .float 0], [.ref 3], (h.1, qm_up (qm_up (qm_up (qm_up (qm_up (qm_up (qm_up h.2.1 3 5 0) 3 8 0) 3 10 0) 3 11 0) 3 12 0) 3 13 (-1)) 1 2 0, h.2.2.1, h.2.2.2))) rfl ?_
  refine hk_inv (o := 3) (r := []) (as := [.ref 3]) rfl rfl (hH.1 3 (8, 14) rfl) rfl rfl rfl rfl (hs_rtok29 (h := (h.1, qm_up (qm_up (qm_up (qm_up (qm_up (qm_up (qm_up h.2.1 3 5 0) 3 8 0) 3 10 0) 3 11 0) 3 12 0) 3 13 (-1)) 1 2 0, h.2.2.1, h.2.2.2)) h6 hH hR3 (hb_up (o := 1) (k := 2) (x := 0) (hb_up (o := 3) (k := 13) (x := (-1)) (hb_up (o := 3) (k := 12) (x := 0) (hb_up (o := 3) (k := 11) (x := 0) (hb_up (o := 3) (k := 10) (x := 0) (hb_up (o := 3) (k := 8) (x := 0) (hb_up (o := 3) (k := 5) (x := 0) hB ⟨(show (0 : Int) ≤ 0 from by decide), (show (0 : Int) ≤ 9 from by decide)⟩) (qa_in_full _)) ⟨(show (0 : Int) ≤ 0 from by decide), (show (0 : Int) ≤ 400 from by decide)⟩) ⟨(show (0 : Int) ≤ 0 from by decide), (show (0 : Int) ≤ 16 from by decide)⟩) (qa_in_full _)) (qa_in_full _)) ⟨(show (0 : Int) ≤ 0 from by decide), (show (0 : Int) ≤ 2000 from by decide)⟩) (hk_ru_up (hk_ru_up (hk_ru_up (hk_ru_up (hk_ru_up (hk_ru_up (hk_ru_up hr rfl) rfl) rfl) rfl) rfl) rfl) rfl) (show (qm_up (qm_up (qm_up (qm_up (qm_up (qm_up (qm_up h.2.1 3 5 0) 3 8 0) 3 10 0) 3 11 0) 3 12 0) 3 13 (-1)) 1 2 0) 3 5 = 0 from ((hk_ot rfl).trans ((hk_neq (by decide)).trans ((hk_neq (by decide)).trans ((hk_neq (by decide)).trans ((hk_neq (by decide)).trans ((hk_neq (by decide)).trans (hk_same)))))))) (by omega) (fun v3 I1 J2 b_v3 hB_I1 e_I1 => ?_))
  have b_v3 : (0 : Int) ≤ v3.toInt ∧ v3.toInt ≤ 2 := b_v3
  refine qm_Ru.go 3 (c' := (54, [.ref 3, .ref 29, .int v3], [.int v3, .ref 3], (h.1, I1, J2, h.2.2.2))) rfl ?_
  refine hk_zne (ix := v3.toInt) rfl rfl (fun z4 => ?_) (fun z4 => ?_)
  · refine qm_Ru.go 1 (c' := (65, [.ref 3, .ref 29, .int v3], [.ref 3, .ref 3], (h.1, I1, J2, h.2.2.2))) rfl ?_
    refine hk_getr rfl (hH.1 3 (8, 14) rfl) rfl (hH.2 3 0 (some 1) rfl) ?_
    refine qm_Ru.go 0 (c' := (68, [.ref 3, .ref 29, .int v3], [.ref 1, .ref 3], (h.1, I1, J2, h.2.2.2))) rfl ?_
    obtain ⟨v5, q_v5⟩ : ∃ v, I1 1 4 = v := ⟨_, rfl⟩
    have b_v5 : (0 : Int) ≤ v5.toInt ∧ v5.toInt ≤ 2000 := by rw [← q_v5]; exact hB_I1 1 4
    refine hk_geti (v := v5) rfl (hH.1 1 (12, 7) rfl) rfl q_v5 ?_
    refine qm_Ru.go 0 (c' := (71, [.ref 3, .ref 29, .int v3], [.int v5, .ref 3], (h.1, I1, J2, h.2.2.2))) rfl ?_
    refine hk_puti rfl (hH.1 3 (8, 14) rfl) rfl ?_
    refine qm_Ru.go 1 (c' := (75, [.ref 3, .ref 29, .int v3], [.ref 3], (h.1, qm_up I1 3 4 v5, J2, h.2.2.2))) rfl ?_
    refine hk_getr rfl (hH.1 3 (8, 14) rfl) rfl (hH.2 3 0 (some 1) rfl) ?_
    refine qm_Ru.go 1 (c' := (79, [.ref 3, .ref 29, .int v3], [.int 0, .ref 1], (h.1, qm_up I1 3 4 v5, J2, h.2.2.2))) rfl ?_
    refine hk_puti rfl (hH.1 1 (12, 7) rfl) rfl ?_
    refine qm_Ru.go 1 (c' := (83, [.ref 3, .ref 29, .int v3], [.int v3], (h.1, qm_up (qm_up I1 3 4 v5) 1 1 0, J2, h.2.2.2))) rfl ?_
    refine hk_zne (ix := v3.toInt) rfl rfl (fun z6 => ?_) (fun z6 => by exfalso; omega)
    refine qm_Ru.go 1 (c' := (91, [.ref 3, .ref 29, .int v3], [.int v3], (h.1, qm_up (qm_up I1 3 4 v5) 1 1 0, J2, h.2.2.2))) rfl ?_
    refine hk_zne (ix := v3.toInt) rfl rfl (fun z7 => ?_) (fun z7 => by exfalso; omega)
    refine qm_Ru.go 1 (c' := (102, [.ref 3, .ref 29, .int v3], [.int v3], (h.1, qm_up (qm_up I1 3 4 v5) 1 1 0, J2, h.2.2.2))) rfl ?_
    refine qm_Ru.rt (v := (some (.int v3))) (h' := (h.1, qm_up (qm_up I1 3 4 v5) 1 1 0, J2, h.2.2.2)) rfl ?_
    exact k v3 _ ⟨fun _ _ => rfl, fun _ _ _ _ _ => rfl, (fun o ho hn i => (fun o ho i => ((hk_mod ho rfl).trans ((hk_mod ho rfl).trans ((e_I1 o (hk_ms rfl ho) i).trans ((hk_mod ho rfl).trans ((hk_mod ho rfl).trans ((hk_mod ho rfl).trans ((hk_mod ho rfl).trans ((hk_mod ho rfl).trans ((hk_mod ho rfl).trans ((hk_mod ho rfl).trans rfl))))))))))) o hn i), (hb_up (o := 1) (k := 1) (x := 0) (hb_up (o := 3) (k := 4) (x := v5) hB_I1 (qa_in_full _)) ⟨(show (0 : Int) ≤ 0 from by decide), (show (0 : Int) ≤ 2000 from by decide)⟩), wI_same hw rfl rfl, (show (qm_up (qm_up I1 3 4 v5) 1 1 0) 1 1 = 0 from (hk_same))⟩
  · refine qm_Ru.go 1 (c' := (58, [.ref 3, .ref 29, .int v3], [.ref 3, .ref 3], (h.1, I1, J2, h.2.2.2))) rfl ?_
    obtain ⟨v8, q_v8⟩ : ∃ v, I1 3 13 = v := ⟨_, rfl⟩
    refine hk_geti (v := v8) rfl (hH.1 3 (8, 14) rfl) rfl q_v8 ?_
    refine qm_Ru.go 1 (c' := (71, [.ref 3, .ref 29, .int v3], [.int v8, .ref 3], (h.1, I1, J2, h.2.2.2))) rfl ?_
    refine hk_puti rfl (hH.1 3 (8, 14) rfl) rfl ?_
    refine qm_Ru.go 1 (c' := (75, [.ref 3, .ref 29, .int v3], [.ref 3], (h.1, qm_up I1 3 4 v8, J2, h.2.2.2))) rfl ?_
    refine hk_getr rfl (hH.1 3 (8, 14) rfl) rfl (hH.2 3 0 (some 1) rfl) ?_
    refine qm_Ru.go 1 (c' := (79, [.ref 3, .ref 29, .int v3], [.int 0, .ref 1], (h.1, qm_up I1 3 4 v8, J2, h.2.2.2))) rfl ?_
    refine hk_puti rfl (hH.1 1 (12, 7) rfl) rfl ?_
    refine qm_Ru.go 1 (c' := (83, [.ref 3, .ref 29, .int v3], [.int v3], (h.1, qm_up (qm_up I1 3 4 v8) 1 1 0, J2, h.2.2.2))) rfl ?_
    refine hk_zne (ix := v3.toInt) rfl rfl (fun z9 => by exfalso; omega) (fun z9 => ?_)
    refine qm_Ru.go 1 (c' := (87, [.ref 3, .ref 29, .int v3], [.ref 29], (h.1, qm_up (qm_up I1 3 4 v8) 1 1 0, J2, h.2.2.2))) rfl ?_
    refine hk_inv (o := 29) (r := []) (as := [.ref 29]) rfl rfl (hH.1 29 (11, 16) rfl) rfl rfl rfl rfl (hs_mr29 (h := (h.1, qm_up (qm_up I1 3 4 v8) 1 1 0, J2, h.2.2.2)) (d := d + 25) hH (hb_up (o := 1) (k := 1) (x := 0) (hb_up (o := 3) (k := 4) (x := v8) hB_I1 (qa_in_full _)) ⟨(show (0 : Int) ≤ 0 from by decide), (show (0 : Int) ≤ 2000 from by decide)⟩) (wI_same hw rfl rfl) (fun h1 m1 => ?_))
    have H1 : hk_H h1 := mS_H (by decide) (h := (h.1, qm_up (qm_up I1 3 4 v8) 1 1 0, J2, h.2.2.2)) hH m1
    refine qm_Ru.go 1 (c' := (91, [.ref 3, .ref 29, .int v3], [.int v3], h1)) rfl ?_
    refine hk_zne (ix := v3.toInt) rfl rfl (fun z => by exfalso; omega) (fun z => ?_)
    refine qm_Ru.go 1 (c' := (95, [.ref 3, .ref 29, .int v3], [.ref 3], h1)) rfl ?_
    refine hk_geti (v := h1.2.1 3 12) rfl (H1.1 3 (8, 14) rfl) rfl rfl ?_
    refine qm_Ru.go 1 (c' := (102, [.ref 3, .ref 29, .int v3], [.int (h1.2.1 3 12)], h1)) rfl ?_
    refine qm_Ru.rt (v := some (.int (h1.2.1 3 12))) (h' := h1) rfl ?_
    exact k _ _ ⟨m1.1, fun o i ho hn _ => m1.2.1 o i ho hn, fun o ho hn i => (m1.2.2.1 o ho (fun e => by subst e; cases hn) i).trans ((fun o ho hn i => (fun o ho i => ((hk_mod ho rfl).trans ((hk_mod ho rfl).trans ((e_I1 o (hk_ms rfl ho) i).trans ((hk_mod ho rfl).trans ((hk_mod ho rfl).trans ((hk_mod ho rfl).trans ((hk_mod ho rfl).trans ((hk_mod ho rfl).trans ((hk_mod ho rfl).trans ((hk_mod ho rfl).trans rfl))))))))))) o hn i) o ho hn i), m1.2.2.2.1, m1.2.2.2.2, (m1.2.2.1 1 (by decide) (by decide) 1).trans (show (qm_up (qm_up I1 3 4 v8) 1 1 0) 1 1 = 0 from (hk_same))⟩
theorem hs_parse29 {L : Nat} {xs : Nat → Int32} {d : Nat} {Z : Option Value → qm_H → Prop} {h : qm_H} (h6 : 6 ≤ L) (hH : hk_H h) (hB : hk_B h.2.1) (hr : hk_ru h.2.1) (hw : wI h) (k : ∀ (v : Int32) (h' : qm_H), pS 29 [1, 3, 4, 5, 29, 30, 31, 32, 33, 34, 35] h h' → Z (some (.int v)) h') : qm_Ru (some (L, xs)) (d + 30) cd_19 (qm_ent 3 [.ref 3, .ref 29] h) Z := by
  show qm_Ru (some (L, xs)) (d + 30) cd_19 (0, [.ref 3, .ref 29, .float 0], [], h) Z
  refine qm_Ru.go 1 (c' := (1, [.ref 3, .ref 29, .float 0], [.ref 29], h)) rfl ?_
  refine hk_inv (o := 29) (r := []) (as := [.ref 29]) rfl rfl (hH.1 29 (11, 16) rfl) rfl rfl rfl rfl ?_
  refine qm_Ru.go 2 (c' := (2, [.ref 29], [.int 3, .ref 29], h)) rfl ?_
  refine hk_puti rfl (hH.1 29 (11, 16) rfl) rfl ?_
  refine qm_Ru.go 2 (c' := (9, [.ref 29], [.int 9999, .ref 29], (h.1, qm_up h.2.1 29 0 3, h.2.2.1, h.2.2.2))) rfl ?_
  refine hk_puti rfl (hH.1 29 (11, 16) rfl) rfl ?_
  refine qm_Ru.go 2 (c' := (16, [.ref 29], [.int 9999, .ref 29], (h.1, qm_up (qm_up h.2.1 29 0 3) 29 1 9999, h.2.2.1, h.2.2.2))) rfl ?_
  refine hk_puti rfl (hH.1 29 (11, 16) rfl) rfl ?_
  refine qm_Ru.go 2 (c' := (23, [.ref 29], [.int 9999, .ref 29], (h.1, qm_up (qm_up (qm_up h.2.1 29 0 3) 29 1 9999) 29 2 9999, h.2.2.1, h.2.2.2))) rfl ?_
  refine hk_puti rfl (hH.1 29 (11, 16) rfl) rfl ?_
  refine qm_Ru.go 2 (c' := (29, [.ref 29], [.int 99, .ref 29], (h.1, qm_up (qm_up (qm_up (qm_up h.2.1 29 0 3) 29 1 9999) 29 2 9999) 29 3 9999, h.2.2.1, h.2.2.2))) rfl ?_
  refine hk_puti rfl (hH.1 29 (11, 16) rfl) rfl ?_
  refine qm_Ru.go 2 (c' := (34, [.ref 29], [.int 0, .ref 29], (h.1, qm_up (qm_up (qm_up (qm_up (qm_up h.2.1 29 0 3) 29 1 9999) 29 2 9999) 29 3 9999) 29 4 99, h.2.2.1, h.2.2.2))) rfl ?_
  refine hk_puti rfl (hH.1 29 (11, 16) rfl) rfl ?_
  refine qm_Ru.go 2 (c' := (39, [.ref 29], [.int 0, .ref 29], (h.1, qm_up (qm_up (qm_up (qm_up (qm_up (qm_up h.2.1 29 0 3) 29 1 9999) 29 2 9999) 29 3 9999) 29 4 99) 29 5 0, h.2.2.1, h.2.2.2))) rfl ?_
  refine hk_puti rfl (hH.1 29 (11, 16) rfl) rfl ?_
  refine qm_Ru.go 2 (c' := (44, [.ref 29], [.int 0, .ref 29], (h.1, qm_up (qm_up (qm_up (qm_up (qm_up (qm_up (qm_up h.2.1 29 0 3) 29 1 9999) 29 2 9999) 29 3 9999) 29 4 99) 29 5 0) 29 6 0, h.2.2.1, h.2.2.2))) rfl ?_
  refine hk_puti rfl (hH.1 29 (11, 16) rfl) rfl ?_
  refine qm_Ru.go 2 (c' := (49, [.ref 29], [.int 0, .ref 29], (h.1, qm_up (qm_up (qm_up (qm_up (qm_up (qm_up (qm_up (qm_up h.2.1 29 0 3) 29 1 9999) 29 2 9999) 29 3 9999) 29 4 99) 29 5 0) 29 6 0) 29 7 0, h.2.2.1, h.2.2.2))) rfl ?_
  refine hk_puti rfl (hH.1 29 (11, 16) rfl) rfl ?_
  refine qm_Ru.go 0 (c' := (52, [.ref 29], [], (h.1, qm_up (qm_up (qm_up (qm_up (qm_up (qm_up (qm_up (qm_up (qm_up h.2.1 29 0 3) 29 1 9999) 29 2 9999) 29 3 9999) 29 4 99) 29 5 0) 29 6 0) 29 7 0) 29 14 0, h.2.2.1, h.2.2.2))) rfl ?_
  refine qm_Ru.rt (v := none) (h' := (h.1, qm_up (qm_up (qm_up (qm_up (qm_up (qm_up (qm_up (qm_up (qm_up h.2.1 29 0 3) 29 1 9999) 29 2 9999) 29 3 9999) 29 4 99) 29 5 0) 29 6 0) 29 7 0) 29 14 0, h.2.2.1, h.2.2.2)) rfl ?_
  refine qm_Ru.go 2 (c' := (6, [.ref 3, .ref 29, .float 0], [.ref 29, .ref 3], (h.1, qm_up (qm_up (qm_up (qm_up (qm_up (qm_up (qm_up (qm_up (qm_up h.2.1 29 0 3) 29 1 9999) 29 2 9999) 29 3 9999) 29 4 99) 29 5 0) 29 6 0) 29 7 0) 29 14 0, h.2.2.1, h.2.2.2))) rfl ?_
  refine hk_putr rfl (hH.1 3 (8, 14) rfl) rfl ?_
  have n33 : ∀ o i, ¬ (o = 3 ∧ i = 3) → (qm_up h.2.2.2 3 3 (some 29)) o i = h.2.2.2 o i := fun o i hn => wr_ne hn
  refine hp_parse29 (h := (h.1, qm_up (qm_up (qm_up (qm_up (qm_up (qm_up (qm_up (qm_up (qm_up h.2.1 29 0 3) 29 1 9999) 29 2 9999) 29 3 9999) 29 4 99) 29 5 0) 29 6 0) 29 7 0) 29 14 0, h.2.2.1, qm_up h.2.2.2 3 3 (some 29))) h6 (hk_H_of hH (fun _ _ => rfl) (fun o i _ hn => n33 o i (fun z => by obtain ⟨rfl, rfl⟩ := z; exact hn rfl))) (hb_up (o := 29) (k := 14) (x := 0) (hb_up (o := 29) (k := 7) (x := 0) (hb_up (o := 29) (k := 6) (x := 0) (hb_up (o := 29) (k := 5) (x := 0) (hb_up (o := 29) (k := 4) (x := 99) (hb_up (o := 29) (k := 3) (x := 9999) (hb_up (o := 29) (k := 2) (x := 9999) (hb_up (o := 29) (k := 1) (x := 9999) (hb_up (o := 29) (k := 0) (x := 3) hB ⟨(show (2 : Int) ≤ 3 from by decide), (show (3 : Int) ≤ 5 from by decide)⟩) (qa_in_full _)) (qa_in_full _)) (qa_in_full _)) (qa_in_full _)) (qa_in_full _)) ⟨(show (0 : Int) ≤ 0 from by decide), (show (0 : Int) ≤ 8 from by decide)⟩) ⟨(show (0 : Int) ≤ 0 from by decide), (show (0 : Int) ≤ 8 from by decide)⟩) ⟨(show (0 : Int) ≤ 0 from by decide), (show (0 : Int) ≤ 400 from by decide)⟩) (hk_ru_up (hk_ru_up (hk_ru_up (hk_ru_up (hk_ru_up (hk_ru_up (hk_ru_up (hk_ru_up (hk_ru_up hr rfl) rfl) rfl) rfl) rfl) rfl) rfl) rfl) rfl) (wI_refs hw rfl (fun o i ho => n33 o i (by omega))) (show (qm_up h.2.2.2 3 3 (some 29)) 3 3 = some 29 from wr_eq) (fun v h1 m1 => ?_)
  exact k v h1 ⟨m1.1, fun o i ho hn h3 => (m1.2.1 o i ho hn h3).trans (n33 o i h3), fun o ho hn i => (m1.2.2.1 o ho hn i).trans ((hk_mod hn rfl).trans ((hk_mod hn rfl).trans ((hk_mod hn rfl).trans ((hk_mod hn rfl).trans ((hk_mod hn rfl).trans ((hk_mod hn rfl).trans ((hk_mod hn rfl).trans ((hk_mod hn rfl).trans ((hk_mod hn rfl).trans rfl))))))))), m1.2.2.2.1, m1.2.2.2.2⟩
theorem hp_parse111 {L : Nat} {xs : Nat → Int32} {d : Nat} {Z : Option Value → qm_H → Prop} {h : qm_H} (h6 : 6 ≤ L) (hH : hk_H h) (hB : hk_B h.2.1) (hr : hk_ru h.2.1) (hw : wI h) (hR3 : h.2.2.2 3 3 = some 111) (k : ∀ (v : Int32) (h' : qm_H), pS 111 [1, 3, 4, 5, 111, 112, 113, 114, 115, 116, 117] h h' → Z (some (.int v)) h') : qm_Ru (some (L, xs)) (d + 30) cd_19 (9, [.ref 3, .ref 111, .float 0], [], h) Z := by
  refine qm_Ru.go 2 (c' := (11, [.ref 3, .ref 111, .float 0], [.int 0, .ref 3], h)) rfl ?_
  refine hk_puti rfl (hH.1 3 (8, 14) rfl) rfl ?_
  refine qm_Ru.go 2 (c' := (16, [.ref 3, .ref 111, .float 0], [.int 0, .ref 3], (h.1, qm_up h.2.1 3 5 0, h.2.2.1, h.2.2.2))) rfl ?_
  refine hk_puti rfl (hH.1 3 (8, 14) rfl) rfl ?_
  refine qm_Ru.go 2 (c' := (21, [.ref 3, .ref 111, .float 0], [.int 0, .ref 3], (h.1, qm_up (qm_up h.2.1 3 5 0) 3 8 0, h.2.2.1, h.2.2.2))) rfl ?_
  refine hk_puti rfl (hH.1 3 (8, 14) rfl) rfl ?_
  refine qm_Ru.go 2 (c' := (26, [.ref 3, .ref 111, .float 0], [.int 0, .ref 3], (h.1, qm_up (qm_up (qm_up h.2.1 3 5 0) 3 8 0) 3 10 0, h.2.2.1, h.2.2.2))) rfl ?_
  refine hk_puti rfl (hH.1 3 (8, 14) rfl) rfl ?_
  refine qm_Ru.go 2 (c' := (31, [.ref 3, .ref 111, .float 0], [.int 0, .ref 3], (h.1, qm_up (qm_up (qm_up (qm_up h.2.1 3 5 0) 3 8 0) 3 10 0) 3 11 0, h.2.2.1, h.2.2.2))) rfl ?_
  refine hk_puti rfl (hH.1 3 (8, 14) rfl) rfl ?_
  refine qm_Ru.go 2 (c' := (36, [.ref 3, .ref 111, .float 0], [.int (-1), .ref 3], (h.1, qm_up (qm_up (qm_up (qm_up (qm_up h.2.1 3 5 0) 3 8 0) 3 10 0) 3 11 0) 3 12 0, h.2.2.1, h.2.2.2))) rfl ?_
  refine hk_puti rfl (hH.1 3 (8, 14) rfl) rfl ?_
  refine qm_Ru.go 1 (c' := (40, [.ref 3, .ref 111, .float 0], [.ref 3], (h.1, qm_up (qm_up (qm_up (qm_up (qm_up (qm_up h.2.1 3 5 0) 3 8 0) 3 10 0) 3 11 0) 3 12 0) 3 13 (-1), h.2.2.1, h.2.2.2))) rfl ?_
  refine hk_getr rfl (hH.1 3 (8, 14) rfl) rfl (hH.2 3 0 (some 1) rfl) ?_
  refine qm_Ru.go 1 (c' := (44, [.ref 3, .ref 111, .float 0], [.int 0, .ref 1], (h.1, qm_up (qm_up (qm_up (qm_up (qm_up (qm_up h.2.1 3 5 0) 3 8 0) 3 10 0) 3 11 0) 3 12 0) 3 13 (-1), h.2.2.1, h.2.2.2))) rfl ?_
  refine hk_puti rfl (hH.1 1 (12, 7) rfl) rfl ?_
  refine qm_Ru.go 1 (c' := (48, [.ref 3, .ref 111, .float 0], [.ref 3], (h.1, qm_up (qm_up (qm_up (qm_up (qm_up (qm_up (qm_up h.2.1 3 5 0) 3 8 0) 3 10 0) 3 11 0) 3 12 0) 3 13 (-1)) 1 2 0, h.2.2.1, h.2.2.2))) rfl ?_
  refine hk_inv (o := 3) (r := []) (as := [.ref 3]) rfl rfl (hH.1 3 (8, 14) rfl) rfl rfl rfl rfl (hs_rtok111 (h := (h.1, qm_up (qm_up (qm_up (qm_up (qm_up (qm_up (qm_up h.2.1 3 5 0) 3 8 0) 3 10 0) 3 11 0) 3 12 0) 3 13 (-1)) 1 2 0, h.2.2.1, h.2.2.2)) h6 hH hR3 (hb_up (o := 1) (k := 2) (x := 0) (hb_up (o := 3) (k := 13) (x := (-1)) (hb_up (o := 3) (k := 12) (x := 0) (hb_up (o := 3) (k := 11) (x := 0) (hb_up (o := 3) (k := 10) (x := 0) (hb_up (o := 3) (k := 8) (x := 0) (hb_up (o := 3) (k := 5) (x := 0) hB ⟨(show (0 : Int) ≤ 0 from by decide), (show (0 : Int) ≤ 9 from by decide)⟩) (qa_in_full _)) ⟨(show (0 : Int) ≤ 0 from by decide), (show (0 : Int) ≤ 400 from by decide)⟩) ⟨(show (0 : Int) ≤ 0 from by decide), (show (0 : Int) ≤ 16 from by decide)⟩) (qa_in_full _)) (qa_in_full _)) ⟨(show (0 : Int) ≤ 0 from by decide), (show (0 : Int) ≤ 2000 from by decide)⟩) (hk_ru_up (hk_ru_up (hk_ru_up (hk_ru_up (hk_ru_up (hk_ru_up (hk_ru_up hr rfl) rfl) rfl) rfl) rfl) rfl) rfl) (show (qm_up (qm_up (qm_up (qm_up (qm_up (qm_up (qm_up h.2.1 3 5 0) 3 8 0) 3 10 0) 3 11 0) 3 12 0) 3 13 (-1)) 1 2 0) 3 5 = 0 from ((hk_ot rfl).trans ((hk_neq (by decide)).trans ((hk_neq (by decide)).trans ((hk_neq (by decide)).trans ((hk_neq (by decide)).trans ((hk_neq (by decide)).trans (hk_same)))))))) (by omega) (fun v3 I1 J2 b_v3 hB_I1 e_I1 => ?_))
  have b_v3 : (0 : Int) ≤ v3.toInt ∧ v3.toInt ≤ 2 := b_v3
  refine qm_Ru.go 3 (c' := (54, [.ref 3, .ref 111, .int v3], [.int v3, .ref 3], (h.1, I1, J2, h.2.2.2))) rfl ?_
  refine hk_zne (ix := v3.toInt) rfl rfl (fun z4 => ?_) (fun z4 => ?_)
  · refine qm_Ru.go 1 (c' := (65, [.ref 3, .ref 111, .int v3], [.ref 3, .ref 3], (h.1, I1, J2, h.2.2.2))) rfl ?_
    refine hk_getr rfl (hH.1 3 (8, 14) rfl) rfl (hH.2 3 0 (some 1) rfl) ?_
    refine qm_Ru.go 0 (c' := (68, [.ref 3, .ref 111, .int v3], [.ref 1, .ref 3], (h.1, I1, J2, h.2.2.2))) rfl ?_
    obtain ⟨v5, q_v5⟩ : ∃ v, I1 1 4 = v := ⟨_, rfl⟩
    have b_v5 : (0 : Int) ≤ v5.toInt ∧ v5.toInt ≤ 2000 := by rw [← q_v5]; exact hB_I1 1 4
    refine hk_geti (v := v5) rfl (hH.1 1 (12, 7) rfl) rfl q_v5 ?_
    refine qm_Ru.go 0 (c' := (71, [.ref 3, .ref 111, .int v3], [.int v5, .ref 3], (h.1, I1, J2, h.2.2.2))) rfl ?_
    refine hk_puti rfl (hH.1 3 (8, 14) rfl) rfl ?_
    refine qm_Ru.go 1 (c' := (75, [.ref 3, .ref 111, .int v3], [.ref 3], (h.1, qm_up I1 3 4 v5, J2, h.2.2.2))) rfl ?_
    refine hk_getr rfl (hH.1 3 (8, 14) rfl) rfl (hH.2 3 0 (some 1) rfl) ?_
    refine qm_Ru.go 1 (c' := (79, [.ref 3, .ref 111, .int v3], [.int 0, .ref 1], (h.1, qm_up I1 3 4 v5, J2, h.2.2.2))) rfl ?_
    refine hk_puti rfl (hH.1 1 (12, 7) rfl) rfl ?_
    refine qm_Ru.go 1 (c' := (83, [.ref 3, .ref 111, .int v3], [.int v3], (h.1, qm_up (qm_up I1 3 4 v5) 1 1 0, J2, h.2.2.2))) rfl ?_
    refine hk_zne (ix := v3.toInt) rfl rfl (fun z6 => ?_) (fun z6 => by exfalso; omega)
    refine qm_Ru.go 1 (c' := (91, [.ref 3, .ref 111, .int v3], [.int v3], (h.1, qm_up (qm_up I1 3 4 v5) 1 1 0, J2, h.2.2.2))) rfl ?_
    refine hk_zne (ix := v3.toInt) rfl rfl (fun z7 => ?_) (fun z7 => by exfalso; omega)
    refine qm_Ru.go 1 (c' := (102, [.ref 3, .ref 111, .int v3], [.int v3], (h.1, qm_up (qm_up I1 3 4 v5) 1 1 0, J2, h.2.2.2))) rfl ?_
    refine qm_Ru.rt (v := (some (.int v3))) (h' := (h.1, qm_up (qm_up I1 3 4 v5) 1 1 0, J2, h.2.2.2)) rfl ?_
    exact k v3 _ ⟨fun _ _ => rfl, fun _ _ _ _ _ => rfl, (fun o ho hn i => (fun o ho i => ((hk_mod ho rfl).trans ((hk_mod ho rfl).trans ((e_I1 o (hk_ms rfl ho) i).trans ((hk_mod ho rfl).trans ((hk_mod ho rfl).trans ((hk_mod ho rfl).trans ((hk_mod ho rfl).trans ((hk_mod ho rfl).trans ((hk_mod ho rfl).trans ((hk_mod ho rfl).trans rfl))))))))))) o hn i), (hb_up (o := 1) (k := 1) (x := 0) (hb_up (o := 3) (k := 4) (x := v5) hB_I1 (qa_in_full _)) ⟨(show (0 : Int) ≤ 0 from by decide), (show (0 : Int) ≤ 2000 from by decide)⟩), wI_same hw rfl rfl, (show (qm_up (qm_up I1 3 4 v5) 1 1 0) 1 1 = 0 from (hk_same))⟩
  · refine qm_Ru.go 1 (c' := (58, [.ref 3, .ref 111, .int v3], [.ref 3, .ref 3], (h.1, I1, J2, h.2.2.2))) rfl ?_
    obtain ⟨v8, q_v8⟩ : ∃ v, I1 3 13 = v := ⟨_, rfl⟩
    refine hk_geti (v := v8) rfl (hH.1 3 (8, 14) rfl) rfl q_v8 ?_
    refine qm_Ru.go 1 (c' := (71, [.ref 3, .ref 111, .int v3], [.int v8, .ref 3], (h.1, I1, J2, h.2.2.2))) rfl ?_
    refine hk_puti rfl (hH.1 3 (8, 14) rfl) rfl ?_
    refine qm_Ru.go 1 (c' := (75, [.ref 3, .ref 111, .int v3], [.ref 3], (h.1, qm_up I1 3 4 v8, J2, h.2.2.2))) rfl ?_
    refine hk_getr rfl (hH.1 3 (8, 14) rfl) rfl (hH.2 3 0 (some 1) rfl) ?_
    refine qm_Ru.go 1 (c' := (79, [.ref 3, .ref 111, .int v3], [.int 0, .ref 1], (h.1, qm_up I1 3 4 v8, J2, h.2.2.2))) rfl ?_
    refine hk_puti rfl (hH.1 1 (12, 7) rfl) rfl ?_
    refine qm_Ru.go 1 (c' := (83, [.ref 3, .ref 111, .int v3], [.int v3], (h.1, qm_up (qm_up I1 3 4 v8) 1 1 0, J2, h.2.2.2))) rfl ?_
    refine hk_zne (ix := v3.toInt) rfl rfl (fun z9 => by exfalso; omega) (fun z9 => ?_)
    refine qm_Ru.go 1 (c' := (87, [.ref 3, .ref 111, .int v3], [.ref 111], (h.1, qm_up (qm_up I1 3 4 v8) 1 1 0, J2, h.2.2.2))) rfl ?_
    refine hk_inv (o := 111) (r := []) (as := [.ref 111]) rfl rfl (hH.1 111 (11, 16) rfl) rfl rfl rfl rfl (hs_mr111 (h := (h.1, qm_up (qm_up I1 3 4 v8) 1 1 0, J2, h.2.2.2)) (d := d + 25) hH (hb_up (o := 1) (k := 1) (x := 0) (hb_up (o := 3) (k := 4) (x := v8) hB_I1 (qa_in_full _)) ⟨(show (0 : Int) ≤ 0 from by decide), (show (0 : Int) ≤ 2000 from by decide)⟩) (wI_same hw rfl rfl) (fun h1 m1 => ?_))
    have H1 : hk_H h1 := mS_H (by decide) (h := (h.1, qm_up (qm_up I1 3 4 v8) 1 1 0, J2, h.2.2.2)) hH m1
    refine qm_Ru.go 1 (c' := (91, [.ref 3, .ref 111, .int v3], [.int v3], h1)) rfl ?_
    refine hk_zne (ix := v3.toInt) rfl rfl (fun z => by exfalso; omega) (fun z => ?_)
    refine qm_Ru.go 1 (c' := (95, [.ref 3, .ref 111, .int v3], [.ref 3], h1)) rfl ?_
    refine hk_geti (v := h1.2.1 3 12) rfl (H1.1 3 (8, 14) rfl) rfl rfl ?_
    refine qm_Ru.go 1 (c' := (102, [.ref 3, .ref 111, .int v3], [.int (h1.2.1 3 12)], h1)) rfl ?_
    refine qm_Ru.rt (v := some (.int (h1.2.1 3 12))) (h' := h1) rfl ?_
    exact k _ _ ⟨m1.1, fun o i ho hn _ => m1.2.1 o i ho hn, fun o ho hn i => (m1.2.2.1 o ho (fun e => by subst e; cases hn) i).trans ((fun o ho hn i => (fun o ho i => ((hk_mod ho rfl).trans ((hk_mod ho rfl).trans ((e_I1 o (hk_ms rfl ho) i).trans ((hk_mod ho rfl).trans ((hk_mod ho rfl).trans ((hk_mod ho rfl).trans ((hk_mod ho rfl).trans ((hk_mod ho rfl).trans ((hk_mod ho rfl).trans ((hk_mod ho rfl).trans rfl))))))))))) o hn i) o ho hn i), m1.2.2.2.1, m1.2.2.2.2, (m1.2.2.1 1 (by decide) (by decide) 1).trans (show (qm_up (qm_up I1 3 4 v8) 1 1 0) 1 1 = 0 from (hk_same))⟩
theorem hs_parse111 {L : Nat} {xs : Nat → Int32} {d : Nat} {Z : Option Value → qm_H → Prop} {h : qm_H} (h6 : 6 ≤ L) (hH : hk_H h) (hB : hk_B h.2.1) (hr : hk_ru h.2.1) (hw : wI h) (k : ∀ (v : Int32) (h' : qm_H), pS 111 [1, 3, 4, 5, 111, 112, 113, 114, 115, 116, 117] h h' → Z (some (.int v)) h') : qm_Ru (some (L, xs)) (d + 30) cd_19 (qm_ent 3 [.ref 3, .ref 111] h) Z := by
  show qm_Ru (some (L, xs)) (d + 30) cd_19 (0, [.ref 3, .ref 111, .float 0], [], h) Z
  refine qm_Ru.go 1 (c' := (1, [.ref 3, .ref 111, .float 0], [.ref 111], h)) rfl ?_
  refine hk_inv (o := 111) (r := []) (as := [.ref 111]) rfl rfl (hH.1 111 (11, 16) rfl) rfl rfl rfl rfl ?_
  refine qm_Ru.go 2 (c' := (2, [.ref 111], [.int 3, .ref 111], h)) rfl ?_
  refine hk_puti rfl (hH.1 111 (11, 16) rfl) rfl ?_
  refine qm_Ru.go 2 (c' := (9, [.ref 111], [.int 9999, .ref 111], (h.1, qm_up h.2.1 111 0 3, h.2.2.1, h.2.2.2))) rfl ?_
  refine hk_puti rfl (hH.1 111 (11, 16) rfl) rfl ?_
  refine qm_Ru.go 2 (c' := (16, [.ref 111], [.int 9999, .ref 111], (h.1, qm_up (qm_up h.2.1 111 0 3) 111 1 9999, h.2.2.1, h.2.2.2))) rfl ?_
  refine hk_puti rfl (hH.1 111 (11, 16) rfl) rfl ?_
  refine qm_Ru.go 2 (c' := (23, [.ref 111], [.int 9999, .ref 111], (h.1, qm_up (qm_up (qm_up h.2.1 111 0 3) 111 1 9999) 111 2 9999, h.2.2.1, h.2.2.2))) rfl ?_
  refine hk_puti rfl (hH.1 111 (11, 16) rfl) rfl ?_
  refine qm_Ru.go 2 (c' := (29, [.ref 111], [.int 99, .ref 111], (h.1, qm_up (qm_up (qm_up (qm_up h.2.1 111 0 3) 111 1 9999) 111 2 9999) 111 3 9999, h.2.2.1, h.2.2.2))) rfl ?_
  refine hk_puti rfl (hH.1 111 (11, 16) rfl) rfl ?_
  refine qm_Ru.go 2 (c' := (34, [.ref 111], [.int 0, .ref 111], (h.1, qm_up (qm_up (qm_up (qm_up (qm_up h.2.1 111 0 3) 111 1 9999) 111 2 9999) 111 3 9999) 111 4 99, h.2.2.1, h.2.2.2))) rfl ?_
  refine hk_puti rfl (hH.1 111 (11, 16) rfl) rfl ?_
  refine qm_Ru.go 2 (c' := (39, [.ref 111], [.int 0, .ref 111], (h.1, qm_up (qm_up (qm_up (qm_up (qm_up (qm_up h.2.1 111 0 3) 111 1 9999) 111 2 9999) 111 3 9999) 111 4 99) 111 5 0, h.2.2.1, h.2.2.2))) rfl ?_
  refine hk_puti rfl (hH.1 111 (11, 16) rfl) rfl ?_
  refine qm_Ru.go 2 (c' := (44, [.ref 111], [.int 0, .ref 111], (h.1, qm_up (qm_up (qm_up (qm_up (qm_up (qm_up (qm_up h.2.1 111 0 3) 111 1 9999) 111 2 9999) 111 3 9999) 111 4 99) 111 5 0) 111 6 0, h.2.2.1, h.2.2.2))) rfl ?_
  refine hk_puti rfl (hH.1 111 (11, 16) rfl) rfl ?_
  refine qm_Ru.go 2 (c' := (49, [.ref 111], [.int 0, .ref 111], (h.1, qm_up (qm_up (qm_up (qm_up (qm_up (qm_up (qm_up (qm_up h.2.1 111 0 3) 111 1 9999) 111 2 9999) 111 3 9999) 111 4 99) 111 5 0) 111 6 0) 111 7 0, h.2.2.1, h.2.2.2))) rfl ?_
  refine hk_puti rfl (hH.1 111 (11, 16) rfl) rfl ?_
  refine qm_Ru.go 0 (c' := (52, [.ref 111], [], (h.1, qm_up (qm_up (qm_up (qm_up (qm_up (qm_up (qm_up (qm_up (qm_up h.2.1 111 0 3) 111 1 9999) 111 2 9999) 111 3 9999) 111 4 99) 111 5 0) 111 6 0) 111 7 0) 111 14 0, h.2.2.1, h.2.2.2))) rfl ?_
  refine qm_Ru.rt (v := none) (h' := (h.1, qm_up (qm_up (qm_up (qm_up (qm_up (qm_up (qm_up (qm_up (qm_up h.2.1 111 0 3) 111 1 9999) 111 2 9999) 111 3 9999) 111 4 99) 111 5 0) 111 6 0) 111 7 0) 111 14 0, h.2.2.1, h.2.2.2)) rfl ?_
  refine qm_Ru.go 2 (c' := (6, [.ref 3, .ref 111, .float 0], [.ref 111, .ref 3], (h.1, qm_up (qm_up (qm_up (qm_up (qm_up (qm_up (qm_up (qm_up (qm_up h.2.1 111 0 3) 111 1 9999) 111 2 9999) 111 3 9999) 111 4 99) 111 5 0) 111 6 0) 111 7 0) 111 14 0, h.2.2.1, h.2.2.2))) rfl ?_
  refine hk_putr rfl (hH.1 3 (8, 14) rfl) rfl ?_
  have n33 : ∀ o i, ¬ (o = 3 ∧ i = 3) → (qm_up h.2.2.2 3 3 (some 111)) o i = h.2.2.2 o i := fun o i hn => wr_ne hn
  refine hp_parse111 (h := (h.1, qm_up (qm_up (qm_up (qm_up (qm_up (qm_up (qm_up (qm_up (qm_up h.2.1 111 0 3) 111 1 9999) 111 2 9999) 111 3 9999) 111 4 99) 111 5 0) 111 6 0) 111 7 0) 111 14 0, h.2.2.1, qm_up h.2.2.2 3 3 (some 111))) h6 (hk_H_of hH (fun _ _ => rfl) (fun o i _ hn => n33 o i (fun z => by obtain ⟨rfl, rfl⟩ := z; exact hn rfl))) (hb_up (o := 111) (k := 14) (x := 0) (hb_up (o := 111) (k := 7) (x := 0) (hb_up (o := 111) (k := 6) (x := 0) (hb_up (o := 111) (k := 5) (x := 0) (hb_up (o := 111) (k := 4) (x := 99) (hb_up (o := 111) (k := 3) (x := 9999) (hb_up (o := 111) (k := 2) (x := 9999) (hb_up (o := 111) (k := 1) (x := 9999) (hb_up (o := 111) (k := 0) (x := 3) hB ⟨(show (2 : Int) ≤ 3 from by decide), (show (3 : Int) ≤ 5 from by decide)⟩) (qa_in_full _)) (qa_in_full _)) (qa_in_full _)) (qa_in_full _)) (qa_in_full _)) ⟨(show (0 : Int) ≤ 0 from by decide), (show (0 : Int) ≤ 8 from by decide)⟩) ⟨(show (0 : Int) ≤ 0 from by decide), (show (0 : Int) ≤ 8 from by decide)⟩) ⟨(show (0 : Int) ≤ 0 from by decide), (show (0 : Int) ≤ 400 from by decide)⟩) (hk_ru_up (hk_ru_up (hk_ru_up (hk_ru_up (hk_ru_up (hk_ru_up (hk_ru_up (hk_ru_up (hk_ru_up hr rfl) rfl) rfl) rfl) rfl) rfl) rfl) rfl) rfl) (wI_refs hw rfl (fun o i ho => n33 o i (by omega))) (show (qm_up h.2.2.2 3 3 (some 111)) 3 3 = some 111 from wr_eq) (fun v h1 m1 => ?_)
  exact k v h1 ⟨m1.1, fun o i ho hn h3 => (m1.2.1 o i ho hn h3).trans (n33 o i h3), fun o ho hn i => (m1.2.2.1 o ho hn i).trans ((hk_mod hn rfl).trans ((hk_mod hn rfl).trans ((hk_mod hn rfl).trans ((hk_mod hn rfl).trans ((hk_mod hn rfl).trans ((hk_mod hn rfl).trans ((hk_mod hn rfl).trans ((hk_mod hn rfl).trans ((hk_mod hn rfl).trans rfl))))))))), m1.2.2.2.1, m1.2.2.2.2⟩
theorem hp_read29 {L : Nat} {xs : Nat → Int32} {d : Nat} {Z : Option Value → qm_H → Prop} {h : qm_H} (h6 : 6 ≤ L) (hH : hk_H h) (hT : h.2.2.2 0 9 = some 111 ∧ h.2.2.2 28 2 = some 29) (hB : hk_B h.2.1) (hr : hk_ru h.2.1) (hw : wI h) (hz : h.2.1 1 1 = 0) {v : Int32} (k1 : ∀ (v : Int32) (h' : qm_H), rD h h' → (h'.2.2.2 0 9 = some 111 ∧ h'.2.2.2 28 2 = some 29) → Z (some (.int v)) h') (k2 : ∀ (v : Int32) (h' : qm_H), rD h h' → (h'.2.2.2 0 9 = some 29 ∧ h'.2.2.2 28 2 = some 111) → Z (some (.int v)) h') : qm_Ru (some (L, xs)) (d + 40) cd_18 (11, [.ref 0, .float 0, .float 0], [.int v], h) Z := by
  refine qm_Ru.go 2 (c' := (13, [.ref 0, .int v, .float 0], [.int v], h)) rfl ?_
  refine hk_zeq (ix := v.toInt) rfl rfl (fun z1 => ?_) (fun z1 => ?_)
  · refine qm_Ru.go 1 (c' := (19, [.ref 0, .int v, .float 0], [.ref 0], h)) rfl ?_
    refine hk_getr rfl (hH.1 0 (16, 10) rfl) rfl (hH.2 0 4 (some 28) rfl) ?_
    refine qm_Ru.go 1 (c' := (23, [.ref 0, .int v, .float 0], [.ref 0, .ref 28], h)) rfl ?_
    refine hk_getr rfl (hH.1 0 (16, 10) rfl) rfl hT.1 ?_
    refine qm_Ru.go 0 (c' := (26, [.ref 0, .int v, .float 0], [.ref 111, .ref 28], h)) rfl ?_
    obtain ⟨v2, q_v2⟩ : ∃ v, h.2.1 111 0 = v := ⟨_, rfl⟩
    have b_v2 : (2 : Int) ≤ v2.toInt ∧ v2.toInt ≤ 5 := by rw [← q_v2]; exact hB 111 0
    refine hk_geti (v := v2) rfl (hH.1 111 (11, 16) rfl) rfl q_v2 ?_
    refine qm_Ru.go 0 (c' := (29, [.ref 0, .int v, .float 0], [.int v2, .ref 28], h)) rfl ?_
    refine hk_inv (o := 28) (r := []) (as := [.ref 28, .int v2]) rfl rfl (hH.1 28 (9, 8) rfl) rfl rfl rfl rfl (hs_stb (h := h) h6 hH hB hr ⟨by show (2 : Int) ≤ v2.toInt; omega, by show v2.toInt ≤ (5 : Int); omega⟩ (by omega) (fun v3 I4 J5 b_v3 _ e_I4 => ?_))
    have e_I4 : I4 = h.2.1 := funext fun o => funext fun i => e_I4 o rfl i
    subst e_I4
    have b_v3 : (0 : Int) ≤ v3.toInt ∧ v3.toInt ≤ 1 := b_v3
    refine qm_Ru.go 0 (c' := (32, [.ref 0, .int v, .float 0], [.int v3], (h.1, h.2.1, J5, h.2.2.2))) rfl ?_
    refine hk_zeq (ix := v3.toInt) rfl rfl (fun z6 => ?_) (fun z6 => ?_)
    · refine qm_Ru.go 1 (c' := (39, [.ref 0, .int v, .float 0], [.ref 0], (h.1, h.2.1, J5, h.2.2.2))) rfl ?_
      refine hk_getr rfl (hH.1 0 (16, 10) rfl) rfl (hH.2 0 4 (some 28) rfl) ?_
      refine qm_Ru.go 0 (c' := (42, [.ref 0, .int v, .float 0], [.ref 28], (h.1, h.2.1, J5, h.2.2.2))) rfl ?_
      refine hk_getr rfl (hH.1 28 (9, 8) rfl) rfl hT.2 ?_
      refine qm_Ru.go 2 (c' := (47, [.ref 0, .int v, .ref 29], [.ref 0], (h.1, h.2.1, J5, h.2.2.2))) rfl ?_
      refine hk_getr rfl (hH.1 0 (16, 10) rfl) rfl (hH.2 0 4 (some 28) rfl) ?_
      refine qm_Ru.go 1 (c' := (51, [.ref 0, .int v, .ref 29], [.ref 0, .ref 28], (h.1, h.2.1, J5, h.2.2.2))) rfl ?_
      refine hk_getr rfl (hH.1 0 (16, 10) rfl) rfl hT.1 ?_
      refine qm_Ru.go 0 (c' := (54, [.ref 0, .int v, .ref 29], [.ref 111, .ref 28], (h.1, h.2.1, J5, h.2.2.2))) rfl ?_
      refine hk_putr rfl (hH.1 28 (9, 8) rfl) rfl ?_
      refine qm_Ru.go 2 (c' := (59, [.ref 0, .int v, .ref 29], [.ref 29, .ref 0], (h.1, h.2.1, J5, qm_up h.2.2.2 28 2 (some 111)))) rfl ?_
      refine hk_putr rfl (hH.1 0 (16, 10) rfl) rfl ?_
      have nR : ∀ o i, ¬ (o = 28 ∧ i = 2) → ¬ (o = 0 ∧ i = 9) → (qm_up (qm_up h.2.2.2 28 2 (some 111)) 0 9 (some 29)) o i = h.2.2.2 o i := fun o i a b => (wr_ne b).trans (wr_ne a)
      have H3 : hk_H (h.1, h.2.1, J5, qm_up (qm_up h.2.2.2 28 2 (some 111)) 0 9 (some 29)) := hk_H_of hH (fun _ _ => rfl) (fun o i _ hn => nR o i (fun z => by obtain ⟨rfl, rfl⟩ := z; exact hn rfl) (fun z => by obtain ⟨rfl, rfl⟩ := z; exact hn rfl))
      have T3 : (qm_up (qm_up h.2.2.2 28 2 (some 111)) 0 9 (some 29)) 0 9 = some 29 ∧ (qm_up (qm_up h.2.2.2 28 2 (some 111)) 0 9 (some 29)) 28 2 = some 111 := ⟨wr_eq, (wr_ne (by decide)).trans wr_eq⟩
      have W3 : wI (h.1, h.2.1, J5, qm_up (qm_up h.2.2.2 28 2 (some 111)) 0 9 (some 29)) := wI_refs hw rfl (fun o i ho => nR o i (by omega) (by omega))
      refine qm_Ru.go 1 (c' := (63, [.ref 0, .int v, .ref 29], [.ref 0], (h.1, h.2.1, J5, qm_up (qm_up h.2.2.2 28 2 (some 111)) 0 9 (some 29)))) rfl ?_
      refine hk_getr rfl (H3.1 0 (16, 10) rfl) rfl (H3.2 0 7 (some 51) rfl) ?_
      refine hk_inv (o := 51) (r := []) (as := [.ref 51]) rfl rfl (H3.1 51 (14, 13) rfl) rfl rfl rfl rfl (hs_begin111 (h := (h.1, h.2.1, J5, qm_up (qm_up h.2.2.2 28 2 (some 111)) 0 9 (some 29))) h6 H3 T3 hB hr (by omega) (fun I1 J1 hB1 e1 => ?_))
      refine qm_Ru.go 1 (c' := (70, [.ref 0, .int v, .ref 29], [.int 0], (h.1, I1, J1, qm_up (qm_up h.2.2.2 28 2 (some 111)) 0 9 (some 29)))) rfl ?_
      refine qm_Ru.rt (v := some (.int 0)) (h' := (h.1, I1, J1, qm_up (qm_up h.2.2.2 28 2 (some 111)) 0 9 (some 29))) rfl ?_
      exact k2 0 _ ⟨fun _ _ => rfl, fun o i ho hn => rt_same hH H3 hn, fun o ho hn i => e1 o (hk_ms (m2 := [1, 3, 4, 5, 29, 30, 31, 32, 33, 34, 35, 51, 93, 94, 95, 96, 97, 111, 112, 113, 114, 115, 116, 117]) rfl hn) i, hB1, wI_same W3 rfl rfl, (e1 1 rfl 1).trans hz⟩ T3
    · refine qm_Ru.go 1 (c' := (37, [.ref 0, .int v, .float 0], [.int (-3)], (h.1, h.2.1, J5, h.2.2.2))) rfl ?_
      refine qm_Ru.rt (v := (some (.int (-3)))) (h' := (h.1, h.2.1, J5, h.2.2.2)) rfl ?_
      exact k1 ((-3)) _ ⟨fun _ _ => rfl, fun _ _ _ _ => rfl, fun _ _ _ _ => rfl, hB, wI_same hw rfl rfl, hz⟩ hT
  · refine qm_Ru.go 1 (c' := (17, [.ref 0, .int v, .float 0], [.int v], h)) rfl ?_
    refine qm_Ru.rt (v := (some (.int v))) (h' := h) rfl ?_
    exact k1 v _ ⟨fun _ _ => rfl, fun _ _ _ _ => rfl, fun _ _ _ _ => rfl, hB, wI_same hw rfl rfl, hz⟩ hT
theorem hs_read29 {L : Nat} {xs : Nat → Int32} {d : Nat} {Z : Option Value → qm_H → Prop} {h : qm_H} (h6 : 6 ≤ L) (hH : hk_H h) (hT : h.2.2.2 0 9 = some 111 ∧ h.2.2.2 28 2 = some 29) (hB : hk_B h.2.1) (hr : hk_ru h.2.1) (hw : wI h) (k1 : ∀ (v : Int32) (h' : qm_H), rD h h' → (h'.2.2.2 0 9 = some 111 ∧ h'.2.2.2 28 2 = some 29) → Z (some (.int v)) h') (k2 : ∀ (v : Int32) (h' : qm_H), rD h h' → (h'.2.2.2 0 9 = some 29 ∧ h'.2.2.2 28 2 = some 111) → Z (some (.int v)) h') : qm_Ru (some (L, xs)) (d + 40) cd_18 (qm_ent 3 [.ref 0] h) Z := by
  show qm_Ru (some (L, xs)) (d + 40) cd_18 (0, [.ref 0, .float 0, .float 0], [], h) Z
  refine qm_Ru.go 1 (c' := (1, [.ref 0, .float 0, .float 0], [.ref 0], h)) rfl ?_
  refine hk_getr rfl (hH.1 0 (16, 10) rfl) rfl (hH.2 0 1 (some 3) rfl) ?_
  refine qm_Ru.go 1 (c' := (5, [.ref 0, .float 0, .float 0], [.ref 0, .ref 3], h)) rfl ?_
  refine hk_getr rfl (hH.1 0 (16, 10) rfl) rfl hT.1 ?_
  refine hk_inv (o := 3) (r := []) (as := [.ref 3, .ref 111]) rfl rfl (hH.1 3 (8, 14) rfl) rfl rfl rfl rfl (hs_parse111 (d := d + 9) h6 hH hB hr hw (fun v h1 m1 => ?_))
  have H1 : hk_H h1 := hk_H_of hH m1.1 (fun o i ho hn => m1.2.1 o i ho (fun z => by obtain ⟨rfl, rfl⟩ := z; exact hn rfl) (fun z => by obtain ⟨rfl, rfl⟩ := z; exact hn rfl))
  have T1 : h1.2.2.2 0 9 = some 111 ∧ h1.2.2.2 28 2 = some 29 := ⟨(m1.2.1 0 9 (by decide) (by decide) (by decide)).trans hT.1, (m1.2.1 28 2 (by decide) (by decide) (by decide)).trans hT.2⟩
  have R1 : rD h h1 := ⟨m1.1, fun o i ho hn => m1.2.1 o i ho (fun z => by obtain ⟨rfl, rfl⟩ := z; exact hn rfl) (fun z => by obtain ⟨rfl, rfl⟩ := z; exact hn rfl), fun o ho hn i => m1.2.2.1 o ho (hk_ms (m2 := [1, 3, 4, 5, 29, 30, 31, 32, 33, 34, 35, 51, 93, 94, 95, 96, 97, 111, 112, 113, 114, 115, 116, 117]) rfl hn) i, m1.2.2.2.1, m1.2.2.2.2⟩
  have key : ∀ o ∈ [11, 12, 13, 14, 150, 151], o < 192 ∧ [1, 3, 4, 5, 111, 112, 113, 114, 115, 116, 117].contains o = false := by decide +kernel
  have r1 : hk_ru h1.2.1 := hk_ru_cg hr (fun o ho i => m1.2.2.1 o (key o (List.contains_iff_mem.mp ho)).1 (key o (List.contains_iff_mem.mp ho)).2 i)
  exact hp_read29 h6 H1 T1 m1.2.2.2.1 r1 m1.2.2.2.2.1 m1.2.2.2.2.2 (fun w h2 m2 => k1 w h2 (rD_trans R1 m2)) (fun w h2 m2 => k2 w h2 (rD_trans R1 m2))
theorem hp_read111 {L : Nat} {xs : Nat → Int32} {d : Nat} {Z : Option Value → qm_H → Prop} {h : qm_H} (h6 : 6 ≤ L) (hH : hk_H h) (hT : h.2.2.2 0 9 = some 29 ∧ h.2.2.2 28 2 = some 111) (hB : hk_B h.2.1) (hr : hk_ru h.2.1) (hw : wI h) (hz : h.2.1 1 1 = 0) {v : Int32} (k1 : ∀ (v : Int32) (h' : qm_H), rD h h' → (h'.2.2.2 0 9 = some 29 ∧ h'.2.2.2 28 2 = some 111) → Z (some (.int v)) h') (k2 : ∀ (v : Int32) (h' : qm_H), rD h h' → (h'.2.2.2 0 9 = some 111 ∧ h'.2.2.2 28 2 = some 29) → Z (some (.int v)) h') : qm_Ru (some (L, xs)) (d + 40) cd_18 (11, [.ref 0, .float 0, .float 0], [.int v], h) Z := by
  refine qm_Ru.go 2 (c' := (13, [.ref 0, .int v, .float 0], [.int v], h)) rfl ?_
  refine hk_zeq (ix := v.toInt) rfl rfl (fun z1 => ?_) (fun z1 => ?_)
  · refine qm_Ru.go 1 (c' := (19, [.ref 0, .int v, .float 0], [.ref 0], h)) rfl ?_
    refine hk_getr rfl (hH.1 0 (16, 10) rfl) rfl (hH.2 0 4 (some 28) rfl) ?_
    refine qm_Ru.go 1 (c' := (23, [.ref 0, .int v, .float 0], [.ref 0, .ref 28], h)) rfl ?_
    refine hk_getr rfl (hH.1 0 (16, 10) rfl) rfl hT.1 ?_
    refine qm_Ru.go 0 (c' := (26, [.ref 0, .int v, .float 0], [.ref 29, .ref 28], h)) rfl ?_
    obtain ⟨v2, q_v2⟩ : ∃ v, h.2.1 29 0 = v := ⟨_, rfl⟩
    have b_v2 : (2 : Int) ≤ v2.toInt ∧ v2.toInt ≤ 5 := by rw [← q_v2]; exact hB 29 0
    refine hk_geti (v := v2) rfl (hH.1 29 (11, 16) rfl) rfl q_v2 ?_
    refine qm_Ru.go 0 (c' := (29, [.ref 0, .int v, .float 0], [.int v2, .ref 28], h)) rfl ?_
    refine hk_inv (o := 28) (r := []) (as := [.ref 28, .int v2]) rfl rfl (hH.1 28 (9, 8) rfl) rfl rfl rfl rfl (hs_stb (h := h) h6 hH hB hr ⟨by show (2 : Int) ≤ v2.toInt; omega, by show v2.toInt ≤ (5 : Int); omega⟩ (by omega) (fun v3 I4 J5 b_v3 _ e_I4 => ?_))
    have e_I4 : I4 = h.2.1 := funext fun o => funext fun i => e_I4 o rfl i
    subst e_I4
    have b_v3 : (0 : Int) ≤ v3.toInt ∧ v3.toInt ≤ 1 := b_v3
    refine qm_Ru.go 0 (c' := (32, [.ref 0, .int v, .float 0], [.int v3], (h.1, h.2.1, J5, h.2.2.2))) rfl ?_
    refine hk_zeq (ix := v3.toInt) rfl rfl (fun z6 => ?_) (fun z6 => ?_)
    · refine qm_Ru.go 1 (c' := (39, [.ref 0, .int v, .float 0], [.ref 0], (h.1, h.2.1, J5, h.2.2.2))) rfl ?_
      refine hk_getr rfl (hH.1 0 (16, 10) rfl) rfl (hH.2 0 4 (some 28) rfl) ?_
      refine qm_Ru.go 0 (c' := (42, [.ref 0, .int v, .float 0], [.ref 28], (h.1, h.2.1, J5, h.2.2.2))) rfl ?_
      refine hk_getr rfl (hH.1 28 (9, 8) rfl) rfl hT.2 ?_
      refine qm_Ru.go 2 (c' := (47, [.ref 0, .int v, .ref 111], [.ref 0], (h.1, h.2.1, J5, h.2.2.2))) rfl ?_
      refine hk_getr rfl (hH.1 0 (16, 10) rfl) rfl (hH.2 0 4 (some 28) rfl) ?_
      refine qm_Ru.go 1 (c' := (51, [.ref 0, .int v, .ref 111], [.ref 0, .ref 28], (h.1, h.2.1, J5, h.2.2.2))) rfl ?_
      refine hk_getr rfl (hH.1 0 (16, 10) rfl) rfl hT.1 ?_
      refine qm_Ru.go 0 (c' := (54, [.ref 0, .int v, .ref 111], [.ref 29, .ref 28], (h.1, h.2.1, J5, h.2.2.2))) rfl ?_
      refine hk_putr rfl (hH.1 28 (9, 8) rfl) rfl ?_
      refine qm_Ru.go 2 (c' := (59, [.ref 0, .int v, .ref 111], [.ref 111, .ref 0], (h.1, h.2.1, J5, qm_up h.2.2.2 28 2 (some 29)))) rfl ?_
      refine hk_putr rfl (hH.1 0 (16, 10) rfl) rfl ?_
      have nR : ∀ o i, ¬ (o = 28 ∧ i = 2) → ¬ (o = 0 ∧ i = 9) → (qm_up (qm_up h.2.2.2 28 2 (some 29)) 0 9 (some 111)) o i = h.2.2.2 o i := fun o i a b => (wr_ne b).trans (wr_ne a)
      have H3 : hk_H (h.1, h.2.1, J5, qm_up (qm_up h.2.2.2 28 2 (some 29)) 0 9 (some 111)) := hk_H_of hH (fun _ _ => rfl) (fun o i _ hn => nR o i (fun z => by obtain ⟨rfl, rfl⟩ := z; exact hn rfl) (fun z => by obtain ⟨rfl, rfl⟩ := z; exact hn rfl))
      have T3 : (qm_up (qm_up h.2.2.2 28 2 (some 29)) 0 9 (some 111)) 0 9 = some 111 ∧ (qm_up (qm_up h.2.2.2 28 2 (some 29)) 0 9 (some 111)) 28 2 = some 29 := ⟨wr_eq, (wr_ne (by decide)).trans wr_eq⟩
      have W3 : wI (h.1, h.2.1, J5, qm_up (qm_up h.2.2.2 28 2 (some 29)) 0 9 (some 111)) := wI_refs hw rfl (fun o i ho => nR o i (by omega) (by omega))
      refine qm_Ru.go 1 (c' := (63, [.ref 0, .int v, .ref 111], [.ref 0], (h.1, h.2.1, J5, qm_up (qm_up h.2.2.2 28 2 (some 29)) 0 9 (some 111)))) rfl ?_
      refine hk_getr rfl (H3.1 0 (16, 10) rfl) rfl (H3.2 0 7 (some 51) rfl) ?_
      refine hk_inv (o := 51) (r := []) (as := [.ref 51]) rfl rfl (H3.1 51 (14, 13) rfl) rfl rfl rfl rfl (hs_begin29 (h := (h.1, h.2.1, J5, qm_up (qm_up h.2.2.2 28 2 (some 29)) 0 9 (some 111))) h6 H3 T3 hB hr (by omega) (fun I1 J1 hB1 e1 => ?_))
      refine qm_Ru.go 1 (c' := (70, [.ref 0, .int v, .ref 111], [.int 0], (h.1, I1, J1, qm_up (qm_up h.2.2.2 28 2 (some 29)) 0 9 (some 111)))) rfl ?_
      refine qm_Ru.rt (v := some (.int 0)) (h' := (h.1, I1, J1, qm_up (qm_up h.2.2.2 28 2 (some 29)) 0 9 (some 111))) rfl ?_
      exact k2 0 _ ⟨fun _ _ => rfl, fun o i ho hn => rt_same hH H3 hn, fun o ho hn i => e1 o (hk_ms (m2 := [1, 3, 4, 5, 29, 30, 31, 32, 33, 34, 35, 51, 93, 94, 95, 96, 97, 111, 112, 113, 114, 115, 116, 117]) rfl hn) i, hB1, wI_same W3 rfl rfl, (e1 1 rfl 1).trans hz⟩ T3
    · refine qm_Ru.go 1 (c' := (37, [.ref 0, .int v, .float 0], [.int (-3)], (h.1, h.2.1, J5, h.2.2.2))) rfl ?_
      refine qm_Ru.rt (v := (some (.int (-3)))) (h' := (h.1, h.2.1, J5, h.2.2.2)) rfl ?_
      exact k1 ((-3)) _ ⟨fun _ _ => rfl, fun _ _ _ _ => rfl, fun _ _ _ _ => rfl, hB, wI_same hw rfl rfl, hz⟩ hT
  · refine qm_Ru.go 1 (c' := (17, [.ref 0, .int v, .float 0], [.int v], h)) rfl ?_
    refine qm_Ru.rt (v := (some (.int v))) (h' := h) rfl ?_
    exact k1 v _ ⟨fun _ _ => rfl, fun _ _ _ _ => rfl, fun _ _ _ _ => rfl, hB, wI_same hw rfl rfl, hz⟩ hT
theorem hs_read111 {L : Nat} {xs : Nat → Int32} {d : Nat} {Z : Option Value → qm_H → Prop} {h : qm_H} (h6 : 6 ≤ L) (hH : hk_H h) (hT : h.2.2.2 0 9 = some 29 ∧ h.2.2.2 28 2 = some 111) (hB : hk_B h.2.1) (hr : hk_ru h.2.1) (hw : wI h) (k1 : ∀ (v : Int32) (h' : qm_H), rD h h' → (h'.2.2.2 0 9 = some 29 ∧ h'.2.2.2 28 2 = some 111) → Z (some (.int v)) h') (k2 : ∀ (v : Int32) (h' : qm_H), rD h h' → (h'.2.2.2 0 9 = some 111 ∧ h'.2.2.2 28 2 = some 29) → Z (some (.int v)) h') : qm_Ru (some (L, xs)) (d + 40) cd_18 (qm_ent 3 [.ref 0] h) Z := by
  show qm_Ru (some (L, xs)) (d + 40) cd_18 (0, [.ref 0, .float 0, .float 0], [], h) Z
  refine qm_Ru.go 1 (c' := (1, [.ref 0, .float 0, .float 0], [.ref 0], h)) rfl ?_
  refine hk_getr rfl (hH.1 0 (16, 10) rfl) rfl (hH.2 0 1 (some 3) rfl) ?_
  refine qm_Ru.go 1 (c' := (5, [.ref 0, .float 0, .float 0], [.ref 0, .ref 3], h)) rfl ?_
  refine hk_getr rfl (hH.1 0 (16, 10) rfl) rfl hT.1 ?_
  refine hk_inv (o := 3) (r := []) (as := [.ref 3, .ref 29]) rfl rfl (hH.1 3 (8, 14) rfl) rfl rfl rfl rfl (hs_parse29 (d := d + 9) h6 hH hB hr hw (fun v h1 m1 => ?_))
  have H1 : hk_H h1 := hk_H_of hH m1.1 (fun o i ho hn => m1.2.1 o i ho (fun z => by obtain ⟨rfl, rfl⟩ := z; exact hn rfl) (fun z => by obtain ⟨rfl, rfl⟩ := z; exact hn rfl))
  have T1 : h1.2.2.2 0 9 = some 29 ∧ h1.2.2.2 28 2 = some 111 := ⟨(m1.2.1 0 9 (by decide) (by decide) (by decide)).trans hT.1, (m1.2.1 28 2 (by decide) (by decide) (by decide)).trans hT.2⟩
  have R1 : rD h h1 := ⟨m1.1, fun o i ho hn => m1.2.1 o i ho (fun z => by obtain ⟨rfl, rfl⟩ := z; exact hn rfl) (fun z => by obtain ⟨rfl, rfl⟩ := z; exact hn rfl), fun o ho hn i => m1.2.2.1 o ho (hk_ms (m2 := [1, 3, 4, 5, 29, 30, 31, 32, 33, 34, 35, 51, 93, 94, 95, 96, 97, 111, 112, 113, 114, 115, 116, 117]) rfl hn) i, m1.2.2.2.1, m1.2.2.2.2⟩
  have key : ∀ o ∈ [11, 12, 13, 14, 150, 151], o < 192 ∧ [1, 3, 4, 5, 29, 30, 31, 32, 33, 34, 35].contains o = false := by decide +kernel
  have r1 : hk_ru h1.2.1 := hk_ru_cg hr (fun o ho i => m1.2.2.1 o (key o (List.contains_iff_mem.mp ho)).1 (key o (List.contains_iff_mem.mp ho)).2 i)
  exact hp_read111 h6 H1 T1 m1.2.2.2.1 r1 m1.2.2.2.2.1 m1.2.2.2.2.2 (fun w h2 m2 => k1 w h2 (rD_trans R1 m2)) (fun w h2 m2 => k2 w h2 (rD_trans R1 m2))
