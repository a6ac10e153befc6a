/-! read of the class, by hand -/
theorem hk_ru_up {I : Nat → Nat → Int32} {o k : Nat} {x : Int32} (h : hk_ru I) (ho : [11, 12, 13, 14, 150, 151].contains o = false) : hk_ru (qm_up I o k x) := hk_ru_cg h (fun o' ho' i => hk_on (fun e => by
  subst e
  rw [ho'] at ho
  cases ho))
/-- behind parse: what stays -/
noncomputable def pS (t : Nat) (pm : List Nat) (h h' : qm_H) : Prop := (∀ o, o < 192 → h'.1[o]? = h.1[o]?) ∧ (∀ o i, o < 192 → ¬ (o = t ∧ i = 15) → ¬ (o = 3 ∧ i = 3) → h'.2.2.2 o i = h.2.2.2 o i) ∧ (∀ o, o < 192 → pm.contains o = false → ∀ i, h'.2.1 o i = h.2.1 o i) ∧ hk_B h'.2.1 ∧ wI h' ∧ h'.2.1 1 1 = 0 ∧ cPl (h.2.1 2) (h.2.1 1 1).toInt.toNat (h'.2.1 3 4)
/-- behind read -/
noncomputable def rD (h h' : qm_H) : Prop := (∀ o, o < 192 → h'.1[o]? = h.1[o]?) ∧ (∀ o i, o < 192 → qa_Rt0 o i ≠ none → h'.2.2.2 o i = h.2.2.2 o i) ∧ (∀ o, o < 192 → [1, 3, 4, 5, 29, 30, 31, 32, 33, 34, 35, 51, 93, 94, 95, 96, 97, 111, 112, 113, 114, 115, 116, 117].contains o = false → ∀ i, h'.2.1 o i = h.2.1 o i) ∧ hk_B h'.2.1 ∧ wI h' ∧ h'.2.1 1 1 = 0
theorem rD_trans {h h1 h2 : qm_H} (a : rD h h1) (b : rD h1 h2) : rD h h2 := ⟨fun o ho => (b.1 o ho).trans (a.1 o ho), fun o i ho hi => (b.2.1 o i ho hi).trans (a.2.1 o i ho hi), fun o ho hn i => (b.2.2.1 o ho hn i).trans (a.2.2.1 o ho hn i), b.2.2.2.1, b.2.2.2.2⟩
theorem rt_same {h h' : qm_H} (hH : hk_H h) (hH' : hk_H h') {o i : Nat} (hn : qa_Rt0 o i ≠ none) : h'.2.2.2 o i = h.2.2.2 o i := by
  cases e : qa_Rt0 o i with
  | none => exact absurd e hn
  | some w => rw [hH'.2 o i w e, hH.2 o i w e]
theorem rD_H {h h' : qm_H} (hH : hk_H h) (m : rD h h') : hk_H h' := hk_H_of hH m.1 m.2.1
noncomputable def cRes (t : Nat) (B : Nat → Int32) (n : Nat) (v : Int32) (I : Nat → Nat → Int32) : Prop := ∃ f fp lf lp b li tr be lt pr pl : Int, tRes B n f fp lf lp b li tr be lt pr pl ∧ ((f ≠ 0 ∧ v.toInt = f) ∨ (f = 0 ∧ v.toInt = lf ∧ (I t 0).toInt = b ∧ (I t 1).toInt = li ∧ (I t 2).toInt = tr ∧ (I t 3).toInt = be ∧ (I t 4).toInt = lt ∧ (I t 6).toInt = pr ∧ (I t 7).toInt = pl))
theorem hs_bg29 {L : Nat} {xs : Nat → Int32} {Z : Option Value → qm_H → Prop} {h : qm_H} {d : Nat} (h6 : 6 ≤ L) (hH : hk_H h) (hT : h.2.2.2 0 9 = some 111 ∧ h.2.2.2 28 2 = some 29) (hB : hk_B h.2.1) (hr : hk_ru h.2.1) (hd : 20 ≤ d) (k : ∀ (I : Nat → Nat → Int32) (J : Nat → Nat → Int64), hk_B I → (∀ o, qm_begin29.contains o = false → ∀ i, I o i = h.2.1 o i) → jC0 (h.2.1 29 0) I → Z none (h.1, I, J, h.2.2.2)) : qm_Ru (some (L, xs)) d cd_12 (qm_ent 2 [.ref 51] h) Z := by
  refine ((hs_begin29 (Z := fun r h2 => ∃ (I : Nat → Nat → Int32) (J : Nat → Nat → Int64), r = none ∧ h2 = (h.1, I, J, h.2.2.2) ∧ hk_B I ∧ ∀ o, qm_begin29.contains o = false → ∀ i, I o i = h.2.1 o i) h6 hH hT hB hr hd (fun I J b e => ⟨I, J, rfl, rfl, b, e⟩)).both (Q2 := fun r h2 => ∃ I : Nat → Nat → Int32, h2 = (h.1, I, h.2.2.1, h.2.2.2) ∧ jC0 (h.2.1 29 0) I) (fun fu => px_beg29 hH hT.2 rfl (hB 29 0) (fun I a => ⟨I, rfl, a⟩))).mono (fun r h2 z => ?_)
  obtain ⟨⟨I, J, rfl, rfl, b, e⟩, I2, e2, q⟩ := z
  have e3 : I = I2 := congrArg (fun p : qm_H => p.2.1) e2
  subst e3
  exact k I J b e q
theorem hs_bg111 {L : Nat} {xs : Nat → Int32} {Z : Option Value → qm_H → Prop} {h : qm_H} {d : Nat} (h6 : 6 ≤ L) (hH : hk_H h) (hT : h.2.2.2 0 9 = some 29 ∧ h.2.2.2 28 2 = some 111) (hB : hk_B h.2.1) (hr : hk_ru h.2.1) (hd : 20 ≤ d) (k : ∀ (I : Nat → Nat → Int32) (J : Nat → Nat → Int64), hk_B I → (∀ o, qm_begin111.contains o = false → ∀ i, I o i = h.2.1 o i) → jC0 (h.2.1 111 0) I → Z none (h.1, I, J, h.2.2.2)) : qm_Ru (some (L, xs)) d cd_12 (qm_ent 2 [.ref 51] h) Z := by
  refine ((hs_begin111 (Z := fun r h2 => ∃ (I : Nat → Nat → Int32) (J : Nat → Nat → Int64), r = none ∧ h2 = (h.1, I, J, h.2.2.2) ∧ hk_B I ∧ ∀ o, qm_begin111.contains o = false → ∀ i, I o i = h.2.1 o i) h6 hH hT hB hr hd (fun I J b e => ⟨I, J, rfl, rfl, b, e⟩)).both (Q2 := fun r h2 => ∃ I : Nat → Nat → Int32, h2 = (h.1, I, h.2.2.1, h.2.2.2) ∧ jC0 (h.2.1 111 0) I) (fun fu => px_beg111 hH hT.2 rfl (hB 111 0) (fun I a => ⟨I, rfl, a⟩))).mono (fun r h2 z => ?_)
  obtain ⟨⟨I, J, rfl, rfl, b, e⟩, I2, e2, q⟩ := z
  have e3 : I = I2 := congrArg (fun p : qm_H => p.2.1) e2
  subst e3
  exact k I J b e q
theorem qRt29_c1 {h h' : qm_H} {n v : Int32} {I : Nat → Nat → Int32} (q : qRt29 h n (some (.int v)) h') (hv : v.toInt ≠ 0) : cRes 29 (h.2.1 2) n.toInt.toNat v I := by
  obtain ⟨f, sa, lfv, lpv, bv, liv, trv, bev, ltv, prv, plv, e, q1, q2, q3, q4, q5, q6, q7, q8, q9, q10, hr⟩ := q
  cases e
  exact ⟨_, _, _, _, _, _, _, _, _, _, _, hr, Or.inl ⟨hv, rfl⟩⟩
theorem qRt29_c0 {h h' : qm_H} {n v : Int32} {I : Nat → Nat → Int32} (q : qRt29 h n (some (.int v)) h') (hv : v.toInt = 0) (e12 : I 3 12 = h'.2.1 3 12) (ec : ∀ i, i < 8 → I 29 i = h'.2.1 29 i) : cRes 29 (h.2.1 2) n.toInt.toNat (I 3 12) I := by
  obtain ⟨f, sa, lfv, lpv, bv, liv, trv, bev, ltv, prv, plv, e, q1, q2, q3, q4, q5, q6, q7, q8, q9, q10, hr⟩ := q
  cases e
  exact ⟨_, _, _, _, _, _, _, _, _, _, _, hr, Or.inr ⟨hv, by rw [e12, q2], by rw [ec 0 (by decide), q4], by rw [ec 1 (by decide), q5], by rw [ec 2 (by decide), q6], by rw [ec 3 (by decide), q7], by rw [ec 4 (by decide), q8], by rw [ec 6 (by decide), q9], by rw [ec 7 (by decide), q10]⟩⟩
theorem qRt111_c1 {h h' : qm_H} {n v : Int32} {I : Nat → Nat → Int32} (q : qRt111 h n (some (.int v)) h') (hv : v.toInt ≠ 0) : cRes 111 (h.2.1 2) n.toInt.toNat v I := by
  obtain ⟨f, sa, lfv, lpv, bv, liv, trv, bev, ltv, prv, plv, e, q1, q2, q3, q4, q5, q6, q7, q8, q9, q10, hr⟩ := q
  cases e
  exact ⟨_, _, _, _, _, _, _, _, _, _, _, hr, Or.inl ⟨hv, rfl⟩⟩
theorem qRt111_c0 {h h' : qm_H} {n v : Int32} {I : Nat → Nat → Int32} (q : qRt111 h n (some (.int v)) h') (hv : v.toInt = 0) (e12 : I 3 12 = h'.2.1 3 12) (ec : ∀ i, i < 8 → I 111 i = h'.2.1 111 i) : cRes 111 (h.2.1 2) n.toInt.toNat (I 3 12) I := by
  obtain ⟨f, sa, lfv, lpv, bv, liv, trv, bev, ltv, prv, plv, e, q1, q2, q3, q4, q5, q6, q7, q8, q9, q10, hr⟩ := q
  cases e
  exact ⟨_, _, _, _, _, _, _, _, _, _, _, hr, Or.inr ⟨hv, by rw [e12, q2], by rw [ec 0 (by decide), q4], by rw [ec 1 (by decide), q5], by rw [ec 2 (by decide), q6], by rw [ec 3 (by decide), q7], by rw [ec 4 (by decide), q8], by rw [ec 6 (by decide), q9], by rw [ec 7 (by decide), q10]⟩⟩
theorem hl_stb4 {X : Option (Nat × (Nat → Int32))} {d : Nat} {Z : Option Value → qm_H → Prop} {h : qm_H} (hH : hk_H h) (hB : hk_B h.2.1) {x0 : Int32} (k1 : (∃ c : Nat, x0.toInt ≤ (c : Int) ∧ c < 5 ∧ 0 < (h.2.1 37 c).toInt) → Z (some (.int 1)) h) (k0 : (∀ c : Nat, x0.toInt ≤ (c : Int) → c < 5 → ¬ 0 < (h.2.1 37 c).toInt) → Z (some (.int 0)) h) : ∀ (m : Nat) (q : Int32), (2 ≤ q.toInt ∧ q.toInt ≤ 5) → (∀ c : Nat, x0.toInt ≤ (c : Int) → (c : Int) < q.toInt → ¬ 0 < (h.2.1 37 c).toInt) → x0.toInt ≤ q.toInt → (5 - q.toInt).toNat = m → qm_Ru X d cd_62 (2, [.ref 28, .int x0, .int q], [], h) Z := by
  intro m
  induction m using Nat.strongRecOn with
  | ind m ih =>
    intro q b_q hn hx hm
    refine qm_Ru.go 2 (c' := (4, [.ref 28, .int x0, .int q], [.int 5, .int q], h)) rfl ?_
    refine hk_cge (ix := q.toInt) (iy := 5) rfl rfl rfl (fun z1 => ?_) (fun z1 => ?_)
    · refine qm_Ru.go 1 (c' := (25, [.ref 28, .int x0, .int q], [.int 0], h)) rfl ?_
      refine qm_Ru.rt (v := (some (.int 0))) (h' := h) rfl ?_
      exact k0 (fun c c1 c2 => hn c c1 (by omega))
    · refine qm_Ru.go 1 (c' := (8, [.ref 28, .int x0, .int q], [.ref 28], h)) rfl ?_
      refine hk_getr rfl (hH.1 28 (9, 8) rfl) rfl (hH.2 28 7 (some 37) rfl) ?_
      refine qm_Ru.go 1 (c' := (12, [.ref 28, .int x0, .int q], [.int q, .ref 37], h)) rfl ?_
      obtain ⟨v2, q_v2⟩ : ∃ v_, h.2.1 37 (q.toInt.toNat) = v_ := ⟨_, rfl⟩
      refine hk_ial (v := v2) rfl (hH.1 37 (0, 5) rfl) (by omega) (by omega) q_v2 ?_
      refine qm_Ru.go 0 (c' := (13, [.ref 28, .int x0, .int q], [.int v2], h)) rfl ?_
      refine hk_zle (ix := v2.toInt) rfl rfl (fun z3 => ?_) (fun z3 => ?_)
      · refine qm_Ru.go 1 (c' := (21, [.ref 28, .int x0, .int (q + 1)], [], h)) rfl ?_
        obtain ⟨v4, q_v4, e_v4⟩ := hk_add (x := q) (y := 1) (a := q.toInt) (b := 1) rfl rfl (by omega) (by omega)
        rw [q_v4]
        refine qm_Ru.go 1 (c' := (2, [.ref 28, .int x0, .int v4], [], h)) rfl ?_
        exact ih _ (by omega) v4 (by omega) (fun c c1 c2 => by
          by_cases e : (c : Int) < q.toInt
          · exact hn c c1 e
          · rw [show c = q.toInt.toNat by omega, q_v2]
            omega) (by omega) rfl
      · refine qm_Ru.go 1 (c' := (17, [.ref 28, .int x0, .int q], [.int 1], h)) rfl ?_
        refine qm_Ru.rt (v := (some (.int 1))) (h' := h) rfl ?_
        exact k1 ⟨q.toInt.toNat, by omega, by omega, by rw [q_v2]; omega⟩
theorem hs_stb4 {X : Option (Nat × (Nat → Int32))} {d : Nat} {Z : Option Value → qm_H → Prop} {h : qm_H} (hH : hk_H h) (hB : hk_B h.2.1) {x0 : Int32} (hx0 : qa_in (2, 5) x0) (k1 : (∃ c : Nat, x0.toInt ≤ (c : Int) ∧ c < 5 ∧ 0 < (h.2.1 37 c).toInt) → Z (some (.int 1)) h) (k0 : (∀ c : Nat, x0.toInt ≤ (c : Int) → c < 5 → ¬ 0 < (h.2.1 37 c).toInt) → Z (some (.int 0)) h) : qm_Ru X d cd_62 (qm_ent 3 [.ref 28, .int x0] h) Z := by
  have b0 : 2 ≤ x0.toInt ∧ x0.toInt ≤ 5 := hx0
  refine qm_Ru.go 2 (c' := (2, [.ref 28, .int x0, .int x0], [], h)) rfl ?_
  exact hl_stb4 hH hB k1 k0 _ x0 b0 (fun c c1 c2 => by omega) (by omega) rfl
/-- jobs and cranes of the class are not touched -/
noncomputable def cJ1 (h h' : qm_H) : Prop := ∀ o ∈ [51, 93, 94, 95, 96, 97], ∀ i, h'.2.1 o i = h.2.1 o i
/-- behind the class's read when the text is not taken: v is what the parse said, w the answer -/
noncomputable def aK1 (t1 t2 : Nat) (v : Int32) (h h' : qm_H) (w : Int32) : Prop := (∀ i, h'.2.1 t1 i = h.2.1 t1 i) ∧ ((v.toInt ≠ 0 ∧ w = v) ∨ (v.toInt = 0 ∧ w.toInt = -3 ∧ ∃ c : Nat, (h.2.1 t2 0).toInt ≤ (c : Int) ∧ c < 5 ∧ 0 < (h.2.1 37 c).toInt))
noncomputable def aK2 (t2 : Nat) (v : Int32) (h h' : qm_H) (w : Int32) : Prop := (∀ i, h'.2.1 t2 i = h.2.1 t2 i) ∧ v.toInt = 0 ∧ w.toInt = 0 ∧ ∀ c : Nat, (h.2.1 t2 0).toInt ≤ (c : Int) → c < 5 → ¬ 0 < (h.2.1 37 c).toInt
noncomputable def cO1 (t1 : Nat) (h h' : qm_H) (w : Int32) : Prop := (∀ i, h'.2.1 t1 i = h.2.1 t1 i) ∧ w.toInt ≠ 0 ∧ ∃ f fp lf lp b li tr be lt pr pl : Int, tRes (h.2.1 2) (h.2.1 1 1).toInt.toNat f fp lf lp b li tr be lt pr pl ∧ ((f ≠ 0 ∧ w.toInt = f) ∨ (f = 0 ∧ lf ≠ 0 ∧ w.toInt = lf) ∨ (f = 0 ∧ lf = 0 ∧ w.toInt = -3 ∧ ∃ c : Nat, b ≤ (c : Int) ∧ c < 5 ∧ 0 < (h.2.1 37 c).toInt))
noncomputable def cO2 (t2 : Nat) (h h' : qm_H) (w : Int32) : Prop := w.toInt = 0 ∧ ∃ f fp lf lp b li tr be lt pr pl : Int, tRes (h.2.1 2) (h.2.1 1 1).toInt.toNat f fp lf lp b li tr be lt pr pl ∧ f = 0 ∧ lf = 0 ∧ ((h'.2.1 t2 0).toInt = b ∧ (h'.2.1 t2 1).toInt = li ∧ (h'.2.1 t2 2).toInt = tr ∧ (h'.2.1 t2 3).toInt = be ∧ (h'.2.1 t2 4).toInt = lt ∧ (h'.2.1 t2 6).toInt = pr ∧ (h'.2.1 t2 7).toInt = pl) ∧ ∀ c : Nat, b ≤ (c : Int) → c < 5 → ¬ 0 < (h.2.1 37 c).toInt
theorem cO1_of {t1 t2 : Nat} {v w : Int32} {h h1 h2 : qm_H} (c : cRes t2 (h.2.1 2) (h.2.1 1 1).toInt.toNat v h1.2.1) (F1 : ∀ i, h1.2.1 t1 i = h.2.1 t1 i) (F37 : ∀ i, h1.2.1 37 i = h.2.1 37 i) (a : aK1 t1 t2 v h1 h2 w) : cO1 t1 h h2 w := by
  obtain ⟨f, fp, lf, lp, b, li, tr, be, lt, pr, pl, hr, q⟩ := c
  obtain ⟨a1, a2⟩ := a
  rcases a2 with ⟨z1, z2⟩ | ⟨z1, z2, c, z3, z4, z5⟩
  · subst z2
    refine ⟨fun i => (a1 i).trans (F1 i), z1, f, fp, lf, lp, b, li, tr, be, lt, pr, pl, hr, ?_⟩
    rcases q with ⟨q1, q2⟩ | ⟨q1, q2, -⟩
    · exact Or.inl ⟨q1, q2⟩
    · exact Or.inr (Or.inl ⟨q1, by omega, q2⟩)
  · refine ⟨fun i => (a1 i).trans (F1 i), by omega, f, fp, lf, lp, b, li, tr, be, lt, pr, pl, hr, ?_⟩
    rcases q with ⟨q1, q2⟩ | ⟨q1, q2, q3, -⟩
    · omega
    · rw [F37] at z5
      exact Or.inr (Or.inr ⟨q1, by omega, z2, c, by omega, z4, z5⟩)
theorem cO2_of {t2 : Nat} {v w : Int32} {h h1 h2 : qm_H} (c : cRes t2 (h.2.1 2) (h.2.1 1 1).toInt.toNat v h1.2.1) (F37 : ∀ i, h1.2.1 37 i = h.2.1 37 i) (a : aK2 t2 v h1 h2 w) : cO2 t2 h h2 w := by
  obtain ⟨f, fp, lf, lp, b, li, tr, be, lt, pr, pl, hr, q⟩ := c
  obtain ⟨a1, a2, a3, a4⟩ := a
  rcases q with ⟨q1, q2⟩ | ⟨q1, q2, q3, q4, q5, q6, q7, q8, q9⟩
  · omega
  · refine ⟨a3, f, fp, lf, lp, b, li, tr, be, lt, pr, pl, hr, q1, by omega, ⟨by rw [a1]; exact q3, by rw [a1]; exact q4, by rw [a1]; exact q5, by rw [a1]; exact q6, by rw [a1]; exact q7, by rw [a1]; exact q8, by rw [a1]; exact q9⟩, fun c c1 c2 => ?_⟩
    rw [← F37]
    exact a4 c (by omega) c2

theorem hp_parse29 {L : Nat} {xs : Nat → Int32} {d : Nat} {Z : Option Value → qm_H → Prop} {h : qm_H} (h6 : 6 ≤ L) (hH : hk_H h) (hB : hk_B h.2.1) (hr : hk_ru h.2.1) (hw : wI h) (hR3 : h.2.2.2 3 3 = some 29) (c_bv : h.2.1 29 0 = 3) (c_liv : h.2.1 29 1 = 9999) (c_trv : h.2.1 29 2 = 9999) (c_bev : h.2.1 29 3 = 9999) (c_ltv : h.2.1 29 4 = 99) (c_prv : h.2.1 29 6 = 0) (c_plv : h.2.1 29 7 = 0) (k : ∀ (v : Int32) (h' : qm_H), pS 29 [1, 3, 4, 5, 29, 30, 31, 32, 33, 34, 35] h h' → cRes 29 (h.2.1 2) (h.2.1 1 1).toInt.toNat v h'.2.1 → Z (some (.int v)) h') : qm_Ru (some (L, xs)) (d + 30) cd_19 (9, [.ref 3, .ref 29, .float 0], [], h) Z := by
  refine qm_Ru.go 2 (c' := (11, [.ref 3, .ref 29, .float 0], [.int 0, .ref 3], h)) rfl ?_
  refine hk_puti rfl (hH.1 3 (8, 14) rfl) rfl ?_
  refine qm_Ru.go 2 (c' := (16, [.ref 3, .ref 29, .float 0], [.int 0, .ref 3], (h.1, qm_up h.2.1 3 5 0, h.2.2.1, h.2.2.2))) rfl ?_
  refine hk_puti rfl (hH.1 3 (8, 14) rfl) rfl ?_
  refine qm_Ru.go 2 (c' := (21, [.ref 3, .ref 29, .float 0], [.int 0, .ref 3], (h.1, qm_up (qm_up h.2.1 3 5 0) 3 8 0, h.2.2.1, h.2.2.2))) rfl ?_
  refine hk_puti rfl (hH.1 3 (8, 14) rfl) rfl ?_
  refine qm_Ru.go 2 (c' := (26, [.ref 3, .ref 29, .float 0], [.int 0, .ref 3], (h.1, qm_up (qm_up (qm_up h.2.1 3 5 0) 3 8 0) 3 10 0, h.2.2.1, h.2.2.2))) rfl ?_
  refine hk_puti rfl (hH.1 3 (8, 14) rfl) rfl ?_
  refine qm_Ru.go 2 (c' := (31, [.ref 3, .ref 29, .float 0], [.int 0, .ref 3], (h.1, qm_up (qm_up (qm_up (qm_up h.2.1 3 5 0) 3 8 0) 3 10 0) 3 11 0, h.2.2.1, h.2.2.2))) rfl ?_
  refine hk_puti rfl (hH.1 3 (8, 14) rfl) rfl ?_
  refine qm_Ru.go 2 (c' := (36, [.ref 3, .ref 29, .float 0], [.int (-1), .ref 3], (h.1, qm_up (qm_up (qm_up (qm_up (qm_up h.2.1 3 5 0) 3 8 0) 3 10 0) 3 11 0) 3 12 0, h.2.2.1, h.2.2.2))) rfl ?_
  refine hk_puti rfl (hH.1 3 (8, 14) rfl) rfl ?_
  refine qm_Ru.go 1 (c' := (40, [.ref 3, .ref 29, .float 0], [.ref 3], (h.1, qm_up (qm_up (qm_up (qm_up (qm_up (qm_up h.2.1 3 5 0) 3 8 0) 3 10 0) 3 11 0) 3 12 0) 3 13 (-1), h.2.2.1, h.2.2.2))) rfl ?_
  refine hk_getr rfl (hH.1 3 (8, 14) rfl) rfl (hH.2 3 0 (some 1) rfl) ?_
  refine qm_Ru.go 1 (c' := (44, [.ref 3, .ref 29, .float 0], [.int 0, .ref 1], (h.1, qm_up (qm_up (qm_up (qm_up (qm_up (qm_up h.2.1 3 5 0) 3 8 0) 3 10 0) 3 11 0) 3 12 0) 3 13 (-1), h.2.2.1, h.2.2.2))) rfl ?_
  refine hk_puti rfl (hH.1 1 (12, 7) rfl) rfl ?_
  refine qm_Ru.go 1 (c' := (48, [.ref 3, .ref 29, .float 0], [.ref 3], (h.1, qm_up (qm_up (qm_up (qm_up (qm_up (qm_up (qm_up h.2.1 3 5 0) 3 8 0) 3 10 0) 3 11 0) 3 12 0) 3 13 (-1)) 1 2 0, h.2.2.1, h.2.2.2))) rfl ?_
  have eB : (qm_up (qm_up (qm_up (qm_up (qm_up (qm_up (qm_up h.2.1 3 5 0) 3 8 0) 3 10 0) 3 11 0) 3 12 0) 3 13 (-1)) 1 2 0) 2 = h.2.1 2 := (funext fun i => ((hk_ot rfl).trans ((hk_ot rfl).trans ((hk_ot rfl).trans ((hk_ot rfl).trans ((hk_ot rfl).trans ((hk_ot rfl).trans ((hk_ot rfl).trans rfl))))))))
  refine hk_inv (o := 3) (r := []) (as := [.ref 3]) rfl rfl (hH.1 3 (8, 14) rfl) rfl rfl rfl rfl (hs_rtR29 (h := (h.1, qm_up (qm_up (qm_up (qm_up (qm_up (qm_up (qm_up h.2.1 3 5 0) 3 8 0) 3 10 0) 3 11 0) 3 12 0) 3 13 (-1)) 1 2 0, h.2.2.1, h.2.2.2)) h6 hH hR3 (hb_up (o := 1) (k := 2) (x := 0) (hb_up (o := 3) (k := 13) (x := (-1)) (hb_up (o := 3) (k := 12) (x := 0) (hb_up (o := 3) (k := 11) (x := 0) (hb_up (o := 3) (k := 10) (x := 0) (hb_up (o := 3) (k := 8) (x := 0) (hb_up (o := 3) (k := 5) (x := 0) hB ⟨(show (0 : Int) ≤ 0 from by decide), (show (0 : Int) ≤ 9 from by decide)⟩) (qa_in_full _)) ⟨(show (0 : Int) ≤ 0 from by decide), (show (0 : Int) ≤ 400 from by decide)⟩) ⟨(show (0 : Int) ≤ 0 from by decide), (show (0 : Int) ≤ 16 from by decide)⟩) (qa_in_full _)) (qa_in_full _)) ⟨(show (0 : Int) ≤ 0 from by decide), (show (0 : Int) ≤ 2000 from by decide)⟩) (hk_ru_up (hk_ru_up (hk_ru_up (hk_ru_up (hk_ru_up (hk_ru_up (hk_ru_up hr rfl) rfl) rfl) rfl) rfl) rfl) rfl) (show (qm_up (qm_up (qm_up (qm_up (qm_up (qm_up (qm_up h.2.1 3 5 0) 3 8 0) 3 10 0) 3 11 0) 3 12 0) 3 13 (-1)) 1 2 0) 3 5 = 0 from ((hk_ot rfl).trans ((hk_neq (by decide)).trans ((hk_neq (by decide)).trans ((hk_neq (by decide)).trans ((hk_neq (by decide)).trans ((hk_neq (by decide)).trans (hk_same)))))))) (by omega) (n := h.2.1 1 1) (show (qm_up (qm_up (qm_up (qm_up (qm_up (qm_up (qm_up h.2.1 3 5 0) 3 8 0) 3 10 0) 3 11 0) 3 12 0) 3 13 (-1)) 1 2 0) 1 1 = h.2.1 1 1 from ((hk_neq (by decide)).trans ((hk_ot rfl).trans ((hk_ot rfl).trans ((hk_ot rfl).trans ((hk_ot rfl).trans ((hk_ot rfl).trans ((hk_ot rfl).trans rfl)))))))) (show (qm_up (qm_up (qm_up (qm_up (qm_up (qm_up (qm_up h.2.1 3 5 0) 3 8 0) 3 10 0) 3 11 0) 3 12 0) 3 13 (-1)) 1 2 0) 1 2 = 0 from (hk_same)) (show (qm_up (qm_up (qm_up (qm_up (qm_up (qm_up (qm_up h.2.1 3 5 0) 3 8 0) 3 10 0) 3 11 0) 3 12 0) 3 13 (-1)) 1 2 0) 3 5 = 0 from ((hk_ot rfl).trans ((hk_neq (by decide)).trans ((hk_neq (by decide)).trans ((hk_neq (by decide)).trans ((hk_neq (by decide)).trans ((hk_neq (by decide)).trans (hk_same)))))))) (show (qm_up (qm_up (qm_up (qm_up (qm_up (qm_up (qm_up h.2.1 3 5 0) 3 8 0) 3 10 0) 3 11 0) 3 12 0) 3 13 (-1)) 1 2 0) 3 8 = 0 from ((hk_ot rfl).trans ((hk_neq (by decide)).trans ((hk_neq (by decide)).trans ((hk_neq (by decide)).trans ((hk_neq (by decide)).trans (hk_same))))))) (show (qm_up (qm_up (qm_up (qm_up (qm_up (qm_up (qm_up h.2.1 3 5 0) 3 8 0) 3 10 0) 3 11 0) 3 12 0) 3 13 (-1)) 1 2 0) 3 11 = 0 from ((hk_ot rfl).trans ((hk_neq (by decide)).trans ((hk_neq (by decide)).trans (hk_same))))) (show (qm_up (qm_up (qm_up (qm_up (qm_up (qm_up (qm_up h.2.1 3 5 0) 3 8 0) 3 10 0) 3 11 0) 3 12 0) 3 13 (-1)) 1 2 0) 3 12 = 0 from ((hk_ot rfl).trans ((hk_neq (by decide)).trans (hk_same)))) (show (qm_up (qm_up (qm_up (qm_up (qm_up (qm_up (qm_up h.2.1 3 5 0) 3 8 0) 3 10 0) 3 11 0) 3 12 0) 3 13 (-1)) 1 2 0) 3 13 = -1 from ((hk_ot rfl).trans (hk_same))) (show (qm_up (qm_up (qm_up (qm_up (qm_up (qm_up (qm_up h.2.1 3 5 0) 3 8 0) 3 10 0) 3 11 0) 3 12 0) 3 13 (-1)) 1 2 0) 29 0 = 3 from ((hk_ot rfl).trans ((hk_ot rfl).trans ((hk_ot rfl).trans ((hk_ot rfl).trans ((hk_ot rfl).trans ((hk_ot rfl).trans ((hk_ot rfl).trans c_bv)))))))) (show (qm_up (qm_up (qm_up (qm_up (qm_up (qm_up (qm_up h.2.1 3 5 0) 3 8 0) 3 10 0) 3 11 0) 3 12 0) 3 13 (-1)) 1 2 0) 29 1 = 9999 from ((hk_ot rfl).trans ((hk_ot rfl).trans ((hk_ot rfl).trans ((hk_ot rfl).trans ((hk_ot rfl).trans ((hk_ot rfl).trans ((hk_ot rfl).trans c_liv)))))))) (show (qm_up (qm_up (qm_up (qm_up (qm_up (qm_up (qm_up h.2.1 3 5 0) 3 8 0) 3 10 0) 3 11 0) 3 12 0) 3 13 (-1)) 1 2 0) 29 2 = 9999 from ((hk_ot rfl).trans ((hk_ot rfl).trans ((hk_ot rfl).trans ((hk_ot rfl).trans ((hk_ot rfl).trans ((hk_ot rfl).trans ((hk_ot rfl).trans c_trv)))))))) (show (qm_up (qm_up (qm_up (qm_up (qm_up (qm_up (qm_up h.2.1 3 5 0) 3 8 0) 3 10 0) 3 11 0) 3 12 0) 3 13 (-1)) 1 2 0) 29 3 = 9999 from ((hk_ot rfl).trans ((hk_ot rfl).trans ((hk_ot rfl).trans ((hk_ot rfl).trans ((hk_ot rfl).trans ((hk_ot rfl).trans ((hk_ot rfl).trans c_bev)))))))) (show (qm_up (qm_up (qm_up (qm_up (qm_up (qm_up (qm_up h.2.1 3 5 0) 3 8 0) 3 10 0) 3 11 0) 3 12 0) 3 13 (-1)) 1 2 0) 29 4 = 99 from ((hk_ot rfl).trans ((hk_ot rfl).trans ((hk_ot rfl).trans ((hk_ot rfl).trans ((hk_ot rfl).trans ((hk_ot rfl).trans ((hk_ot rfl).trans c_ltv)))))))) (show (qm_up (qm_up (qm_up (qm_up (qm_up (qm_up (qm_up h.2.1 3 5 0) 3 8 0) 3 10 0) 3 11 0) 3 12 0) 3 13 (-1)) 1 2 0) 29 6 = 0 from ((hk_ot rfl).trans ((hk_ot rfl).trans ((hk_ot rfl).trans ((hk_ot rfl).trans ((hk_ot rfl).trans ((hk_ot rfl).trans ((hk_ot rfl).trans c_prv)))))))) (show (qm_up (qm_up (qm_up (qm_up (qm_up (qm_up (qm_up h.2.1 3 5 0) 3 8 0) 3 10 0) 3 11 0) 3 12 0) 3 13 (-1)) 1 2 0) 29 7 = 0 from ((hk_ot rfl).trans ((hk_ot rfl).trans ((hk_ot rfl).trans ((hk_ot rfl).trans ((hk_ot rfl).trans ((hk_ot rfl).trans ((hk_ot rfl).trans c_plv)))))))) (fun v3 I1 J2 b_v3 hB_I1 e_I1 hq => ?_))
  have b_v3 : (0 : Int) ≤ v3.toInt ∧ v3.toInt ≤ 2 := b_v3
  refine qm_Ru.go 3 (c' := (54, [.ref 3, .ref 29, .int v3], [.int v3, .ref 3], (h.1, I1, J2, h.2.2.2))) rfl ?_
  refine hk_zne (ix := v3.toInt) rfl rfl (fun z4 => ?_) (fun z4 => ?_)
  · refine qm_Ru.go 1 (c' := (65, [.ref 3, .ref 29, .int v3], [.ref 3, .ref 3], (h.1, I1, J2, h.2.2.2))) rfl ?_
    refine hk_getr rfl (hH.1 3 (8, 14) rfl) rfl (hH.2 3 0 (some 1) rfl) ?_
    refine qm_Ru.go 0 (c' := (68, [.ref 3, .ref 29, .int v3], [.ref 1, .ref 3], (h.1, I1, J2, h.2.2.2))) rfl ?_
    obtain ⟨v5, q_v5⟩ : ∃ v_, I1 1 4 = v_ := ⟨_, rfl⟩
    have b_v5 : (0 : Int) ≤ v5.toInt ∧ v5.toInt ≤ 2000 := by rw [← q_v5]; exact hB_I1 1 4
    refine hk_geti (v := v5) rfl (hH.1 1 (12, 7) rfl) rfl q_v5 ?_
    refine qm_Ru.go 0 (c' := (71, [.ref 3, .ref 29, .int v3], [.int v5, .ref 3], (h.1, I1, J2, h.2.2.2))) rfl ?_
    refine hk_puti rfl (hH.1 3 (8, 14) rfl) rfl ?_
    refine qm_Ru.go 1 (c' := (75, [.ref 3, .ref 29, .int v3], [.ref 3], (h.1, qm_up I1 3 4 v5, J2, h.2.2.2))) rfl ?_
    refine hk_getr rfl (hH.1 3 (8, 14) rfl) rfl (hH.2 3 0 (some 1) rfl) ?_
    refine qm_Ru.go 1 (c' := (79, [.ref 3, .ref 29, .int v3], [.int 0, .ref 1], (h.1, qm_up I1 3 4 v5, J2, h.2.2.2))) rfl ?_
    refine hk_puti rfl (hH.1 1 (12, 7) rfl) rfl ?_
    refine qm_Ru.go 1 (c' := (83, [.ref 3, .ref 29, .int v3], [.int v3], (h.1, qm_up (qm_up I1 3 4 v5) 1 1 0, J2, h.2.2.2))) rfl ?_
    refine hk_zne (ix := v3.toInt) rfl rfl (fun z6 => ?_) (fun z6 => by exfalso; omega)
    refine qm_Ru.go 1 (c' := (91, [.ref 3, .ref 29, .int v3], [.int v3], (h.1, qm_up (qm_up I1 3 4 v5) 1 1 0, J2, h.2.2.2))) rfl ?_
    refine hk_zne (ix := v3.toInt) rfl rfl (fun z7 => ?_) (fun z7 => by exfalso; omega)
    refine qm_Ru.go 1 (c' := (102, [.ref 3, .ref 29, .int v3], [.int v3], (h.1, qm_up (qm_up I1 3 4 v5) 1 1 0, J2, h.2.2.2))) rfl ?_
    refine qm_Ru.rt (v := (some (.int v3))) (h' := (h.1, qm_up (qm_up I1 3 4 v5) 1 1 0, J2, h.2.2.2)) rfl ?_
    exact k v3 _ ⟨fun _ _ => rfl, fun _ _ _ _ _ => rfl, (fun o ho hn i => (fun o ho i => ((hk_mod ho rfl).trans ((hk_mod ho rfl).trans ((e_I1 o (hk_ms rfl ho) i).trans ((hk_mod ho rfl).trans ((hk_mod ho rfl).trans ((hk_mod ho rfl).trans ((hk_mod ho rfl).trans ((hk_mod ho rfl).trans ((hk_mod ho rfl).trans ((hk_mod ho rfl).trans rfl))))))))))) o hn i), (hb_up (o := 1) (k := 1) (x := 0) (hb_up (o := 3) (k := 4) (x := v5) hB_I1 (qa_in_full _)) ⟨(show (0 : Int) ≤ 0 from by decide), (show (0 : Int) ≤ 2000 from by decide)⟩), wI_same hw rfl rfl, (show (qm_up (qm_up I1 3 4 v5) 1 1 0) 1 1 = 0 from (hk_same)), (show cPl (h.2.1 2) (h.2.1 1 1).toInt.toNat ((qm_up (qm_up I1 3 4 v5) 1 1 0) 3 4) from by rw [show (qm_up (qm_up I1 3 4 v5) 1 1 0) 3 4 = v5 from (show (qm_up (qm_up I1 3 4 v5) 1 1 0) 3 4 = _ from ((hk_ot rfl).trans (hk_same))), ← q_v5, ← eB]; exact qRt29_p1 hq (by omega))⟩ (show cRes 29 (h.2.1 2) (h.2.1 1 1).toInt.toNat v3 (qm_up (qm_up I1 3 4 v5) 1 1 0) from by rw [← eB]; exact qRt29_c1 hq (by omega))
  · refine qm_Ru.go 1 (c' := (58, [.ref 3, .ref 29, .int v3], [.ref 3, .ref 3], (h.1, I1, J2, h.2.2.2))) rfl ?_
    obtain ⟨v8, q_v8⟩ : ∃ v_, I1 3 13 = v_ := ⟨_, rfl⟩
    refine hk_geti (v := v8) rfl (hH.1 3 (8, 14) rfl) rfl q_v8 ?_
    refine qm_Ru.go 1 (c' := (71, [.ref 3, .ref 29, .int v3], [.int v8, .ref 3], (h.1, I1, J2, h.2.2.2))) rfl ?_
    refine hk_puti rfl (hH.1 3 (8, 14) rfl) rfl ?_
    refine qm_Ru.go 1 (c' := (75, [.ref 3, .ref 29, .int v3], [.ref 3], (h.1, qm_up I1 3 4 v8, J2, h.2.2.2))) rfl ?_
    refine hk_getr rfl (hH.1 3 (8, 14) rfl) rfl (hH.2 3 0 (some 1) rfl) ?_
    refine qm_Ru.go 1 (c' := (79, [.ref 3, .ref 29, .int v3], [.int 0, .ref 1], (h.1, qm_up I1 3 4 v8, J2, h.2.2.2))) rfl ?_
    refine hk_puti rfl (hH.1 1 (12, 7) rfl) rfl ?_
    refine qm_Ru.go 1 (c' := (83, [.ref 3, .ref 29, .int v3], [.int v3], (h.1, qm_up (qm_up I1 3 4 v8) 1 1 0, J2, h.2.2.2))) rfl ?_
    refine hk_zne (ix := v3.toInt) rfl rfl (fun z9 => by exfalso; omega) (fun z9 => ?_)
    refine qm_Ru.go 1 (c' := (87, [.ref 3, .ref 29, .int v3], [.ref 29], (h.1, qm_up (qm_up I1 3 4 v8) 1 1 0, J2, h.2.2.2))) rfl ?_
    refine hk_inv (o := 29) (r := []) (as := [.ref 29]) rfl rfl (hH.1 29 (11, 16) rfl) rfl rfl rfl rfl (hs_mr29 (h := (h.1, qm_up (qm_up I1 3 4 v8) 1 1 0, J2, h.2.2.2)) (d := d + 25) hH (hb_up (o := 1) (k := 1) (x := 0) (hb_up (o := 3) (k := 4) (x := v8) hB_I1 (qa_in_full _)) ⟨(show (0 : Int) ≤ 0 from by decide), (show (0 : Int) ≤ 2000 from by decide)⟩) (wI_same hw rfl rfl) (fun h1 m1 => ?_))
    have H1 : hk_H h1 := mS_H (by decide) (h := (h.1, qm_up (qm_up I1 3 4 v8) 1 1 0, J2, h.2.2.2)) hH m1
    refine qm_Ru.go 1 (c' := (91, [.ref 3, .ref 29, .int v3], [.int v3], h1)) rfl ?_
    refine hk_zne (ix := v3.toInt) rfl rfl (fun z => by exfalso; omega) (fun z => ?_)
    refine qm_Ru.go 1 (c' := (95, [.ref 3, .ref 29, .int v3], [.ref 3], h1)) rfl ?_
    refine hk_geti (v := h1.2.1 3 12) rfl (H1.1 3 (8, 14) rfl) rfl rfl ?_
    refine qm_Ru.go 1 (c' := (102, [.ref 3, .ref 29, .int v3], [.int (h1.2.1 3 12)], h1)) rfl ?_
    refine qm_Ru.rt (v := some (.int (h1.2.1 3 12))) (h' := h1) rfl ?_
    exact k _ _ ⟨m1.1, fun o i ho hn _ => m1.2.1 o i ho hn, fun o ho hn i => (m1.2.2.1 o ho (fun e => by subst e; cases hn) i).trans ((fun o ho hn i => (fun o ho i => ((hk_mod ho rfl).trans ((hk_mod ho rfl).trans ((e_I1 o (hk_ms rfl ho) i).trans ((hk_mod ho rfl).trans ((hk_mod ho rfl).trans ((hk_mod ho rfl).trans ((hk_mod ho rfl).trans ((hk_mod ho rfl).trans ((hk_mod ho rfl).trans ((hk_mod ho rfl).trans rfl))))))))))) o hn i) o ho hn i), m1.2.2.2.1, m1.2.2.2.2, (m1.2.2.1 1 (by decide) (by decide) 1).trans (show (qm_up (qm_up I1 3 4 v8) 1 1 0) 1 1 = 0 from (hk_same)), (by rw [m1.2.2.1 3 (by decide) (by decide) 4]; exact (show cPl (h.2.1 2) (h.2.1 1 1).toInt.toNat ((qm_up (qm_up I1 3 4 v8) 1 1 0) 3 4) from by rw [show (qm_up (qm_up I1 3 4 v8) 1 1 0) 3 4 = v8 from (show (qm_up (qm_up I1 3 4 v8) 1 1 0) 3 4 = _ from ((hk_ot rfl).trans (hk_same))), ← q_v8, ← eB]; exact qRt29_p0 hq (by omega)))⟩ (show cRes 29 (h.2.1 2) (h.2.1 1 1).toInt.toNat (h1.2.1 3 12) h1.2.1 from by rw [← eB]; exact qRt29_c0 hq (by omega) ((m1.2.2.1 3 (by decide) (by decide) 12).trans (show (qm_up (qm_up I1 3 4 v8) 1 1 0) 3 12 = I1 3 12 from ((hk_ot rfl).trans ((hk_neq (by decide)).trans rfl)))) (fun i _ => (m1.2.2.1 29 (by decide) (by decide) i).trans (show (qm_up (qm_up I1 3 4 v8) 1 1 0) 29 i = I1 29 i from ((hk_ot rfl).trans ((hk_ot rfl).trans rfl)))))
theorem hs_parse29 {L : Nat} {xs : Nat → Int32} {d : Nat} {Z : Option Value → qm_H → Prop} {h : qm_H} (h6 : 6 ≤ L) (hH : hk_H h) (hB : hk_B h.2.1) (hr : hk_ru h.2.1) (hw : wI h) (k : ∀ (v : Int32) (h' : qm_H), pS 29 [1, 3, 4, 5, 29, 30, 31, 32, 33, 34, 35] h h' → cRes 29 (h.2.1 2) (h.2.1 1 1).toInt.toNat v h'.2.1 → Z (some (.int v)) h') : qm_Ru (some (L, xs)) (d + 30) cd_19 (qm_ent 3 [.ref 3, .ref 29] h) Z := by
  show qm_Ru (some (L, xs)) (d + 30) cd_19 (0, [.ref 3, .ref 29, .float 0], [], h) Z
  refine qm_Ru.go 1 (c' := (1, [.ref 3, .ref 29, .float 0], [.ref 29], h)) rfl ?_
  refine hk_inv (o := 29) (r := []) (as := [.ref 29]) rfl rfl (hH.1 29 (11, 16) rfl) rfl rfl rfl rfl ?_
  refine qm_Ru.go 2 (c' := (2, [.ref 29], [.int 3, .ref 29], h)) rfl ?_
  refine hk_puti rfl (hH.1 29 (11, 16) rfl) rfl ?_
  refine qm_Ru.go 2 (c' := (9, [.ref 29], [.int 9999, .ref 29], (h.1, qm_up h.2.1 29 0 3, h.2.2.1, h.2.2.2))) rfl ?_
  refine hk_puti rfl (hH.1 29 (11, 16) rfl) rfl ?_
  refine qm_Ru.go 2 (c' := (16, [.ref 29], [.int 9999, .ref 29], (h.1, qm_up (qm_up h.2.1 29 0 3) 29 1 9999, h.2.2.1, h.2.2.2))) rfl ?_
  refine hk_puti rfl (hH.1 29 (11, 16) rfl) rfl ?_
  refine qm_Ru.go 2 (c' := (23, [.ref 29], [.int 9999, .ref 29], (h.1, qm_up (qm_up (qm_up h.2.1 29 0 3) 29 1 9999) 29 2 9999, h.2.2.1, h.2.2.2))) rfl ?_
  refine hk_puti rfl (hH.1 29 (11, 16) rfl) rfl ?_
  refine qm_Ru.go 2 (c' := (29, [.ref 29], [.int 99, .ref 29], (h.1, qm_up (qm_up (qm_up (qm_up h.2.1 29 0 3) 29 1 9999) 29 2 9999) 29 3 9999, h.2.2.1, h.2.2.2))) rfl ?_
  refine hk_puti rfl (hH.1 29 (11, 16) rfl) rfl ?_
  refine qm_Ru.go 2 (c' := (34, [.ref 29], [.int 0, .ref 29], (h.1, qm_up (qm_up (qm_up (qm_up (qm_up h.2.1 29 0 3) 29 1 9999) 29 2 9999) 29 3 9999) 29 4 99, h.2.2.1, h.2.2.2))) rfl ?_
  refine hk_puti rfl (hH.1 29 (11, 16) rfl) rfl ?_
  refine qm_Ru.go 2 (c' := (39, [.ref 29], [.int 0, .ref 29], (h.1, qm_up (qm_up (qm_up (qm_up (qm_up (qm_up h.2.1 29 0 3) 29 1 9999) 29 2 9999) 29 3 9999) 29 4 99) 29 5 0, h.2.2.1, h.2.2.2))) rfl ?_
  refine hk_puti rfl (hH.1 29 (11, 16) rfl) rfl ?_
  refine qm_Ru.go 2 (c' := (44, [.ref 29], [.int 0, .ref 29], (h.1, qm_up (qm_up (qm_up (qm_up (qm_up (qm_up (qm_up h.2.1 29 0 3) 29 1 9999) 29 2 9999) 29 3 9999) 29 4 99) 29 5 0) 29 6 0, h.2.2.1, h.2.2.2))) rfl ?_
  refine hk_puti rfl (hH.1 29 (11, 16) rfl) rfl ?_
  refine qm_Ru.go 2 (c' := (49, [.ref 29], [.int 0, .ref 29], (h.1, qm_up (qm_up (qm_up (qm_up (qm_up (qm_up (qm_up (qm_up h.2.1 29 0 3) 29 1 9999) 29 2 9999) 29 3 9999) 29 4 99) 29 5 0) 29 6 0) 29 7 0, h.2.2.1, h.2.2.2))) rfl ?_
  refine hk_puti rfl (hH.1 29 (11, 16) rfl) rfl ?_
  refine qm_Ru.go 0 (c' := (52, [.ref 29], [], (h.1, qm_up (qm_up (qm_up (qm_up (qm_up (qm_up (qm_up (qm_up (qm_up h.2.1 29 0 3) 29 1 9999) 29 2 9999) 29 3 9999) 29 4 99) 29 5 0) 29 6 0) 29 7 0) 29 14 0, h.2.2.1, h.2.2.2))) rfl ?_
  refine qm_Ru.rt (v := none) (h' := (h.1, qm_up (qm_up (qm_up (qm_up (qm_up (qm_up (qm_up (qm_up (qm_up h.2.1 29 0 3) 29 1 9999) 29 2 9999) 29 3 9999) 29 4 99) 29 5 0) 29 6 0) 29 7 0) 29 14 0, h.2.2.1, h.2.2.2)) rfl ?_
  refine qm_Ru.go 2 (c' := (6, [.ref 3, .ref 29, .float 0], [.ref 29, .ref 3], (h.1, qm_up (qm_up (qm_up (qm_up (qm_up (qm_up (qm_up (qm_up (qm_up h.2.1 29 0 3) 29 1 9999) 29 2 9999) 29 3 9999) 29 4 99) 29 5 0) 29 6 0) 29 7 0) 29 14 0, h.2.2.1, h.2.2.2))) rfl ?_
  refine hk_putr rfl (hH.1 3 (8, 14) rfl) rfl ?_
  have n33 : ∀ o i, ¬ (o = 3 ∧ i = 3) → (qm_up h.2.2.2 3 3 (some 29)) o i = h.2.2.2 o i := fun o i hn => wr_ne hn
  refine hp_parse29 (h := (h.1, qm_up (qm_up (qm_up (qm_up (qm_up (qm_up (qm_up (qm_up (qm_up h.2.1 29 0 3) 29 1 9999) 29 2 9999) 29 3 9999) 29 4 99) 29 5 0) 29 6 0) 29 7 0) 29 14 0, h.2.2.1, qm_up h.2.2.2 3 3 (some 29))) h6 (hk_H_of hH (fun _ _ => rfl) (fun o i _ hn => n33 o i (fun z => by obtain ⟨rfl, rfl⟩ := z; exact hn rfl))) (hb_up (o := 29) (k := 14) (x := 0) (hb_up (o := 29) (k := 7) (x := 0) (hb_up (o := 29) (k := 6) (x := 0) (hb_up (o := 29) (k := 5) (x := 0) (hb_up (o := 29) (k := 4) (x := 99) (hb_up (o := 29) (k := 3) (x := 9999) (hb_up (o := 29) (k := 2) (x := 9999) (hb_up (o := 29) (k := 1) (x := 9999) (hb_up (o := 29) (k := 0) (x := 3) hB ⟨(show (2 : Int) ≤ 3 from by decide), (show (3 : Int) ≤ 5 from by decide)⟩) (qa_in_full _)) (qa_in_full _)) (qa_in_full _)) (qa_in_full _)) (qa_in_full _)) ⟨(show (0 : Int) ≤ 0 from by decide), (show (0 : Int) ≤ 8 from by decide)⟩) ⟨(show (0 : Int) ≤ 0 from by decide), (show (0 : Int) ≤ 8 from by decide)⟩) ⟨(show (0 : Int) ≤ 0 from by decide), (show (0 : Int) ≤ 400 from by decide)⟩) (hk_ru_up (hk_ru_up (hk_ru_up (hk_ru_up (hk_ru_up (hk_ru_up (hk_ru_up (hk_ru_up (hk_ru_up hr rfl) rfl) rfl) rfl) rfl) rfl) rfl) rfl) rfl) (wI_refs hw rfl (fun o i ho => n33 o i (by omega))) (show (qm_up h.2.2.2 3 3 (some 29)) 3 3 = some 29 from wr_eq) (show (qm_up (qm_up (qm_up (qm_up (qm_up (qm_up (qm_up (qm_up (qm_up h.2.1 29 0 3) 29 1 9999) 29 2 9999) 29 3 9999) 29 4 99) 29 5 0) 29 6 0) 29 7 0) 29 14 0) 29 0 = 3 from ((hk_neq (by decide)).trans ((hk_neq (by decide)).trans ((hk_neq (by decide)).trans ((hk_neq (by decide)).trans ((hk_neq (by decide)).trans ((hk_neq (by decide)).trans ((hk_neq (by decide)).trans ((hk_neq (by decide)).trans (hk_same)))))))))) (show (qm_up (qm_up (qm_up (qm_up (qm_up (qm_up (qm_up (qm_up (qm_up h.2.1 29 0 3) 29 1 9999) 29 2 9999) 29 3 9999) 29 4 99) 29 5 0) 29 6 0) 29 7 0) 29 14 0) 29 1 = 9999 from ((hk_neq (by decide)).trans ((hk_neq (by decide)).trans ((hk_neq (by decide)).trans ((hk_neq (by decide)).trans ((hk_neq (by decide)).trans ((hk_neq (by decide)).trans ((hk_neq (by decide)).trans (hk_same))))))))) (show (qm_up (qm_up (qm_up (qm_up (qm_up (qm_up (qm_up (qm_up (qm_up h.2.1 29 0 3) 29 1 9999) 29 2 9999) 29 3 9999) 29 4 99) 29 5 0) 29 6 0) 29 7 0) 29 14 0) 29 2 = 9999 from ((hk_neq (by decide)).trans ((hk_neq (by decide)).trans ((hk_neq (by decide)).trans ((hk_neq (by decide)).trans ((hk_neq (by decide)).trans ((hk_neq (by decide)).trans (hk_same)))))))) (show (qm_up (qm_up (qm_up (qm_up (qm_up (qm_up (qm_up (qm_up (qm_up h.2.1 29 0 3) 29 1 9999) 29 2 9999) 29 3 9999) 29 4 99) 29 5 0) 29 6 0) 29 7 0) 29 14 0) 29 3 = 9999 from ((hk_neq (by decide)).trans ((hk_neq (by decide)).trans ((hk_neq (by decide)).trans ((hk_neq (by decide)).trans ((hk_neq (by decide)).trans (hk_same))))))) (show (qm_up (qm_up (qm_up (qm_up (qm_up (qm_up (qm_up (qm_up (qm_up h.2.1 29 0 3) 29 1 9999) 29 2 9999) 29 3 9999) 29 4 99) 29 5 0) 29 6 0) 29 7 0) 29 14 0) 29 4 = 99 from ((hk_neq (by decide)).trans ((hk_neq (by decide)).trans ((hk_neq (by decide)).trans ((hk_neq (by decide)).trans (hk_same)))))) (show (qm_up (qm_up (qm_up (qm_up (qm_up (qm_up (qm_up (qm_up (qm_up h.2.1 29 0 3) 29 1 9999) 29 2 9999) 29 3 9999) 29 4 99) 29 5 0) 29 6 0) 29 7 0) 29 14 0) 29 6 = 0 from ((hk_neq (by decide)).trans ((hk_neq (by decide)).trans (hk_same)))) (show (qm_up (qm_up (qm_up (qm_up (qm_up (qm_up (qm_up (qm_up (qm_up h.2.1 29 0 3) 29 1 9999) 29 2 9999) 29 3 9999) 29 4 99) 29 5 0) 29 6 0) 29 7 0) 29 14 0) 29 7 = 0 from ((hk_neq (by decide)).trans (hk_same))) (fun v h1 m1 c1 => ?_)
  have q9 : cPl ((qm_up (qm_up (qm_up (qm_up (qm_up (qm_up (qm_up (qm_up (qm_up h.2.1 29 0 3) 29 1 9999) 29 2 9999) 29 3 9999) 29 4 99) 29 5 0) 29 6 0) 29 7 0) 29 14 0) 2) ((qm_up (qm_up (qm_up (qm_up (qm_up (qm_up (qm_up (qm_up (qm_up h.2.1 29 0 3) 29 1 9999) 29 2 9999) 29 3 9999) 29 4 99) 29 5 0) 29 6 0) 29 7 0) 29 14 0) 1 1).toInt.toNat (h1.2.1 3 4) := m1.2.2.2.2.2.2
  rw [show (qm_up (qm_up (qm_up (qm_up (qm_up (qm_up (qm_up (qm_up (qm_up h.2.1 29 0 3) 29 1 9999) 29 2 9999) 29 3 9999) 29 4 99) 29 5 0) 29 6 0) 29 7 0) 29 14 0) 2 = h.2.1 2 from (funext fun i => ((hk_ot rfl).trans ((hk_ot rfl).trans ((hk_ot rfl).trans ((hk_ot rfl).trans ((hk_ot rfl).trans ((hk_ot rfl).trans ((hk_ot rfl).trans ((hk_ot rfl).trans ((hk_ot rfl).trans rfl)))))))))), show (qm_up (qm_up (qm_up (qm_up (qm_up (qm_up (qm_up (qm_up (qm_up h.2.1 29 0 3) 29 1 9999) 29 2 9999) 29 3 9999) 29 4 99) 29 5 0) 29 6 0) 29 7 0) 29 14 0) 1 1 = h.2.1 1 1 from ((hk_ot rfl).trans ((hk_ot rfl).trans ((hk_ot rfl).trans ((hk_ot rfl).trans ((hk_ot rfl).trans ((hk_ot rfl).trans ((hk_ot rfl).trans ((hk_ot rfl).trans ((hk_ot rfl).trans rfl)))))))))] at q9
  have c9 : cRes 29 ((qm_up (qm_up (qm_up (qm_up (qm_up (qm_up (qm_up (qm_up (qm_up h.2.1 29 0 3) 29 1 9999) 29 2 9999) 29 3 9999) 29 4 99) 29 5 0) 29 6 0) 29 7 0) 29 14 0) 2) ((qm_up (qm_up (qm_up (qm_up (qm_up (qm_up (qm_up (qm_up (qm_up h.2.1 29 0 3) 29 1 9999) 29 2 9999) 29 3 9999) 29 4 99) 29 5 0) 29 6 0) 29 7 0) 29 14 0) 1 1).toInt.toNat v h1.2.1 := c1
  rw [show (qm_up (qm_up (qm_up (qm_up (qm_up (qm_up (qm_up (qm_up (qm_up h.2.1 29 0 3) 29 1 9999) 29 2 9999) 29 3 9999) 29 4 99) 29 5 0) 29 6 0) 29 7 0) 29 14 0) 2 = h.2.1 2 from (funext fun i => ((hk_ot rfl).trans ((hk_ot rfl).trans ((hk_ot rfl).trans ((hk_ot rfl).trans ((hk_ot rfl).trans ((hk_ot rfl).trans ((hk_ot rfl).trans ((hk_ot rfl).trans ((hk_ot rfl).trans rfl)))))))))), show (qm_up (qm_up (qm_up (qm_up (qm_up (qm_up (qm_up (qm_up (qm_up h.2.1 29 0 3) 29 1 9999) 29 2 9999) 29 3 9999) 29 4 99) 29 5 0) 29 6 0) 29 7 0) 29 14 0) 1 1 = h.2.1 1 1 from ((hk_ot rfl).trans ((hk_ot rfl).trans ((hk_ot rfl).trans ((hk_ot rfl).trans ((hk_ot rfl).trans ((hk_ot rfl).trans ((hk_ot rfl).trans ((hk_ot rfl).trans ((hk_ot rfl).trans rfl)))))))))] at c9
  exact k v h1 ⟨m1.1, fun o i ho hn h3 => (m1.2.1 o i ho hn h3).trans (n33 o i h3), fun o ho hn i => (m1.2.2.1 o ho hn i).trans ((hk_mod hn rfl).trans ((hk_mod hn rfl).trans ((hk_mod hn rfl).trans ((hk_mod hn rfl).trans ((hk_mod hn rfl).trans ((hk_mod hn rfl).trans ((hk_mod hn rfl).trans ((hk_mod hn rfl).trans ((hk_mod hn rfl).trans rfl))))))))), m1.2.2.2.1, m1.2.2.2.2.1, m1.2.2.2.2.2.1, q9⟩ c9
theorem hp_parse111 {L : Nat} {xs : Nat → Int32} {d : Nat} {Z : Option Value → qm_H → Prop} {h : qm_H} (h6 : 6 ≤ L) (hH : hk_H h) (hB : hk_B h.2.1) (hr : hk_ru h.2.1) (hw : wI h) (hR3 : h.2.2.2 3 3 = some 111) (c_bv : h.2.1 111 0 = 3) (c_liv : h.2.1 111 1 = 9999) (c_trv : h.2.1 111 2 = 9999) (c_bev : h.2.1 111 3 = 9999) (c_ltv : h.2.1 111 4 = 99) (c_prv : h.2.1 111 6 = 0) (c_plv : h.2.1 111 7 = 0) (k : ∀ (v : Int32) (h' : qm_H), pS 111 [1, 3, 4, 5, 111, 112, 113, 114, 115, 116, 117] h h' → cRes 111 (h.2.1 2) (h.2.1 1 1).toInt.toNat v h'.2.1 → Z (some (.int v)) h') : qm_Ru (some (L, xs)) (d + 30) cd_19 (9, [.ref 3, .ref 111, .float 0], [], h) Z := by
  refine qm_Ru.go 2 (c' := (11, [.ref 3, .ref 111, .float 0], [.int 0, .ref 3], h)) rfl ?_
  refine hk_puti rfl (hH.1 3 (8, 14) rfl) rfl ?_
  refine qm_Ru.go 2 (c' := (16, [.ref 3, .ref 111, .float 0], [.int 0, .ref 3], (h.1, qm_up h.2.1 3 5 0, h.2.2.1, h.2.2.2))) rfl ?_
  refine hk_puti rfl (hH.1 3 (8, 14) rfl) rfl ?_
  refine qm_Ru.go 2 (c' := (21, [.ref 3, .ref 111, .float 0], [.int 0, .ref 3], (h.1, qm_up (qm_up h.2.1 3 5 0) 3 8 0, h.2.2.1, h.2.2.2))) rfl ?_
  refine hk_puti rfl (hH.1 3 (8, 14) rfl) rfl ?_
  refine qm_Ru.go 2 (c' := (26, [.ref 3, .ref 111, .float 0], [.int 0, .ref 3], (h.1, qm_up (qm_up (qm_up h.2.1 3 5 0) 3 8 0) 3 10 0, h.2.2.1, h.2.2.2))) rfl ?_
  refine hk_puti rfl (hH.1 3 (8, 14) rfl) rfl ?_
  refine qm_Ru.go 2 (c' := (31, [.ref 3, .ref 111, .float 0], [.int 0, .ref 3], (h.1, qm_up (qm_up (qm_up (qm_up h.2.1 3 5 0) 3 8 0) 3 10 0) 3 11 0, h.2.2.1, h.2.2.2))) rfl ?_
  refine hk_puti rfl (hH.1 3 (8, 14) rfl) rfl ?_
  refine qm_Ru.go 2 (c' := (36, [.ref 3, .ref 111, .float 0], [.int (-1), .ref 3], (h.1, qm_up (qm_up (qm_up (qm_up (qm_up h.2.1 3 5 0) 3 8 0) 3 10 0) 3 11 0) 3 12 0, h.2.2.1, h.2.2.2))) rfl ?_
  refine hk_puti rfl (hH.1 3 (8, 14) rfl) rfl ?_
  refine qm_Ru.go 1 (c' := (40, [.ref 3, .ref 111, .float 0], [.ref 3], (h.1, qm_up (qm_up (qm_up (qm_up (qm_up (qm_up h.2.1 3 5 0) 3 8 0) 3 10 0) 3 11 0) 3 12 0) 3 13 (-1), h.2.2.1, h.2.2.2))) rfl ?_
  refine hk_getr rfl (hH.1 3 (8, 14) rfl) rfl (hH.2 3 0 (some 1) rfl) ?_
  refine qm_Ru.go 1 (c' := (44, [.ref 3, .ref 111, .float 0], [.int 0, .ref 1], (h.1, qm_up (qm_up (qm_up (qm_up (qm_up (qm_up h.2.1 3 5 0) 3 8 0) 3 10 0) 3 11 0) 3 12 0) 3 13 (-1), h.2.2.1, h.2.2.2))) rfl ?_
  refine hk_puti rfl (hH.1 1 (12, 7) rfl) rfl ?_
  refine qm_Ru.go 1 (c' := (48, [.ref 3, .ref 111, .float 0], [.ref 3], (h.1, qm_up (qm_up (qm_up (qm_up (qm_up (qm_up (qm_up h.2.1 3 5 0) 3 8 0) 3 10 0) 3 11 0) 3 12 0) 3 13 (-1)) 1 2 0, h.2.2.1, h.2.2.2))) rfl ?_
  have eB : (qm_up (qm_up (qm_up (qm_up (qm_up (qm_up (qm_up h.2.1 3 5 0) 3 8 0) 3 10 0) 3 11 0) 3 12 0) 3 13 (-1)) 1 2 0) 2 = h.2.1 2 := (funext fun i => ((hk_ot rfl).trans ((hk_ot rfl).trans ((hk_ot rfl).trans ((hk_ot rfl).trans ((hk_ot rfl).trans ((hk_ot rfl).trans ((hk_ot rfl).trans rfl))))))))
  refine hk_inv (o := 3) (r := []) (as := [.ref 3]) rfl rfl (hH.1 3 (8, 14) rfl) rfl rfl rfl rfl (hs_rtR111 (h := (h.1, qm_up (qm_up (qm_up (qm_up (qm_up (qm_up (qm_up h.2.1 3 5 0) 3 8 0) 3 10 0) 3 11 0) 3 12 0) 3 13 (-1)) 1 2 0, h.2.2.1, h.2.2.2)) h6 hH hR3 (hb_up (o := 1) (k := 2) (x := 0) (hb_up (o := 3) (k := 13) (x := (-1)) (hb_up (o := 3) (k := 12) (x := 0) (hb_up (o := 3) (k := 11) (x := 0) (hb_up (o := 3) (k := 10) (x := 0) (hb_up (o := 3) (k := 8) (x := 0) (hb_up (o := 3) (k := 5) (x := 0) hB ⟨(show (0 : Int) ≤ 0 from by decide), (show (0 : Int) ≤ 9 from by decide)⟩) (qa_in_full _)) ⟨(show (0 : Int) ≤ 0 from by decide), (show (0 : Int) ≤ 400 from by decide)⟩) ⟨(show (0 : Int) ≤ 0 from by decide), (show (0 : Int) ≤ 16 from by decide)⟩) (qa_in_full _)) (qa_in_full _)) ⟨(show (0 : Int) ≤ 0 from by decide), (show (0 : Int) ≤ 2000 from by decide)⟩) (hk_ru_up (hk_ru_up (hk_ru_up (hk_ru_up (hk_ru_up (hk_ru_up (hk_ru_up hr rfl) rfl) rfl) rfl) rfl) rfl) rfl) (show (qm_up (qm_up (qm_up (qm_up (qm_up (qm_up (qm_up h.2.1 3 5 0) 3 8 0) 3 10 0) 3 11 0) 3 12 0) 3 13 (-1)) 1 2 0) 3 5 = 0 from ((hk_ot rfl).trans ((hk_neq (by decide)).trans ((hk_neq (by decide)).trans ((hk_neq (by decide)).trans ((hk_neq (by decide)).trans ((hk_neq (by decide)).trans (hk_same)))))))) (by omega) (n := h.2.1 1 1) (show (qm_up (qm_up (qm_up (qm_up (qm_up (qm_up (qm_up h.2.1 3 5 0) 3 8 0) 3 10 0) 3 11 0) 3 12 0) 3 13 (-1)) 1 2 0) 1 1 = h.2.1 1 1 from ((hk_neq (by decide)).trans ((hk_ot rfl).trans ((hk_ot rfl).trans ((hk_ot rfl).trans ((hk_ot rfl).trans ((hk_ot rfl).trans ((hk_ot rfl).trans rfl)))))))) (show (qm_up (qm_up (qm_up (qm_up (qm_up (qm_up (qm_up h.2.1 3 5 0) 3 8 0) 3 10 0) 3 11 0) 3 12 0) 3 13 (-1)) 1 2 0) 1 2 = 0 from (hk_same)) (show (qm_up (qm_up (qm_up (qm_up (qm_up (qm_up (qm_up h.2.1 3 5 0) 3 8 0) 3 10 0) 3 11 0) 3 12 0) 3 13 (-1)) 1 2 0) 3 5 = 0 from ((hk_ot rfl).trans ((hk_neq (by decide)).trans ((hk_neq (by decide)).trans ((hk_neq (by decide)).trans ((hk_neq (by decide)).trans ((hk_neq (by decide)).trans (hk_same)))))))) (show (qm_up (qm_up (qm_up (qm_up (qm_up (qm_up (qm_up h.2.1 3 5 0) 3 8 0) 3 10 0) 3 11 0) 3 12 0) 3 13 (-1)) 1 2 0) 3 8 = 0 from ((hk_ot rfl).trans ((hk_neq (by decide)).trans ((hk_neq (by decide)).trans ((hk_neq (by decide)).trans ((hk_neq (by decide)).trans (hk_same))))))) (show (qm_up (qm_up (qm_up (qm_up (qm_up (qm_up (qm_up h.2.1 3 5 0) 3 8 0) 3 10 0) 3 11 0) 3 12 0) 3 13 (-1)) 1 2 0) 3 11 = 0 from ((hk_ot rfl).trans ((hk_neq (by decide)).trans ((hk_neq (by decide)).trans (hk_same))))) (show (qm_up (qm_up (qm_up (qm_up (qm_up (qm_up (qm_up h.2.1 3 5 0) 3 8 0) 3 10 0) 3 11 0) 3 12 0) 3 13 (-1)) 1 2 0) 3 12 = 0 from ((hk_ot rfl).trans ((hk_neq (by decide)).trans (hk_same)))) (show (qm_up (qm_up (qm_up (qm_up (qm_up (qm_up (qm_up h.2.1 3 5 0) 3 8 0) 3 10 0) 3 11 0) 3 12 0) 3 13 (-1)) 1 2 0) 3 13 = -1 from ((hk_ot rfl).trans (hk_same))) (show (qm_up (qm_up (qm_up (qm_up (qm_up (qm_up (qm_up h.2.1 3 5 0) 3 8 0) 3 10 0) 3 11 0) 3 12 0) 3 13 (-1)) 1 2 0) 111 0 = 3 from ((hk_ot rfl).trans ((hk_ot rfl).trans ((hk_ot rfl).trans ((hk_ot rfl).trans ((hk_ot rfl).trans ((hk_ot rfl).trans ((hk_ot rfl).trans c_bv)))))))) (show (qm_up (qm_up (qm_up (qm_up (qm_up (qm_up (qm_up h.2.1 3 5 0) 3 8 0) 3 10 0) 3 11 0) 3 12 0) 3 13 (-1)) 1 2 0) 111 1 = 9999 from ((hk_ot rfl).trans ((hk_ot rfl).trans ((hk_ot rfl).trans ((hk_ot rfl).trans ((hk_ot rfl).trans ((hk_ot rfl).trans ((hk_ot rfl).trans c_liv)))))))) (show (qm_up (qm_up (qm_up (qm_up (qm_up (qm_up (qm_up h.2.1 3 5 0) 3 8 0) 3 10 0) 3 11 0) 3 12 0) 3 13 (-1)) 1 2 0) 111 2 = 9999 from ((hk_ot rfl).trans ((hk_ot rfl).trans ((hk_ot rfl).trans ((hk_ot rfl).trans ((hk_ot rfl).trans ((hk_ot rfl).trans ((hk_ot rfl).trans c_trv)))))))) (show (qm_up (qm_up (qm_up (qm_up (qm_up (qm_up (qm_up h.2.1 3 5 0) 3 8 0) 3 10 0) 3 11 0) 3 12 0) 3 13 (-1)) 1 2 0) 111 3 = 9999 from ((hk_ot rfl).trans ((hk_ot rfl).trans ((hk_ot rfl).trans ((hk_ot rfl).trans ((hk_ot rfl).trans ((hk_ot rfl).trans ((hk_ot rfl).trans c_bev)))))))) (show (qm_up (qm_up (qm_up (qm_up (qm_up (qm_up (qm_up h.2.1 3 5 0) 3 8 0) 3 10 0) 3 11 0) 3 12 0) 3 13 (-1)) 1 2 0) 111 4 = 99 from ((hk_ot rfl).trans ((hk_ot rfl).trans ((hk_ot rfl).trans ((hk_ot rfl).trans ((hk_ot rfl).trans ((hk_ot rfl).trans ((hk_ot rfl).trans c_ltv)))))))) (show (qm_up (qm_up (qm_up (qm_up (qm_up (qm_up (qm_up h.2.1 3 5 0) 3 8 0) 3 10 0) 3 11 0) 3 12 0) 3 13 (-1)) 1 2 0) 111 6 = 0 from ((hk_ot rfl).trans ((hk_ot rfl).trans ((hk_ot rfl).trans ((hk_ot rfl).trans ((hk_ot rfl).trans ((hk_ot rfl).trans ((hk_ot rfl).trans c_prv)))))))) (show (qm_up (qm_up (qm_up (qm_up (qm_up (qm_up (qm_up h.2.1 3 5 0) 3 8 0) 3 10 0) 3 11 0) 3 12 0) 3 13 (-1)) 1 2 0) 111 7 = 0 from ((hk_ot rfl).trans ((hk_ot rfl).trans ((hk_ot rfl).trans ((hk_ot rfl).trans ((hk_ot rfl).trans ((hk_ot rfl).trans ((hk_ot rfl).trans c_plv)))))))) (fun v3 I1 J2 b_v3 hB_I1 e_I1 hq => ?_))
  have b_v3 : (0 : Int) ≤ v3.toInt ∧ v3.toInt ≤ 2 := b_v3
  refine qm_Ru.go 3 (c' := (54, [.ref 3, .ref 111, .int v3], [.int v3, .ref 3], (h.1, I1, J2, h.2.2.2))) rfl ?_
  refine hk_zne (ix := v3.toInt) rfl rfl (fun z4 => ?_) (fun z4 => ?_)
  · refine qm_Ru.go 1 (c' := (65, [.ref 3, .ref 111, .int v3], [.ref 3, .ref 3], (h.1, I1, J2, h.2.2.2))) rfl ?_
    refine hk_getr rfl (hH.1 3 (8, 14) rfl) rfl (hH.2 3 0 (some 1) rfl) ?_
    refine qm_Ru.go 0 (c' := (68, [.ref 3, .ref 111, .int v3], [.ref 1, .ref 3], (h.1, I1, J2, h.2.2.2))) rfl ?_
    obtain ⟨v5, q_v5⟩ : ∃ v_, I1 1 4 = v_ := ⟨_, rfl⟩
    have b_v5 : (0 : Int) ≤ v5.toInt ∧ v5.toInt ≤ 2000 := by rw [← q_v5]; exact hB_I1 1 4
    refine hk_geti (v := v5) rfl (hH.1 1 (12, 7) rfl) rfl q_v5 ?_
    refine qm_Ru.go 0 (c' := (71, [.ref 3, .ref 111, .int v3], [.int v5, .ref 3], (h.1, I1, J2, h.2.2.2))) rfl ?_
    refine hk_puti rfl (hH.1 3 (8, 14) rfl) rfl ?_
    refine qm_Ru.go 1 (c' := (75, [.ref 3, .ref 111, .int v3], [.ref 3], (h.1, qm_up I1 3 4 v5, J2, h.2.2.2))) rfl ?_
    refine hk_getr rfl (hH.1 3 (8, 14) rfl) rfl (hH.2 3 0 (some 1) rfl) ?_
    refine qm_Ru.go 1 (c' := (79, [.ref 3, .ref 111, .int v3], [.int 0, .ref 1], (h.1, qm_up I1 3 4 v5, J2, h.2.2.2))) rfl ?_
    refine hk_puti rfl (hH.1 1 (12, 7) rfl) rfl ?_
    refine qm_Ru.go 1 (c' := (83, [.ref 3, .ref 111, .int v3], [.int v3], (h.1, qm_up (qm_up I1 3 4 v5) 1 1 0, J2, h.2.2.2))) rfl ?_
    refine hk_zne (ix := v3.toInt) rfl rfl (fun z6 => ?_) (fun z6 => by exfalso; omega)
    refine qm_Ru.go 1 (c' := (91, [.ref 3, .ref 111, .int v3], [.int v3], (h.1, qm_up (qm_up I1 3 4 v5) 1 1 0, J2, h.2.2.2))) rfl ?_
    refine hk_zne (ix := v3.toInt) rfl rfl (fun z7 => ?_) (fun z7 => by exfalso; omega)
    refine qm_Ru.go 1 (c' := (102, [.ref 3, .ref 111, .int v3], [.int v3], (h.1, qm_up (qm_up I1 3 4 v5) 1 1 0, J2, h.2.2.2))) rfl ?_
    refine qm_Ru.rt (v := (some (.int v3))) (h' := (h.1, qm_up (qm_up I1 3 4 v5) 1 1 0, J2, h.2.2.2)) rfl ?_
    exact k v3 _ ⟨fun _ _ => rfl, fun _ _ _ _ _ => rfl, (fun o ho hn i => (fun o ho i => ((hk_mod ho rfl).trans ((hk_mod ho rfl).trans ((e_I1 o (hk_ms rfl ho) i).trans ((hk_mod ho rfl).trans ((hk_mod ho rfl).trans ((hk_mod ho rfl).trans ((hk_mod ho rfl).trans ((hk_mod ho rfl).trans ((hk_mod ho rfl).trans ((hk_mod ho rfl).trans rfl))))))))))) o hn i), (hb_up (o := 1) (k := 1) (x := 0) (hb_up (o := 3) (k := 4) (x := v5) hB_I1 (qa_in_full _)) ⟨(show (0 : Int) ≤ 0 from by decide), (show (0 : Int) ≤ 2000 from by decide)⟩), wI_same hw rfl rfl, (show (qm_up (qm_up I1 3 4 v5) 1 1 0) 1 1 = 0 from (hk_same)), (show cPl (h.2.1 2) (h.2.1 1 1).toInt.toNat ((qm_up (qm_up I1 3 4 v5) 1 1 0) 3 4) from by rw [show (qm_up (qm_up I1 3 4 v5) 1 1 0) 3 4 = v5 from (show (qm_up (qm_up I1 3 4 v5) 1 1 0) 3 4 = _ from ((hk_ot rfl).trans (hk_same))), ← q_v5, ← eB]; exact qRt111_p1 hq (by omega))⟩ (show cRes 111 (h.2.1 2) (h.2.1 1 1).toInt.toNat v3 (qm_up (qm_up I1 3 4 v5) 1 1 0) from by rw [← eB]; exact qRt111_c1 hq (by omega))
  · refine qm_Ru.go 1 (c' := (58, [.ref 3, .ref 111, .int v3], [.ref 3, .ref 3], (h.1, I1, J2, h.2.2.2))) rfl ?_
    obtain ⟨v8, q_v8⟩ : ∃ v_, I1 3 13 = v_ := ⟨_, rfl⟩
    refine hk_geti (v := v8) rfl (hH.1 3 (8, 14) rfl) rfl q_v8 ?_
    refine qm_Ru.go 1 (c' := (71, [.ref 3, .ref 111, .int v3], [.int v8, .ref 3], (h.1, I1, J2, h.2.2.2))) rfl ?_
    refine hk_puti rfl (hH.1 3 (8, 14) rfl) rfl ?_
    refine qm_Ru.go 1 (c' := (75, [.ref 3, .ref 111, .int v3], [.ref 3], (h.1, qm_up I1 3 4 v8, J2, h.2.2.2))) rfl ?_
    refine hk_getr rfl (hH.1 3 (8, 14) rfl) rfl (hH.2 3 0 (some 1) rfl) ?_
    refine qm_Ru.go 1 (c' := (79, [.ref 3, .ref 111, .int v3], [.int 0, .ref 1], (h.1, qm_up I1 3 4 v8, J2, h.2.2.2))) rfl ?_
    refine hk_puti rfl (hH.1 1 (12, 7) rfl) rfl ?_
    refine qm_Ru.go 1 (c' := (83, [.ref 3, .ref 111, .int v3], [.int v3], (h.1, qm_up (qm_up I1 3 4 v8) 1 1 0, J2, h.2.2.2))) rfl ?_
    refine hk_zne (ix := v3.toInt) rfl rfl (fun z9 => by exfalso; omega) (fun z9 => ?_)
    refine qm_Ru.go 1 (c' := (87, [.ref 3, .ref 111, .int v3], [.ref 111], (h.1, qm_up (qm_up I1 3 4 v8) 1 1 0, J2, h.2.2.2))) rfl ?_
    refine hk_inv (o := 111) (r := []) (as := [.ref 111]) rfl rfl (hH.1 111 (11, 16) rfl) rfl rfl rfl rfl (hs_mr111 (h := (h.1, qm_up (qm_up I1 3 4 v8) 1 1 0, J2, h.2.2.2)) (d := d + 25) hH (hb_up (o := 1) (k := 1) (x := 0) (hb_up (o := 3) (k := 4) (x := v8) hB_I1 (qa_in_full _)) ⟨(show (0 : Int) ≤ 0 from by decide), (show (0 : Int) ≤ 2000 from by decide)⟩) (wI_same hw rfl rfl) (fun h1 m1 => ?_))
    have H1 : hk_H h1 := mS_H (by decide) (h := (h.1, qm_up (qm_up I1 3 4 v8) 1 1 0, J2, h.2.2.2)) hH m1
    refine qm_Ru.go 1 (c' := (91, [.ref 3, .ref 111, .int v3], [.int v3], h1)) rfl ?_
    refine hk_zne (ix := v3.toInt) rfl rfl (fun z => by exfalso; omega) (fun z => ?_)
    refine qm_Ru.go 1 (c' := (95, [.ref 3, .ref 111, .int v3], [.ref 3], h1)) rfl ?_
    refine hk_geti (v := h1.2.1 3 12) rfl (H1.1 3 (8, 14) rfl) rfl rfl ?_
    refine qm_Ru.go 1 (c' := (102, [.ref 3, .ref 111, .int v3], [.int (h1.2.1 3 12)], h1)) rfl ?_
    refine qm_Ru.rt (v := some (.int (h1.2.1 3 12))) (h' := h1) rfl ?_
    exact k _ _ ⟨m1.1, fun o i ho hn _ => m1.2.1 o i ho hn, fun o ho hn i => (m1.2.2.1 o ho (fun e => by subst e; cases hn) i).trans ((fun o ho hn i => (fun o ho i => ((hk_mod ho rfl).trans ((hk_mod ho rfl).trans ((e_I1 o (hk_ms rfl ho) i).trans ((hk_mod ho rfl).trans ((hk_mod ho rfl).trans ((hk_mod ho rfl).trans ((hk_mod ho rfl).trans ((hk_mod ho rfl).trans ((hk_mod ho rfl).trans ((hk_mod ho rfl).trans rfl))))))))))) o hn i) o ho hn i), m1.2.2.2.1, m1.2.2.2.2, (m1.2.2.1 1 (by decide) (by decide) 1).trans (show (qm_up (qm_up I1 3 4 v8) 1 1 0) 1 1 = 0 from (hk_same)), (by rw [m1.2.2.1 3 (by decide) (by decide) 4]; exact (show cPl (h.2.1 2) (h.2.1 1 1).toInt.toNat ((qm_up (qm_up I1 3 4 v8) 1 1 0) 3 4) from by rw [show (qm_up (qm_up I1 3 4 v8) 1 1 0) 3 4 = v8 from (show (qm_up (qm_up I1 3 4 v8) 1 1 0) 3 4 = _ from ((hk_ot rfl).trans (hk_same))), ← q_v8, ← eB]; exact qRt111_p0 hq (by omega)))⟩ (show cRes 111 (h.2.1 2) (h.2.1 1 1).toInt.toNat (h1.2.1 3 12) h1.2.1 from by rw [← eB]; exact qRt111_c0 hq (by omega) ((m1.2.2.1 3 (by decide) (by decide) 12).trans (show (qm_up (qm_up I1 3 4 v8) 1 1 0) 3 12 = I1 3 12 from ((hk_ot rfl).trans ((hk_neq (by decide)).trans rfl)))) (fun i _ => (m1.2.2.1 111 (by decide) (by decide) i).trans (show (qm_up (qm_up I1 3 4 v8) 1 1 0) 111 i = I1 111 i from ((hk_ot rfl).trans ((hk_ot rfl).trans rfl)))))
theorem hs_parse111 {L : Nat} {xs : Nat → Int32} {d : Nat} {Z : Option Value → qm_H → Prop} {h : qm_H} (h6 : 6 ≤ L) (hH : hk_H h) (hB : hk_B h.2.1) (hr : hk_ru h.2.1) (hw : wI h) (k : ∀ (v : Int32) (h' : qm_H), pS 111 [1, 3, 4, 5, 111, 112, 113, 114, 115, 116, 117] h h' → cRes 111 (h.2.1 2) (h.2.1 1 1).toInt.toNat v h'.2.1 → Z (some (.int v)) h') : qm_Ru (some (L, xs)) (d + 30) cd_19 (qm_ent 3 [.ref 3, .ref 111] h) Z := by
  show qm_Ru (some (L, xs)) (d + 30) cd_19 (0, [.ref 3, .ref 111, .float 0], [], h) Z
  refine qm_Ru.go 1 (c' := (1, [.ref 3, .ref 111, .float 0], [.ref 111], h)) rfl ?_
  refine hk_inv (o := 111) (r := []) (as := [.ref 111]) rfl rfl (hH.1 111 (11, 16) rfl) rfl rfl rfl rfl ?_
  refine qm_Ru.go 2 (c' := (2, [.ref 111], [.int 3, .ref 111], h)) rfl ?_
  refine hk_puti rfl (hH.1 111 (11, 16) rfl) rfl ?_
  refine qm_Ru.go 2 (c' := (9, [.ref 111], [.int 9999, .ref 111], (h.1, qm_up h.2.1 111 0 3, h.2.2.1, h.2.2.2))) rfl ?_
  refine hk_puti rfl (hH.1 111 (11, 16) rfl) rfl ?_
  refine qm_Ru.go 2 (c' := (16, [.ref 111], [.int 9999, .ref 111], (h.1, qm_up (qm_up h.2.1 111 0 3) 111 1 9999, h.2.2.1, h.2.2.2))) rfl ?_
  refine hk_puti rfl (hH.1 111 (11, 16) rfl) rfl ?_
  refine qm_Ru.go 2 (c' := (23, [.ref 111], [.int 9999, .ref 111], (h.1, qm_up (qm_up (qm_up h.2.1 111 0 3) 111 1 9999) 111 2 9999, h.2.2.1, h.2.2.2))) rfl ?_
  refine hk_puti rfl (hH.1 111 (11, 16) rfl) rfl ?_
  refine qm_Ru.go 2 (c' := (29, [.ref 111], [.int 99, .ref 111], (h.1, qm_up (qm_up (qm_up (qm_up h.2.1 111 0 3) 111 1 9999) 111 2 9999) 111 3 9999, h.2.2.1, h.2.2.2))) rfl ?_
  refine hk_puti rfl (hH.1 111 (11, 16) rfl) rfl ?_
  refine qm_Ru.go 2 (c' := (34, [.ref 111], [.int 0, .ref 111], (h.1, qm_up (qm_up (qm_up (qm_up (qm_up h.2.1 111 0 3) 111 1 9999) 111 2 9999) 111 3 9999) 111 4 99, h.2.2.1, h.2.2.2))) rfl ?_
  refine hk_puti rfl (hH.1 111 (11, 16) rfl) rfl ?_
  refine qm_Ru.go 2 (c' := (39, [.ref 111], [.int 0, .ref 111], (h.1, qm_up (qm_up (qm_up (qm_up (qm_up (qm_up h.2.1 111 0 3) 111 1 9999) 111 2 9999) 111 3 9999) 111 4 99) 111 5 0, h.2.2.1, h.2.2.2))) rfl ?_
  refine hk_puti rfl (hH.1 111 (11, 16) rfl) rfl ?_
  refine qm_Ru.go 2 (c' := (44, [.ref 111], [.int 0, .ref 111], (h.1, qm_up (qm_up (qm_up (qm_up (qm_up (qm_up (qm_up h.2.1 111 0 3) 111 1 9999) 111 2 9999) 111 3 9999) 111 4 99) 111 5 0) 111 6 0, h.2.2.1, h.2.2.2))) rfl ?_
  refine hk_puti rfl (hH.1 111 (11, 16) rfl) rfl ?_
  refine qm_Ru.go 2 (c' := (49, [.ref 111], [.int 0, .ref 111], (h.1, qm_up (qm_up (qm_up (qm_up (qm_up (qm_up (qm_up (qm_up h.2.1 111 0 3) 111 1 9999) 111 2 9999) 111 3 9999) 111 4 99) 111 5 0) 111 6 0) 111 7 0, h.2.2.1, h.2.2.2))) rfl ?_
  refine hk_puti rfl (hH.1 111 (11, 16) rfl) rfl ?_
  refine qm_Ru.go 0 (c' := (52, [.ref 111], [], (h.1, qm_up (qm_up (qm_up (qm_up (qm_up (qm_up (qm_up (qm_up (qm_up h.2.1 111 0 3) 111 1 9999) 111 2 9999) 111 3 9999) 111 4 99) 111 5 0) 111 6 0) 111 7 0) 111 14 0, h.2.2.1, h.2.2.2))) rfl ?_
  refine qm_Ru.rt (v := none) (h' := (h.1, qm_up (qm_up (qm_up (qm_up (qm_up (qm_up (qm_up (qm_up (qm_up h.2.1 111 0 3) 111 1 9999) 111 2 9999) 111 3 9999) 111 4 99) 111 5 0) 111 6 0) 111 7 0) 111 14 0, h.2.2.1, h.2.2.2)) rfl ?_
  refine qm_Ru.go 2 (c' := (6, [.ref 3, .ref 111, .float 0], [.ref 111, .ref 3], (h.1, qm_up (qm_up (qm_up (qm_up (qm_up (qm_up (qm_up (qm_up (qm_up h.2.1 111 0 3) 111 1 9999) 111 2 9999) 111 3 9999) 111 4 99) 111 5 0) 111 6 0) 111 7 0) 111 14 0, h.2.2.1, h.2.2.2))) rfl ?_
  refine hk_putr rfl (hH.1 3 (8, 14) rfl) rfl ?_
  have n33 : ∀ o i, ¬ (o = 3 ∧ i = 3) → (qm_up h.2.2.2 3 3 (some 111)) o i = h.2.2.2 o i := fun o i hn => wr_ne hn
  refine hp_parse111 (h := (h.1, qm_up (qm_up (qm_up (qm_up (qm_up (qm_up (qm_up (qm_up (qm_up h.2.1 111 0 3) 111 1 9999) 111 2 9999) 111 3 9999) 111 4 99) 111 5 0) 111 6 0) 111 7 0) 111 14 0, h.2.2.1, qm_up h.2.2.2 3 3 (some 111))) h6 (hk_H_of hH (fun _ _ => rfl) (fun o i _ hn => n33 o i (fun z => by obtain ⟨rfl, rfl⟩ := z; exact hn rfl))) (hb_up (o := 111) (k := 14) (x := 0) (hb_up (o := 111) (k := 7) (x := 0) (hb_up (o := 111) (k := 6) (x := 0) (hb_up (o := 111) (k := 5) (x := 0) (hb_up (o := 111) (k := 4) (x := 99) (hb_up (o := 111) (k := 3) (x := 9999) (hb_up (o := 111) (k := 2) (x := 9999) (hb_up (o := 111) (k := 1) (x := 9999) (hb_up (o := 111) (k := 0) (x := 3) hB ⟨(show (2 : Int) ≤ 3 from by decide), (show (3 : Int) ≤ 5 from by decide)⟩) (qa_in_full _)) (qa_in_full _)) (qa_in_full _)) (qa_in_full _)) (qa_in_full _)) ⟨(show (0 : Int) ≤ 0 from by decide), (show (0 : Int) ≤ 8 from by decide)⟩) ⟨(show (0 : Int) ≤ 0 from by decide), (show (0 : Int) ≤ 8 from by decide)⟩) ⟨(show (0 : Int) ≤ 0 from by decide), (show (0 : Int) ≤ 400 from by decide)⟩) (hk_ru_up (hk_ru_up (hk_ru_up (hk_ru_up (hk_ru_up (hk_ru_up (hk_ru_up (hk_ru_up (hk_ru_up hr rfl) rfl) rfl) rfl) rfl) rfl) rfl) rfl) rfl) (wI_refs hw rfl (fun o i ho => n33 o i (by omega))) (show (qm_up h.2.2.2 3 3 (some 111)) 3 3 = some 111 from wr_eq) (show (qm_up (qm_up (qm_up (qm_up (qm_up (qm_up (qm_up (qm_up (qm_up h.2.1 111 0 3) 111 1 9999) 111 2 9999) 111 3 9999) 111 4 99) 111 5 0) 111 6 0) 111 7 0) 111 14 0) 111 0 = 3 from ((hk_neq (by decide)).trans ((hk_neq (by decide)).trans ((hk_neq (by decide)).trans ((hk_neq (by decide)).trans ((hk_neq (by decide)).trans ((hk_neq (by decide)).trans ((hk_neq (by decide)).trans ((hk_neq (by decide)).trans (hk_same)))))))))) (show (qm_up (qm_up (qm_up (qm_up (qm_up (qm_up (qm_up (qm_up (qm_up h.2.1 111 0 3) 111 1 9999) 111 2 9999) 111 3 9999) 111 4 99) 111 5 0) 111 6 0) 111 7 0) 111 14 0) 111 1 = 9999 from ((hk_neq (by decide)).trans ((hk_neq (by decide)).trans ((hk_neq (by decide)).trans ((hk_neq (by decide)).trans ((hk_neq (by decide)).trans ((hk_neq (by decide)).trans ((hk_neq (by decide)).trans (hk_same))))))))) (show (qm_up (qm_up (qm_up (qm_up (qm_up (qm_up (qm_up (qm_up (qm_up h.2.1 111 0 3) 111 1 9999) 111 2 9999) 111 3 9999) 111 4 99) 111 5 0) 111 6 0) 111 7 0) 111 14 0) 111 2 = 9999 from ((hk_neq (by decide)).trans ((hk_neq (by decide)).trans ((hk_neq (by decide)).trans ((hk_neq (by decide)).trans ((hk_neq (by decide)).trans ((hk_neq (by decide)).trans (hk_same)))))))) (show (qm_up (qm_up (qm_up (qm_up (qm_up (qm_up (qm_up (qm_up (qm_up h.2.1 111 0 3) 111 1 9999) 111 2 9999) 111 3 9999) 111 4 99) 111 5 0) 111 6 0) 111 7 0) 111 14 0) 111 3 = 9999 from ((hk_neq (by decide)).trans ((hk_neq (by decide)).trans ((hk_neq (by decide)).trans ((hk_neq (by decide)).trans ((hk_neq (by decide)).trans (hk_same))))))) (show (qm_up (qm_up (qm_up (qm_up (qm_up (qm_up (qm_up (qm_up (qm_up h.2.1 111 0 3) 111 1 9999) 111 2 9999) 111 3 9999) 111 4 99) 111 5 0) 111 6 0) 111 7 0) 111 14 0) 111 4 = 99 from ((hk_neq (by decide)).trans ((hk_neq (by decide)).trans ((hk_neq (by decide)).trans ((hk_neq (by decide)).trans (hk_same)))))) (show (qm_up (qm_up (qm_up (qm_up (qm_up (qm_up (qm_up (qm_up (qm_up h.2.1 111 0 3) 111 1 9999) 111 2 9999) 111 3 9999) 111 4 99) 111 5 0) 111 6 0) 111 7 0) 111 14 0) 111 6 = 0 from ((hk_neq (by decide)).trans ((hk_neq (by decide)).trans (hk_same)))) (show (qm_up (qm_up (qm_up (qm_up (qm_up (qm_up (qm_up (qm_up (qm_up h.2.1 111 0 3) 111 1 9999) 111 2 9999) 111 3 9999) 111 4 99) 111 5 0) 111 6 0) 111 7 0) 111 14 0) 111 7 = 0 from ((hk_neq (by decide)).trans (hk_same))) (fun v h1 m1 c1 => ?_)
  have q9 : cPl ((qm_up (qm_up (qm_up (qm_up (qm_up (qm_up (qm_up (qm_up (qm_up h.2.1 111 0 3) 111 1 9999) 111 2 9999) 111 3 9999) 111 4 99) 111 5 0) 111 6 0) 111 7 0) 111 14 0) 2) ((qm_up (qm_up (qm_up (qm_up (qm_up (qm_up (qm_up (qm_up (qm_up h.2.1 111 0 3) 111 1 9999) 111 2 9999) 111 3 9999) 111 4 99) 111 5 0) 111 6 0) 111 7 0) 111 14 0) 1 1).toInt.toNat (h1.2.1 3 4) := m1.2.2.2.2.2.2
  rw [show (qm_up (qm_up (qm_up (qm_up (qm_up (qm_up (qm_up (qm_up (qm_up h.2.1 111 0 3) 111 1 9999) 111 2 9999) 111 3 9999) 111 4 99) 111 5 0) 111 6 0) 111 7 0) 111 14 0) 2 = h.2.1 2 from (funext fun i => ((hk_ot rfl).trans ((hk_ot rfl).trans ((hk_ot rfl).trans ((hk_ot rfl).trans ((hk_ot rfl).trans ((hk_ot rfl).trans ((hk_ot rfl).trans ((hk_ot rfl).trans ((hk_ot rfl).trans rfl)))))))))), show (qm_up (qm_up (qm_up (qm_up (qm_up (qm_up (qm_up (qm_up (qm_up h.2.1 111 0 3) 111 1 9999) 111 2 9999) 111 3 9999) 111 4 99) 111 5 0) 111 6 0) 111 7 0) 111 14 0) 1 1 = h.2.1 1 1 from ((hk_ot rfl).trans ((hk_ot rfl).trans ((hk_ot rfl).trans ((hk_ot rfl).trans ((hk_ot rfl).trans ((hk_ot rfl).trans ((hk_ot rfl).trans ((hk_ot rfl).trans ((hk_ot rfl).trans rfl)))))))))] at q9
  have c9 : cRes 111 ((qm_up (qm_up (qm_up (qm_up (qm_up (qm_up (qm_up (qm_up (qm_up h.2.1 111 0 3) 111 1 9999) 111 2 9999) 111 3 9999) 111 4 99) 111 5 0) 111 6 0) 111 7 0) 111 14 0) 2) ((qm_up (qm_up (qm_up (qm_up (qm_up (qm_up (qm_up (qm_up (qm_up h.2.1 111 0 3) 111 1 9999) 111 2 9999) 111 3 9999) 111 4 99) 111 5 0) 111 6 0) 111 7 0) 111 14 0) 1 1).toInt.toNat v h1.2.1 := c1
  rw [show (qm_up (qm_up (qm_up (qm_up (qm_up (qm_up (qm_up (qm_up (qm_up h.2.1 111 0 3) 111 1 9999) 111 2 9999) 111 3 9999) 111 4 99) 111 5 0) 111 6 0) 111 7 0) 111 14 0) 2 = h.2.1 2 from (funext fun i => ((hk_ot rfl).trans ((hk_ot rfl).trans ((hk_ot rfl).trans ((hk_ot rfl).trans ((hk_ot rfl).trans ((hk_ot rfl).trans ((hk_ot rfl).trans ((hk_ot rfl).trans ((hk_ot rfl).trans rfl)))))))))), show (qm_up (qm_up (qm_up (qm_up (qm_up (qm_up (qm_up (qm_up (qm_up h.2.1 111 0 3) 111 1 9999) 111 2 9999) 111 3 9999) 111 4 99) 111 5 0) 111 6 0) 111 7 0) 111 14 0) 1 1 = h.2.1 1 1 from ((hk_ot rfl).trans ((hk_ot rfl).trans ((hk_ot rfl).trans ((hk_ot rfl).trans ((hk_ot rfl).trans ((hk_ot rfl).trans ((hk_ot rfl).trans ((hk_ot rfl).trans ((hk_ot rfl).trans rfl)))))))))] at c9
  exact k v h1 ⟨m1.1, fun o i ho hn h3 => (m1.2.1 o i ho hn h3).trans (n33 o i h3), fun o ho hn i => (m1.2.2.1 o ho hn i).trans ((hk_mod hn rfl).trans ((hk_mod hn rfl).trans ((hk_mod hn rfl).trans ((hk_mod hn rfl).trans ((hk_mod hn rfl).trans ((hk_mod hn rfl).trans ((hk_mod hn rfl).trans ((hk_mod hn rfl).trans ((hk_mod hn rfl).trans rfl))))))))), m1.2.2.2.1, m1.2.2.2.2.1, m1.2.2.2.2.2.1, q9⟩ c9
theorem hp_read29 {L : Nat} {xs : Nat → Int32} {d : Nat} {Z : Option Value → qm_H → Prop} {h : qm_H} (h6 : 6 ≤ L) (hH : hk_H h) (hT : h.2.2.2 0 9 = some 111 ∧ h.2.2.2 28 2 = some 29) (hB : hk_B h.2.1) (hr : hk_ru h.2.1) (hw : wI h) (hz : h.2.1 1 1 = 0) {v : Int32} (k1 : ∀ (w : Int32) (h' : qm_H), rD h h' → h'.2.1 3 4 = h.2.1 3 4 → aK1 29 111 v h h' w ∧ cJ1 h h' → (h'.2.2.2 0 9 = some 111 ∧ h'.2.2.2 28 2 = some 29) → Z (some (.int w)) h') (k2 : ∀ (w : Int32) (h' : qm_H), rD h h' → h'.2.1 3 4 = h.2.1 3 4 → aK2 111 v h h' w ∧ jC0 (h'.2.1 111 0) h'.2.1 → (h'.2.2.2 0 9 = some 29 ∧ h'.2.2.2 28 2 = some 111) → Z (some (.int w)) h') : qm_Ru (some (L, xs)) (d + 40) cd_18 (11, [.ref 0, .float 0, .float 0], [.int v], h) Z := by
  refine qm_Ru.go 2 (c' := (13, [.ref 0, .int v, .float 0], [.int v], h)) rfl ?_
  refine hk_zeq (ix := v.toInt) rfl rfl (fun z1 => ?_) (fun z1 => ?_)
  · refine qm_Ru.go 1 (c' := (19, [.ref 0, .int v, .float 0], [.ref 0], h)) rfl ?_
    refine hk_getr rfl (hH.1 0 (16, 10) rfl) rfl (hH.2 0 4 (some 28) rfl) ?_
    refine qm_Ru.go 1 (c' := (23, [.ref 0, .int v, .float 0], [.ref 0, .ref 28], h)) rfl ?_
    refine hk_getr rfl (hH.1 0 (16, 10) rfl) rfl hT.1 ?_
    refine qm_Ru.go 0 (c' := (26, [.ref 0, .int v, .float 0], [.ref 111, .ref 28], h)) rfl ?_
    obtain ⟨v2, q_v2⟩ : ∃ v_, h.2.1 111 0 = v_ := ⟨_, rfl⟩
    have b_v2 : (2 : Int) ≤ v2.toInt ∧ v2.toInt ≤ 5 := by rw [← q_v2]; exact hB 111 0
    refine hk_geti (v := v2) rfl (hH.1 111 (11, 16) rfl) rfl q_v2 ?_
    refine qm_Ru.go 0 (c' := (29, [.ref 0, .int v, .float 0], [.int v2, .ref 28], h)) rfl ?_
    refine hk_inv (o := 28) (r := []) (as := [.ref 28, .int v2]) rfl rfl (hH.1 28 (9, 8) rfl) rfl rfl rfl rfl (hs_stb4 (h := h) hH hB ⟨by show (2 : Int) ≤ v2.toInt; omega, by show v2.toInt ≤ (5 : Int); omega⟩ (fun s9 => ?_) (fun s9 => ?_))
    · refine qm_Ru.go 2 (c' := (37, [.ref 0, .int v, .float 0], [.int (-3)], h)) rfl ?_
      refine qm_Ru.rt (v := (some (.int (-3)))) (h' := h) rfl ?_
      exact k1 ((-3)) _ ⟨fun _ _ => rfl, fun _ _ _ _ => rfl, fun _ _ _ _ => rfl, hB, wI_same hw rfl rfl, hz⟩ rfl ⟨⟨fun _ => rfl, Or.inr ⟨by omega, rfl, by rw [q_v2]; exact s9⟩⟩, fun _ _ _ => rfl⟩ hT
    · refine qm_Ru.go 2 (c' := (39, [.ref 0, .int v, .float 0], [.ref 0], h)) rfl ?_
      refine hk_getr rfl (hH.1 0 (16, 10) rfl) rfl (hH.2 0 4 (some 28) rfl) ?_
      refine qm_Ru.go 0 (c' := (42, [.ref 0, .int v, .float 0], [.ref 28], h)) rfl ?_
      refine hk_getr rfl (hH.1 28 (9, 8) rfl) rfl hT.2 ?_
      refine qm_Ru.go 2 (c' := (47, [.ref 0, .int v, .ref 29], [.ref 0], h)) rfl ?_
      refine hk_getr rfl (hH.1 0 (16, 10) rfl) rfl (hH.2 0 4 (some 28) rfl) ?_
      refine qm_Ru.go 1 (c' := (51, [.ref 0, .int v, .ref 29], [.ref 0, .ref 28], h)) rfl ?_
      refine hk_getr rfl (hH.1 0 (16, 10) rfl) rfl hT.1 ?_
      refine qm_Ru.go 0 (c' := (54, [.ref 0, .int v, .ref 29], [.ref 111, .ref 28], h)) rfl ?_
      refine hk_putr rfl (hH.1 28 (9, 8) rfl) rfl ?_
      refine qm_Ru.go 2 (c' := (59, [.ref 0, .int v, .ref 29], [.ref 29, .ref 0], (h.1, h.2.1, h.2.2.1, qm_up h.2.2.2 28 2 (some 111)))) rfl ?_
      refine hk_putr rfl (hH.1 0 (16, 10) rfl) rfl ?_
      have nR : ∀ o i, ¬ (o = 28 ∧ i = 2) → ¬ (o = 0 ∧ i = 9) → (qm_up (qm_up h.2.2.2 28 2 (some 111)) 0 9 (some 29)) o i = h.2.2.2 o i := fun o i a b => (wr_ne b).trans (wr_ne a)
      have H3 : hk_H (h.1, h.2.1, h.2.2.1, qm_up (qm_up h.2.2.2 28 2 (some 111)) 0 9 (some 29)) := hk_H_of hH (fun _ _ => rfl) (fun o i _ hn => nR o i (fun z => by obtain ⟨rfl, rfl⟩ := z; exact hn rfl) (fun z => by obtain ⟨rfl, rfl⟩ := z; exact hn rfl))
      have T3 : (qm_up (qm_up h.2.2.2 28 2 (some 111)) 0 9 (some 29)) 0 9 = some 29 ∧ (qm_up (qm_up h.2.2.2 28 2 (some 111)) 0 9 (some 29)) 28 2 = some 111 := ⟨wr_eq, (wr_ne (by decide)).trans wr_eq⟩
      have W3 : wI (h.1, h.2.1, h.2.2.1, qm_up (qm_up h.2.2.2 28 2 (some 111)) 0 9 (some 29)) := wI_refs hw rfl (fun o i ho => nR o i (by omega) (by omega))
      refine qm_Ru.go 1 (c' := (63, [.ref 0, .int v, .ref 29], [.ref 0], (h.1, h.2.1, h.2.2.1, qm_up (qm_up h.2.2.2 28 2 (some 111)) 0 9 (some 29)))) rfl ?_
      refine hk_getr rfl (H3.1 0 (16, 10) rfl) rfl (H3.2 0 7 (some 51) rfl) ?_
      refine hk_inv (o := 51) (r := []) (as := [.ref 51]) rfl rfl (H3.1 51 (14, 13) rfl) rfl rfl rfl rfl (hs_bg111 (h := (h.1, h.2.1, h.2.2.1, qm_up (qm_up h.2.2.2 28 2 (some 111)) 0 9 (some 29))) h6 H3 T3 hB hr (by omega) (fun I1 J1 hB1 e1 c1 => ?_))
      refine qm_Ru.go 1 (c' := (70, [.ref 0, .int v, .ref 29], [.int 0], (h.1, I1, J1, qm_up (qm_up h.2.2.2 28 2 (some 111)) 0 9 (some 29)))) rfl ?_
      refine qm_Ru.rt (v := some (.int 0)) (h' := (h.1, I1, J1, qm_up (qm_up h.2.2.2 28 2 (some 111)) 0 9 (some 29))) rfl ?_
      exact k2 0 _ ⟨fun _ _ => rfl, fun o i ho hn => rt_same hH H3 hn, fun o ho hn i => e1 o (hk_ms (m2 := [1, 3, 4, 5, 29, 30, 31, 32, 33, 34, 35, 51, 93, 94, 95, 96, 97, 111, 112, 113, 114, 115, 116, 117]) rfl hn) i, hB1, wI_same W3 rfl rfl, (e1 1 rfl 1).trans hz⟩ (e1 3 rfl 4) ⟨⟨fun i => e1 111 rfl i, by omega, rfl, by rw [q_v2]; exact s9⟩, (show jC0 (I1 111 0) I1 from by rw [e1 111 rfl 0]; exact c1)⟩ T3
  · refine qm_Ru.go 1 (c' := (17, [.ref 0, .int v, .float 0], [.int v], h)) rfl ?_
    refine qm_Ru.rt (v := (some (.int v))) (h' := h) rfl ?_
    exact k1 v _ ⟨fun _ _ => rfl, fun _ _ _ _ => rfl, fun _ _ _ _ => rfl, hB, wI_same hw rfl rfl, hz⟩ rfl ⟨⟨fun _ => rfl, Or.inl ⟨by omega, rfl⟩⟩, fun _ _ _ => rfl⟩ hT
theorem hs_read29 {L : Nat} {xs : Nat → Int32} {d : Nat} {Z : Option Value → qm_H → Prop} {h : qm_H} (h6 : 6 ≤ L) (hH : hk_H h) (hT : h.2.2.2 0 9 = some 111 ∧ h.2.2.2 28 2 = some 29) (hB : hk_B h.2.1) (hr : hk_ru h.2.1) (hw : wI h) (k1 : ∀ (v : Int32) (h' : qm_H), rD h h' → cPl (h.2.1 2) (h.2.1 1 1).toInt.toNat (h'.2.1 3 4) → cO1 29 h h' v ∧ cJ1 h h' → (h'.2.2.2 0 9 = some 111 ∧ h'.2.2.2 28 2 = some 29) → Z (some (.int v)) h') (k2 : ∀ (v : Int32) (h' : qm_H), rD h h' → cPl (h.2.1 2) (h.2.1 1 1).toInt.toNat (h'.2.1 3 4) → cO2 111 h h' v ∧ jC0 (h'.2.1 111 0) h'.2.1 → (h'.2.2.2 0 9 = some 29 ∧ h'.2.2.2 28 2 = some 111) → Z (some (.int v)) h') : qm_Ru (some (L, xs)) (d + 40) cd_18 (qm_ent 3 [.ref 0] h) Z := by
  show qm_Ru (some (L, xs)) (d + 40) cd_18 (0, [.ref 0, .float 0, .float 0], [], h) Z
  refine qm_Ru.go 1 (c' := (1, [.ref 0, .float 0, .float 0], [.ref 0], h)) rfl ?_
  refine hk_getr rfl (hH.1 0 (16, 10) rfl) rfl (hH.2 0 1 (some 3) rfl) ?_
  refine qm_Ru.go 1 (c' := (5, [.ref 0, .float 0, .float 0], [.ref 0, .ref 3], h)) rfl ?_
  refine hk_getr rfl (hH.1 0 (16, 10) rfl) rfl hT.1 ?_
  refine hk_inv (o := 3) (r := []) (as := [.ref 3, .ref 111]) rfl rfl (hH.1 3 (8, 14) rfl) rfl rfl rfl rfl (hs_parse111 (d := d + 9) h6 hH hB hr hw (fun v h1 m1 c1 => ?_))
  have H1 : hk_H h1 := hk_H_of hH m1.1 (fun o i ho hn => m1.2.1 o i ho (fun z => by obtain ⟨rfl, rfl⟩ := z; exact hn rfl) (fun z => by obtain ⟨rfl, rfl⟩ := z; exact hn rfl))
  have T1 : h1.2.2.2 0 9 = some 111 ∧ h1.2.2.2 28 2 = some 29 := ⟨(m1.2.1 0 9 (by decide) (by decide) (by decide)).trans hT.1, (m1.2.1 28 2 (by decide) (by decide) (by decide)).trans hT.2⟩
  have R1 : rD h h1 := ⟨m1.1, fun o i ho hn => m1.2.1 o i ho (fun z => by obtain ⟨rfl, rfl⟩ := z; exact hn rfl) (fun z => by obtain ⟨rfl, rfl⟩ := z; exact hn rfl), fun o ho hn i => m1.2.2.1 o ho (hk_ms (m2 := [1, 3, 4, 5, 29, 30, 31, 32, 33, 34, 35, 51, 93, 94, 95, 96, 97, 111, 112, 113, 114, 115, 116, 117]) rfl hn) i, m1.2.2.2.1, m1.2.2.2.2.1, m1.2.2.2.2.2.1⟩
  have key : ∀ o ∈ [11, 12, 13, 14, 150, 151], o < 192 ∧ [1, 3, 4, 5, 111, 112, 113, 114, 115, 116, 117].contains o = false := by decide +kernel
  have r1 : hk_ru h1.2.1 := hk_ru_cg hr (fun o ho i => m1.2.2.1 o (key o (List.contains_iff_mem.mp ho)).1 (key o (List.contains_iff_mem.mp ho)).2 i)
  have F1 : ∀ i, h1.2.1 29 i = h.2.1 29 i := fun i => m1.2.2.1 29 (by decide) (by decide +kernel) i
  have F37 : ∀ i, h1.2.1 37 i = h.2.1 37 i := fun i => m1.2.2.1 37 (by decide) (by decide +kernel) i
  have kW : ∀ o ∈ [51, 93, 94, 95, 96, 97], o < 192 ∧ [1, 3, 4, 5, 111, 112, 113, 114, 115, 116, 117].contains o = false := by decide +kernel
  exact hp_read29 h6 H1 T1 m1.2.2.2.1 r1 m1.2.2.2.2.1 m1.2.2.2.2.2.1 (fun w h2 m2 e2 a2 => k1 w h2 (rD_trans R1 m2) (by rw [e2]; exact m1.2.2.2.2.2.2) ⟨cO1_of c1 F1 F37 a2.1, fun o ho i => (a2.2 o ho i).trans (m1.2.2.1 o (kW o ho).1 (kW o ho).2 i)⟩) (fun w h2 m2 e2 a2 => k2 w h2 (rD_trans R1 m2) (by rw [e2]; exact m1.2.2.2.2.2.2) ⟨cO2_of c1 F37 a2.1, a2.2⟩)
theorem hp_read111 {L : Nat} {xs : Nat → Int32} {d : Nat} {Z : Option Value → qm_H → Prop} {h : qm_H} (h6 : 6 ≤ L) (hH : hk_H h) (hT : h.2.2.2 0 9 = some 29 ∧ h.2.2.2 28 2 = some 111) (hB : hk_B h.2.1) (hr : hk_ru h.2.1) (hw : wI h) (hz : h.2.1 1 1 = 0) {v : Int32} (k1 : ∀ (w : Int32) (h' : qm_H), rD h h' → h'.2.1 3 4 = h.2.1 3 4 → aK1 111 29 v h h' w ∧ cJ1 h h' → (h'.2.2.2 0 9 = some 29 ∧ h'.2.2.2 28 2 = some 111) → Z (some (.int w)) h') (k2 : ∀ (w : Int32) (h' : qm_H), rD h h' → h'.2.1 3 4 = h.2.1 3 4 → aK2 29 v h h' w ∧ jC0 (h'.2.1 29 0) h'.2.1 → (h'.2.2.2 0 9 = some 111 ∧ h'.2.2.2 28 2 = some 29) → Z (some (.int w)) h') : qm_Ru (some (L, xs)) (d + 40) cd_18 (11, [.ref 0, .float 0, .float 0], [.int v], h) Z := by
  refine qm_Ru.go 2 (c' := (13, [.ref 0, .int v, .float 0], [.int v], h)) rfl ?_
  refine hk_zeq (ix := v.toInt) rfl rfl (fun z1 => ?_) (fun z1 => ?_)
  · refine qm_Ru.go 1 (c' := (19, [.ref 0, .int v, .float 0], [.ref 0], h)) rfl ?_
    refine hk_getr rfl (hH.1 0 (16, 10) rfl) rfl (hH.2 0 4 (some 28) rfl) ?_
    refine qm_Ru.go 1 (c' := (23, [.ref 0, .int v, .float 0], [.ref 0, .ref 28], h)) rfl ?_
    refine hk_getr rfl (hH.1 0 (16, 10) rfl) rfl hT.1 ?_
    refine qm_Ru.go 0 (c' := (26, [.ref 0, .int v, .float 0], [.ref 29, .ref 28], h)) rfl ?_
    obtain ⟨v2, q_v2⟩ : ∃ v_, h.2.1 29 0 = v_ := ⟨_, rfl⟩
    have b_v2 : (2 : Int) ≤ v2.toInt ∧ v2.toInt ≤ 5 := by rw [← q_v2]; exact hB 29 0
    refine hk_geti (v := v2) rfl (hH.1 29 (11, 16) rfl) rfl q_v2 ?_
    refine qm_Ru.go 0 (c' := (29, [.ref 0, .int v, .float 0], [.int v2, .ref 28], h)) rfl ?_
    refine hk_inv (o := 28) (r := []) (as := [.ref 28, .int v2]) rfl rfl (hH.1 28 (9, 8) rfl) rfl rfl rfl rfl (hs_stb4 (h := h) hH hB ⟨by show (2 : Int) ≤ v2.toInt; omega, by show v2.toInt ≤ (5 : Int); omega⟩ (fun s9 => ?_) (fun s9 => ?_))
    · refine qm_Ru.go 2 (c' := (37, [.ref 0, .int v, .float 0], [.int (-3)], h)) rfl ?_
      refine qm_Ru.rt (v := (some (.int (-3)))) (h' := h) rfl ?_
      exact k1 ((-3)) _ ⟨fun _ _ => rfl, fun _ _ _ _ => rfl, fun _ _ _ _ => rfl, hB, wI_same hw rfl rfl, hz⟩ rfl ⟨⟨fun _ => rfl, Or.inr ⟨by omega, rfl, by rw [q_v2]; exact s9⟩⟩, fun _ _ _ => rfl⟩ hT
    · refine qm_Ru.go 2 (c' := (39, [.ref 0, .int v, .float 0], [.ref 0], h)) rfl ?_
      refine hk_getr rfl (hH.1 0 (16, 10) rfl) rfl (hH.2 0 4 (some 28) rfl) ?_
      refine qm_Ru.go 0 (c' := (42, [.ref 0, .int v, .float 0], [.ref 28], h)) rfl ?_
      refine hk_getr rfl (hH.1 28 (9, 8) rfl) rfl hT.2 ?_
      refine qm_Ru.go 2 (c' := (47, [.ref 0, .int v, .ref 111], [.ref 0], h)) rfl ?_
      refine hk_getr rfl (hH.1 0 (16, 10) rfl) rfl (hH.2 0 4 (some 28) rfl) ?_
      refine qm_Ru.go 1 (c' := (51, [.ref 0, .int v, .ref 111], [.ref 0, .ref 28], h)) rfl ?_
      refine hk_getr rfl (hH.1 0 (16, 10) rfl) rfl hT.1 ?_
      refine qm_Ru.go 0 (c' := (54, [.ref 0, .int v, .ref 111], [.ref 29, .ref 28], h)) rfl ?_
      refine hk_putr rfl (hH.1 28 (9, 8) rfl) rfl ?_
      refine qm_Ru.go 2 (c' := (59, [.ref 0, .int v, .ref 111], [.ref 111, .ref 0], (h.1, h.2.1, h.2.2.1, qm_up h.2.2.2 28 2 (some 29)))) rfl ?_
      refine hk_putr rfl (hH.1 0 (16, 10) rfl) rfl ?_
      have nR : ∀ o i, ¬ (o = 28 ∧ i = 2) → ¬ (o = 0 ∧ i = 9) → (qm_up (qm_up h.2.2.2 28 2 (some 29)) 0 9 (some 111)) o i = h.2.2.2 o i := fun o i a b => (wr_ne b).trans (wr_ne a)
      have H3 : hk_H (h.1, h.2.1, h.2.2.1, qm_up (qm_up h.2.2.2 28 2 (some 29)) 0 9 (some 111)) := hk_H_of hH (fun _ _ => rfl) (fun o i _ hn => nR o i (fun z => by obtain ⟨rfl, rfl⟩ := z; exact hn rfl) (fun z => by obtain ⟨rfl, rfl⟩ := z; exact hn rfl))
      have T3 : (qm_up (qm_up h.2.2.2 28 2 (some 29)) 0 9 (some 111)) 0 9 = some 111 ∧ (qm_up (qm_up h.2.2.2 28 2 (some 29)) 0 9 (some 111)) 28 2 = some 29 := ⟨wr_eq, (wr_ne (by decide)).trans wr_eq⟩
      have W3 : wI (h.1, h.2.1, h.2.2.1, qm_up (qm_up h.2.2.2 28 2 (some 29)) 0 9 (some 111)) := wI_refs hw rfl (fun o i ho => nR o i (by omega) (by omega))
      refine qm_Ru.go 1 (c' := (63, [.ref 0, .int v, .ref 111], [.ref 0], (h.1, h.2.1, h.2.2.1, qm_up (qm_up h.2.2.2 28 2 (some 29)) 0 9 (some 111)))) rfl ?_
      refine hk_getr rfl (H3.1 0 (16, 10) rfl) rfl (H3.2 0 7 (some 51) rfl) ?_
      refine hk_inv (o := 51) (r := []) (as := [.ref 51]) rfl rfl (H3.1 51 (14, 13) rfl) rfl rfl rfl rfl (hs_bg29 (h := (h.1, h.2.1, h.2.2.1, qm_up (qm_up h.2.2.2 28 2 (some 29)) 0 9 (some 111))) h6 H3 T3 hB hr (by omega) (fun I1 J1 hB1 e1 c1 => ?_))
      refine qm_Ru.go 1 (c' := (70, [.ref 0, .int v, .ref 111], [.int 0], (h.1, I1, J1, qm_up (qm_up h.2.2.2 28 2 (some 29)) 0 9 (some 111)))) rfl ?_
      refine qm_Ru.rt (v := some (.int 0)) (h' := (h.1, I1, J1, qm_up (qm_up h.2.2.2 28 2 (some 29)) 0 9 (some 111))) rfl ?_
      exact k2 0 _ ⟨fun _ _ => rfl, fun o i ho hn => rt_same hH H3 hn, fun o ho hn i => e1 o (hk_ms (m2 := [1, 3, 4, 5, 29, 30, 31, 32, 33, 34, 35, 51, 93, 94, 95, 96, 97, 111, 112, 113, 114, 115, 116, 117]) rfl hn) i, hB1, wI_same W3 rfl rfl, (e1 1 rfl 1).trans hz⟩ (e1 3 rfl 4) ⟨⟨fun i => e1 29 rfl i, by omega, rfl, by rw [q_v2]; exact s9⟩, (show jC0 (I1 29 0) I1 from by rw [e1 29 rfl 0]; exact c1)⟩ T3
  · refine qm_Ru.go 1 (c' := (17, [.ref 0, .int v, .float 0], [.int v], h)) rfl ?_
    refine qm_Ru.rt (v := (some (.int v))) (h' := h) rfl ?_
    exact k1 v _ ⟨fun _ _ => rfl, fun _ _ _ _ => rfl, fun _ _ _ _ => rfl, hB, wI_same hw rfl rfl, hz⟩ rfl ⟨⟨fun _ => rfl, Or.inl ⟨by omega, rfl⟩⟩, fun _ _ _ => rfl⟩ hT
theorem hs_read111 {L : Nat} {xs : Nat → Int32} {d : Nat} {Z : Option Value → qm_H → Prop} {h : qm_H} (h6 : 6 ≤ L) (hH : hk_H h) (hT : h.2.2.2 0 9 = some 29 ∧ h.2.2.2 28 2 = some 111) (hB : hk_B h.2.1) (hr : hk_ru h.2.1) (hw : wI h) (k1 : ∀ (v : Int32) (h' : qm_H), rD h h' → cPl (h.2.1 2) (h.2.1 1 1).toInt.toNat (h'.2.1 3 4) → cO1 111 h h' v ∧ cJ1 h h' → (h'.2.2.2 0 9 = some 29 ∧ h'.2.2.2 28 2 = some 111) → Z (some (.int v)) h') (k2 : ∀ (v : Int32) (h' : qm_H), rD h h' → cPl (h.2.1 2) (h.2.1 1 1).toInt.toNat (h'.2.1 3 4) → cO2 29 h h' v ∧ jC0 (h'.2.1 29 0) h'.2.1 → (h'.2.2.2 0 9 = some 111 ∧ h'.2.2.2 28 2 = some 29) → Z (some (.int v)) h') : qm_Ru (some (L, xs)) (d + 40) cd_18 (qm_ent 3 [.ref 0] h) Z := by
  show qm_Ru (some (L, xs)) (d + 40) cd_18 (0, [.ref 0, .float 0, .float 0], [], h) Z
  refine qm_Ru.go 1 (c' := (1, [.ref 0, .float 0, .float 0], [.ref 0], h)) rfl ?_
  refine hk_getr rfl (hH.1 0 (16, 10) rfl) rfl (hH.2 0 1 (some 3) rfl) ?_
  refine qm_Ru.go 1 (c' := (5, [.ref 0, .float 0, .float 0], [.ref 0, .ref 3], h)) rfl ?_
  refine hk_getr rfl (hH.1 0 (16, 10) rfl) rfl hT.1 ?_
  refine hk_inv (o := 3) (r := []) (as := [.ref 3, .ref 29]) rfl rfl (hH.1 3 (8, 14) rfl) rfl rfl rfl rfl (hs_parse29 (d := d + 9) h6 hH hB hr hw (fun v h1 m1 c1 => ?_))
  have H1 : hk_H h1 := hk_H_of hH m1.1 (fun o i ho hn => m1.2.1 o i ho (fun z => by obtain ⟨rfl, rfl⟩ := z; exact hn rfl) (fun z => by obtain ⟨rfl, rfl⟩ := z; exact hn rfl))
  have T1 : h1.2.2.2 0 9 = some 29 ∧ h1.2.2.2 28 2 = some 111 := ⟨(m1.2.1 0 9 (by decide) (by decide) (by decide)).trans hT.1, (m1.2.1 28 2 (by decide) (by decide) (by decide)).trans hT.2⟩
  have R1 : rD h h1 := ⟨m1.1, fun o i ho hn => m1.2.1 o i ho (fun z => by obtain ⟨rfl, rfl⟩ := z; exact hn rfl) (fun z => by obtain ⟨rfl, rfl⟩ := z; exact hn rfl), fun o ho hn i => m1.2.2.1 o ho (hk_ms (m2 := [1, 3, 4, 5, 29, 30, 31, 32, 33, 34, 35, 51, 93, 94, 95, 96, 97, 111, 112, 113, 114, 115, 116, 117]) rfl hn) i, m1.2.2.2.1, m1.2.2.2.2.1, m1.2.2.2.2.2.1⟩
  have key : ∀ o ∈ [11, 12, 13, 14, 150, 151], o < 192 ∧ [1, 3, 4, 5, 29, 30, 31, 32, 33, 34, 35].contains o = false := by decide +kernel
  have r1 : hk_ru h1.2.1 := hk_ru_cg hr (fun o ho i => m1.2.2.1 o (key o (List.contains_iff_mem.mp ho)).1 (key o (List.contains_iff_mem.mp ho)).2 i)
  have F1 : ∀ i, h1.2.1 111 i = h.2.1 111 i := fun i => m1.2.2.1 111 (by decide) (by decide +kernel) i
  have F37 : ∀ i, h1.2.1 37 i = h.2.1 37 i := fun i => m1.2.2.1 37 (by decide) (by decide +kernel) i
  have kW : ∀ o ∈ [51, 93, 94, 95, 96, 97], o < 192 ∧ [1, 3, 4, 5, 29, 30, 31, 32, 33, 34, 35].contains o = false := by decide +kernel
  exact hp_read111 h6 H1 T1 m1.2.2.2.1 r1 m1.2.2.2.2.1 m1.2.2.2.2.2.1 (fun w h2 m2 e2 a2 => k1 w h2 (rD_trans R1 m2) (by rw [e2]; exact m1.2.2.2.2.2.2) ⟨cO1_of c1 F1 F37 a2.1, fun o ho i => (a2.2 o ho i).trans (m1.2.2.1 o (kW o ho).1 (kW o ho).2 i)⟩) (fun w h2 m2 e2 a2 => k2 w h2 (rD_trans R1 m2) (by rw [e2]; exact m1.2.2.2.2.2.2) ⟨cO2_of c1 F37 a2.1, a2.2⟩)
