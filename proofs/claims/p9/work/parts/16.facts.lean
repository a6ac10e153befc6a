/-! what the tables' words say of the small machine's tables -/
theorem qm_zip {α : Type} {f : α × Nat → Bool} : ∀ {l : List α} {ps : List Nat}, l.length ≤ ps.length → (l.zip ps).all f = true → ∀ {x : α}, x ∈ l → ∃ i, f (x, i) = true
  | [], _, _, _, _, hx => absurd hx List.not_mem_nil
  | _ :: _, [], hl, _, _, _ => by simp at hl
  | a :: l, q :: ps, hl, h, x, hx => by
    simp only [List.zip_cons_cons, List.all_cons, Bool.and_eq_true] at h
    rcases List.mem_cons.mp hx with rfl | hx
    · exact ⟨q, h.1⟩
    · exact qm_zip (by simpa using hl) h.2 hx
theorem qm_lk_mem : ∀ {t : List (Nat × Nat × Nat × Nat)} {o i : Nat} {q : Nat × Nat}, qm_lk t o i = some q → (o, i, q) ∈ t
  | [], _, _, _, h => by cases h
  | x :: t, o, i, q, h => by
    unfold qm_lk at h
    cases hb : Nat.beq x.1 o && Nat.beq x.2.1 i with
    | true =>
      simp only [hb, cond_true] at h
      rw [Bool.and_eq_true] at hb
      have h1 := Nat.eq_of_beq_eq_true hb.1
      have h2 := Nat.eq_of_beq_eq_true hb.2
      cases h
      subst h1
      subst h2
      exact List.mem_cons_self
    | false =>
      simp only [hb, cond_false] at h
      exact List.mem_cons_of_mem _ (qm_lk_mem h)
theorem qm_l3_mem : ∀ {t : List (Nat × Nat × Nat)} {o i : Nat}, qm_l3 t o i = true → ∃ j, (o, i, j) ∈ t
  | [], _, _, h => by cases h
  | x :: t, o, i, h => by
    unfold qm_l3 at h
    rw [Bool.or_eq_true, Bool.and_eq_true] at h
    rcases h with ⟨h1, h2⟩ | h
    · have h1 := Nat.eq_of_beq_eq_true h1
      have h2 := Nat.eq_of_beq_eq_true h2
      subst h1
      subst h2
      exact ⟨x.2.2, List.mem_cons_self⟩
    · obtain ⟨j, hj⟩ := qm_l3_mem h
      exact ⟨j, List.mem_cons_of_mem _ hj⟩
theorem qm_li_mem : ∀ {t : List (Nat × Nat × Int32 × Nat)} {o i : Nat} {q : Int32}, qm_li t o i = some q → ∃ j, (o, i, q, j) ∈ t
  | [], _, _, _, h => by cases h
  | x :: t, o, i, q, h => by
    unfold qm_li at h
    cases hb : Nat.beq x.1 o && Nat.beq x.2.1 i with
    | true =>
      simp only [hb, cond_true] at h
      rw [Bool.and_eq_true] at hb
      have h1 := Nat.eq_of_beq_eq_true hb.1
      have h2 := Nat.eq_of_beq_eq_true hb.2
      cases h
      subst h1
      subst h2
      exact ⟨x.2.2.2, List.mem_cons_self⟩
    | false =>
      simp only [hb, cond_false] at h
      obtain ⟨j, hj⟩ := qm_li_mem h
      exact ⟨j, List.mem_cons_of_mem _ hj⟩
theorem qm_lj_mem : ∀ {t : List (Nat × Nat × Int64 × Nat)} {o i : Nat} {q : Int64}, qm_lj t o i = some q → ∃ j, (o, i, q, j) ∈ t
  | [], _, _, _, h => by cases h
  | x :: t, o, i, q, h => by
    unfold qm_lj at h
    cases hb : Nat.beq x.1 o && Nat.beq x.2.1 i with
    | true =>
      simp only [hb, cond_true] at h
      rw [Bool.and_eq_true] at hb
      have h1 := Nat.eq_of_beq_eq_true hb.1
      have h2 := Nat.eq_of_beq_eq_true hb.2
      cases h
      subst h1
      subst h2
      exact ⟨x.2.2.2, List.mem_cons_self⟩
    | false =>
      simp only [hb, cond_false] at h
      obtain ⟨j, hj⟩ := qm_lj_mem h
      exact ⟨j, List.mem_cons_of_mem _ hj⟩
theorem qm_at_mem {q : Nat} {w : Cond} (h : qm_at q = some w) : w ∈ lw_tbl := by
  unfold qm_at at h
  have h := List.mem_of_getElem? h
  generalize q / 1000 = c at h
  have hs : w ∈ tables_1 → w ∈ lw_tbl := fun z => List.mem_append_right _ z
  match c, h with
  | 0, h => exact hs (List.mem_append_left _ h)
  | 1, h => exact hs (List.mem_append_right _ (List.mem_append_left _ h))
  | 2, h => exact hs (List.mem_append_right _ (List.mem_append_right _ (List.mem_append_left _ h)))
  | 3, h => exact hs (List.mem_append_right _ (List.mem_append_right _ (List.mem_append_right _ (List.mem_append_left _ h))))
  | 4, h => exact hs (List.mem_append_right _ (List.mem_append_right _ (List.mem_append_right _ (List.mem_append_right _ (List.mem_append_left _ h)))))
  | 5, h => exact hs (List.mem_append_right _ (List.mem_append_right _ (List.mem_append_right _ (List.mem_append_right _ (List.mem_append_right _ (List.mem_append_left _ h))))))
  | 6, h => exact hs (List.mem_append_right _ (List.mem_append_right _ (List.mem_append_right _ (List.mem_append_right _ (List.mem_append_right _ (List.mem_append_right _ (List.mem_append_left _ h)))))))
  | 7, h => exact hs (List.mem_append_right _ (List.mem_append_right _ (List.mem_append_right _ (List.mem_append_right _ (List.mem_append_right _ (List.mem_append_right _ (List.mem_append_right _ (List.mem_append_left _ h))))))))
  | 8, h => exact hs (List.mem_append_right _ (List.mem_append_right _ (List.mem_append_right _ (List.mem_append_right _ (List.mem_append_right _ (List.mem_append_right _ (List.mem_append_right _ (List.mem_append_right _ (List.mem_append_left _ h)))))))))
  | 9, h => exact hs (List.mem_append_right _ (List.mem_append_right _ (List.mem_append_right _ (List.mem_append_right _ (List.mem_append_right _ (List.mem_append_right _ (List.mem_append_right _ (List.mem_append_right _ (List.mem_append_right _ (List.mem_append_left _ h))))))))))
  | 10, h => exact hs (List.mem_append_right _ (List.mem_append_right _ (List.mem_append_right _ (List.mem_append_right _ (List.mem_append_right _ (List.mem_append_right _ (List.mem_append_right _ (List.mem_append_right _ (List.mem_append_right _ (List.mem_append_right _ (h)))))))))))
  | 11, h => exact List.mem_append_left _ h
  | n + 12, h => exact absurd h List.not_mem_nil
def qm_flf (q : (Nat × Nat × Nat × Nat) × Nat) : Bool := match qm_vc[q.1.2.2.1]? with
  | some r => decide (q.1.2.2.2 < r.2.2) && decide (qm_at q.2 = some (.fieldLink (qm_cn q.1.1) q.1.2.1 (r.2.1 q.1.2.2.2).1 (r.2.1 q.1.2.2.2).2.1 (r.2.1 q.1.2.2.2).2.2.1))
  | none => false
theorem qm_flc_0 : (qm_fl_0.zip qm_flp_0).all qm_flf = true := by decide +kernel
theorem qm_flc_1 : (qm_fl_1.zip qm_flp_1).all qm_flf = true := by decide +kernel
theorem qm_flc_2 : (qm_fl_2.zip qm_flp_2).all qm_flf = true := by decide +kernel
theorem qm_flc_3 : (qm_fl_3.zip qm_flp_3).all qm_flf = true := by decide +kernel
theorem qm_flc_4 : (qm_fl_4.zip qm_flp_4).all qm_flf = true := by decide +kernel
theorem qm_flc_5 : (qm_fl_5.zip qm_flp_5).all qm_flf = true := by decide +kernel
theorem qm_fl_in {x : Nat × Nat × Nat × Nat} (hm : x ∈ qm_fl) : ∃ j, qm_flf (x, j) = true := by
  rcases List.mem_append.mp hm with hm | hm
  · exact qm_zip (by decide +kernel) qm_flc_0 hm
  rcases List.mem_append.mp hm with hm | hm
  · exact qm_zip (by decide +kernel) qm_flc_1 hm
  rcases List.mem_append.mp hm with hm | hm
  · exact qm_zip (by decide +kernel) qm_flc_2 hm
  rcases List.mem_append.mp hm with hm | hm
  · exact qm_zip (by decide +kernel) qm_flc_3 hm
  rcases List.mem_append.mp hm with hm | hm
  · exact qm_zip (by decide +kernel) qm_flc_4 hm
  exact qm_zip (by decide +kernel) qm_flc_5 hm
theorem qm_fl_use {o i a k : Nat} (h : qm_lk qm_fl o i = some (a, k)) : ∃ (C : String) (T : u_T) (N : Nat), qm_vc[a]? = some (C, T, N) ∧ k < N ∧ Cond.fieldLink (qm_cn o) i (T k).1 (T k).2.1 (T k).2.2.1 ∈ lw_tbl := by
  obtain ⟨j, hj⟩ := qm_fl_in (qm_lk_mem h)
  unfold qm_flf at hj
  dsimp only at hj
  cases hr : qm_vc[a]? with
  | none => simp [hr] at hj
  | some r =>
    simp only [hr, Bool.and_eq_true, decide_eq_true_eq] at hj
    exact ⟨r.1, r.2.1, r.2.2, rfl, hj.1, qm_at_mem hj.2⟩
def qm_mlf (q : (Nat × Nat × Nat × Nat) × Nat) : Bool := match qm_hd[q.1.2.2.1]? with
  | some e => decide (qm_at q.2 = some (bif Nat.beq q.1.2.2.2 0 then .methodLink (qm_cn q.1.1) q.1.2.1 e.2.1 else .methodLinkNest (qm_cn q.1.1) q.1.2.1 e.2.1 "BoxQuay"))
  | none => false
theorem qm_mlc_0 : (qm_ml_0.zip qm_mlp_0).all qm_mlf = true := by decide +kernel
theorem qm_mlc_1 : (qm_ml_1.zip qm_mlp_1).all qm_mlf = true := by decide +kernel
theorem qm_mlc_2 : (qm_ml_2.zip qm_mlp_2).all qm_mlf = true := by decide +kernel
theorem qm_mlc_3 : (qm_ml_3.zip qm_mlp_3).all qm_mlf = true := by decide +kernel
theorem qm_mlc_4 : (qm_ml_4.zip qm_mlp_4).all qm_mlf = true := by decide +kernel
theorem qm_mlc_5 : (qm_ml_5.zip qm_mlp_5).all qm_mlf = true := by decide +kernel
theorem qm_mlc_6 : (qm_ml_6.zip qm_mlp_6).all qm_mlf = true := by decide +kernel
theorem qm_mlc_7 : (qm_ml_7.zip qm_mlp_7).all qm_mlf = true := by decide +kernel
theorem qm_ml_in {x : Nat × Nat × Nat × Nat} (hm : x ∈ qm_ml) : ∃ j, qm_mlf (x, j) = true := by
  rcases List.mem_append.mp hm with hm | hm
  · exact qm_zip (by decide +kernel) qm_mlc_0 hm
  rcases List.mem_append.mp hm with hm | hm
  · exact qm_zip (by decide +kernel) qm_mlc_1 hm
  rcases List.mem_append.mp hm with hm | hm
  · exact qm_zip (by decide +kernel) qm_mlc_2 hm
  rcases List.mem_append.mp hm with hm | hm
  · exact qm_zip (by decide +kernel) qm_mlc_3 hm
  rcases List.mem_append.mp hm with hm | hm
  · exact qm_zip (by decide +kernel) qm_mlc_4 hm
  rcases List.mem_append.mp hm with hm | hm
  · exact qm_zip (by decide +kernel) qm_mlc_5 hm
  rcases List.mem_append.mp hm with hm | hm
  · exact qm_zip (by decide +kernel) qm_mlc_6 hm
  exact qm_zip (by decide +kernel) qm_mlc_7 hm
theorem qm_ml_use {o i j z : Nat} (h : qm_lk qm_ml o i = some (j, z)) {e : qm_Hd} (he : qm_hd[j]? = some e) : (z = 0 ∧ Cond.methodLink (qm_cn o) i e.2.1 ∈ lw_tbl) ∨ (z ≠ 0 ∧ Cond.methodLinkNest (qm_cn o) i e.2.1 "BoxQuay" ∈ lw_tbl) := by
  obtain ⟨t, ht⟩ := qm_ml_in (qm_lk_mem h)
  unfold qm_mlf at ht
  dsimp only at ht
  simp only [he, decide_eq_true_eq] at ht
  by_cases hz : z = 0
  · subst hz
    exact Or.inl ⟨rfl, qm_at_mem ht⟩
  · simp only [qm_bne hz, cond_false] at ht
    exact Or.inr ⟨hz, qm_at_mem ht⟩
def qm_mn (k : Nat) : MethodName := match k with
  | 0 => Lib.Math.max.name
  | 1 => Lib.Math.min.name
  | 2 => Lib.Math.abs.name
  | 3 => Lib.MathLoose.max_long.x
  | _ => Lib.MathLoose.min_long.x
theorem qm_mt_ck : qm_mt.all (fun q => decide (qm_at q.2.2.2 = some (.methodLink (qm_cn q.1) q.2.1 (qm_mn q.2.2.1)))) = true := by decide +kernel
theorem qm_mt_use {o i a : Nat} (h : (qm_lk qm_mt o i).map Prod.fst = some a) : Cond.methodLink (qm_cn o) i (qm_mn a) ∈ lw_tbl := by
  cases hq : qm_lk qm_mt o i with
  | none => simp [hq] at h
  | some q =>
    rw [hq] at h
    cases h
    exact qm_at_mem (of_decide_eq_true (List.all_eq_true.mp qm_mt_ck _ (qm_lk_mem hq)))
theorem qm_ol_ck : qm_ol.all (fun q => decide (qm_at q.2.2 = some (.methodLink (qm_cn q.1) q.2.1 objectInit))) = true := by decide +kernel
theorem qm_ol_use {o i : Nat} (h : qm_l3 qm_ol o i = true) : Cond.methodLink (qm_cn o) i objectInit ∈ lw_tbl := by
  obtain ⟨j, hj⟩ := qm_l3_mem h
  exact qm_at_mem (of_decide_eq_true (List.all_eq_true.mp qm_ol_ck _ hj))
theorem qm_ac_ck : qm_ac.all (fun q => decide (qm_at q.2.2 = some (.methodLink (qm_cn q.1) q.2.1 arraycopyName))) = true := by decide +kernel
theorem qm_ac_use {o i : Nat} (h : qm_l3 qm_ac o i = true) : Cond.methodLink (qm_cn o) i arraycopyName ∈ lw_tbl := by
  obtain ⟨j, hj⟩ := qm_l3_mem h
  exact qm_at_mem (of_decide_eq_true (List.all_eq_true.mp qm_ac_ck _ hj))
theorem qm_gl_ck : qm_gl.all (fun q => decide (qm_at q.2.2 = some (.classLink (qm_cn q.1) q.2.1 ("[" ++ (FieldType.array .int).toString)))) = true := by decide +kernel
theorem qm_gl_use {o i : Nat} (h : qm_l3 qm_gl o i = true) : Cond.classLink (qm_cn o) i ("[" ++ (FieldType.array .int).toString) ∈ lw_tbl := by
  obtain ⟨j, hj⟩ := qm_l3_mem h
  exact qm_at_mem (of_decide_eq_true (List.all_eq_true.mp qm_gl_ck _ hj))
theorem qm_nl_ck : qm_nl.all (fun q => match qm_vc[q.2.2.1]? with
  | some r => decide (qm_at q.2.2.2 = some (.classLink (qm_cn q.1) q.2.1 r.1))
  | none => false) = true := by decide +kernel
theorem qm_nl_use {o i a : Nat} (h : (qm_lk qm_nl o i).map Prod.fst = some a) : ∃ (C : String) (T : u_T) (N : Nat), qm_vc[a]? = some (C, T, N) ∧ Cond.classLink (qm_cn o) i C ∈ lw_tbl := by
  cases hq : qm_lk qm_nl o i with
  | none => simp [hq] at h
  | some q =>
    rw [hq] at h
    cases h
    have hj := List.all_eq_true.mp qm_nl_ck _ (qm_lk_mem hq)
    dsimp only at hj
    cases hr : qm_vc[q.1]? with
    | none => simp [hr] at hj
    | some r =>
      simp only [hr, decide_eq_true_eq] at hj
      exact ⟨r.1, r.2.1, r.2.2, rfl, qm_at_mem hj⟩
theorem qm_ki_ck : qm_ki.all (fun q => decide (qm_at q.2.2.2 = some (.constant (qm_cn q.1) q.2.1 q.2.2.1))) = true := by decide +kernel
theorem qm_ki_use {o i : Nat} {x : Int32} (h : qm_li qm_ki o i = some x) : Cond.constant (qm_cn o) i x ∈ lw_tbl := by
  obtain ⟨j, hj⟩ := qm_li_mem h
  exact qm_at_mem (of_decide_eq_true (List.all_eq_true.mp qm_ki_ck _ hj))
theorem qm_kj_ck : qm_kj.all (fun q => decide (qm_at q.2.2.2 = some (.constantLong (qm_cn q.1) q.2.1 q.2.2.1))) = true := by decide +kernel
theorem qm_kj_use {o i : Nat} {x : Int64} (h : qm_lj qm_kj o i = some x) : Cond.constantLong (qm_cn o) i x ∈ lw_tbl := by
  obtain ⟨j, hj⟩ := qm_lj_mem h
  exact qm_at_mem (of_decide_eq_true (List.all_eq_true.mp qm_kj_ck _ hj))
/-- of a class: its fields' words, its fields' types -/
def qm_clOK (ci : Nat) (r : vw_C) : Prop := (∀ w ∈ u_ws r.1 r.2.1 r.2.2, w ∈ lw_tbl) ∧ (∀ k, k < r.2.2 → parseFieldDescriptor (r.2.1 k).2.2.1 = some (qm_ty ci k)) ∧ (∀ a, a < r.2.2 → ∀ b, b < r.2.2 → a ≠ b → (r.2.1 a).2.1 ≠ (r.2.1 b).2.1) ∧ (∀ k, k < r.2.2 → qm_tyok (qm_ty ci k) = true) ∧ Cond.instantiable r.1 r.2.2 ∈ lw_tbl ∧ Cond.initialized r.1 ∈ lw_tbl ∧ (∀ k, k < r.2.2 → (r.2.1 k).1 = r.1) ∧ qm_cn ci = r.1
theorem qm_wc0 : ((List.range 6).zip qm_lp0).all (fun q => decide (qm_at q.2 = some (u_lay RX0 TX0 q.1))) = true := by decide +kernel
theorem qm_ww0 : ∀ w ∈ u_ws RX0 TX0 6, w ∈ lw_tbl := by
  intro w hw
  obtain ⟨j, hj, rfl⟩ := List.mem_map.mp hw
  obtain ⟨t, ht⟩ := qm_zip (by decide +kernel) qm_wc0 hj
  exact qm_at_mem (of_decide_eq_true ht)
theorem qm_cl0 : qm_clOK 0 (RX0, TX0, 6) := ⟨qm_ww0, tyX0_ok, nmX0, by decide +kernel, qm_at_mem (q := 1234) (by decide +kernel), qm_at_mem (q := 12) (by decide +kernel), by decide +kernel, rfl⟩
theorem qm_wc1 : ((List.range 9).zip qm_lp1).all (fun q => decide (qm_at q.2 = some (u_lay RX1 TX1 q.1))) = true := by decide +kernel
theorem qm_ww1 : ∀ w ∈ u_ws RX1 TX1 9, w ∈ lw_tbl := by
  intro w hw
  obtain ⟨j, hj, rfl⟩ := List.mem_map.mp hw
  obtain ⟨t, ht⟩ := qm_zip (by decide +kernel) qm_wc1 hj
  exact qm_at_mem (of_decide_eq_true ht)
theorem qm_cl1 : qm_clOK 1 (RX1, TX1, 9) := ⟨qm_ww1, tyX1_ok, nmX1, by decide +kernel, qm_at_mem (q := 119) (by decide +kernel), qm_at_mem (q := 4) (by decide +kernel), by decide +kernel, rfl⟩
theorem qm_wc2 : ((List.range 11).zip qm_lp2).all (fun q => decide (qm_at q.2 = some (u_lay RX2 TX2 q.1))) = true := by decide +kernel
theorem qm_ww2 : ∀ w ∈ u_ws RX2 TX2 11, w ∈ lw_tbl := by
  intro w hw
  obtain ⟨j, hj, rfl⟩ := List.mem_map.mp hw
  obtain ⟨t, ht⟩ := qm_zip (by decide +kernel) qm_wc2 hj
  exact qm_at_mem (of_decide_eq_true ht)
theorem qm_cl2 : qm_clOK 2 (RX2, TX2, 11) := ⟨qm_ww2, tyX2_ok, nmX2, by decide +kernel, qm_at_mem (q := 1135) (by decide +kernel), qm_at_mem (q := 10) (by decide +kernel), by decide +kernel, rfl⟩
theorem qm_wc3 : ((List.range 14).zip qm_lp3).all (fun q => decide (qm_at q.2 = some (u_lay RX3 TX3 q.1))) = true := by decide +kernel
theorem qm_ww3 : ∀ w ∈ u_ws RX3 TX3 14, w ∈ lw_tbl := by
  intro w hw
  obtain ⟨j, hj, rfl⟩ := List.mem_map.mp hw
  obtain ⟨t, ht⟩ := qm_zip (by decide +kernel) qm_wc3 hj
  exact qm_at_mem (of_decide_eq_true ht)
theorem qm_cl3 : qm_clOK 3 (RX3, TX3, 14) := ⟨qm_ww3, tyX3_ok, nmX3, by decide +kernel, qm_at_mem (q := 67) (by decide +kernel), qm_at_mem (q := 3) (by decide +kernel), by decide +kernel, rfl⟩
theorem qm_wc4 : ((List.range 8).zip qm_lp4).all (fun q => decide (qm_at q.2 = some (u_lay RX4 TX4 q.1))) = true := by decide +kernel
theorem qm_ww4 : ∀ w ∈ u_ws RX4 TX4 8, w ∈ lw_tbl := by
  intro w hw
  obtain ⟨j, hj, rfl⟩ := List.mem_map.mp hw
  obtain ⟨t, ht⟩ := qm_zip (by decide +kernel) qm_wc4 hj
  exact qm_at_mem (of_decide_eq_true ht)
theorem qm_cl4 : qm_clOK 4 (RX4, TX4, 8) := ⟨qm_ww4, tyX4_ok, nmX4, by decide +kernel, qm_at_mem (q := 223) (by decide +kernel), qm_at_mem (q := 6) (by decide +kernel), by decide +kernel, rfl⟩
theorem qm_wc5 : ((List.range 5).zip qm_lp5).all (fun q => decide (qm_at q.2 = some (u_lay RX5 TX5 q.1))) = true := by decide +kernel
theorem qm_ww5 : ∀ w ∈ u_ws RX5 TX5 5, w ∈ lw_tbl := by
  intro w hw
  obtain ⟨j, hj, rfl⟩ := List.mem_map.mp hw
  obtain ⟨t, ht⟩ := qm_zip (by decide +kernel) qm_wc5 hj
  exact qm_at_mem (of_decide_eq_true ht)
theorem qm_cl5 : qm_clOK 5 (RX5, TX5, 5) := ⟨qm_ww5, tyX5_ok, nmX5, by decide +kernel, qm_at_mem (q := 1113) (by decide +kernel), qm_at_mem (q := 9) (by decide +kernel), by decide +kernel, rfl⟩
theorem qm_wc6 : ((List.range 16).zip qm_lp6).all (fun q => decide (qm_at q.2 = some (u_lay RX6 TX6 q.1))) = true := by decide +kernel
theorem qm_ww6 : ∀ w ∈ u_ws RX6 TX6 16, w ∈ lw_tbl := by
  intro w hw
  obtain ⟨j, hj, rfl⟩ := List.mem_map.mp hw
  obtain ⟨t, ht⟩ := qm_zip (by decide +kernel) qm_wc6 hj
  exact qm_at_mem (of_decide_eq_true ht)
theorem qm_cl6 : qm_clOK 6 (RX6, TX6, 16) := ⟨qm_ww6, tyX6_ok, nmX6, by decide +kernel, qm_at_mem (q := 225) (by decide +kernel), qm_at_mem (q := 7) (by decide +kernel), by decide +kernel, rfl⟩
theorem qm_wc7 : ((List.range 7).zip qm_lp7).all (fun q => decide (qm_at q.2 = some (u_lay RX7 TX7 q.1))) = true := by decide +kernel
theorem qm_ww7 : ∀ w ∈ u_ws RX7 TX7 7, w ∈ lw_tbl := by
  intro w hw
  obtain ⟨j, hj, rfl⟩ := List.mem_map.mp hw
  obtain ⟨t, ht⟩ := qm_zip (by decide +kernel) qm_wc7 hj
  exact qm_at_mem (of_decide_eq_true ht)
theorem qm_cl7 : qm_clOK 7 (RX7, TX7, 7) := ⟨qm_ww7, tyX7_ok, nmX7, by decide +kernel, qm_at_mem (q := 31) (by decide +kernel), qm_at_mem (q := 2) (by decide +kernel), by decide +kernel, rfl⟩
theorem qm_wc8 : ((List.range 3).zip qm_lp8).all (fun q => decide (qm_at q.2 = some (u_lay RX8 TX8 q.1))) = true := by decide +kernel
theorem qm_ww8 : ∀ w ∈ u_ws RX8 TX8 3, w ∈ lw_tbl := by
  intro w hw
  obtain ⟨j, hj, rfl⟩ := List.mem_map.mp hw
  obtain ⟨t, ht⟩ := qm_zip (by decide +kernel) qm_wc8 hj
  exact qm_at_mem (of_decide_eq_true ht)
theorem qm_cl8 : qm_clOK 8 (RX8, TX8, 3) := ⟨qm_ww8, tyX8_ok, nmX8, by decide +kernel, qm_at_mem (q := 3055) (by decide +kernel), qm_at_mem (q := 19) (by decide +kernel), by decide +kernel, rfl⟩
theorem qm_wc9 : ((List.range 13).zip qm_lp9).all (fun q => decide (qm_at q.2 = some (u_lay RX9 TX9 q.1))) = true := by decide +kernel
theorem qm_ww9 : ∀ w ∈ u_ws RX9 TX9 13, w ∈ lw_tbl := by
  intro w hw
  obtain ⟨j, hj, rfl⟩ := List.mem_map.mp hw
  obtain ⟨t, ht⟩ := qm_zip (by decide +kernel) qm_wc9 hj
  exact qm_at_mem (of_decide_eq_true ht)
theorem qm_cl9 : qm_clOK 9 (RX9, TX9, 13) := ⟨qm_ww9, tyX9_ok, nmX9, by decide +kernel, qm_at_mem (q := 1177) (by decide +kernel), qm_at_mem (q := 11) (by decide +kernel), by decide +kernel, rfl⟩
theorem qm_wc10 : ((List.range 8).zip qm_lp10).all (fun q => decide (qm_at q.2 = some (u_lay RX10 TX10 q.1))) = true := by decide +kernel
theorem qm_ww10 : ∀ w ∈ u_ws RX10 TX10 8, w ∈ lw_tbl := by
  intro w hw
  obtain ⟨j, hj, rfl⟩ := List.mem_map.mp hw
  obtain ⟨t, ht⟩ := qm_zip (by decide +kernel) qm_wc10 hj
  exact qm_at_mem (of_decide_eq_true ht)
theorem qm_cl10 : qm_clOK 10 (RX10, TX10, 8) := ⟨qm_ww10, tyX10_ok, nmX10, by decide +kernel, qm_at_mem (q := 186) (by decide +kernel), qm_at_mem (q := 5) (by decide +kernel), by decide +kernel, rfl⟩
theorem qm_wc11 : ((List.range 10).zip qm_lp11).all (fun q => decide (qm_at q.2 = some (u_lay RX11 TX11 q.1))) = true := by decide +kernel
theorem qm_ww11 : ∀ w ∈ u_ws RX11 TX11 10, w ∈ lw_tbl := by
  intro w hw
  obtain ⟨j, hj, rfl⟩ := List.mem_map.mp hw
  obtain ⟨t, ht⟩ := qm_zip (by decide +kernel) qm_wc11 hj
  exact qm_at_mem (of_decide_eq_true ht)
theorem qm_cl11 : qm_clOK 11 (RX11, TX11, 10) := ⟨qm_ww11, tyX11_ok, nmX11, by decide +kernel, qm_at_mem (q := 23) (by decide +kernel), qm_at_mem (q := 1) (by decide +kernel), by decide +kernel, rfl⟩
theorem qm_wc12 : ((List.range 105).zip qm_lp12).all (fun q => decide (qm_at q.2 = some (u_lay RX12 TX12 q.1))) = true := by decide +kernel
theorem qm_ww12 : ∀ w ∈ u_ws RX12 TX12 105, w ∈ lw_tbl := by
  intro w hw
  obtain ⟨j, hj, rfl⟩ := List.mem_map.mp hw
  obtain ⟨t, ht⟩ := qm_zip (by decide +kernel) qm_wc12 hj
  exact qm_at_mem (of_decide_eq_true ht)
theorem qm_cl12 : qm_clOK 12 (RX12, TX12, 105) := ⟨qm_ww12, tyX12_ok, nmX12, by decide +kernel, qm_at_mem (q := 6114) (by decide +kernel), qm_at_mem (q := 13) (by decide +kernel), by decide +kernel, rfl⟩
theorem qm_cls {ci : Nat} {r : vw_C} (h : qm_vc[ci]? = some r) : qm_clOK ci r := by
  match ci, h with
  | 0, h => cases h; exact qm_cl0
  | 1, h => cases h; exact qm_cl1
  | 2, h => cases h; exact qm_cl2
  | 3, h => cases h; exact qm_cl3
  | 4, h => cases h; exact qm_cl4
  | 5, h => cases h; exact qm_cl5
  | 6, h => cases h; exact qm_cl6
  | 7, h => cases h; exact qm_cl7
  | 8, h => cases h; exact qm_cl8
  | 9, h => cases h; exact qm_cl9
  | 10, h => cases h; exact qm_cl10
  | 11, h => cases h; exact qm_cl11
  | 12, h => cases h; exact qm_cl12
  | n + 13, h => simp [qm_vc] at h
