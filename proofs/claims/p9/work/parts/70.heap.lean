/-! cells: bounds that hold in every state; what is known of places -/
/-- kinds and lengths; bounds by object (of all, of the first places); references that never change; objects that are not written here; rules of these: where the one has such a number, the other's is within ..; bounds of the script's ints at this place -/
abbrev qa_P : Type := (Nat → Option (Nat × Nat)) × (Nat → qa_B × List qa_B) × (Nat → Nat → Option (Option Nat)) × List Nat × List (Nat × Int × Nat × qa_B) × List qa_B
noncomputable def qa_bnd (P : qa_P) (o i : Nat) : qa_B := (P.2.1 o).2.getD i (P.2.1 o).1
noncomputable def qa_hull (a b : qa_B) : qa_B := (min a.1 b.1, max a.2 b.2)
noncomputable def qa_hulls (q : qa_B) : List qa_B → qa_B
  | [] => q
  | b :: r => qa_hull b (qa_hulls q r)
noncomputable def qa_bnds (P : qa_P) (o : Nat) : qa_B := qa_hulls (P.2.1 o).1 (P.2.1 o).2
theorem qa_hulls_ok {x : Int32} {q : qa_B} : ∀ {l : List qa_B} (i : Nat), qa_in (l.getD i q) x → qa_in (qa_hulls q l) x
  | [], _, h => h
  | b :: r, 0, h => by
    have h : qa_in b x := h
    unfold qa_in at h
    show min b.1 (qa_hulls q r).1 ≤ x.toInt ∧ x.toInt ≤ max b.2 (qa_hulls q r).2
    omega
  | b :: r, i + 1, h => by
    have h : qa_in (r.getD i q) x := by simpa using h
    have ih := qa_hulls_ok i h
    unfold qa_in at ih
    show min b.1 (qa_hulls q r).1 ≤ x.toInt ∧ x.toInt ≤ max b.2 (qa_hulls q r).2
    omega
/-- q lies within b -/
noncomputable def qa_le (q b : qa_B) : Bool := zle b.1 q.1 && zle q.2 b.2
theorem qa_le_d (q b : qa_B) : qa_le q b = (decide (b.1 ≤ q.1) && decide (q.2 ≤ b.2)) := by
  unfold qa_le
  simp only [zle_eq, zlt_eq, zeq_eq, zmax_eq, zmin_eq]
theorem qa_le_ok {q b : qa_B} {x : Int32} (h : qa_le q b = true) (hx : qa_in q x) : qa_in b x := by
  rw [qa_le_d] at h
  rw [Bool.and_eq_true, decide_eq_true_eq, decide_eq_true_eq] at h
  unfold qa_in at *
  omega
noncomputable def qa_les (P : qa_P) (o : Nat) (q : qa_B) : Bool := qa_le q (P.2.1 o).1 && (P.2.1 o).2.all (qa_le q)
theorem qa_les_ok {P : qa_P} {o : Nat} {q : qa_B} {x : Int32} (h : qa_les P o q = true) (hx : qa_in q x) (i : Nat) : qa_in (qa_bnd P o i) x := by
  unfold qa_les at h
  rw [Bool.and_eq_true] at h
  unfold qa_bnd
  rw [List.getD_eq_getElem?_getD]
  cases hi : (P.2.1 o).2[i]? with
  | none => exact qa_le_ok h.1 hx
  | some b => exact qa_le_ok (List.all_eq_true.mp h.2 b (List.mem_of_getElem? hi)) hx
/-- the rules -/
noncomputable def qa_rul (P : qa_P) (h : qm_H) : Prop := ∀ r ∈ P.2.2.2.2.1, P.2.2.2.1.contains r.1 = true → P.2.2.2.1.contains r.2.2.1 = true → ∀ i, (h.2.1 r.1 i).toInt = r.2.1 → qa_in r.2.2.2 (h.2.1 r.2.2.1 i)
/-- what holds of the cells between instructions -/
noncomputable def qa_Inv (P : qa_P) (S : qm_H → Prop) (h : qm_H) : Prop := (∀ o q, P.1 o = some q → h.1[o]? = some q) ∧ (∀ o i, qa_in (qa_bnd P o i) (h.2.1 o i)) ∧ (∀ o i w, P.2.2.1 o i = some w → h.2.2.2 o i = w) ∧ S h ∧ qa_rul P h
/-- places that are not written here: of the objects of the list, of those without a told shape, and fields that the list tells -/
noncomputable def qa_fp (P : qa_P) (o i : Nat) : Prop := P.2.2.2.1.contains o = true ∨ P.1 o = none ∨ (P.2.2.2.1.contains (1000000 + 1000 * o + i) = true ∧ ∃ q, P.1 o = some q ∧ 5 ≤ q.1)
/-- S looks at these, and at references, alone -/
noncomputable def qa_loc (P : qa_P) (S : qm_H → Prop) : Prop := ∀ (h : qm_H) (I : Nat → Nat → Int32) (J : Nat → Nat → Int64), (∀ o i, qa_fp P o i → I o i = h.2.1 o i) → S h → S (h.1, I, J, h.2.2.2)
/-- S looks at rows of 25 longs too -/
noncomputable def qa_locK (P : qa_P) (S : qm_H → Prop) : Prop := ∀ (h : qm_H) (I : Nat → Nat → Int32) (J : Nat → Nat → Int64), (∀ o i, qa_fp P o i → I o i = h.2.1 o i) → (∀ o, h.1[o]? = some (3, 25) → ∀ i, J o i = h.2.2.1 o i) → S h → S (h.1, I, J, h.2.2.2)
theorem qa_loc_K {P : qa_P} {S : qm_H → Prop} (h : qa_loc P S) : qa_locK P S := fun h1 I J e _ s => h h1 I J e s
noncomputable def qa_sh (P : qa_P) (o : Nat) : Option (Nat × Nat) := P.1 o
theorem qa_sh_ok {P : qa_P} {S : qm_H → Prop} {h : qm_H} (hI : qa_Inv P S h) {o : Nat} {q : Nat × Nat} (e : qa_sh P o = some q) : h.1[o]? = some q := hI.1 o q e
theorem qa_lr_ok {P : qa_P} {S : qm_H → Prop} {h : qm_H} (hI : qa_Inv P S h) {o i : Nat} {w : Option Nat} (e : P.2.2.1 o i = some w) : h.2.2.2 o i = w := hI.2.2.1 o i w e
/-- a known place -/
noncomputable def qa_lm (l : List (Nat × Nat × Value)) (o i : Nat) : Option Value := List.rec (motive := fun _ => Option Value) none (fun q _ ih => bif Nat.beq q.1 o && Nat.beq q.2.1 i then some q.2.2 else ih) l
theorem qa_lm_cons {q : Nat × Nat × Value} {r : List (Nat × Nat × Value)} {o i : Nat} : qa_lm (q :: r) o i = bif Nat.beq q.1 o && Nat.beq q.2.1 i then some q.2.2 else qa_lm r o i := rfl
theorem qa_lm_mem : ∀ {l : List (Nat × Nat × Value)} {o i : Nat} {w : Value}, qa_lm l o i = some w → (o, i, w) ∈ l
  | [], _, _, _, h => by cases h
  | q :: r, o, i, w, h => by
    rw [qa_lm_cons] at h
    cases hb : Nat.beq q.1 o && Nat.beq q.2.1 i with
    | true =>
      rw [hb, cond_true] at h
      rw [Bool.and_eq_true] at hb
      have e1 := Nat.eq_of_beq_eq_true hb.1
      have e2 := Nat.eq_of_beq_eq_true hb.2
      cases h
      subst e1
      subst e2
      exact List.mem_cons_self
    | false =>
      rw [hb, cond_false] at h
      exact List.mem_cons_of_mem _ (qa_lm_mem h)
noncomputable def qa_am (K : qa_K) (o i : Nat) (a : Value) : qa_K := (K.1, K.2.1, K.2.2.1, K.2.2.2.1, (o, i, a) :: K.2.2.2.2.1, K.2.2.2.2.2)
noncomputable def qa_ax (K : qa_K) (o n : Nat) (a : Value) : qa_K := (K.1, K.2.1, K.2.2.1, K.2.2.2.1, K.2.2.2.2.1, (o, n, a) :: K.2.2.2.2.2)
/-- bounds by the rules; g: what is known of the other places at this index -/
noncomputable def qa_ru1 (K : qa_K) (foot : List Nat) (g : Nat → Option Value) (o : Nat) (r : Nat × Int × Nat × qa_B) (z : qa_B) : qa_B := bif Nat.beq r.2.2.1 o && ((qa_has foot r.1 && qa_has foot r.2.2.1) && (match g r.1 with
    | some a => qa_il a && (zle r.2.1 (qa_bd K a).1 && zle (qa_bd K a).2 r.2.1)
    | none => false)) then qa_ix r.2.2.2 z else z
noncomputable def qa_ru (K : qa_K) (foot : List Nat) (g : Nat → Option Value) (o : Nat) (q : qa_B) (l : List (Nat × Int × Nat × qa_B)) : qa_B := List.rec (motive := fun _ => qa_B) q (fun r _ ih => qa_ru1 K foot g o r ih) l
theorem qa_ru_cons {K : qa_K} {foot : List Nat} {g : Nat → Option Value} {o : Nat} {q : qa_B} {r : Nat × Int × Nat × qa_B} {rs : List (Nat × Int × Nat × qa_B)} : qa_ru K foot g o q (r :: rs) = bif Nat.beq r.2.2.1 o && ((foot.contains r.1 && foot.contains r.2.2.1) && (match g r.1 with
    | some a => qa_il a && (decide (r.2.1 ≤ (qa_bd K a).1) && decide ((qa_bd K a).2 ≤ r.2.1))
    | none => false)) then qa_ix r.2.2.2 (qa_ru K foot g o q rs) else qa_ru K foot g o q rs := by
  show qa_ru1 K foot g o r (qa_ru K foot g o q rs) = _
  unfold qa_ru1
  simp only [qa_has_eq, zle_eq]
theorem qa_ru_ok {p : List Int32} {K : qa_K} {h : qm_H} {foot : List Nat} {g : Nat → Option Value} {o i : Nat} {q : qa_B} (hs : qa_sat p K) (hg : ∀ o a, g o = some a → qa_g p a (.int (h.2.1 o i))) (hq : qa_in q (h.2.1 o i)) : ∀ {rs : List (Nat × Int × Nat × qa_B)}, (∀ r ∈ rs, foot.contains r.1 = true → foot.contains r.2.2.1 = true → ∀ i, (h.2.1 r.1 i).toInt = r.2.1 → qa_in r.2.2.2 (h.2.1 r.2.2.1 i)) → qa_in (qa_ru K foot g o q rs) (h.2.1 o i)
  | [], _ => hq
  | r :: rs, hr => by
    have ih := qa_ru_ok hs hg hq (rs := rs) (fun r h => hr r (List.mem_cons_of_mem _ h))
    rw [qa_ru_cons]
    cases hb : Nat.beq r.2.2.1 o && ((foot.contains r.1 && foot.contains r.2.2.1) && (match g r.1 with
      | some a => qa_il a && (decide (r.2.1 ≤ (qa_bd K a).1) && decide ((qa_bd K a).2 ≤ r.2.1))
      | none => false)) with
    | false => exact ih
    | true =>
      rw [cond_true]
      rw [Bool.and_eq_true, Bool.and_eq_true, Bool.and_eq_true] at hb
      obtain ⟨b1, ⟨b2, b3⟩, b4⟩ := hb
      have e := Nat.eq_of_beq_eq_true b1
      split at b4
      · rename_i a ha
        rw [Bool.and_eq_true, Bool.and_eq_true, decide_eq_true_eq, decide_eq_true_eq] at b4
        obtain ⟨x, ex, bx⟩ := qa_bd_ok hs (hg _ _ ha) b4.1
        cases ex
        unfold qa_in at bx
        have := hr r List.mem_cons_self b2 b3 i (by omega)
        rw [e] at this
        exact qa_ix_ok this ih
      · cases b4
noncomputable def qa_rq (P : qa_P) (K : qa_K) (o i : Nat) : qa_B := qa_ru K P.2.2.2.1 (fun w => qa_lm K.2.2.2.2.1 w i) o (qa_bnd P o i) P.2.2.2.2.1
noncomputable def qa_rqx (P : qa_P) (K : qa_K) (o n : Nat) : qa_B := qa_ru K P.2.2.2.1 (fun w => qa_lm K.2.2.2.2.2 w n) o (qa_bnds P o) P.2.2.2.2.1
/-- reads a place -/
noncomputable def qa_rd (P : qa_P) (K : qa_K) (o i : Nat) : Value × qa_K := match qa_lm K.2.2.2.2.1 o i with
  | some a => (a, K)
  | none => ((qa_mk K (qa_rq P K o i)).1, qa_am (qa_mk K (qa_rq P K o i)).2 o i (qa_mk K (qa_rq P K o i)).1)
theorem qa_rd_ok {P : qa_P} {S : qm_H → Prop} {h : qm_H} {p : List Int32} {K : qa_K} (hI : qa_Inv P S h) (hs : qa_sat p K) (hp : qa_hp p K h) (o i : Nat) : ∃ t, qa_sat (p ++ t) (qa_rd P K o i).2 ∧ qa_hp (p ++ t) (qa_rd P K o i).2 h ∧ qa_g (p ++ t) (qa_rd P K o i).1 (.int (h.2.1 o i)) := by
  unfold qa_rd
  split
  · rename_i a ha
    refine ⟨[], ?_⟩
    rw [List.append_nil]
    exact ⟨hs, hp, hp.1 _ (qa_lm_mem ha)⟩
  · obtain ⟨t, h1, h2, h3⟩ := qa_mk_ok hs hp (q := qa_rq P K o i) (qa_ru_ok hs (fun w a ha => hp.1 _ (qa_lm_mem ha)) (hI.2.1 o i) hI.2.2.2.2)
    refine ⟨t, h1, ⟨fun q hq => ?_, h2.2⟩, h3⟩
    rcases List.mem_cons.mp hq with rfl | hq
    · exact h3
    · exact h2.1 q hq
/-- reads a place at an unknown index -/
noncomputable def qa_rx (P : qa_P) (K : qa_K) (o n : Nat) : Value × qa_K := match qa_lm K.2.2.2.2.2 o n with
  | some a => (a, K)
  | none => ((qa_mk K (qa_rqx P K o n)).1, qa_ax (qa_mk K (qa_rqx P K o n)).2 o n (qa_mk K (qa_rqx P K o n)).1)
theorem qa_rx_ok {P : qa_P} {S : qm_H → Prop} {h : qm_H} {p : List Int32} {K : qa_K} (hI : qa_Inv P S h) (hs : qa_sat p K) (hp : qa_hp p K h) {o n : Nat} {x : Int32} (hn : p[n]? = some x) (hx : 0 ≤ x.toInt) : ∃ t, qa_sat (p ++ t) (qa_rx P K o n).2 ∧ qa_hp (p ++ t) (qa_rx P K o n).2 h ∧ qa_g (p ++ t) (qa_rx P K o n).1 (.int (h.2.1 o x.toInt.toNat)) := by
  unfold qa_rx
  split
  · rename_i a ha
    refine ⟨[], ?_⟩
    rw [List.append_nil]
    refine ⟨hs, hp, ?_⟩
    obtain ⟨y, h1, h2, h3⟩ := hp.2 _ (qa_lm_mem ha)
    have h1 : p[n]? = some y := h1
    rw [hn] at h1
    cases h1
    exact h3
  · have hb : qa_in (qa_bnds P o) (h.2.1 o x.toInt.toNat) := qa_hulls_ok x.toInt.toNat (hI.2.1 o x.toInt.toNat)
    obtain ⟨t, h1, h2, h3⟩ := qa_mk_ok hs hp (q := qa_rqx P K o n) (qa_ru_ok hs (fun w a ha => by
      obtain ⟨y, g1, _, g3⟩ := hp.2 _ (qa_lm_mem ha)
      have g1 : p[n]? = some y := g1
      rw [hn] at g1
      cases g1
      exact g3) hb hI.2.2.2.2)
    refine ⟨t, h1, ⟨h2.1, fun q hq => ?_⟩, h3⟩
    rcases List.mem_cons.mp hq with rfl | hq
    · exact ⟨x, qa_ext hn, hx, h3⟩
    · exact h2.2 q hq
/-- a place is written -/
noncomputable def qa_no (o : Nat) (l : List (Nat × Nat × Value)) : List (Nat × Nat × Value) := l.filter fun q => !Nat.beq q.1 o
noncomputable def qa_no2 (o i : Nat) (l : List (Nat × Nat × Value)) : List (Nat × Nat × Value) := l.filter fun q => !(Nat.beq q.1 o && Nat.beq q.2.1 i)
noncomputable def qa_wr (K : qa_K) (o i : Nat) (a : Value) : qa_K := (K.1, K.2.1, K.2.2.1, K.2.2.2.1, (o, i, a) :: qa_no2 o i K.2.2.2.2.1, qa_no o K.2.2.2.2.2)
noncomputable def qa_wx (K : qa_K) (o n : Nat) (a : Value) : qa_K := (K.1, K.2.1, K.2.2.1, K.2.2.2.1, qa_no o K.2.2.2.2.1, (o, n, a) :: qa_no o K.2.2.2.2.2)
noncomputable def qa_wf (K : qa_K) (o : Nat) : qa_K := (K.1, K.2.1, K.2.2.1, K.2.2.2.1, qa_no o K.2.2.2.2.1, qa_no o K.2.2.2.2.2)
noncomputable def qa_hw (h : qm_H) (o i : Nat) (x : Int32) : qm_H := (h.1, qm_up h.2.1 o i x, h.2.2.1, h.2.2.2)
theorem qa_up_ne {I : Nat → Nat → Int32} {o i o' i' : Nat} {x : Int32} (h : (Nat.beq o' o && Nat.beq i' i) = false) : qm_up I o i x o' i' = I o' i' := by
  unfold qm_up
  rw [h]
  rfl
theorem qa_up_eq {I : Nat → Nat → Int32} {o i : Nat} {x : Int32} : qm_up I o i x o i = x := by
  unfold qm_up
  rw [Nat.beq_refl, Nat.beq_refl]
  rfl
theorem qa_no_mem {o : Nat} {l : List (Nat × Nat × Value)} {q : Nat × Nat × Value} (h : q ∈ qa_no o l) : q ∈ l ∧ Nat.beq q.1 o = false := by
  have := List.mem_filter.mp h
  refine ⟨this.1, ?_⟩
  cases hb : Nat.beq q.1 o with
  | false => rfl
  | true =>
    rw [hb] at this
    cases this.2
theorem qa_no2_mem {o i : Nat} {l : List (Nat × Nat × Value)} {q : Nat × Nat × Value} (h : q ∈ qa_no2 o i l) : q ∈ l ∧ (Nat.beq q.1 o && Nat.beq q.2.1 i) = false := by
  have := List.mem_filter.mp h
  refine ⟨this.1, ?_⟩
  cases hb : Nat.beq q.1 o && Nat.beq q.2.1 i with
  | false => rfl
  | true =>
    rw [hb] at this
    cases this.2
theorem qa_Inv_hw {P : qa_P} {S : qm_H → Prop} {h : qm_H} (hL : qa_locK P S) (hI : qa_Inv P S h) {o i : Nat} {x : Int32} (hx : qa_in (qa_bnd P o i) x) (hf : P.2.2.2.1.contains o = false) (hn : ¬ qa_fp P o i) : qa_Inv P S (qa_hw h o i x) := by
  have hne : ∀ o', P.2.2.2.1.contains o' = true → ∀ i', qm_up h.2.1 o i x o' i' = h.2.1 o' i' := fun o' ho i' => by
    refine qa_up_ne ?_
    cases hb : Nat.beq o' o with
    | false => rfl
    | true =>
      have e1 := Nat.eq_of_beq_eq_true hb
      subst e1
      rw [ho] at hf
      cases hf
  refine ⟨hI.1, fun o' i' => ?_, hI.2.2.1, hL h _ _ (fun o' i' ho => qa_up_ne (by
    cases hb : Nat.beq o' o && Nat.beq i' i with
    | false => rfl
    | true =>
      rw [Bool.and_eq_true] at hb
      rw [Nat.eq_of_beq_eq_true hb.1, Nat.eq_of_beq_eq_true hb.2] at ho
      exact absurd ho hn)) (fun _ _ _ => rfl) hI.2.2.2.1, fun r hr c1 c2 i' => ?_⟩
  · show qa_in (qa_bnd P o' i') (qm_up h.2.1 o i x o' i')
    cases hb : Nat.beq o' o && Nat.beq i' i with
    | true =>
      rw [Bool.and_eq_true] at hb
      have e1 := Nat.eq_of_beq_eq_true hb.1
      have e2 := Nat.eq_of_beq_eq_true hb.2
      subst e1
      subst e2
      rw [qa_up_eq]
      exact hx
    | false =>
      rw [qa_up_ne hb]
      exact hI.2.1 o' i'
  · show (qm_up h.2.1 o i x r.1 i').toInt = r.2.1 → qa_in r.2.2.2 (qm_up h.2.1 o i x r.2.2.1 i')
    rw [hne _ c1, hne _ c2]
    exact hI.2.2.2.2 r hr c1 c2 i'
theorem qa_wr_hp {p : List Int32} {K : qa_K} {h : qm_H} {o i : Nat} {a : Value} {x : Int32} (hp : qa_hp p K h) (hg : qa_g p a (.int x)) : qa_hp p (qa_wr K o i a) (qa_hw h o i x) := by
  refine ⟨fun q hq => ?_, fun q hq => ?_⟩
  · show qa_g p q.2.2 (.int (qm_up h.2.1 o i x q.1 q.2.1))
    rcases List.mem_cons.mp hq with rfl | hq
    · rw [qa_up_eq]
      exact hg
    · have := qa_no2_mem hq
      rw [qa_up_ne this.2]
      exact hp.1 q this.1
  · have := qa_no_mem hq
    obtain ⟨y, h1, h2, h3⟩ := hp.2 q this.1
    refine ⟨y, h1, h2, ?_⟩
    show qa_g p q.2.2 (.int (qm_up h.2.1 o i x q.1 y.toInt.toNat))
    rw [qa_up_ne (by rw [this.2]; rfl)]
    exact h3
theorem qa_wf_hp {p : List Int32} {K : qa_K} {h : qm_H} {o : Nat} {I : Nat → Nat → Int32} (hp : qa_hp p K h) (hI : ∀ o' i, Nat.beq o' o = false → I o' i = h.2.1 o' i) : qa_hp p (qa_wf K o) (h.1, I, h.2.2.1, h.2.2.2) := by
  refine ⟨fun q hq => ?_, fun q hq => ?_⟩
  · have := qa_no_mem hq
    show qa_g p q.2.2 (.int (I q.1 q.2.1))
    rw [hI _ _ this.2]
    exact hp.1 q this.1
  · have := qa_no_mem hq
    obtain ⟨y, h1, h2, h3⟩ := hp.2 q this.1
    refine ⟨y, h1, h2, ?_⟩
    show qa_g p q.2.2 (.int (I q.1 y.toInt.toNat))
    rw [hI _ _ this.2]
    exact h3
theorem qa_wx_hp {p : List Int32} {K : qa_K} {h : qm_H} {o n : Nat} {a : Value} {x y : Int32} (hp : qa_hp p K h) (hg : qa_g p a (.int x)) (hn : p[n]? = some y) (hy : 0 ≤ y.toInt) : qa_hp p (qa_wx K o n a) (qa_hw h o y.toInt.toNat x) := by
  have w := qa_wf_hp (o := o) (I := qm_up h.2.1 o y.toInt.toNat x) hp (fun o' i hb => qa_up_ne (by rw [hb]; rfl))
  refine ⟨w.1, fun q hq => ?_⟩
  rcases List.mem_cons.mp hq with rfl | hq
  · refine ⟨y, hn, hy, ?_⟩
    show qa_g p a (.int (qm_up h.2.1 o y.toInt.toNat x o y.toInt.toNat))
    rw [qa_up_eq]
    exact hg
  · exact w.2 q hq
theorem qa_sat_wr {p : List Int32} {K K' : qa_K} (hs : qa_sat p K) (h1 : K'.1 = K.1) (h2 : K'.2.1 = K.2.1) (h3 : K'.2.2.1 = K.2.2.1) (h4 : K'.2.2.2.1 = K.2.2.2.1) : qa_sat p K' := by
  unfold qa_sat at *
  rw [h1, h2, h3, h4]
  exact hs
