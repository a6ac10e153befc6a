/-! a new Wide; what stays -/
theorem hk_putr {X : Option (Nat × (Nat → Int32))} {d : Nat} {cd : qm_Cd} {pc np a b k o x : Nat} {q : Nat × Nat} {ls r : List Value} {h : qm_H} {Z : Option Value → qm_H → Prop} (hf : qm_fetch cd pc = some (pc, np, .putfield k, a, b, .null)) (hs : h.1[o]? = some q) (hq : Nat.beq q.1 (a + 5) = true) (kk : qm_Ru X d cd (np, ls, r, (h.1, h.2.1, h.2.2.1, qm_up h.2.2.2 o b (some x))) Z) : qm_Ru X d cd (pc, ls, .ref x :: .ref o :: r, h) Z := by
  refine qm_Ru.nx ?_ kk
  rw [hk_st (c := (pc, ls, .ref x :: .ref o :: r, h)) hf]
  show (match h.1[o]? with
    | some q => bif Nat.beq q.1 (a + 5) then qm_nx (np, ls, r, (h.1, h.2.1, h.2.2.1, qm_up h.2.2.2 o b (some x))) else none
    | none => none) = _
  rw [hs]
  dsimp only
  rw [hq]
  rfl
noncomputable def wsh : List (Nat × Nat) := [(13, 3)] ++ ((4, 18) :: List.replicate 18 (0, 101)) ++ [(0, 101)]
noncomputable def wrf (h : qm_H) (t : Nat) : Nat → Nat → Option Nat := qm_up (qm_up (qm_up (qm_mr h.2.2.2 (h.1.length + 1) 18) h.1.length 0 (some (h.1.length + 1))) h.1.length 1 (some (h.1.length + 20))) t 15 (some h.1.length)
theorem wsh_at {l : List (Nat × Nat)} {i : Nat} {q : Nat × Nat} (h : wsh[i]? = some q) : (l ++ wsh)[l.length + i]? = some q := by
  rw [List.getElem?_append_right (by omega), show l.length + i - l.length = i from by omega]
  exact h
theorem hs_wnew {X : Option (Nat × (Nat → Int32))} {d : Nat} {Z : Option Value → qm_H → Prop} {h : qm_H} {t : Nat} {l : List Value} (ht : h.1[t]? = some (11, 16)) (k : qm_Ru X (d + 2) cd_57 (193, .ref t :: l, [], (h.1 ++ wsh, h.2.1, h.2.2.1, wrf h t)) Z) : qm_Ru X (d + 2) cd_57 (182, .ref t :: l, [], h) Z := by
  have hlt : t < h.1.length := (List.getElem?_eq_some_iff.mp ht).1
  refine qm_Ru.go 3 (c' := (187, .ref t :: l, [.ref h.1.length, .ref h.1.length, .ref t], (h.1 ++ [(13, 3)], h.2.1, h.2.2.1, h.2.2.2))) rfl ?_
  refine qm_Ru.call (j := 61) (as := [.ref h.1.length]) (c' := (190, .ref t :: l, [.ref h.1.length, .ref t], (h.1 ++ [(13, 3)], h.2.1, h.2.2.1, h.2.2.2))) rfl rfl rfl ?_
  refine qm_Ru.go 6 (c' := (13, [.ref h.1.length], [.ref (h.1 ++ [(13, 3)]).length, .ref h.1.length], ((h.1 ++ [(13, 3)]) ++ ((4, 18) :: List.replicate 18 (0, 101)), h.2.1, h.2.2.1, qm_mr h.2.2.2 (h.1 ++ [(13, 3)]).length 18))) rfl ?_
  have e1 : (h.1 ++ [(13, 3)]).length = h.1.length + 1 := by simp
  rw [e1]
  have s1 : ((h.1 ++ [(13, 3)]) ++ ((4, 18) :: List.replicate 18 (0, 101)))[h.1.length]? = some (13, 3) := by
    rw [List.append_assoc, List.getElem?_append_right (Nat.le_refl _), Nat.sub_self]
    rfl
  refine hk_putr rfl s1 rfl ?_
  have e2 : ((h.1 ++ [(13, 3)]) ++ ((4, 18) :: List.replicate 18 (0, 101))).length = h.1.length + 20 := by simp
  refine qm_Ru.go 3 (c' := (21, [.ref h.1.length], [.ref ((h.1 ++ [(13, 3)]) ++ ((4, 18) :: List.replicate 18 (0, 101))).length, .ref h.1.length], (((h.1 ++ [(13, 3)]) ++ ((4, 18) :: List.replicate 18 (0, 101))) ++ [(0, 101)], h.2.1, h.2.2.1, qm_up (qm_mr h.2.2.2 (h.1.length + 1) 18) h.1.length 0 (some (h.1.length + 1))))) rfl ?_
  rw [e2]
  have e3 : ((h.1 ++ [(13, 3)]) ++ ((4, 18) :: List.replicate 18 (0, 101))) ++ [(0, 101)] = h.1 ++ wsh := by
    unfold wsh
    simp
  rw [e3]
  have s2 : (h.1 ++ wsh)[h.1.length]? = some (13, 3) := wsh_at (i := 0) rfl
  refine hk_putr rfl s2 rfl ?_
  refine qm_Ru.rt (v := none) (h' := (h.1 ++ wsh, h.2.1, h.2.2.1, qm_up (qm_up (qm_mr h.2.2.2 (h.1.length + 1) 18) h.1.length 0 (some (h.1.length + 1))) h.1.length 1 (some (h.1.length + 20)))) rfl ?_
  refine hk_putr (h := (h.1 ++ wsh, h.2.1, h.2.2.1, qm_up (qm_up (qm_mr h.2.2.2 (h.1.length + 1) 18) h.1.length 0 (some (h.1.length + 1))) h.1.length 1 (some (h.1.length + 20)))) (q := (11, 16)) rfl ?_ rfl k
  show (h.1 ++ wsh)[t]? = some (11, 16)
  rw [List.getElem?_append_left hlt]
  exact ht
theorem wr_ne {f : Nat → Nat → Option Nat} {a i o j : Nat} {v : Option Nat} (h : ¬ (o = a ∧ j = i)) : qm_up f a i v o j = f o j := by
  unfold qm_up
  cases c : Nat.beq o a && Nat.beq j i with
  | false => rfl
  | true =>
    rw [Bool.and_eq_true] at c
    exact absurd ⟨Nat.eq_of_beq_eq_true c.1, Nat.eq_of_beq_eq_true c.2⟩ h
theorem wr_eq {f : Nat → Nat → Option Nat} {a i : Nat} {v : Option Nat} : qm_up f a i v a i = v := by
  unfold qm_up
  rw [Nat.beq_refl, Nat.beq_refl]
  rfl
theorem wr_mr {f : Nat → Nat → Option Nat} {a n o i : Nat} (h : o ≠ a) : qm_mr f a n o i = f o i := by
  unfold qm_mr
  rw [qm_bne h]
  rfl
theorem wr_mr2 {f : Nat → Nat → Option Nat} {a n i : Nat} (h : i < n) : qm_mr f a n a i = some (a + 1 + i) := by
  unfold qm_mr
  rw [Nat.beq_refl, show Nat.blt i n = true from Nat.ble_eq_true_of_le h]
  rfl
/-- references that were there stay -/
theorem wrf_old {h : qm_H} {t o i : Nat} (ho : o < h.1.length) (hn : ¬ (o = t ∧ i = 15)) : wrf h t o i = h.2.2.2 o i := by
  unfold wrf
  rw [wr_ne hn, wr_ne (by omega), wr_ne (by omega), wr_mr (by omega)]
theorem wrf_new {h : qm_H} {t : Nat} {I : Nat → Nat → Int32} {J : Nat → Nat → Int64} (ht : t < h.1.length) : wd (h.1 ++ wsh, I, J, wrf h t) h.1.length ∧ wrf h t t 15 = some h.1.length := by
  have hsh : ∀ i, (hi : i < 21) → (h.1 ++ wsh)[h.1.length + i]? = wsh[i]? := fun i hi => by
    rw [List.getElem?_append_right (by omega), show h.1.length + i - h.1.length = i from by omega]
  refine ⟨⟨wsh_at (i := 0) rfl, wsh_at (i := 1) rfl, ?_, ?_, fun i hi => ?_, fun o h1 h2 => ?_⟩, wr_eq⟩
  · show wrf h t h.1.length 0 = _
    unfold wrf
    rw [wr_ne (by omega), wr_ne (by omega), wr_eq]
  · show wrf h t h.1.length 1 = _
    unfold wrf
    rw [wr_ne (by omega), wr_eq]
  · show wrf h t (h.1.length + 1) i = _
    unfold wrf
    rw [wr_ne (by omega), wr_ne (by omega), wr_ne (by omega), wr_mr2 hi, show h.1.length + 1 + 1 + i = h.1.length + 2 + i from by omega]
  · show (h.1 ++ wsh)[o]? = _
    have key : ∀ i, i < 21 → 2 ≤ i → wsh[i]? = some (0, 101) := by decide +kernel
    rw [show o = h.1.length + (o - h.1.length) from by omega, hsh _ (by omega)]
    exact key _ (by omega) (by omega)
theorem wd_old {h : qm_H} {t w : Nat} {I : Nat → Nat → Int32} {J : Nat → Nat → Int64} (hD : wd h w) (hw : w + 21 ≤ h.1.length) (ht : t < 192) (hw2 : 192 ≤ w) : wd (h.1 ++ wsh, I, J, wrf h t) w := by
  obtain ⟨d1, d2, d3, d4, d5, d6⟩ := hD
  refine ⟨?_, ?_, ?_, ?_, fun i hi => ?_, fun o h1 h2 => ?_⟩
  · show (h.1 ++ wsh)[w]? = _
    rw [List.getElem?_append_left (by omega)]
    exact d1
  · show (h.1 ++ wsh)[w + 1]? = _
    rw [List.getElem?_append_left (by omega)]
    exact d2
  · show wrf h t w 0 = _
    rw [wrf_old (by omega) (by omega)]
    exact d3
  · show wrf h t w 1 = _
    rw [wrf_old (by omega) (by omega)]
    exact d4
  · show wrf h t (w + 1) i = _
    rw [wrf_old (by omega) (by omega)]
    exact d5 i hi
  · show (h.1 ++ wsh)[o]? = _
    rw [List.getElem?_append_left (by omega)]
    exact d6 o h1 h2
/-- how many cells there are, and where Wide objects lie -/
noncomputable def wI (h : qm_H) : Prop := qm_tot h.1 ≤ 1000 * h.1.length ∧ ((h.1.length = 192 ∧ h.2.2.2 29 15 = none ∧ h.2.2.2 111 15 = none) ∨ (h.1.length = 213 ∧ wd h 192 ∧ ((h.2.2.2 29 15 = some 192 ∧ h.2.2.2 111 15 = none) ∨ (h.2.2.2 111 15 = some 192 ∧ h.2.2.2 29 15 = none))) ∨ (h.1.length = 234 ∧ wd h 192 ∧ wd h 213 ∧ ((h.2.2.2 29 15 = some 192 ∧ h.2.2.2 111 15 = some 213) ∨ (h.2.2.2 111 15 = some 192 ∧ h.2.2.2 29 15 = some 213))))
theorem wI_same {h h' : qm_H} (hw : wI h) (e1 : h'.1 = h.1) (e2 : h'.2.2.2 = h.2.2.2) : wI h' := by
  obtain ⟨a, b⟩ := hw
  refine ⟨by rw [e1]; exact a, ?_⟩
  rw [e1, e2]
  rcases b with ⟨b1, b2, b3⟩ | ⟨b1, b2, b3⟩ | ⟨b1, b2, b3, b4⟩
  · exact Or.inl ⟨b1, b2, b3⟩
  · exact Or.inr (Or.inl ⟨b1, wd_same b2 e1 e2, b3⟩)
  · exact Or.inr (Or.inr ⟨b1, wd_same b2 e1 e2, wd_same b3 e1 e2, b4⟩)
/-- references other than these two may change -/
theorem wI_refs {h h' : qm_H} (hw : wI h) (e1 : h'.1 = h.1) (e2 : ∀ o i, 192 ≤ o ∨ ((o = 29 ∨ o = 111) ∧ i = 15) → h'.2.2.2 o i = h.2.2.2 o i) : wI h' := by
  have key : ∀ w, 192 ≤ w → wd h w → wd h' w := fun w hw hD => by
    obtain ⟨d1, d2, d3, d4, d5, d6⟩ := hD
    refine ⟨by rw [e1]; exact d1, by rw [e1]; exact d2, by rw [e2 _ _ (Or.inl hw)]; exact d3, by rw [e2 _ _ (Or.inl hw)]; exact d4, fun i hi => by rw [e2 _ _ (Or.inl (by omega))]; exact d5 i hi, fun o h1 h2 => by rw [e1]; exact d6 o h1 h2⟩
  obtain ⟨a, b⟩ := hw
  refine ⟨by rw [e1]; exact a, ?_⟩
  rw [e1, e2 29 15 (Or.inr ⟨Or.inl rfl, rfl⟩), e2 111 15 (Or.inr ⟨Or.inr rfl, rfl⟩)]
  rcases b with ⟨b1, b2, b3⟩ | ⟨b1, b2, b3⟩ | ⟨b1, b2, b3, b4⟩
  · exact Or.inl ⟨b1, b2, b3⟩
  · exact Or.inr (Or.inl ⟨b1, key 192 (by omega) b2, b3⟩)
  · exact Or.inr (Or.inr ⟨b1, key 192 (by omega) b2, key 213 (by omega) b3, b4⟩)
theorem wI_S {h : qm_H} (hw : wI h) {t : Nat} (ht : t = 29 ∨ t = 111) : wS h t := by
  obtain ⟨a, b⟩ := hw
  rcases b with ⟨b1, b2, b3⟩ | ⟨b1, b2, b3⟩ | ⟨b1, b2, b3, b4⟩
  · rcases ht with rfl | rfl
    · exact Or.inl b2
    · exact Or.inl b3
  · rcases ht with rfl | rfl
    · rcases b3 with ⟨c1, c2⟩ | ⟨c1, c2⟩
      · exact Or.inr ⟨192, Or.inl rfl, c1, b2⟩
      · exact Or.inl c2
    · rcases b3 with ⟨c1, c2⟩ | ⟨c1, c2⟩
      · exact Or.inl c2
      · exact Or.inr ⟨192, Or.inl rfl, c1, b2⟩
  · rcases ht with rfl | rfl
    · rcases b4 with ⟨c1, c2⟩ | ⟨c1, c2⟩
      · exact Or.inr ⟨192, Or.inl rfl, c1, b2⟩
      · exact Or.inr ⟨213, Or.inr rfl, c2, b3⟩
    · rcases b4 with ⟨c1, c2⟩ | ⟨c1, c2⟩
      · exact Or.inr ⟨213, Or.inr rfl, c2, b3⟩
      · exact Or.inr ⟨192, Or.inl rfl, c1, b2⟩
theorem wI_len {h : qm_H} (hw : wI h) : h.1.length ≤ 600000 ∧ qm_tot h.1 ≤ 7302250 := by
  obtain ⟨a, b⟩ := hw
  rcases b with ⟨b1, _⟩ | ⟨b1, _⟩ | ⟨b1, _⟩ <;> omega
theorem wsh_tot : qm_tot wsh = 1940 := by decide +kernel
/-- one more -/
theorem wI_new {h : qm_H} {t : Nat} {I : Nat → Nat → Int32} {J : Nat → Nat → Int64} (hw : wI h) (ht : t = 29 ∨ t = 111) (hn : h.2.2.2 t 15 = none) : wI (h.1 ++ wsh, I, J, wrf h t) := by
  obtain ⟨a, b⟩ := hw
  have hl : 192 ≤ h.1.length := by rcases b with ⟨b1, _⟩ | ⟨b1, _⟩ | ⟨b1, _⟩ <;> omega
  have htl : t < 192 := by rcases ht with rfl | rfl <;> omega
  have el : (h.1 ++ wsh).length = h.1.length + 21 := by
    rw [List.length_append]
    rfl
  have et : qm_tot (h.1 ++ wsh) = qm_tot h.1 + 1940 := by rw [qm_tot_push, wsh_tot]
  obtain ⟨n1, n2⟩ := wrf_new (h := h) (t := t) (I := I) (J := J) (by omega)
  refine ⟨?_, ?_⟩
  · show qm_tot (h.1 ++ wsh) ≤ 1000 * (h.1 ++ wsh).length
    rw [el, et]
    omega
  · have ro : ∀ o i, o < 192 → ¬ (o = t ∧ i = 15) → wrf h t o i = h.2.2.2 o i := fun o i ho hi => wrf_old (by omega) hi
    rcases b with ⟨b1, b2, b3⟩ | ⟨b1, b2, b3⟩ | ⟨b1, b2, b3, b4⟩
    · refine Or.inr (Or.inl ⟨by show (h.1 ++ wsh).length = 213; omega, ?_, ?_⟩)
      · rw [b1] at n1
        exact n1
      · rw [b1] at n2
        rcases ht with rfl | rfl
        · exact Or.inl ⟨n2, (ro 111 15 (by omega) (by omega)).trans b3⟩
        · exact Or.inr ⟨n2, (ro 29 15 (by omega) (by omega)).trans b2⟩
    · refine Or.inr (Or.inr ⟨by show (h.1 ++ wsh).length = 234; omega, wd_old b2 (by omega) htl (by omega), ?_, ?_⟩)
      · rw [b1] at n1
        exact n1
      · rw [b1] at n2
        rcases ht with rfl | rfl
        · rcases b3 with ⟨c1, c2⟩ | ⟨c1, c2⟩
          · rw [c1] at hn; cases hn
          · exact Or.inr ⟨(ro 111 15 (by omega) (by omega)).trans c1, n2⟩
        · rcases b3 with ⟨c1, c2⟩ | ⟨c1, c2⟩
          · exact Or.inl ⟨(ro 29 15 (by omega) (by omega)).trans c1, n2⟩
          · rw [c1] at hn; cases hn
    · exfalso
      rcases ht with rfl | rfl
      · rcases b4 with ⟨c1, c2⟩ | ⟨c1, c2⟩
        · rw [c1] at hn; cases hn
        · rw [c2] at hn; cases hn
      · rcases b4 with ⟨c1, c2⟩ | ⟨c1, c2⟩
        · rw [c2] at hn; cases hn
        · rw [c1] at hn; cases hn
/-- tables tell of cells below 192 alone -/
theorem qa_Psh_lt {o : Nat} {q : Nat × Nat} (h : qa_Psh o = some q) : o < 192 := by
  rcases Nat.lt_or_ge o 192 with c | c
  · exact c
  · rw [qa_Psh_no c] at h
    cases h
