/-! runs, from the goal back -/
theorem qm_runD_ok {F : Nat → Nat × qm_Cd} (X : Option (Nat × (Nat → Int32))) : ∀ (n d : Nat) (cd : qm_Cd) (c : qm_CD) (r : Option Value) (h : qm_HD), qm_runD F n d cd c = some (r, h) → qm_run F X n d cd (qm_fc c) = some (r, qm_fn h)
  | 0, _, _, _, _, _, h => by cases h
  | n + 1, d, cd, c, r, h', h => by
    unfold qm_runD at h
    unfold qm_stepD at h
    unfold qm_run
    unfold qm_step
    rw [show (qm_fc c).1 = c.1 from rfl]
    cases hf : qm_fetch cd c.1 with
    | none => simp [hf] at h
    | some it =>
      simp only [hf] at h ⊢
      cases hx : qm_xD it c with
      | none => simp [hx] at h
      | some q =>
        simp only [hx] at h
        have hok := qm_xD_ok X it.1 it.2.1 it.2.2.2.1 it.2.2.2.2.1 it.2.2.1 it.2.2.2.2.2 c (r := q) hx
        have hok : qm_x X it (qm_fc c) = some (qm_fr q) := hok
        rw [hok]
        match q, h with
        | .inl c', h => exact qm_runD_ok X n d cd c' r h' h
        | .inr (.inl (b, c1, c2)), h =>
          have := qm_runD_ok X n d cd _ r h' h
          cases b <;> exact this
        | .inr (.inr (.inl (v, h2))), h =>
          cases h
          rfl
        | .inr (.inr (.inr (j, as, c'))), h =>
          match d, h with
          | d' + 1, h =>
            dsimp only at h
            cases hl : Nat.ble (qm_la as).length (F j).1 with
            | false => simp only [hl, cond_false] at h; cases h
            | true =>
              simp only [hl, cond_true] at h
              cases hr : qm_runD F n d' (F j).2 (qm_entD (F j).1 as c'.2.2.2) with
              | none => simp only [hr] at h; cases h
              | some q2 =>
                obtain ⟨r2, h2⟩ := q2
                simp only [hr] at h
                have i1 := qm_runD_ok X n d' _ _ r2 h2 hr
                have i2 := qm_runD_ok X n (d' + 1) cd _ r h' h
                have i1 : qm_run F X n d' (F j).2 (qm_ent (F j).1 as (qm_fc c').2.2.2) = some (r2, qm_fn h2) := i1
                show (bif Nat.ble (qm_la as).length (F j).1 then _ else _) = _
                rw [hl]
                simp only [cond_true]
                show (match qm_run F X n d' (F j).2 (qm_ent (F j).1 as (qm_fc c').2.2.2) with | none => none | some r => _) = _
                rw [i1]
                exact i2
/-- more fuel, more depth: the same -/
theorem qm_run_le {F : Nat → Nat × qm_Cd} {X : Option (Nat × (Nat → Int32))} : ∀ (n n' d d' : Nat) (cd : qm_Cd) (c : qm_C) (r : Option Value × qm_H), n ≤ n' → d ≤ d' → qm_run F X n d cd c = some r → qm_run F X n' d' cd c = some r
  | 0, _, _, _, _, _, _, _, _, h => by cases h
  | n + 1, 0, _, _, _, _, _, hn, _, _ => by omega
  | n + 1, n' + 1, d, d', cd, c, r, hn, hd, h => by
    unfold qm_run at h ⊢
    cases hs : qm_step X cd c with
    | none => simp [hs] at h
    | some q =>
      simp only [hs] at h ⊢
      match q, h with
      | .inl c', h => exact qm_run_le n n' d d' cd c' r (by omega) hd h
      | .inr (.inl (b, c1, c2)), h => exact qm_run_le n n' d d' cd _ r (by omega) hd h
      | .inr (.inr (.inl (v, h2))), h => exact h
      | .inr (.inr (.inr (j, as, c'))), h =>
        match d, d', hd, h with
        | d + 1, 0, hd, _ => omega
        | d + 1, d' + 1, hd, h =>
          dsimp only at h ⊢
          cases hl : Nat.ble (qm_la as).length (F j).1 with
          | false => simp only [hl, cond_false] at h; cases h
          | true =>
            simp only [hl, cond_true] at h ⊢
            cases hr : qm_run F X n d (F j).2 (qm_ent (F j).1 as c'.2.2.2) with
            | none => simp only [hr] at h; cases h
            | some q2 =>
              simp only [hr] at h
              have i1 := qm_run_le n n' d d' _ _ q2 (by omega) (by omega) hr
              simp only [i1]
              exact qm_run_le n n' (d + 1) (d' + 1) cd _ r (by omega) hd h
/-- from c, within d frames, an answer and cells of which Q holds -/
def qm_Ru (X : Option (Nat × (Nat → Int32))) (d : Nat) (cd : qm_Cd) (c : qm_C) (Q : Option Value → qm_H → Prop) : Prop := ∃ (n : Nat) (r : Option Value) (h : qm_H), qm_run qm_F X n d cd c = some (r, h) ∧ Q r h
section QRU
variable {X : Option (Nat × (Nat → Int32))} {d : Nat} {cd : qm_Cd} {c : qm_C} {Q : Option Value → qm_H → Prop}
theorem qm_Ru.nx {c' : qm_C} (h : qm_step X cd c = some (.inl c')) (k : qm_Ru X d cd c' Q) : qm_Ru X d cd c Q := by
  obtain ⟨n, r, h2, h3, h4⟩ := k
  refine ⟨n + 1, r, h2, ?_, h4⟩
  unfold qm_run
  simp only [h]
  exact h3
theorem qm_Ru.br {b : Bool} {c1 c2 : qm_C} (h : qm_step X cd c = some (.inr (.inl (b, c1, c2)))) (k1 : b = true → qm_Ru X d cd c1 Q) (k2 : b = false → qm_Ru X d cd c2 Q) : qm_Ru X d cd c Q := by
  cases b with
  | true =>
    obtain ⟨n, r, h2, h3, h4⟩ := k1 rfl
    refine ⟨n + 1, r, h2, ?_, h4⟩
    unfold qm_run
    simp only [h]
    exact h3
  | false =>
    obtain ⟨n, r, h2, h3, h4⟩ := k2 rfl
    refine ⟨n + 1, r, h2, ?_, h4⟩
    unfold qm_run
    simp only [h]
    exact h3
theorem qm_Ru.rt {v : Option Value} {h' : qm_H} (h : qm_step X cd c = some (.inr (.inr (.inl (v, h'))))) (q : Q v h') : qm_Ru X d cd c Q := by
  refine ⟨1, v, h', ?_, q⟩
  unfold qm_run
  simp only [h]
theorem qm_Ru.call {j nl : Nat} {as : List Value} {c' : qm_C} {cd' : qm_Cd} (h : qm_step X cd c = some (.inr (.inr (.inr (j, as, c'))))) (hF : qm_F j = (nl, cd')) (hl : Nat.ble (qm_la as).length nl = true) (k : qm_Ru X d cd' (qm_ent nl as c'.2.2.2) (fun r h1 => qm_Ru X (d + 1) cd (c'.1, c'.2.1, r.toList ++ c'.2.2.1, h1) Q)) : qm_Ru X (d + 1) cd c Q := by
  obtain ⟨n, r, h2, h3, n2, r2, h4, h5, h6⟩ := k
  refine ⟨max n n2 + 1, r2, h4, ?_, h6⟩
  unfold qm_run
  simp only [h]
  rw [hF]
  simp only [hl, cond_true]
  rw [qm_run_le n (max n n2) d d cd' _ _ (Nat.le_max_left _ _) (Nat.le_refl _) h3]
  exact qm_run_le n2 (max n n2) (d + 1) (d + 1) cd _ _ (Nat.le_max_right _ _) (Nat.le_refl _) h5
theorem qm_Ru.data {n d0 : Nat} {cD : qm_CD} {r : Option Value} {h' : qm_HD} (h : qm_runD qm_F n d0 cd cD = some (r, h')) (hc : qm_fc cD = c) (hd : d0 ≤ d) (q : Q r (qm_fn h')) : qm_Ru X d cd c Q := by
  subst hc
  exact ⟨n, r, qm_fn h', qm_run_le n n d0 d cd _ _ (Nat.le_refl _) hd (qm_runD_ok X n d0 cd cD r h' h), q⟩
theorem qm_Ru.mono {Q' : Option Value → qm_H → Prop} (h : qm_Ru X d cd c Q') (k : ∀ r h, Q' r h → Q r h) : qm_Ru X d cd c Q := by
  obtain ⟨n, r, h2, h3, h4⟩ := h
  exact ⟨n, r, h2, h3, k r h2 h4⟩
theorem qm_Ru.deep {d0 : Nat} (h : qm_Ru X d0 cd c Q) (hd : d0 ≤ d) : qm_Ru X d cd c Q := by
  obtain ⟨n, r, h2, h3, h4⟩ := h
  exact ⟨n, r, h2, qm_run_le n n d0 d cd c _ (Nat.le_refl _) hd h3, h4⟩
/-- straight on, k steps -/
def qm_go (X : Option (Nat × (Nat → Int32))) (cd : qm_Cd) : Nat → qm_C → Option qm_C
  | 0, c => some c
  | k + 1, c => match qm_step X cd c with
    | some (.inl c') => qm_go X cd k c'
    | some (.inr (.inl q)) => (match q.1 with
      | true => qm_go X cd k q.2.1
      | false => qm_go X cd k q.2.2)
    | _ => none
theorem qm_Ru.go : ∀ (k : Nat) {c c' : qm_C}, qm_go X cd k c = some c' → qm_Ru X d cd c' Q → qm_Ru X d cd c Q
  | 0, c, c', h, kk => by
    cases h
    exact kk
  | k + 1, c, c', h, kk => by
    unfold qm_go at h
    cases hs : qm_step X cd c with
    | none => simp [hs] at h
    | some q =>
      simp only [hs] at h
      match q, h with
      | .inl c2, h => exact qm_Ru.nx hs (qm_Ru.go k h kk)
      | .inr (.inl (b, c1, c2)), h =>
        refine qm_Ru.br hs (fun z => ?_) (fun z => ?_)
        · subst z
          exact qm_Ru.go k h kk
        · subst z
          exact qm_Ru.go k h kk
      | .inr (.inr _), h => cases h
end QRU
