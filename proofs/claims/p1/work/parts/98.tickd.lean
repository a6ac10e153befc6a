/-! all ways of a run over digits and sums -/
def ti_all (F : Nat → Nat × qm_Cd) (g : Bool) : Nat → Nat → qm_En → qm_Cd → qm_CS → List (qm_Cd × Nat × List Value × List Value) → Bool
  | 0, _, _, _, _, _ => false
  | n + 1, d, E, cd, c, fs => match qm_fetch cd c.1 with
    | none => false
    | some it => match ti_q g E it c with
      | some p => ti_all F g n d (E.1, (p.1, p.2, true) :: E.2) cd c fs && ti_all F g n d (E.1, (p.1, p.2, false) :: E.2) cd c fs
      | none => match ti_x g E it c with
        | none => false
        | some (.inl c') => ti_all F g n d E cd c' fs
        | some (.inr (.inl q)) => (match ti_dc g E q.1 q.2.1 q.2.2.1 with
          | some true => ti_all F g n d E cd q.2.2.2.1 fs
          | some false => ti_all F g n d E cd q.2.2.2.2 fs
          | none => qm_il q.2.1 && (qm_il q.2.2.1 && (ti_all F g n d (qm_as E q.1 q.2.1 q.2.2.1 true) cd q.2.2.2.1 fs && ti_all F g n d (qm_as E q.1 q.2.1 q.2.2.1 false) cd q.2.2.2.2 fs)))
        | some (.inr (.inr (.inl q))) => (match fs with
          | [] => decide (q.1 = some (.int 1)) && (Nat.ble q.2.1.length 600000 && Nat.ble (qm_tot q.2.1) 7302250)
          | w :: fs' => ti_all F g n (d + 1) E w.1 (w.2.1, w.2.2.1, q.1.toList ++ w.2.2.2, q.2) fs')
        | some (.inr (.inr (.inr (.inl q)))) => (match d with
          | 0 => false
          | d' + 1 => bif Nat.ble (qm_la q.2.1).length (F q.1).1 then ti_all F g n d' E (F q.1).2 (0, qm_la q.2.1 ++ List.replicate ((F q.1).1 - (qm_la q.2.1).length) (.float 0), [], q.2.2.2.2.2) ((cd, q.2.2.1, q.2.2.2.1, q.2.2.2.2.1) :: fs) else false)
        | some (.inr (.inr (.inr (.inr _)))) => false
theorem ti_add_f {r : Nat → Int32} {E : qm_En} (hs : qm_sat r E) {i j : Nat} {c : Bool} (hc : decide (r i < r j) = c) : qm_sat r (E.1, (i, j, c) :: E.2) := ⟨hs.1, fun q hq => by
  rcases List.mem_cons.mp hq with rfl | hq
  · exact hc
  · exact hs.2 q hq⟩
theorem ti_all_g (xs r : Nat → Int32) (g : Bool) (hX : ∀ {E : qm_En} {pc np a f : Nat} {v : Value} {ls st : List Value} {h : qm_HS} {R : qm_SS} {ins : Instr}, qm_sat r E → ti_x g E (pc, np, ins, a, f, v) (pc, ls, st, h) = some R → qm_isp R = false → qm_x (some (6, xs)) (pc, np, ins, a, f, v) (qm_cs r (pc, ls, st, h)) = qm_f2 r R) (hD : ∀ {E : qm_En} {q : ClassFile.Cond} {x y : Value} {b : Bool}, qm_sat r E → ti_dc g E q x y = some b → ∃ x' y', qm_sv r x = .int x' ∧ qm_sv r y = .int y' ∧ qm_cc q x' y' = b) : ∀ (n d : Nat) (E : qm_En) (cd : qm_Cd) (c : qm_CS) (fs : List (qm_Cd × Nat × List Value × List Value)), qm_sat r E → ti_all qm_F g n d E cd c fs = true → qm_Ru (some (6, xs)) d cd (qm_cs r c) (qm_K (some (6, xs)) r d fs)
  | 0, _, _, _, _, _, _, h => by cases h
  | n + 1, d, E, cd, c, fs, hs, h => by
    unfold ti_all at h
    split at h
    · cases h
    · rename_i it hf
      have hstep : qm_step (some (6, xs)) cd (qm_cs r c) = qm_x (some (6, xs)) it (qm_cs r c) := by
        unfold qm_step
        rw [show (qm_cs r c).1 = c.1 from rfl, hf]
      have hpc := (qm_fetch_ok hf).2
      obtain ⟨pc, np, ins, a, f, v⟩ := it
      obtain ⟨pc', ls, st, hh⟩ := c
      have hpc : pc = pc' := hpc
      subst hpc
      split at h
      · rename_i p hq
        rw [Bool.and_eq_true] at h
        cases hb : decide (r p.1 < r p.2) with
        | true => exact ti_all_g xs r g hX hD n d _ cd _ fs (ti_add_f hs hb) h.1
        | false => exact ti_all_g xs r g hX hD n d _ cd _ fs (ti_add_f hs hb) h.2
      · split at h
        · cases h
        · rename_i c' hx
          have hy := hX hs hx rfl
          exact qm_Ru.nx (hstep.trans hy) (ti_all_g xs r g hX hD n d E cd c' fs hs h)
        · rename_i q hx
          have hy := hX hs hx rfl
          obtain ⟨q0, qx, qy, c1, c2⟩ := q
          dsimp only at h
          split at h
          · rename_i hd
            obtain ⟨x', y', g1, g2, g3⟩ := hD hs hd
            have hy2 : qm_x (some (6, xs)) (pc, np, ins, a, f, v) (qm_cs r (pc, ls, st, hh)) = some (.inr (.inl (qm_cc q0 x' y', qm_cs r c1, qm_cs r c2))) := by
              rw [hy]
              simp only [qm_f2, g1, g2]
            refine qm_Ru.br (hstep.trans hy2) (fun _ => ti_all_g xs r g hX hD n d E cd c1 fs hs h) (fun z => ?_)
            rw [g3] at z
            cases z
          · rename_i hd
            obtain ⟨x', y', g1, g2, g3⟩ := hD hs hd
            have hy2 : qm_x (some (6, xs)) (pc, np, ins, a, f, v) (qm_cs r (pc, ls, st, hh)) = some (.inr (.inl (qm_cc q0 x' y', qm_cs r c1, qm_cs r c2))) := by
              rw [hy]
              simp only [qm_f2, g1, g2]
            refine qm_Ru.br (hstep.trans hy2) (fun z => ?_) (fun _ => ti_all_g xs r g hX hD n d E cd c2 fs hs h)
            rw [g3] at z
            cases z
          · simp only [Bool.and_eq_true] at h
            obtain ⟨i1, i2, h1, h2⟩ := h
            obtain ⟨x', g1⟩ := qm_il_sv (r := r) i1
            obtain ⟨y', g2⟩ := qm_il_sv (r := r) i2
            have hy2 : qm_x (some (6, xs)) (pc, np, ins, a, f, v) (qm_cs r (pc, ls, st, hh)) = some (.inr (.inl (qm_cc q0 x' y', qm_cs r c1, qm_cs r c2))) := by
              rw [hy]
              simp only [qm_f2, g1, g2]
            exact qm_Ru.br (hstep.trans hy2) (fun z => ti_all_g xs r g hX hD n d _ cd c1 fs (qm_as_ok hs g1 g2 z) h1) (fun z => ti_all_g xs r g hX hD n d _ cd c2 fs (qm_as_ok hs g1 g2 z) h2)
        · rename_i q hx
          have hy := hX hs hx rfl
          obtain ⟨qv, qh⟩ := q
          refine qm_Ru.rt (hstep.trans hy) ?_
          dsimp only at h
          split at h
          · simp only [Bool.and_eq_true, decide_eq_true_eq] at h
            obtain ⟨h1, h2, h3⟩ := h
            exact ⟨by rw [h1]; rfl, Nat.le_of_ble_eq_true h2, Nat.le_of_ble_eq_true h3⟩
          · rename_i w fs'
            have ih := ti_all_g xs r g hX hD n (d + 1) E w.1 _ fs' hs h
            have e1 : qm_cs r (w.2.1, w.2.2.1, qv.toList ++ w.2.2.2, qh) = (w.2.1, w.2.2.1.map (qm_sv r), (qv.map (qm_sv r)).toList ++ w.2.2.2.map (qm_sv r), qm_hs r qh) := by
              unfold qm_cs
              dsimp only
              rw [List.map_append]
              cases qv <;> rfl
            rw [e1] at ih
            exact ih
        · rename_i q hx
          have hy := hX hs hx rfl
          obtain ⟨j, as, c1⟩ := q
          dsimp only at h
          split at h
          · cases h
          · rename_i d'
            cases hl : Nat.ble (qm_la as).length (qm_F j).1 with
            | false => simp only [hl, cond_false] at h; cases h
            | true =>
              simp only [hl, cond_true] at h
              have ih := ti_all_g xs r g hX hD n d' E (qm_F j).2 _ _ hs h
              have hlen : (qm_la (as.map (qm_sv r))).length = (qm_la as).length := by rw [← qm_map_la, List.length_map]
              refine qm_Ru.call (hstep.trans hy) rfl (by rw [hlen]; exact hl) ?_
              have e1 : qm_cs r (0, qm_la as ++ List.replicate ((qm_F j).1 - (qm_la as).length) (.float 0), [], c1.2.2.2) = qm_ent (qm_F j).1 (as.map (qm_sv r)) (qm_cs r c1).2.2.2 := by
                unfold qm_cs qm_ent
                dsimp only
                rw [List.map_append, qm_map_la, List.map_replicate, hlen]
                rfl
              rw [e1] at ih
              exact ih
        · cases h
theorem ti_all_ok {xs : Nat → Int32} {g : Bool} (hG : g = true → ti_G (xs 1)) {n d : Nat} {E : qm_En} {cd : qm_Cd} {c : qm_CS} {fs : List (qm_Cd × Nat × List Value × List Value)} (hs : qm_sat (qm_rho xs (ti_y xs)) E) (h : ti_all qm_F g n d E cd c fs = true) : qm_Ru (some (6, xs)) d cd (qm_cs (qm_rho xs (ti_y xs)) c) (qm_K (some (6, xs)) (qm_rho xs (ti_y xs)) d fs) :=
  ti_all_g xs (qm_rho xs (ti_y xs)) g (fun hs hx hR => ti_x_ok hG hs hx hR) (fun hs hd => ti_dc_g hs ti_0 (fun _ => ti_pos_ok hs hG) hd) n d E cd c fs hs h
