/-! a stretch of a run over unknown numbers, by the codes' places -/
def qm_cod (F : Nat → Nat × qm_Cd) (j : Nat) : qm_Cd := bif Nat.beq j 1000 then cd_law else (F j).2
abbrev qm_Fs : Type := List (Nat × Nat × List Value × List Value)
def qm_fx (F : Nat → Nat × qm_Cd) (fs : qm_Fs) : List (qm_Cd × Nat × List Value × List Value) := fs.map (fun g => (qm_cod F g.1, g.2))
def qm_adv (F : Nat → Nat × qm_Cd) : Nat → qm_En → Nat → Nat → qm_CS → qm_Fs → Option (Nat × Nat × qm_CS × qm_Fs)
  | 0, _, d, j, c, fs => some (d, j, c, fs)
  | n + 1, E, d, j, c, fs => match qm_fetch (qm_cod F j) c.1 with
    | none => none
    | some it => match qm_xS E it c with
      | none => none
      | some (.inl c') => qm_adv F n E d j c' fs
      | some (.inr (.inl q)) => (match qm_dc E q.1 q.2.1 q.2.2.1 with
        | some true => qm_adv F n E d j q.2.2.2.1 fs
        | some false => qm_adv F n E d j q.2.2.2.2 fs
        | none => none)
      | some (.inr (.inr (.inl q))) => (match fs with
        | [] => none
        | g :: fs' => qm_adv F n E (d + 1) g.1 (g.2.1, g.2.2.1, q.1.toList ++ g.2.2.2, q.2) fs')
      | some (.inr (.inr (.inr (.inl q)))) => (match d with
        | 0 => none
        | d' + 1 => bif Nat.blt q.1 1000 && Nat.ble (qm_la q.2.1).length (F q.1).1 then qm_adv F n E d' q.1 (0, qm_la q.2.1 ++ List.replicate ((F q.1).1 - (qm_la q.2.1).length) (.float 0), [], q.2.2.2.2.2) ((j, q.2.2.1, q.2.2.2.1, q.2.2.2.2.1) :: fs) else none)
      | some (.inr (.inr (.inr (.inr _)))) => none
theorem qm_adv_ok (xs ys : Nat → Int32) : ∀ (n : Nat) (E : qm_En) (d j : Nat) (c : qm_CS) (fs : qm_Fs) (d2 j2 : Nat) (c2 : qm_CS) (fs2 : qm_Fs), qm_sat (qm_rho xs ys) E → qm_adv qm_F n E d j c fs = some (d2, j2, c2, fs2) → qm_Ru (some (6, xs)) d2 (qm_cod qm_F j2) (qm_cs (qm_rho xs ys) c2) (qm_K (some (6, xs)) (qm_rho xs ys) d2 (qm_fx qm_F fs2)) → qm_Ru (some (6, xs)) d (qm_cod qm_F j) (qm_cs (qm_rho xs ys) c) (qm_K (some (6, xs)) (qm_rho xs ys) d (qm_fx qm_F fs))
  | 0, _, _, _, _, _, _, _, _, _, _, h, k => by
    cases h
    exact k
  | n + 1, E, d, j, c, fs, d2, j2, c2, fs2, hs, h, k => by
    unfold qm_adv at h
    split at h
    · cases h
    · rename_i it hf
      have hstep : qm_step (some (6, xs)) (qm_cod qm_F j) (qm_cs (qm_rho xs ys) c) = qm_x (some (6, xs)) it (qm_cs (qm_rho xs ys) c) := by
        unfold qm_step
        rw [show (qm_cs (qm_rho xs ys) c).1 = c.1 from rfl, hf]
      have hpc := (qm_fetch_ok hf).2
      obtain ⟨pc, np, ins, a, f, v⟩ := it
      obtain ⟨pc', ls, st, hh⟩ := c
      have hpc : pc = pc' := hpc
      subst hpc
      split at h
      · cases h
      · rename_i c' hx
        have hy := qm_y hs hx rfl
        exact qm_Ru.nx (hstep.trans hy) (qm_adv_ok xs ys n E d j c' fs d2 j2 c2 fs2 hs h k)
      · rename_i q hx
        have hy := qm_y hs hx rfl
        obtain ⟨q0, qx, qy, e1, e2⟩ := q
        dsimp only at h
        split at h
        · rename_i hd
          obtain ⟨x', y', g1, g2, g3⟩ := qm_dc_ok hs hd
          have hy2 : qm_x (some (6, xs)) (pc, np, ins, a, f, v) (qm_cs (qm_rho xs ys) (pc, ls, st, hh)) = some (.inr (.inl (qm_cc q0 x' y', qm_cs (qm_rho xs ys) e1, qm_cs (qm_rho xs ys) e2))) := by
            rw [hy]
            simp only [qm_f2, g1, g2]
          refine qm_Ru.br (hstep.trans hy2) (fun _ => qm_adv_ok xs ys n E d j e1 fs d2 j2 c2 fs2 hs h k) (fun z => ?_)
          rw [g3] at z
          cases z
        · rename_i hd
          obtain ⟨x', y', g1, g2, g3⟩ := qm_dc_ok hs hd
          have hy2 : qm_x (some (6, xs)) (pc, np, ins, a, f, v) (qm_cs (qm_rho xs ys) (pc, ls, st, hh)) = some (.inr (.inl (qm_cc q0 x' y', qm_cs (qm_rho xs ys) e1, qm_cs (qm_rho xs ys) e2))) := by
            rw [hy]
            simp only [qm_f2, g1, g2]
          refine qm_Ru.br (hstep.trans hy2) (fun z => ?_) (fun _ => qm_adv_ok xs ys n E d j e2 fs d2 j2 c2 fs2 hs h k)
          rw [g3] at z
          cases z
        · cases h
      · rename_i q hx
        have hy := qm_y hs hx rfl
        obtain ⟨qv, qh⟩ := q
        refine qm_Ru.rt (hstep.trans hy) ?_
        dsimp only at h
        split at h
        · cases h
        · rename_i g fs'
          have ih := qm_adv_ok xs ys n E (d + 1) g.1 _ fs' d2 j2 c2 fs2 hs h k
          have e1 : qm_cs (qm_rho xs ys) (g.2.1, g.2.2.1, qv.toList ++ g.2.2.2, qh) = (g.2.1, g.2.2.1.map (qm_sv (qm_rho xs ys)), (qv.map (qm_sv (qm_rho xs ys))).toList ++ g.2.2.2.map (qm_sv (qm_rho xs ys)), qm_hs (qm_rho xs ys) qh) := by
            unfold qm_cs
            dsimp only
            rw [List.map_append]
            cases qv <;> rfl
          rw [e1] at ih
          exact ih
      · rename_i q hx
        have hy := qm_y hs hx rfl
        obtain ⟨j', as, c1⟩ := q
        dsimp only at h
        split at h
        · cases h
        · rename_i d'
          cases hl : Nat.blt j' 1000 && Nat.ble (qm_la as).length (qm_F j').1 with
          | false => simp only [hl, cond_false] at h; cases h
          | true =>
            simp only [hl, cond_true] at h
            rw [Bool.and_eq_true] at hl
            have ih := qm_adv_ok xs ys n E d' j' _ _ d2 j2 c2 fs2 hs h k
            have hj : j' < 1000 := Nat.le_of_ble_eq_true hl.1
            have hcod : qm_cod qm_F j' = (qm_F j').2 := by
              unfold qm_cod
              rw [show Nat.beq j' 1000 = false from qm_bne (by omega)]
              rfl
            have hlen : (qm_la (as.map (qm_sv (qm_rho xs ys)))).length = (qm_la as).length := by rw [← qm_map_la, List.length_map]
            refine qm_Ru.call (hstep.trans hy) rfl (by rw [hlen]; exact hl.2) ?_
            have e1 : qm_cs (qm_rho xs ys) (0, qm_la as ++ List.replicate ((qm_F j').1 - (qm_la as).length) (.float 0), [], c1.2.2.2) = qm_ent (qm_F j').1 (as.map (qm_sv (qm_rho xs ys))) (qm_cs (qm_rho xs ys) c1).2.2.2 := by
              unfold qm_cs qm_ent
              dsimp only
              rw [List.map_append, qm_map_la, List.map_replicate, hlen]
              rfl
            rw [e1, hcod] at ih
            exact ih
      · cases h
