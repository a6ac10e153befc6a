/-! the run of the small machine, and that the real one does the same -/
def qm_run (F : Nat → Nat × qm_Cd) (X : Option (Nat × (Nat → Int32))) : Nat → Nat → qm_Cd → qm_C → Option (Option Value × qm_H)
  | 0, _, _, _ => none
  | n + 1, d, cd, c => match qm_step X cd c with
    | none => none
    | some (.inl c') => qm_run F X n d cd c'
    | some (.inr (.inl q)) => qm_run F X n d cd (bif q.1 then q.2.1 else q.2.2)
    | some (.inr (.inr (.inl q))) => some q
    | some (.inr (.inr (.inr q))) => match d with
      | 0 => none
      | d' + 1 => bif Nat.ble (qm_la q.2.1).length (F q.1).1 then (match qm_run F X n d' (F q.1).2 (qm_ent (F q.1).1 q.2.1 q.2.2.2.2.2) with
        | none => none
        | some r => qm_run F X n (d' + 1) cd (q.2.2.1, q.2.2.2.1, r.1.toList ++ q.2.2.2.2.1, r.2)) else none
theorem qm_find_ok : ∀ {t : List qm_It} {pc : Nat} {it : qm_It}, qm_find t pc = some it → it ∈ t ∧ it.1 = pc
  | [], _, _, h => by cases h
  | x :: t, pc, it, h => by
    unfold qm_find at h
    cases hb : Nat.beq x.1 pc with
    | true =>
      simp only [hb, cond_true] at h
      cases h
      exact ⟨List.mem_cons_self, Nat.eq_of_beq_eq_true hb⟩
    | false =>
      simp only [hb, cond_false] at h
      exact ⟨List.mem_cons_of_mem _ (qm_find_ok h).1, (qm_find_ok h).2⟩
theorem qm_fetch_ok : ∀ {cd : qm_Cd} {pc : Nat} {it : qm_It}, qm_fetch cd pc = some it → (∃ q ∈ cd, it ∈ q.2) ∧ it.1 = pc
  | [], _, _, h => by cases h
  | x :: t, pc, it, h => by
    unfold qm_fetch at h
    cases hb : Nat.ble pc x.1 with
    | true =>
      simp only [hb, cond_true] at h
      exact ⟨⟨x, List.mem_cons_self, (qm_find_ok h).1⟩, (qm_find_ok h).2⟩
    | false =>
      simp only [hb, cond_false] at h
      obtain ⟨⟨q, h1, h2⟩, h3⟩ := qm_fetch_ok h
      exact ⟨⟨q, List.mem_cons_of_mem _ h1, h2⟩, h3⟩
/-- cells only come -/
theorem qm_run_mono {F : Nat → Nat × qm_Cd} {X : Option (Nat × (Nat → Int32))} : ∀ (n d : Nat) (cd : qm_Cd) (c : qm_C) (r : Option Value) (h' : qm_H), qm_run F X n d cd c = some (r, h') → ∃ t, h'.1 = c.2.2.2.1 ++ t
  | 0, _, _, _, _, _, h => by cases h
  | n + 1, d, cd, c, r, h', h => by
    unfold qm_run at h
    unfold qm_step at h
    cases hf : qm_fetch cd c.1 with
    | none => simp [hf] at h
    | some it =>
      simp only [hf] at h
      cases hx : qm_x X it c with
      | none => simp [hx] at h
      | some q =>
        have hfact := qm_x_fact X it.1 it.2.1 it.2.2.2.1 it.2.2.2.2.1 it.2.2.1 it.2.2.2.2.2 c (r := q) hx
        simp only [hx] at h
        match q, hfact, h with
        | .inl c', hfact, h =>
          obtain ⟨-, t, ht⟩ := hfact
          obtain ⟨t2, ht2⟩ := qm_run_mono n d cd c' r h' h
          exact ⟨t ++ t2, by rw [ht2, ht, List.append_assoc]⟩
        | .inr (.inl (b, c1, c2)), hfact, h =>
          obtain ⟨-, h1, h2⟩ := hfact
          obtain ⟨t2, ht2⟩ := qm_run_mono n d cd _ r h' h
          refine ⟨t2, ht2.trans ?_⟩
          cases b
          · show c2.2.2.2.1 ++ t2 = _
            rw [show c2.2.2.2 = c.2.2.2 from h2]
          · show c1.2.2.2.1 ++ t2 = _
            rw [show c1.2.2.2 = c.2.2.2 from h1]
        | .inr (.inr (.inl (v, h2))), hfact, h =>
          obtain ⟨-, h3⟩ := hfact
          cases h
          exact ⟨[], by rw [show h' = c.2.2.2 from h3, List.append_nil]⟩
        | .inr (.inr (.inr (j, as, c'))), hfact, h =>
          obtain ⟨-, h3⟩ := hfact
          have h3 : c'.2.2.2 = c.2.2.2 := h3
          match d, h with
          | d' + 1, h =>
            dsimp only at h
            cases hl : Nat.ble (qm_la as).length (F j).1 with
            | false => simp only [hl, cond_false] at h; cases h
            | true =>
              simp only [hl, cond_true] at h
              cases hr : qm_run F X n d' (F j).2 (qm_ent (F j).1 as c'.2.2.2) with
              | none => simp only [hr] at h; cases h
              | some q2 =>
                simp only [hr] at h
                obtain ⟨t1, ht1⟩ := qm_run_mono n d' _ _ q2.1 q2.2 hr
                obtain ⟨t2, ht2⟩ := qm_run_mono n (d' + 1) cd _ r h' h
                refine ⟨t1 ++ t2, ?_⟩
                rw [ht2]
                show q2.2.1 ++ t2 = _
                rw [ht1, List.append_assoc]
                show c'.2.2.2.1 ++ _ = _
                rw [h3]

section QMD
variable {p : Program} {l : Launch} {e : Env} {R : Room} {s : State} {m : MethodId} {args : Array Value} {below : List Frame} {meth : Method} {c : Code} {Q : State → Prop}
variable {cc : ByteArray} {nL o rt : Nat} {ini : Bool} {D : va_G} {aC : Nat → ClassId} {b B L n0 t0 : Nat} {xs : Nat → Int32} {pc np a f : Nat} {v : Value} {ls st : List Value} {h : qm_H} {c' c1 c2 : qm_C}
theorem qm_nx_ok (C0 : qm_Cx p s m args meth c cc nL o ini D aC b B L xs) {ins : Instr} (hok : qm_ok qm_hd o nL ini rt cc (pc, np, ins, a, f, v) = true) (hx : qm_x (some (L, xs)) (pc, np, ins, a, f, v) (pc, ls, st, h) = some (.inl c')) (h0 : n0 ≤ h.1.length ∧ t0 ≤ qm_tot h.1) (hr : c'.2.2.2.1.length - n0 ≤ R.cells ∧ qm_tot c'.2.2.2.1 - t0 ≤ R.slots) (hr0 : h.1.length - n0 ≤ R.cells ∧ qm_tot h.1 - t0 ≤ R.slots) (hR : 1 ≤ R.frames ∧ 60 ≤ R.locals)
    (k : qm_Wm p l e R s m args below meth c D aC b B n0 t0 nL Q c') : qm_Wm p l e R s m args below meth c D aC b B n0 t0 nL Q (pc, ls, st, h) := by
  have hfact := qm_x_fact (some (L, xs)) pc np a f ins v (pc, ls, st, h) hx
  cases ins with
  | iconst _ => exact qm_n_iconst C0 hok hx k
  | bipush _ => exact qm_n_bipush C0 hok hx k
  | sipush _ => exact qm_n_sipush C0 hok hx k
  | lconst _ => exact qm_n_lconst C0 hok hx k
  | ldc _ => exact qm_n_ldc C0 hok hx k
  | ldc_w _ => exact qm_n_ldc_w C0 hok hx k
  | ldc2_w _ => exact qm_n_ldc2_w C0 hok hx k
  | iload _ => exact qm_n_iload C0 hok hx k
  | lload _ => exact qm_n_lload C0 hok hx k
  | iload_n _ => exact qm_n_iload_n C0 hok hx k
  | lload_n _ => exact qm_n_lload_n C0 hok hx k
  | aload _ => exact qm_n_aload C0 hok hx k
  | aload_n _ => exact qm_n_aload_n C0 hok hx k
  | istore _ => exact qm_n_istore C0 hok hx k
  | lstore _ => exact qm_n_lstore C0 hok hx k
  | astore _ => exact qm_n_astore C0 hok hx k
  | istore_n _ => exact qm_n_istore_n C0 hok hx k
  | lstore_n _ => exact qm_n_lstore_n C0 hok hx k
  | astore_n _ => exact qm_n_astore_n C0 hok hx k
  | iinc _ _ => exact qm_n_iinc C0 hok hx k
  | iadd => exact qm_n_iadd C0 hok hx k
  | isub => exact qm_n_isub C0 hok hx k
  | imul => exact qm_n_imul C0 hok hx k
  | iand => exact qm_n_iand C0 hok hx k
  | ior => exact qm_n_ior C0 hok hx k
  | ixor => exact qm_n_ixor C0 hok hx k
  | idiv => exact qm_n_idiv C0 hok hx k
  | irem => exact qm_n_irem C0 hok hx k
  | ineg => exact qm_n_ineg C0 hok hx k
  | ishl => exact qm_n_ishl C0 hok hx k
  | ishr => exact qm_n_ishr C0 hok hx k
  | iushr => exact qm_n_iushr C0 hok hx k
  | ladd => exact qm_n_ladd C0 hok hx k
  | lsub => exact qm_n_lsub C0 hok hx k
  | lmul => exact qm_n_lmul C0 hok hx k
  | land => exact qm_n_land C0 hok hx k
  | lor => exact qm_n_lor C0 hok hx k
  | ldiv => exact qm_n_ldiv C0 hok hx k
  | lrem => exact qm_n_lrem C0 hok hx k
  | lshl => exact qm_n_lshl C0 hok hx k
  | lshr => exact qm_n_lshr C0 hok hx k
  | lcmp => exact qm_n_lcmp C0 hok hx k
  | i2l => exact qm_n_i2l C0 hok hx k
  | l2i => exact qm_n_l2i C0 hok hx k
  | i2b => exact qm_n_i2b C0 hok hx k
  | dup => exact qm_n_dup C0 hok hx k
  | pop => exact qm_n_pop C0 hok hx k
  | dup2 => exact qm_n_dup2 C0 hok hx k
  | goto _ => exact qm_n_goto C0 hok hx k
  | ifnull _ => exact qm_n_ifnull C0 hok hx k
  | ifnonnull _ => exact qm_n_ifnonnull C0 hok hx k
  | tableswitch _ _ _ _ => exact qm_n_tableswitch C0 hok hx k
  | lookupswitch _ _ => exact qm_n_lookupswitch C0 hok hx k
  | getfield _ => exact qm_n_getfield C0 hok hx k
  | putfield _ => exact qm_n_putfield C0 hok hx k
  | iaload => exact qm_n_iaload C0 hok hx k
  | baload => exact qm_n_baload C0 hok hx k
  | laload => exact qm_n_laload C0 hok hx k
  | aaload => exact qm_n_aaload C0 hok hx k
  | iastore => exact qm_n_iastore C0 hok hx k
  | bastore => exact qm_n_bastore C0 hok hx k
  | lastore => exact qm_n_lastore C0 hok hx k
  | arraylength => exact qm_n_arraylength C0 hok hx k
  | newarray _ => exact qm_n_newarray C0 hok hx h0 hr k
  | new _ => exact qm_n_new C0 hok hx h0 hr k
  | multianewarray _ _ => exact qm_n_multianewarray C0 hok hx h0 hr k
  | invokespecial _ => exact qm_n_invokespecial C0 hok hx hR k
  | invokestatic _ => exact qm_n_invokestatic C0 hok hx hr0 hR k
  | ifCond _ _ => rcases hfact.1 with z | z <;> cases z
  | if_icmp _ _ => rcases hfact.1 with z | z <;> cases z
  | ireturn => rcases hfact.1 with z | z <;> cases z
  | lreturn => rcases hfact.1 with z | z <;> cases z
  | return_ => rcases hfact.1 with z | z <;> cases z
  | invokevirtual _ => rcases hfact.1 with z | z <;> cases z
  | _ => cases hx
theorem qm_br_ok (C0 : qm_Cx p s m args meth c cc nL o ini D aC b B L xs) {ins : Instr} (hok : qm_ok qm_hd o nL ini rt cc (pc, np, ins, a, f, v) = true) {bb : Bool} (hx : qm_x (some (L, xs)) (pc, np, ins, a, f, v) (pc, ls, st, h) = some (.inr (.inl (bb, c1, c2))))
    (k : qm_Wm p l e R s m args below meth c D aC b B n0 t0 nL Q (bif bb then c1 else c2)) : qm_Wm p l e R s m args below meth c D aC b B n0 t0 nL Q (pc, ls, st, h) := by
  have hfact := (qm_x_fact (some (L, xs)) pc np a f ins v (pc, ls, st, h) hx).1
  have k1 : bb = true → qm_Wm p l e R s m args below meth c D aC b B n0 t0 nL Q c1 := fun z => by rw [z] at k; exact k
  have k2 : bb = false → qm_Wm p l e R s m args below meth c D aC b B n0 t0 nL Q c2 := fun z => by rw [z] at k; exact k
  cases ins with
  | ifCond _ _ => exact qm_b_if C0 hok hx k1 k2
  | if_icmp _ _ => exact qm_b_icmp C0 hok hx k1 k2
  | _ => cases hfact
theorem qm_rt_ok {ins : Instr} (hok : qm_ok qm_hd o nL ini rt cc (pc, np, ins, a, f, v) = true) {r : Option Value} {h' : qm_H} (hx : qm_x (some (L, xs)) (pc, np, ins, a, f, v) (pc, ls, st, h) = some (.inr (.inr (.inl (r, h'))))) : qm_dec cc rt pc r ∧ st = r.toList ∧ h' = h := by
  have hfact := (qm_x_fact (some (L, xs)) pc np a f ins v (pc, ls, st, h) hx).1
  cases ins with
  | ireturn =>
    simp only [qm_ok, Bool.and_eq_true, decide_eq_true_eq] at hok
    obtain ⟨hdg, ⟨ha, hrt⟩, hn⟩ := hok
    have hdk := qm_dg hdg (qm_np hn)
    have ha := Nat.eq_of_beq_eq_true ha
    have hrt : rt < 2 := Nat.le_of_ble_eq_true hrt
    simp only [qm_x, qm_rt] at hx
    split at hx
    · rename_i x
      cases hc : Nat.beq a 0 || (decide (x = 0) || decide (x = 1)) with
      | false => simp only [hc, cond_false] at hx; cases hx
      | true =>
        simp only [hc, cond_true] at hx
        simp only [Bool.or_eq_true, decide_eq_true_eq] at hc
        cases hx
        refine ⟨⟨hdk, ?_⟩, rfl, rfl⟩
        rcases hc with z | z
        · left
          rw [← ha]
          exact Nat.eq_of_beq_eq_true z
        · by_cases h0 : rt = 0
          · exact Or.inl h0
          · exact Or.inr ⟨by omega, z⟩
    · cases hx
  | lreturn =>
    simp only [qm_ok, Bool.and_eq_true, decide_eq_true_eq] at hok
    obtain ⟨hdg, hrt, hn⟩ := hok
    have hdk := qm_dg hdg (qm_np hn)
    simp only [qm_x, qm_rt] at hx
    split at hx
    · cases hx
      exact ⟨⟨hdk, Nat.eq_of_beq_eq_true hrt⟩, rfl, rfl⟩
    · cases hx
  | return_ =>
    simp only [qm_ok, Bool.and_eq_true, decide_eq_true_eq] at hok
    obtain ⟨hdg, hrt, hn⟩ := hok
    have hdk := qm_dg hdg (qm_np hn)
    simp only [qm_x, qm_rt] at hx
    split at hx
    · cases hx
      exact ⟨⟨hdk, Nat.eq_of_beq_eq_true hrt⟩, rfl, rfl⟩
    · cases hx
  | _ => cases hfact
end QMD
