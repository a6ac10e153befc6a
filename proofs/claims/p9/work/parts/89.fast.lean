/-! the engine for the kernel: closed words for the kinds of instruction, heads found by a key -/
abbrev qf_T : Type := qa_P → Nat → Nat → Nat → Nat → Value → List Value → List Value → qa_K → qa_R
noncomputable def qf_push : qf_T := fun _ _ np _ _ v ls st K => bif qa_kc v then qa_nx (np, ls, v :: st, K) else none
noncomputable def qf_full : qa_B → qa_B → qa_B := fun _ _ => qa_full
noncomputable def qf_lon : qf_T := fun _ _ np _ _ _ ls st K => qa_lon np ls st K
noncomputable def qf_ixor : qf_T := fun _ _ np _ _ _ ls st K => qi_ixor np ls st K
noncomputable def qf_goto : qf_T := fun _ _ _ a _ _ ls st K => qa_nx (a, ls, st, K)
noncomputable def qf_ret : qf_T := fun _ _ _ _ _ _ _ st K => match st with
  | [] => qa_rt none K
  | _ => none
noncomputable def qf_no : qf_T := fun _ _ _ _ _ _ _ _ _ => none
noncomputable def qf_mul : qf_T := fun _ _ np _ _ _ ls st K => qa_bin np ls st K qa_mul
noncomputable def qf_and : qf_T := fun _ _ np _ _ _ ls st K => qa_bin np ls st K qa_and
noncomputable def qf_any : qf_T := fun _ _ np _ _ _ ls st K => qa_bin np ls st K (fun _ _ => qa_full)
noncomputable def qf_if (q : ClassFile.Cond) : qf_T := fun P pc np a b v ls st K => qi_ifCond P pc np a b v ls st K q
noncomputable def qf_ic (q : ClassFile.Cond) : qf_T := fun P pc np a b v ls st K => qi_if_icmp P pc np a b v ls st K q
noncomputable def qf_ts (dflt lo hi : Int) (offs : Array Int) : qf_T := fun P pc np a b v ls st K => qi_tableswitch P pc np a b v ls st K dflt lo hi offs
noncomputable def qf_ls (dflt : Int) (ps : Array (Int × Int)) : qf_T := fun P pc np a b v ls st K => qi_lookupswitch P pc np a b v ls st K dflt ps
noncomputable def qf_sel (i : Instr) : qf_T := match i with
  | .iconst _ => qf_push
  | .bipush _ => qf_push
  | .sipush _ => qf_push
  | .ldc _ => qf_push
  | .ldc_w _ => qf_push
  | .lconst _ => qf_push
  | .ldc2_w _ => qf_push
  | .iload _ => qi_iload
  | .iload_n _ => qi_iload_n
  | .lload _ => qi_lload
  | .lload_n _ => qi_lload_n
  | .aload _ => qi_aload
  | .aload_n _ => qi_aload_n
  | .istore _ => qi_istore
  | .istore_n _ => qi_istore_n
  | .lstore _ => qi_lstore
  | .lstore_n _ => qi_lstore_n
  | .astore _ => qi_astore
  | .astore_n _ => qi_astore_n
  | .iinc _ _ => qi_iinc
  | .iadd => qi_iadd
  | .isub => qi_isub
  | .imul => qf_mul
  | .iand => qf_and
  | .ior => qf_any
  | .ixor => qf_ixor
  | .ishl => qf_any
  | .ishr => qf_any
  | .iushr => qf_any
  | .idiv => qi_idiv
  | .irem => qi_irem
  | .ineg => qi_ineg
  | .i2b => qi_i2b
  | .ladd => qf_lon
  | .lsub => qf_lon
  | .lmul => qf_lon
  | .land => qf_lon
  | .lor => qf_lon
  | .ldiv => qi_ldiv
  | .lrem => qi_lrem
  | .lshl => qi_lshl
  | .lshr => qi_lshr
  | .lcmp => qi_lcmp
  | .i2l => qi_i2l
  | .l2i => qi_l2i
  | .dup => qi_dup
  | .pop => qi_pop
  | .dup2 => qi_dup2
  | .goto _ => qf_goto
  | .ifCond q _ => qf_if q
  | .if_icmp q _ => qf_ic q
  | .ifnull _ => qi_ifnull
  | .ifnonnull _ => qi_ifnonnull
  | .tableswitch dflt lo hi offs => qf_ts dflt lo hi offs
  | .lookupswitch dflt ps => qf_ls dflt ps
  | .getfield _ => qi_getfield
  | .putfield _ => qi_putfield
  | .iaload => qi_iaload
  | .baload => qi_baload
  | .laload => qi_laload
  | .aaload => qi_aaload
  | .iastore => qi_iastore
  | .bastore => qi_bastore
  | .lastore => qi_lastore
  | .arraylength => qi_arraylength
  | .invokevirtual _ => qi_invokevirtual
  | .invokestatic _ => qi_invokestatic
  | .ireturn => qi_ireturn
  | .lreturn => qi_lreturn
  | .return_ => qf_ret
  | _ => qf_no
noncomputable def qf_x (P : qa_P) (it : qm_It) (c : qa_C) : qa_R := match it, c with
  | (pc, np, i, a, b, v), (_, ls, st, K) => qf_sel i P pc np a b v ls st K
theorem qf_x_eq (P : qa_P) (it : qm_It) (c : qa_C) : qf_x P it c = qa_x P it c := by
  obtain ⟨pc, np, i, a, b, v⟩ := it
  obtain ⟨pc2, ls, st, K⟩ := c
  cases i <;> rfl
noncomputable def qf_hits (rk : List (Nat × Nat × Int)) (j : Nat) (c : qa_C) (fs : qa_Fs) (key : Nat) (l : List (Nat × qa_Nd)) : Bool := List.rec (motive := fun _ => Bool) false (fun q _ ih => bif Nat.beq q.1 key then (bif qa_hit rk j c fs q.2 then true else ih) else ih) l
theorem qf_hits_cons {rk : List (Nat × Nat × Int)} {j : Nat} {c : qa_C} {fs : qa_Fs} {key : Nat} {q : Nat × qa_Nd} {r : List (Nat × qa_Nd)} : qf_hits rk j c fs key (q :: r) = bif Nat.beq q.1 key then (bif qa_hit rk j c fs q.2 then true else qf_hits rk j c fs key r) else qf_hits rk j c fs key r := rfl
theorem qf_hits_ok {rk : List (Nat × Nat × Int)} {j : Nat} {c : qa_C} {fs : qa_Fs} {key : Nat} : ∀ {T : List (Nat × qa_Nd)}, qf_hits rk j c fs key T = true → (T.map (fun q => q.2)).any (qa_hit rk j c fs) = true
  | [], h => by cases h
  | q :: r, h => by
    rw [qf_hits_cons] at h
    rw [List.map_cons, List.any_cons, Bool.or_eq_true]
    cases hb : Nat.beq q.1 key with
    | false =>
      rw [hb, cond_false] at h
      exact Or.inr (qf_hits_ok h)
    | true =>
      rw [hb, cond_true] at h
      cases hc : qa_hit rk j c fs q.2 with
      | true => exact Or.inl rfl
      | false =>
        rw [hc, cond_false] at h
        exact Or.inr (qf_hits_ok h)
/-- what follows: the rest of the run -/
abbrev qf_G : Type := Nat → Nat → qa_C → qa_Fs → Bool
noncomputable def qf_kb (go : qf_G) (d j : Nat) (fs : qa_Fs) (q : ClassFile.Cond × Value × Value × qa_C × qa_C) : Bool := match q with
  | (cc, x, y, c1, c2) => (match qa_as c1.2.2.2 cc x y true with
    | none => true
    | some K1 => go d j (qa_wk c1 K1) fs) && (match qa_as c2.2.2.2 cc x y false with
    | none => true
    | some K1 => go d j (qa_wk c2 K1) fs)
noncomputable def qf_kr (go : qf_G) (ro : Option (Option qa_B)) (d : Nat) (fs : qa_Fs) (q : Option Value × qa_K) : Bool := match fs with
  | [] => qa_ro ro q
  | g :: fs' => go (d + 1) g.1 (g.2.1, g.2.2.1, q.1.toList ++ g.2.2.2, q.2) fs'
noncomputable def qf_kw (go : qf_G) (d j : Nat) (fs : qa_Fs) (q : Nat × List Value × qa_C) (w : qa_Ct) : Bool := bif w.2.1 q.2.2.2.2.2 q.2.1 && Nat.ble w.2.2.2.2 d then (match w.2.2.1 with
  | none => go (d + 1) j (q.2.2.1, q.2.2.2.1, q.2.2.2.2.1, qa_hv q.2.2.2.2.2 w.2.2.2.1) fs
  | some b => go (d + 1) j (q.2.2.1, q.2.2.2.1, (qa_mk (qa_hv q.2.2.2.2.2 w.2.2.2.1) b).1 :: q.2.2.2.2.1, (qa_mk (qa_hv q.2.2.2.2.2 w.2.2.2.1) b).2) fs) else false
noncomputable def qf_kc (go : qf_G) (CT : List qa_Ct) (d j : Nat) (fs : qa_Fs) (q : Nat × List Value × qa_C) : Bool := match d with
  | 0 => false
  | d' + 1 => bif Nat.blt q.1 1000 && Nat.ble (qm_la q.2.1).length (qm_F q.1).1 then (match qa_fc2 CT q.1 with
    | some w => qf_kw go d' j fs q w
    | none => go d' q.1 (0, qm_la q.2.1 ++ List.replicate ((qm_F q.1).1 - (qm_la q.2.1).length) (.float 0), [], q.2.2.2.2.2) ((j, q.2.2.1, q.2.2.2.1, q.2.2.2.2.1) :: fs)) else false
noncomputable def qf_ks (go : qf_G) (d j : Nat) (c : qa_C) (fs : qa_Fs) (q : Nat × Int × Int) : Bool := bif Nat.blt q.1 c.2.2.2.1 && decide (q.2.2 - q.2.1 ≤ 70) then ((bif decide ((qa_lk c.2.2.2.2.1 q.1).1 < q.2.1) then go d j (qa_wk c (qa_cut c.2.2.2 q.1 ((qa_lk c.2.2.2.2.1 q.1).1, min (qa_lk c.2.2.2.2.1 q.1).2 (q.2.1 - 1)))) fs else true) && (bif decide (q.2.2 < (qa_lk c.2.2.2.2.1 q.1).2) then go d j (qa_wk c (qa_cut c.2.2.2 q.1 (max (qa_lk c.2.2.2.2.1 q.1).1 (q.2.2 + 1), (qa_lk c.2.2.2.2.1 q.1).2))) fs else true)) && (List.range (q.2.2 - q.2.1 + 1).toNat).all (fun t => bif decide ((qa_lk c.2.2.2.2.1 q.1).1 ≤ q.2.1 + t) && decide (q.2.1 + t ≤ (qa_lk c.2.2.2.2.1 q.1).2) then go d j (qa_wk c (qa_cut c.2.2.2 q.1 (q.2.1 + t, q.2.1 + t))) fs else true) else false
noncomputable def qf_k (go : qf_G) (CT : List qa_Ct) (ro : Option (Option qa_B)) (d j : Nat) (c : qa_C) (fs : qa_Fs) (r : qa_R) : Bool := match r with
  | none => false
  | some (.inl c') => go d j c' fs
  | some (.inr (.inl q)) => qf_kb go d j fs q
  | some (.inr (.inr (.inl q))) => qf_kr go ro d fs q
  | some (.inr (.inr (.inr (.inl q)))) => qf_kc go CT d j fs q
  | some (.inr (.inr (.inr (.inr q)))) => qf_ks go d j c fs q
noncomputable def qf_find (l : List qm_It) (pc : Nat) : Option qm_It := List.rec (motive := fun _ => Option qm_It) none (fun it _ ih => bif Nat.beq it.1 pc then some it else ih) l
noncomputable def qf_fetch (cd : qm_Cd) (pc : Nat) : Option qm_It := List.rec (motive := fun _ => Option qm_It) none (fun q _ ih => bif Nat.ble pc q.1 then qf_find q.2 pc else ih) cd
theorem qf_find_eq : ∀ (l : List qm_It) (pc : Nat), qf_find l pc = qm_find l pc
  | [], _ => rfl
  | it :: r, pc => by
    show (bif Nat.beq it.1 pc then some it else qf_find r pc) = _
    rw [qf_find_eq r pc]
    rfl
theorem qf_fetch_eq : ∀ (cd : qm_Cd) (pc : Nat), qf_fetch cd pc = qm_fetch cd pc
  | [], _ => rfl
  | q :: r, pc => by
    show (bif Nat.ble pc q.1 then qf_find q.2 pc else qf_fetch r pc) = _
    rw [qf_find_eq, qf_fetch_eq r pc]
    rfl
noncomputable def qf_st (P : qa_P) (j : Nat) (c : qa_C) : qa_R := match qf_fetch (qm_cod qm_F j) c.1 with
  | none => none
  | some it => qf_x P it c
noncomputable def qf_one (go : qf_G) (P : qa_P) (T : List (Nat × qa_Nd)) (CT : List qa_Ct) (ro : Option (Option qa_B)) (rk : List (Nat × Nat × Int)) (d j : Nat) (c : qa_C) (fs : qa_Fs) : Bool := bif qf_hits rk j c fs (j * 100000 + c.1) T then true else bif ro.isNone && qa_end j c fs then true else qf_k go CT ro d j c fs (qf_st P j c)
noncomputable def qf_all (P : qa_P) (T : List (Nat × qa_Nd)) (CT : List qa_Ct) (ro : Option (Option qa_B)) (rk : List (Nat × Nat × Int)) (n : Nat) : qf_G := Nat.rec (fun _ _ _ _ => false) (fun _ ih d j c fs => qf_one ih P T CT ro rk d j c fs) n
theorem qf_all_ok {P : qa_P} {T : List (Nat × qa_Nd)} {CT : List qa_Ct} {ro : Option (Option qa_B)} {rk : List (Nat × Nat × Int)} : ∀ {n d j : Nat} {c : qa_C} {fs : qa_Fs}, qf_all P T CT ro rk n d j c fs = true → qa_all P (T.map (fun q => q.2)) CT ro rk n d j c fs = true
  | 0, _, _, _, _, h => by cases h
  | n + 1, d, j, c, fs, h => by
    have ih : ∀ {d j : Nat} {c : qa_C} {fs : qa_Fs}, qf_all P T CT ro rk n d j c fs = true → qa_all P (T.map (fun q => q.2)) CT ro rk n d j c fs = true := fun h => qf_all_ok h
    have h : qf_one (qf_all P T CT ro rk n) P T CT ro rk d j c fs = true := h
    unfold qf_one at h
    unfold qa_all
    cases h1 : qf_hits rk j c fs (j * 100000 + c.1) T with
    | true =>
      rw [qf_hits_ok h1, Bool.or_true, cond_true]
    | false =>
      rw [h1, cond_false] at h
      cases h2 : ro.isNone && qa_end j c fs with
      | true => rw [Bool.true_or, cond_true]
      | false =>
        rw [h2, cond_false] at h
        cases h3 : (T.map (fun q => q.2)).any (qa_hit rk j c fs) with
        | true => rw [Bool.or_true, cond_true]
        | false =>
          rw [Bool.or_false, cond_false]
          unfold qf_st at h
          rw [qf_fetch_eq] at h
          cases h4 : qm_fetch (qm_cod qm_F j) c.1 with
          | none =>
            rw [h4] at h
            cases h
          | some it =>
            rw [h4] at h
            dsimp only at h ⊢
            rw [qf_x_eq] at h
            cases h5 : qa_x P it c with
            | none =>
              rw [h5] at h
              cases h
            | some r =>
              rw [h5] at h
              match r, h with
              | .inl c', h => exact ih h
              | .inr (.inl q), h =>
                obtain ⟨cc, x, y, c1, c2⟩ := q
                have h : ((match qa_as c1.2.2.2 cc x y true with
                  | none => true
                  | some K1 => qf_all P T CT ro rk n d j (qa_wk c1 K1) fs) && (match qa_as c2.2.2.2 cc x y false with
                  | none => true
                  | some K1 => qf_all P T CT ro rk n d j (qa_wk c2 K1) fs)) = true := h
                rw [Bool.and_eq_true] at h
                dsimp only
                rw [Bool.and_eq_true]
                refine ⟨?_, ?_⟩
                · have h := h.1
                  cases h6 : qa_as c1.2.2.2 cc x y true with
                  | none => rfl
                  | some K1 =>
                    rw [h6] at h
                    exact ih h
                · have h := h.2
                  cases h6 : qa_as c2.2.2.2 cc x y false with
                  | none => rfl
                  | some K1 =>
                    rw [h6] at h
                    exact ih h
              | .inr (.inr (.inl q)), h =>
                cases fs with
                | nil => exact h
                | cons g fs' => exact ih h
              | .inr (.inr (.inr (.inl q))), h =>
                cases d with
                | zero => cases h
                | succ d' =>
                  have h : (bif Nat.blt q.1 1000 && Nat.ble (qm_la q.2.1).length (qm_F q.1).1 then (match qa_fc2 CT q.1 with
                    | some w => qf_kw (qf_all P T CT ro rk n) d' j fs q w
                    | none => qf_all P T CT ro rk n d' q.1 (0, qm_la q.2.1 ++ List.replicate ((qm_F q.1).1 - (qm_la q.2.1).length) (.float 0), [], q.2.2.2.2.2) ((j, q.2.2.1, q.2.2.2.1, q.2.2.2.2.1) :: fs)) else false) = true := h
                  dsimp only
                  cases h6 : (Nat.blt q.1 1000 && Nat.ble (qm_la q.2.1).length (qm_F q.1).1) with
                  | false =>
                    rw [h6] at h
                    cases h
                  | true =>
                    rw [h6, cond_true] at h
                    rw [cond_true]
                    cases h7 : qa_fc2 CT q.1 with
                    | none =>
                      rw [h7] at h
                      exact ih h
                    | some w =>
                      rw [h7] at h
                      have h : qf_kw (qf_all P T CT ro rk n) d' j fs q w = true := h
                      unfold qf_kw at h
                      dsimp only
                      cases h8 : (w.2.1 q.2.2.2.2.2 q.2.1 && Nat.ble w.2.2.2.2 d') with
                      | false =>
                        rw [h8] at h
                        cases h
                      | true =>
                        rw [h8, cond_true] at h
                        rw [cond_true]
                        cases h9 : w.2.2.1 with
                        | none =>
                          rw [h9] at h
                          exact ih h
                        | some b =>
                          rw [h9] at h
                          exact ih h
              | .inr (.inr (.inr (.inr q))), h =>
                have h : qf_ks (qf_all P T CT ro rk n) d j c fs q = true := h
                unfold qf_ks at h
                dsimp only
                cases h6 : (Nat.blt q.1 c.2.2.2.1 && decide (q.2.2 - q.2.1 ≤ 70)) with
                | false =>
                  rw [h6] at h
                  cases h
                | true =>
                  rw [h6, cond_true, Bool.and_eq_true, Bool.and_eq_true] at h
                  rw [cond_true, Bool.and_eq_true, Bool.and_eq_true]
                  obtain ⟨⟨ha, hb⟩, hc⟩ := h
                  refine ⟨⟨?_, ?_⟩, List.all_eq_true.mpr (fun t ht => ?_)⟩
                  · cases h7 : decide ((qa_lk c.2.2.2.2.1 q.1).1 < q.2.1) with
                    | false => rfl
                    | true =>
                      rw [h7, cond_true] at ha
                      exact ih ha
                  · cases h7 : decide (q.2.2 < (qa_lk c.2.2.2.2.1 q.1).2) with
                    | false => rfl
                    | true =>
                      rw [h7, cond_true] at hb
                      exact ih hb
                  · have hc := List.all_eq_true.mp hc t ht
                    try dsimp only at hc ⊢
                    cases h7 : (decide ((qa_lk c.2.2.2.2.1 q.1).1 ≤ q.2.1 + t) && decide (q.2.1 + t ≤ (qa_lk c.2.2.2.2.1 q.1).2)) with
                    | false => rfl
                    | true =>
                      rw [h7, cond_true] at hc
                      exact ih hc
