/-! the other instructions, and all of them -/
section QAR
variable {P : qa_P} {S : qm_H → Prop} {X : Option (Nat × (Nat → Int32))} {p : List Int32} {K : qa_K} {h : qm_H} {pc np a f : Nat} {v : Value} {ls st ls' st' : List Value} {R : qa_S} {it : qm_It} {c' : qm_C}
theorem qa_Inv_J (hL : qa_locK P S) (hI : qa_Inv P S h) (J : Nat → Nat → Int64) (hJ : ∀ o, h.1[o]? = some (3, 25) → ∀ i, J o i = h.2.2.1 o i) : qa_Inv P S (h.1, h.2.1, J, h.2.2.2) := ⟨hI.1, hI.2.1, hI.2.2.1, hL h h.2.1 J (fun _ _ _ => rfl) hJ hI.2.2.2.1, hI.2.2.2.2⟩
theorem qa_j25 {J : Nat → Nat → Int64} {l : List (Nat × Nat)} {o n i : Nat} {x : Int64} (hh : l[o]? = some (3, n)) (h25 : (!Nat.beq n 25) = true) : ∀ o', l[o']? = some (3, 25) → ∀ k, qm_up J o i x o' k = J o' k := by
  intro o' h' k
  unfold qm_up
  cases hb : Nat.beq o' o with
  | false => rfl
  | true =>
    exfalso
    rw [Nat.eq_of_beq_eq_true hb, hh] at h'
    cases h'
    cases h25
theorem qa_j5 {J : Nat → Nat → Int64} {l : List (Nat × Nat)} {q : Nat × Nat} {o a i : Nat} {x : Int64} (hh : l[o]? = some q) (hq : Nat.beq q.1 (a + 5) = true) : ∀ o', l[o']? = some (3, 25) → ∀ k, qm_up J o i x o' k = J o' k := by
  intro o' h' k
  unfold qm_up
  cases hb : Nat.beq o' o with
  | false => rfl
  | true =>
    exfalso
    rw [Nat.eq_of_beq_eq_true hb, hh] at h'
    cases h'
    have := Nat.eq_of_beq_eq_true hq
    omega
theorem qa_hp_J (hp : qa_hp p K h) (J : Nat → Nat → Int64) : qa_hp p K (h.1, h.2.1, J, h.2.2.2) := hp
theorem qa_boo_ok (x : Int32) : qa_in (0, 1) (vp_nar .boolean x) := by
  have e : vp_nar .boolean x = x &&& 1 := rfl
  rw [e]
  exact qa_and_ok (a := qa_full) (b := (1, 1)) (y := 1) (qa_in_full x) ⟨by decide, by decide⟩
theorem qa_byt_ok (x : Int32) : qa_in (-128, 127) (vp_nar .byte x) := by
  rw [vp_nar_byte]
  exact qa_byte_ok x
theorem qa_y_bastore (hL : qa_locK P S) (hl : qa_G p ls ls') (ht : qa_G p st st') (hs : qa_sat p K) (hp : qa_hp p K h) (hI : qa_Inv P S h) (hx : qa_x P (pc, np, .bastore, a, f, v) (pc, ls, st, K) = some R) : qa_ok P S X p (pc, np, .bastore, a, f, v) (pc, ls', st', h) R := by
  simp only [qa_x, qi_bastore, qa_has_eq] at hx
  split at hx
  · rename_i x i o r
    obtain ⟨x', s0, e0, gx, i', s1, e1, gi, o', r', e2, go, hr⟩ := ht
    have go : o' = .ref o := go
    subst go
    subst e2
    subst e1
    subst e0
    split at hx
    · rename_i n hn
      cases hb : (((qa_il x && qa_il i) && qa_ri (qa_bd K i) n) && !P.2.2.2.1.contains o) && qa_les P o (-128, 127) with
      | false => rw [hb, cond_false] at hx; cases hx
      | true =>
        rw [hb, cond_true] at hx
        rw [Bool.and_eq_true, Bool.and_eq_true, Bool.and_eq_true, Bool.and_eq_true, Bool.not_eq_true'] at hb
        obtain ⟨⟨⟨⟨b1, b2⟩, b3⟩, b4⟩, b5⟩ := hb
        obtain ⟨xx, ex⟩ := qa_il_ok gx b1
        obtain ⟨ii, ei, bi⟩ := qa_bd_ok hs gi b2
        subst ei
        subst ex
        have hh := qa_sh_ok hI hn
        have hin := (qa_ri_ok b3 bi).1
        refine qa_nx0 hx (c1' := (np, ls', r', qa_hw h o ii.toNatClampNeg (vp_nar .byte xx))) ?_ ⟨rfl, hl, hr, qa_sat_wr hs rfl rfl rfl rfl, qa_wf_hp hp (fun o' j hb => qa_up_ne (by rw [hb]; rfl)), qa_Inv_hw hL hI (qa_les_ok b5 (qa_byt_ok xx) _) b4 (qa_fp_row hn (by omega) b4)⟩
        simp only [qm_x, hh, hin, cond_true, qm_nx]
        rfl
    · rename_i n hn
      cases hb : (((qa_il x && qa_il i) && qa_ri (qa_bd K i) n) && !P.2.2.2.1.contains o) && qa_les P o (0, 1) with
      | false => rw [hb, cond_false] at hx; cases hx
      | true =>
        rw [hb, cond_true] at hx
        rw [Bool.and_eq_true, Bool.and_eq_true, Bool.and_eq_true, Bool.and_eq_true, Bool.not_eq_true'] at hb
        obtain ⟨⟨⟨⟨b1, b2⟩, b3⟩, b4⟩, b5⟩ := hb
        obtain ⟨xx, ex⟩ := qa_il_ok gx b1
        obtain ⟨ii, ei, bi⟩ := qa_bd_ok hs gi b2
        subst ei
        subst ex
        have hh := qa_sh_ok hI hn
        have hin := (qa_ri_ok b3 bi).1
        refine qa_nx0 hx (c1' := (np, ls', r', qa_hw h o ii.toNatClampNeg (vp_nar .boolean xx))) ?_ ⟨rfl, hl, hr, qa_sat_wr hs rfl rfl rfl rfl, qa_wf_hp hp (fun o' j hb => qa_up_ne (by rw [hb]; rfl)), qa_Inv_hw hL hI (qa_les_ok b5 (qa_boo_ok xx) _) b4 (qa_fp_row hn (by omega) b4)⟩
        simp only [qm_x, hh, hin, cond_true, qm_nx]
        rfl
    · cases hx
  · cases hx
theorem qa_y_lastore (hL : qa_locK P S) (hl : qa_G p ls ls') (ht : qa_G p st st') (hs : qa_sat p K) (hp : qa_hp p K h) (hI : qa_Inv P S h) (hx : qa_x P (pc, np, .lastore, a, f, v) (pc, ls, st, K) = some R) : qa_ok P S X p (pc, np, .lastore, a, f, v) (pc, ls', st', h) R := by
  simp only [qa_x, qi_lastore] at hx
  split at hx
  · rename_i x i o r
    obtain ⟨x', s0, e0, gx, i', s1, e1, gi, o', r', e2, go, hr⟩ := ht
    have go : o' = .ref o := go
    subst go
    subst e2
    subst e1
    subst e0
    split at hx
    · rename_i n hn
      cases hb0 : ((qa_lg x && qa_il i) && qa_ri (qa_bd K i) n) && !Nat.beq n 25 with
      | false => rw [hb0, cond_false] at hx; cases hx
      | true =>
        rw [hb0, cond_true] at hx
        rw [Bool.and_eq_true, Bool.and_eq_true, Bool.and_eq_true] at hb0
        obtain ⟨hb, h25⟩ := hb0
        obtain ⟨xx, ex⟩ := qa_lg_ok gx hb.1.1
        obtain ⟨ii, ei, bi⟩ := qa_bd_ok hs gi hb.1.2
        subst ei
        subst ex
        have hh := qa_sh_ok hI hn
        have hin := (qa_ri_ok hb.2 bi).1
        refine qa_nx0 hx (c1' := (np, ls', r', (h.1, h.2.1, qm_up h.2.2.1 o ii.toNatClampNeg xx, h.2.2.2))) ?_ ⟨rfl, hl, hr, hs, qa_hp_J hp _, qa_Inv_J hL hI _ (qa_j25 hh h25)⟩
        have hw : qm_w25 n (h.2.2.1 o ii.toNatClampNeg) = true := by
          unfold qm_w25
          rw [h25, Bool.true_or]
        simp only [qm_x, hh, hin, hw, Bool.true_and, cond_true, qm_nx]
    · cases hx
  · cases hx
theorem qa_y_arraylength (hl : qa_G p ls ls') (ht : qa_G p st st') (hs : qa_sat p K) (hp : qa_hp p K h) (hI : qa_Inv P S h) (hx : qa_x P (pc, np, .arraylength, a, f, v) (pc, ls, st, K) = some R) : qa_ok P S X p (pc, np, .arraylength, a, f, v) (pc, ls', st', h) R := by
  simp only [qa_x, qi_arraylength] at hx
  split at hx
  · rename_i o r
    obtain ⟨o', r', e2, go, hr⟩ := ht
    have go : o' = .ref o := go
    subst go
    subst e2
    split at hx
    · rename_i q hn
      cases hb : Nat.blt q.1 5 with
      | false => rw [hb, cond_false] at hx; cases hx
      | true =>
        rw [hb, cond_true] at hx
        have hh := qa_sh_ok hI hn
        refine qa_nx0 hx (c1' := (np, ls', .int (Int32.ofNat q.2) :: r', h)) ?_ ⟨rfl, hl, ⟨_, _, rfl, rfl, hr⟩, hs, hp, hI⟩
        simp only [qm_x, hh, hb, cond_true, qm_nx]
    · cases hx
  · cases hx
theorem qa_y_getfield {i : Nat} (hl : qa_G p ls ls') (ht : qa_G p st st') (hs : qa_sat p K) (hp : qa_hp p K h) (hI : qa_Inv P S h) (hx : qa_x P (pc, np, .getfield i, a, f, v) (pc, ls, st, K) = some R) : qa_ok P S X p (pc, np, .getfield i, a, f, v) (pc, ls', st', h) R := by
  simp only [qa_x, qi_getfield] at hx
  split at hx
  · rename_i o r
    obtain ⟨o', r', e2, go, hr⟩ := ht
    have go : o' = .ref o := go
    subst go
    subst e2
    split at hx
    · rename_i q hn
      have hh := qa_sh_ok hI hn
      cases hb : Nat.beq q.1 (a + 5) with
      | false => rw [hb, cond_false] at hx; cases hx
      | true =>
        rw [hb, cond_true] at hx
        cases v with
        | int t =>
          refine qa_pu0 hx (qa_rd_ok hI hs hp o f) (ls' := ls') (r' := r') ?_ hl hr hI
          simp only [qm_x, hh, hb, cond_true, qm_nx, qm_tv]
        | long t =>
          refine qa_nx0 hx (c1' := (np, ls', .long (h.2.2.1 o f) :: r', h)) ?_ ⟨rfl, hl, ⟨_, _, rfl, ⟨_, rfl⟩, hr⟩, hs, hp, hI⟩
          simp only [qm_x, hh, hb, cond_true, qm_nx, qm_tv]
        | null =>
          dsimp only at hx
          split at hx
          · rename_i w hw
            have hr2 := qa_lr_ok hI hw
            refine qa_nx0 hx (c1' := (np, ls', qm_rv w :: r', h)) ?_ ⟨rfl, hl, ⟨_, _, rfl, qa_rv_g, hr⟩, hs, hp, hI⟩
            simp only [qm_x, hh, hb, cond_true, qm_nx, qm_tv, hr2]
          · cases hx
        | _ => cases hx
    · cases hx
  · cases hx
theorem qa_y_putfield {i : Nat} (hL : qa_locK P S) (hl : qa_G p ls ls') (ht : qa_G p st st') (hs : qa_sat p K) (hp : qa_hp p K h) (hI : qa_Inv P S h) (hx : qa_x P (pc, np, .putfield i, a, f, v) (pc, ls, st, K) = some R) : qa_ok P S X p (pc, np, .putfield i, a, f, v) (pc, ls', st', h) R := by
  simp only [qa_x, qi_putfield, qa_has_eq] at hx
  split at hx
  · rename_i w o r
    obtain ⟨w', s1, e1, gw, o', r', e2, go, hr⟩ := ht
    have go : o' = .ref o := go
    subst go
    subst e2
    subst e1
    split at hx
    · rename_i q hn
      have hh := qa_sh_ok hI hn
      cases hb : Nat.beq q.1 (a + 5) with
      | false => rw [hb, cond_false] at hx; cases hx
      | true =>
        rw [hb, cond_true] at hx
        cases v with
        | int t =>
          dsimp only at hx
          cases hc : ((qa_il w && !(P.2.2.2.1.contains o || P.2.2.2.1.contains (1000000 + 1000 * o + f))) && (decide (t = 0) || qa_le (qa_bd K w) (0, 1))) && qa_le (qa_bd K w) (qa_bnd P o f) with
          | false => rw [hc, cond_false] at hx; cases hx
          | true =>
            rw [hc, cond_true] at hx
            rw [Bool.and_eq_true, Bool.and_eq_true, Bool.and_eq_true, Bool.not_eq_true', Bool.or_eq_false_iff, Bool.or_eq_true, decide_eq_true_eq] at hc
            obtain ⟨⟨⟨c1, c2, c2'⟩, c3⟩, c4⟩ := hc
            obtain ⟨x, ex, bx⟩ := qa_bd_ok hs gw c1
            subst ex
            have c5 : (decide (t = 0) || (decide (x = 0) || decide (x = 1))) = true := by
              rcases c3 with c3 | c3
              · rw [decide_eq_true c3]
                rfl
              · have := qa_le_ok c3 bx
                have b1 : 0 ≤ x.toInt := this.1
                have b2 : x.toInt ≤ 1 := this.2
                have b3 : x = 0 ∨ x = 1 := by
                  have : x.toInt = 0 ∨ x.toInt = 1 := by omega
                  rcases this with g | g
                  · exact Or.inl (Int32.toInt_inj.mp g)
                  · exact Or.inr (Int32.toInt_inj.mp g)
                rcases b3 with g | g
                · rw [decide_eq_true g]
                  simp
                · rw [decide_eq_true g]
                  simp
            refine qa_nx0 hx (c1' := (np, ls', r', qa_hw h o f x)) ?_ ⟨rfl, hl, hr, qa_sat_wr hs rfl rfl rfl rfl, qa_wr_hp hp gw, qa_Inv_hw hL hI (qa_le_ok c4 bx) c2 (fun c => by
              rcases c with c | c | ⟨c, _⟩
              · rw [c2] at c
                cases c
              · exact nomatch hn.symm.trans c
              · rw [c2'] at c
                cases c)⟩
            simp only [qm_x, hh, hb, cond_true, c5, qm_nx]
            rfl
        | long t =>
          dsimp only at hx
          cases hc : qa_lg w with
          | false => rw [hc, cond_false] at hx; cases hx
          | true =>
            rw [hc, cond_true] at hx
            obtain ⟨x, ex⟩ := qa_lg_ok gw hc
            subst ex
            refine qa_nx0 hx (c1' := (np, ls', r', (h.1, h.2.1, qm_up h.2.2.1 o f x, h.2.2.2))) ?_ ⟨rfl, hl, hr, hs, qa_hp_J hp _, qa_Inv_J hL hI _ (qa_j5 hh hb)⟩
            simp only [qm_x, hh, hb, cond_true, qm_nx]
        | _ => cases hx
    · cases hx
  · cases hx
theorem qa_y_tableswitch {d lo hi : Int} {offs : Array Int} (hl : qa_G p ls ls') (ht : qa_G p st st') (hs : qa_sat p K) (hp : qa_hp p K h) (hI : qa_Inv P S h) (hx : qa_x P (pc, np, .tableswitch d lo hi offs, a, f, v) (pc, ls, st, K) = some R) : qa_ok P S X p (pc, np, .tableswitch d lo hi offs, a, f, v) (pc, ls', st', h) R := by
  simp only [qa_x, qi_tableswitch] at hx
  split at hx
  · rename_i y r
    obtain ⟨x', r', e2, gx, hr⟩ := ht
    have gx := qa_rs_g hs gx
    split at hx
    · rename_i x ex
      rw [ex] at gx
      have gx : x' = .int x := gx
      subst gx
      subst e2
      by_cases hc : x.toInt < lo ∨ hi < x.toInt
      · rw [decide_eq_true hc, cond_true] at hx
        refine qa_nx0 hx (c1' := (qm_tgt pc d, ls', r', h)) ?_ ⟨rfl, hl, hr, hs, hp, hI⟩
        simp only [qm_x, hc, decide_true, cond_true, qm_nx]
      · rw [decide_eq_false hc, cond_false] at hx
        split at hx
        · rename_i off ho
          refine qa_nx0 hx (c1' := (qm_tgt pc off, ls', r', h)) ?_ ⟨rfl, hl, hr, hs, hp, hI⟩
          simp only [qm_x, hc, decide_false, cond_false, ho, qm_nx]
        · cases hx
    · rename_i n ex
      rw [ex] at gx
      cases hb : decide ((qa_lk K.2.1 n).2 < lo) || decide (hi < (qa_lk K.2.1 n).1) with
      | false =>
        rw [hb, cond_false] at hx
        have hx := (Option.some.inj hx).symm
        rw [hx]
        trivial
      | true =>
        rw [hb, cond_true] at hx
        rw [Bool.or_eq_true, decide_eq_true_eq, decide_eq_true_eq] at hb
        obtain ⟨x, g1, g2⟩ := gx
        have bx := qa_lk_ok g1 hs.2.1
        unfold qa_in at bx
        subst g2
        subst e2
        have hc : x.toInt < lo ∨ hi < x.toInt := by omega
        refine qa_nx0 hx (c1' := (qm_tgt pc d, ls', r', h)) ?_ ⟨rfl, hl, hr, hs, hp, hI⟩
        simp only [qm_x, hc, decide_true, cond_true, qm_nx]
    · cases hx
  · cases hx
theorem qa_off {d k lo hi : Int} (h1 : lo ≤ k) (h2 : k ≤ hi) : ∀ {l : List (Int × Int)}, l.all (fun q => decide (q.1 < lo) || decide (hi < q.1)) = true → Op.lookupswitch.offset l d k = d
  | [], _ => rfl
  | (b, o) :: r, h => by
    rw [List.all_cons, Bool.and_eq_true, Bool.or_eq_true, decide_eq_true_eq, decide_eq_true_eq] at h
    rw [Op.lookupswitch.offset_cons, if_neg (by have := h.1; dsimp only at this; omega)]
    exact qa_off h1 h2 h.2
theorem qa_y_lookupswitch {d : Int} {ps : Array (Int × Int)} (hl : qa_G p ls ls') (ht : qa_G p st st') (hs : qa_sat p K) (hp : qa_hp p K h) (hI : qa_Inv P S h) (hx : qa_x P (pc, np, .lookupswitch d ps, a, f, v) (pc, ls, st, K) = some R) : qa_ok P S X p (pc, np, .lookupswitch d ps, a, f, v) (pc, ls', st', h) R := by
  simp only [qa_x, qi_lookupswitch] at hx
  split at hx
  · rename_i y r
    obtain ⟨x', r', e2, gx, hr⟩ := ht
    have gx := qa_rs_g hs gx
    split at hx
    · rename_i x ex
      rw [ex] at gx
      have gx : x' = .int x := gx
      subst gx
      subst e2
      exact qa_nx0 hx (c1' := (qm_tgt pc (Op.lookupswitch.offset ps.toList d x.toInt), ls', r', h)) rfl ⟨rfl, hl, hr, hs, hp, hI⟩
    · rename_i n ex
      rw [ex] at gx
      cases hb : ps.toList.all (fun k => decide (k.1 < (qa_lk K.2.1 n).1) || decide ((qa_lk K.2.1 n).2 < k.1)) with
      | false =>
        rw [hb, cond_false] at hx
        have hx := (Option.some.inj hx).symm
        rw [hx]
        trivial
      | true =>
        rw [hb, cond_true] at hx
        obtain ⟨x, g1, g2⟩ := gx
        have bx := qa_lk_ok g1 hs.2.1
        subst g2
        subst e2
        have e := qa_off (d := d) bx.1 bx.2 hb
        refine qa_nx0 hx (c1' := (qm_tgt pc d, ls', r', h)) ?_ ⟨rfl, hl, hr, hs, hp, hI⟩
        simp only [qm_x, e, qm_nx]
    · cases hx
  · cases hx
theorem qa_y_invokevirtual {i : Nat} (hl : qa_G p ls ls') (ht : qa_G p st st') (hs : qa_sat p K) (hp : qa_hp p K h) (hI : qa_Inv P S h) (hx : qa_x P (pc, np, .invokevirtual i, a, f, v) (pc, ls, st, K) = some R) : qa_ok P S X p (pc, np, .invokevirtual i, a, f, v) (pc, ls', st', h) R := by
  simp only [qa_x, qi_invokevirtual] at hx
  split at hx
  · rename_i o r hd
    split at hx
    · rename_i q ci hn
      have hh := qa_sh_ok hI hn
      cases hb : Nat.beq q.1 (ci + 5) && Nat.ble (qm_cat r) 8 with
      | false => rw [hb, cond_false] at hx; cases hx
      | true =>
        rw [hb, cond_true] at hx
        have hx := (Option.some.inj hx).symm
        rw [hx]
        have tk := qa_G_take f ht
        rw [hd] at tk
        obtain ⟨o', r', e2, go, hr⟩ := tk.2
        have go : o' = .ref o := go
        subst go
        have hb2 : (Nat.beq q.1 (ci + 5) && Nat.ble (qm_cat r') 8) = true := by rw [qa_G_cat hr]; exact hb
        refine ⟨.ref o :: (st'.take f).reverse, (np, ls', r', h), ?_, ⟨_, _, rfl, rfl, qa_G_rev tk.1⟩, ⟨rfl, hl, hr, hs, hp, hI⟩⟩
        simp only [qm_x, e2, hh, hb2, cond_true, qm_cl]
    · cases hx
  · cases hx
theorem qa_y_invokestatic {i : Nat} (hl : qa_G p ls ls') (ht : qa_G p st st') (hs : qa_sat p K) (hp : qa_hp p K h) (hI : qa_Inv P S h) (hx : qa_x P (pc, np, .invokestatic i, a, f, v) (pc, ls, st, K) = some R) : qa_ok P S X p (pc, np, .invokestatic i, a, f, v) (pc, ls', st', h) R := by
  simp only [qa_x, qi_invokestatic] at hx
  split at hx
  · split at hx
    · rename_i y x r
      cases hi : (qa_il x && qa_il y) && Nat.ble (qm_cat r) 8 with
      | false => rw [hi, cond_false] at hx; cases hx
      | true =>
        rw [hi, cond_true] at hx
        rw [Bool.and_eq_true, Bool.and_eq_true] at hi
        obtain ⟨y', s1, e1, gy, x', r', e2, gx, hr⟩ := ht
        obtain ⟨xx, ex, bx⟩ := qa_bd_ok hs gx hi.1.1
        obtain ⟨yy, ey, by_⟩ := qa_bd_ok hs gy hi.1.2
        subst ex
        subst ey
        subst e2
        subst e1
        have hc : Nat.ble (qm_cat r') 8 = true := by rw [qa_G_cat hr]; exact hi.2
        refine qa_pu0 hx (qa_mk_ok hs hp (qa_max_ok bx by_)) (ls' := ls') (r' := r') (h' := h) ?_ hl hr hI
        simp only [qm_x, hc, cond_true, qm_nx]
    · rename_i y x r
      cases hi : (qa_il x && qa_il y) && Nat.ble (qm_cat r) 8 with
      | false => rw [hi, cond_false] at hx; cases hx
      | true =>
        rw [hi, cond_true] at hx
        rw [Bool.and_eq_true, Bool.and_eq_true] at hi
        obtain ⟨y', s1, e1, gy, x', r', e2, gx, hr⟩ := ht
        obtain ⟨xx, ex, bx⟩ := qa_bd_ok hs gx hi.1.1
        obtain ⟨yy, ey, by_⟩ := qa_bd_ok hs gy hi.1.2
        subst ex
        subst ey
        subst e2
        subst e1
        have hc : Nat.ble (qm_cat r') 8 = true := by rw [qa_G_cat hr]; exact hi.2
        refine qa_pu0 hx (qa_mk_ok hs hp (qa_min_ok bx by_)) (ls' := ls') (r' := r') (h' := h) ?_ hl hr hI
        simp only [qm_x, hc, cond_true, qm_nx]
    · rename_i x r
      cases hi : qa_il x && Nat.ble (qm_cat r) 8 with
      | false => rw [hi, cond_false] at hx; cases hx
      | true =>
        rw [hi, cond_true] at hx
        rw [Bool.and_eq_true] at hi
        obtain ⟨x', r', e2, gx, hr⟩ := ht
        obtain ⟨xx, ex, bx⟩ := qa_bd_ok hs gx hi.1
        subst ex
        subst e2
        have hc : Nat.ble (qm_cat r') 8 = true := by rw [qa_G_cat hr]; exact hi.2
        refine qa_pu0 hx (qa_mk_ok hs hp (qa_abs_ok bx)) (ls' := ls') (r' := r') (h' := h) ?_ hl hr hI
        simp only [qm_x, hc, cond_true, qm_nx]
    · rename_i y x r
      cases hi : (qa_lg x && qa_lg y) && Nat.ble (qm_cat r) 8 with
      | false => rw [hi, cond_false] at hx; cases hx
      | true =>
        rw [hi, cond_true] at hx
        rw [Bool.and_eq_true, Bool.and_eq_true] at hi
        obtain ⟨y', s1, e1, gy, x', r', e2, gx, hr⟩ := ht
        obtain ⟨xx, ex⟩ := qa_lg_ok gx hi.1.1
        obtain ⟨yy, ey⟩ := qa_lg_ok gy hi.1.2
        subst ex
        subst ey
        subst e2
        subst e1
        have hc : Nat.ble (qm_cat r') 8 = true := by rw [qa_G_cat hr]; exact hi.2
        refine qa_nx0 hx (c1' := (np, ls', .long (if yy < xx then xx else yy) :: r', h)) ?_ ⟨rfl, hl, ⟨_, _, rfl, ⟨_, rfl⟩, hr⟩, hs, hp, hI⟩
        simp only [qm_x, hc, cond_true, qm_nx]
    · rename_i y x r
      cases hi : (qa_lg x && qa_lg y) && Nat.ble (qm_cat r) 8 with
      | false => rw [hi, cond_false] at hx; cases hx
      | true =>
        rw [hi, cond_true] at hx
        rw [Bool.and_eq_true, Bool.and_eq_true] at hi
        obtain ⟨y', s1, e1, gy, x', r', e2, gx, hr⟩ := ht
        obtain ⟨xx, ex⟩ := qa_lg_ok gx hi.1.1
        obtain ⟨yy, ey⟩ := qa_lg_ok gy hi.1.2
        subst ex
        subst ey
        subst e2
        subst e1
        have hc : Nat.ble (qm_cat r') 8 = true := by rw [qa_G_cat hr]; exact hi.2
        refine qa_nx0 hx (c1' := (np, ls', .long (if yy < xx then yy else xx) :: r', h)) ?_ ⟨rfl, hl, ⟨_, _, rfl, ⟨_, rfl⟩, hr⟩, hs, hp, hI⟩
        simp only [qm_x, hc, cond_true, qm_nx]
    · cases hx
  · cases hb : Nat.ble f st.length && Nat.ble (qm_cat (st.drop f)) 8 with
    | false => rw [hb, cond_false] at hx; cases hx
    | true =>
      rw [hb, cond_true] at hx
      have hx := (Option.some.inj hx).symm
      rw [hx]
      have tk := qa_G_take f ht
      have hb2 : (Nat.ble f st'.length && Nat.ble (qm_cat (st'.drop f)) 8) = true := by rw [qa_G_cat tk.2, qa_G_len ht]; exact hb
      refine ⟨(st'.take f).reverse, (np, ls', st'.drop f, h), ?_, qa_G_rev tk.1, ⟨rfl, hl, tk.2, hs, hp, hI⟩⟩
      simp only [qm_x, hb2, cond_true, qm_cl]
  · cases hx
theorem qa_y_ireturn (hl : qa_G p ls ls') (ht : qa_G p st st') (hs : qa_sat p K) (hp : qa_hp p K h) (hI : qa_Inv P S h) (hx : qa_x P (pc, np, .ireturn, a, f, v) (pc, ls, st, K) = some R) : qa_ok P S X p (pc, np, .ireturn, a, f, v) (pc, ls', st', h) R := by
  simp only [qa_x, qi_ireturn] at hx
  split at hx
  · rename_i x
    cases hi : qa_il x && (Nat.beq a 0 || qa_le (qa_bd K x) (0, 1)) with
    | false => rw [hi, cond_false] at hx; cases hx
    | true =>
      rw [hi, cond_true] at hx
      rw [Bool.and_eq_true, Bool.or_eq_true] at hi
      have hx := (Option.some.inj hx).symm
      rw [hx]
      obtain ⟨x', r', e2, gx, hr⟩ := ht
      have hr : r' = [] := hr
      obtain ⟨xx, ex, bx⟩ := qa_bd_ok hs gx hi.1
      subst ex
      subst hr
      subst e2
      have c5 : (Nat.beq a 0 || (decide (xx = 0) || decide (xx = 1))) = true := by
        rcases hi.2 with c3 | c3
        · rw [c3]
          rfl
        · have := qa_le_ok c3 bx
          have b1 : 0 ≤ xx.toInt := this.1
          have b2 : xx.toInt ≤ 1 := this.2
          have : xx.toInt = 0 ∨ xx.toInt = 1 := by omega
          rcases this with g | g
          · have g : xx = 0 := Int32.toInt_inj.mp g
            rw [decide_eq_true g]
            simp
          · have g : xx = 1 := Int32.toInt_inj.mp g
            rw [decide_eq_true g]
            simp
      refine ⟨some (.int xx), h, ?_, ⟨_, _, rfl, gx, rfl⟩, hs, hp, hI⟩
      simp only [qm_x, c5, cond_true, qm_rt]
  · cases hx
theorem qa_y_lreturn (hl : qa_G p ls ls') (ht : qa_G p st st') (hs : qa_sat p K) (hp : qa_hp p K h) (hI : qa_Inv P S h) (hx : qa_x P (pc, np, .lreturn, a, f, v) (pc, ls, st, K) = some R) : qa_ok P S X p (pc, np, .lreturn, a, f, v) (pc, ls', st', h) R := by
  simp only [qa_x, qi_lreturn] at hx
  split at hx
  · rename_i x
    cases hi : qa_lg x with
    | false => rw [hi, cond_false] at hx; cases hx
    | true =>
      rw [hi, cond_true] at hx
      have hx := (Option.some.inj hx).symm
      rw [hx]
      obtain ⟨x', r', e2, gx, hr⟩ := ht
      have hr : r' = [] := hr
      obtain ⟨xx, ex⟩ := qa_lg_ok gx hi
      subst ex
      subst hr
      subst e2
      exact ⟨some (.long xx), h, rfl, ⟨_, _, rfl, gx, rfl⟩, hs, hp, hI⟩
  · cases hx
theorem qa_y_return_ (hl : qa_G p ls ls') (ht : qa_G p st st') (hs : qa_sat p K) (hp : qa_hp p K h) (hI : qa_Inv P S h) (hx : qa_x P (pc, np, .return_, a, f, v) (pc, ls, st, K) = some R) : qa_ok P S X p (pc, np, .return_, a, f, v) (pc, ls', st', h) R := by
  simp only [qa_x] at hx
  split at hx
  · have hx := (Option.some.inj hx).symm
    rw [hx]
    have ht : st' = [] := ht
    subst ht
    exact ⟨none, h, rfl, rfl, hs, hp, hI⟩
  · cases hx
theorem qa_y {ins : Instr} (hL : qa_locK P S) (hX : qa_scr P X p) (hl : qa_G p ls ls') (ht : qa_G p st st') (hs : qa_sat p K) (hp : qa_hp p K h) (hI : qa_Inv P S h) (hx : qa_x P (pc, np, ins, a, f, v) (pc, ls, st, K) = some R) : qa_ok P S X p (pc, np, ins, a, f, v) (pc, ls', st', h) R := by
  cases ins with
  | iconst _ => exact qa_y_iconst hl ht hs hp hI hx
  | bipush _ => exact qa_y_bipush hl ht hs hp hI hx
  | sipush _ => exact qa_y_sipush hl ht hs hp hI hx
  | ldc _ => exact qa_y_ldc hl ht hs hp hI hx
  | ldc_w _ => exact qa_y_ldc_w hl ht hs hp hI hx
  | lconst _ => exact qa_y_lconst hl ht hs hp hI hx
  | ldc2_w _ => exact qa_y_ldc2_w hl ht hs hp hI hx
  | iload _ => exact qa_y_iload hl ht hs hp hI hx
  | iload_n _ => exact qa_y_iload_n hl ht hs hp hI hx
  | lload _ => exact qa_y_lload hl ht hs hp hI hx
  | lload_n _ => exact qa_y_lload_n hl ht hs hp hI hx
  | aload _ => exact qa_y_aload hl ht hs hp hI hx
  | aload_n _ => exact qa_y_aload_n hl ht hs hp hI hx
  | istore _ => exact qa_y_istore hl ht hs hp hI hx
  | istore_n _ => exact qa_y_istore_n hl ht hs hp hI hx
  | lstore _ => exact qa_y_lstore hl ht hs hp hI hx
  | lstore_n _ => exact qa_y_lstore_n hl ht hs hp hI hx
  | astore _ => exact qa_y_astore hl ht hs hp hI hx
  | astore_n _ => exact qa_y_astore_n hl ht hs hp hI hx
  | iinc _ _ => exact qa_y_iinc hl ht hs hp hI hx
  | imul => exact qa_y_imul hl ht hs hp hI hx
  | iand => exact qa_y_iand hl ht hs hp hI hx
  | ior => exact qa_y_ior hl ht hs hp hI hx
  | ixor => exact qa_y_ixor hl ht hs hp hI hx
  | ishl => exact qa_y_ishl hl ht hs hp hI hx
  | ishr => exact qa_y_ishr hl ht hs hp hI hx
  | iushr => exact qa_y_iushr hl ht hs hp hI hx
  | iadd => exact qa_y_iadd hl ht hs hp hI hx
  | isub => exact qa_y_isub hl ht hs hp hI hx
  | idiv => exact qa_y_idiv hl ht hs hp hI hx
  | irem => exact qa_y_irem hl ht hs hp hI hx
  | ineg => exact qa_y_ineg hl ht hs hp hI hx
  | i2b => exact qa_y_i2b hl ht hs hp hI hx
  | ladd => exact qa_y_ladd hl ht hs hp hI hx
  | lsub => exact qa_y_lsub hl ht hs hp hI hx
  | lmul => exact qa_y_lmul hl ht hs hp hI hx
  | land => exact qa_y_land hl ht hs hp hI hx
  | lor => exact qa_y_lor hl ht hs hp hI hx
  | ldiv => exact qa_y_ldiv hl ht hs hp hI hx
  | lrem => exact qa_y_lrem hl ht hs hp hI hx
  | lshl => exact qa_y_lshl hl ht hs hp hI hx
  | lshr => exact qa_y_lshr hl ht hs hp hI hx
  | lcmp => exact qa_y_lcmp hl ht hs hp hI hx
  | i2l => exact qa_y_i2l hl ht hs hp hI hx
  | l2i => exact qa_y_l2i hl ht hs hp hI hx
  | dup => exact qa_y_dup hl ht hs hp hI hx
  | pop => exact qa_y_pop hl ht hs hp hI hx
  | dup2 => exact qa_y_dup2 hl ht hs hp hI hx
  | goto _ => exact qa_y_goto hl ht hs hp hI hx
  | ifCond _ _ => exact qa_y_ifCond hl ht hs hp hI hx
  | if_icmp _ _ => exact qa_y_if_icmp hl ht hs hp hI hx
  | ifnull _ => exact qa_y_ifnull hl ht hs hp hI hx
  | ifnonnull _ => exact qa_y_ifnonnull hl ht hs hp hI hx
  | iaload => exact qa_y_iaload hX hl ht hs hp hI hx
  | baload => exact qa_y_baload hl ht hs hp hI hx
  | laload => exact qa_y_laload hl ht hs hp hI hx
  | aaload => exact qa_y_aaload hl ht hs hp hI hx
  | arraylength => exact qa_y_arraylength hl ht hs hp hI hx
  | getfield _ => exact qa_y_getfield hl ht hs hp hI hx
  | tableswitch _ _ _ _ => exact qa_y_tableswitch hl ht hs hp hI hx
  | lookupswitch _ _ => exact qa_y_lookupswitch hl ht hs hp hI hx
  | invokevirtual _ => exact qa_y_invokevirtual hl ht hs hp hI hx
  | invokestatic _ => exact qa_y_invokestatic hl ht hs hp hI hx
  | ireturn => exact qa_y_ireturn hl ht hs hp hI hx
  | lreturn => exact qa_y_lreturn hl ht hs hp hI hx
  | return_ => exact qa_y_return_ hl ht hs hp hI hx
  | iastore => exact qa_y_iastore hL hl ht hs hp hI hx
  | bastore => exact qa_y_bastore hL hl ht hs hp hI hx
  | lastore => exact qa_y_lastore hL hl ht hs hp hI hx
  | putfield _ => exact qa_y_putfield hL hl ht hs hp hI hx
  | _ => cases hx
end QAR
