/-! the explorer is right -/
theorem qa_rc_ext {p t : List Int32} {r : Nat × Nat × Int} (h : r.1 ≠ 0 → r.2.1 < p.length) : qa_rc (p ++ t) r = qa_rc p r := by
  unfold qa_rc
  split
  · rfl
  · rename_i e
    rw [List.getD_eq_getElem?_getD, List.getD_eq_getElem?_getD, List.getElem?_append_left (h (by rw [e]; omega))]
  · rename_i e _
    rw [List.getD_eq_getElem?_getD, List.getD_eq_getElem?_getD, List.getElem?_append_left (h e)]
theorem qa_ms_ext {p t : List Int32} : ∀ {rs : List (Nat × Nat × Int)}, (∀ r ∈ rs, r.1 ≠ 0 → r.2.1 < p.length) → qa_ms (p ++ t) rs = qa_ms p rs
  | [], _ => rfl
  | r :: rs, h => by
    unfold qa_ms
    rw [qa_rc_ext (h r List.mem_cons_self), qa_ms_ext (fun q hq => h q (List.mem_cons_of_mem _ hq))]
theorem qa_fc2_ok : ∀ {CT : List qa_Ct} {j : Nat} {q : qa_Ct}, qa_fc2 CT j = some q → q ∈ CT ∧ q.1 = j
  | [], _, _, h => by cases h
  | w :: r, j, q, h => by
    unfold qa_fc2 at h
    cases hb : Nat.beq w.1 j with
    | true =>
      rw [hb, cond_true] at h
      cases h
      exact ⟨List.mem_cons_self, Nat.eq_of_beq_eq_true hb⟩
    | false =>
      rw [hb, cond_false] at h
      have := qa_fc2_ok h
      exact ⟨List.mem_cons_of_mem _ this.1, this.2⟩
theorem qa_ex_ok {p : List Int32} {c : qa_C} {ls' st' : List Value} {i0 : Int32} (h : qa_ex c = true) (hs : qa_sat p c.2.2.2) (hl : qa_G p c.2.1 ls') (ht : qa_G p c.2.2.1 st') (h0 : p[0]? = some i0) : ∃ x : Int32, x.toInt = i0.toInt + 6 ∧ ls' = [.retAddr 0, .ref 0, .ref 118, .int x] ∧ st' = [] := by
  unfold qa_ex at h
  split at h
  · rename_i n e1 e2
    rw [e1] at hl
    rw [e2] at ht
    obtain ⟨v1, w1, rfl, g1, v2, w2, rfl, g2, v3, w3, rfl, g3, v4, w4, rfl, g4, g5⟩ := hl
    have g1 : v1 = .retAddr 0 := g1
    have g2 : v2 = .ref 0 := g2
    have g3 : v3 = .ref 118 := g3
    have g5 : w4 = [] := g5
    obtain ⟨x, g6, g7⟩ := g4
    obtain ⟨d, d1, d2⟩ := List.any_eq_true.mp h
    rw [Bool.and_eq_true, Bool.and_eq_true, decide_eq_true_eq] at d2
    obtain ⟨d3, d4, d5⟩ := d2
    have e3 := Nat.eq_of_beq_eq_true d3
    have e4 := Nat.eq_of_beq_eq_true d4
    obtain ⟨u, w, f1, f2, f3⟩ := hs.2.2.2 d d1
    rw [e3, g6] at f1
    rw [e4, h0] at f2
    cases f1
    cases f2
    refine ⟨x, by rw [f3, d5], ?_, ht⟩
    rw [g1, g2, g3, g5, g7]
  · cases h
theorem qa_hv_hp {p : List Int32} {K : qa_K} {h h' : qm_H} {mod : List Nat} (hp : qa_hp p K h) (hm : ∀ o, mod.contains o = false → ∀ i, h'.2.1 o i = h.2.1 o i) : qa_hp p (qa_hv K mod) h' := by
  refine ⟨fun q hq => ?_, fun q hq => ?_⟩
  · obtain ⟨h1, h2⟩ := List.mem_filter.mp hq
    rw [Bool.not_eq_true', qa_has_eq] at h2
    rw [hm q.1 h2]
    exact hp.1 q h1
  · obtain ⟨h1, h2⟩ := List.mem_filter.mp hq
    rw [Bool.not_eq_true', qa_has_eq] at h2
    obtain ⟨x, g1, g2, g3⟩ := hp.2 q h1
    refine ⟨x, g1, g2, ?_⟩
    rw [hm q.1 h2]
    exact g3
theorem qa_ro_ok {p : List Int32} {ro : Option (Option qa_B)} {q : Option Value × qa_K} {w : Option Value} (h : qa_ro ro q = true) (hs : qa_sat p q.2) (hg : qa_G p q.1.toList w.toList) : qa_rO ro w := by
  unfold qa_ro at h
  unfold qa_rO
  split at h
  · cases h
  · have h := of_decide_eq_true h
    rw [h] at hg
    cases w with
    | none => rfl
    | some v => cases hg
  · split at h
    · rename_i b a ha
      rw [ha] at hg
      rw [Bool.and_eq_true] at h
      obtain ⟨v, vs, e1, e2, e3⟩ := hg
      obtain ⟨x, ex, bx⟩ := qa_bd_ok hs e2 h.1
      have e3 : vs = [] := e3
      subst e3
      subst ex
      cases w with
      | none => cases e1
      | some u =>
        cases e1
        exact ⟨x, rfl, qa_le_ok h.2 bx⟩
    · cases h
theorem qa_all_ok {P : qa_P} {S : qm_H → Prop} {X : Option (Nat × (Nat → Int32))} {Z : Option Value → qm_H → Prop} {T : List qa_Nd} {CT : List qa_Ct} {ro : Option (Option qa_B)} {D i : Nat} {i0 : Int32} {rk : List (Nat × Nat × Int)} {mu : Nat} (hL : qa_locK P S) (hX : ∃ L xs, X = some (L, xs) ∧ 0 ≤ i0.toInt ∧ i0.toInt + 5 < (L : Int) ∧ ∀ c, c < 6 → qa_in (P.2.2.2.2.2.getD c qa_full) (xs (i0.toInt.toNat + c))) (hC : ∀ q ∈ CT, qa_hc P S X q) (hR : ∀ (r : Option Value) (h : qm_H), qa_rO ro r → qa_Inv P S h → Z r h) (hE : ro = none → ∀ (h : qm_H) (x : Int32), x.toInt = i0.toInt + 6 → qa_Inv P S h → qm_Ru X D cd_law (18, [.retAddr 0, .ref 0, .ref 118, .int x], [], h) Z) (hT : ∀ nd ∈ T, ∀ (p : List Int32) (c' : qm_C) (fs' : qa_Fs) (d : Nat), p[0]? = some i0 → nd.2.2.2.length = rk.length → qa_ms p nd.2.2.2 < mu → qa_rel P S p nd.2.1 c' → qa_GF p nd.2.2.1 fs' → d + fs'.length = D → qa_run X Z d nd.1 c' fs') : ∀ (n d j : Nat) (c : qa_C) (fs : qa_Fs) (p : List Int32) (c' : qm_C) (fs' : qa_Fs), qa_all P T CT ro rk n d j c fs = true → p[0]? = some i0 → (∀ r ∈ rk, r.1 ≠ 0 → r.2.1 < p.length) → qa_ms p rk = mu → qa_rel P S p c c' → qa_GF p fs fs' → d + fs'.length = D → qa_run X Z d j c' fs'
  | 0, _, _, _, _, _, _, _, h, _, _, _, _, _, _ => by cases h
  | n + 1, d, j, c, fs, p, c', fs', h, h0, hk, hm, hr, hf, hd => by
    unfold qa_all at h
    cases hend : (ro.isNone && qa_end j c fs) || T.any (qa_hit rk j c fs) with
    | true =>
      rw [Bool.or_eq_true] at hend
      rcases hend with hend | hend
      · unfold qa_end at hend
        rw [Bool.and_eq_true, Bool.and_eq_true, Bool.and_eq_true, Bool.and_eq_true] at hend
        obtain ⟨hro, ⟨h1, h2⟩, h3, h4⟩ := hend
        have hro : ro = none := Option.isNone_iff_eq_none.mp hro
        have e1 := Nat.eq_of_beq_eq_true h1
        have e2 := Nat.eq_of_beq_eq_true h2
        have e3 := List.isEmpty_iff.mp h3
        subst e1
        subst e3
        have hf : fs' = [] := hf
        subst hf
        obtain ⟨r1, r2, r3, hs, hp, hI⟩ := hr
        obtain ⟨x, g1, g2, g3⟩ := qa_ex_ok h4 hs r2 r3 h0
        have hd : d = D := hd
        subst hd
        obtain ⟨pc', ls', st', hh⟩ := c'
        have r1 : pc' = c.1 := r1
        have g2 : ls' = _ := g2
        have g3 : st' = _ := g3
        subst g2
        subst g3
        rw [e2] at r1
        subst r1
        exact hE hro hh x g1 hI
      · obtain ⟨nd, n1, n2⟩ := List.any_eq_true.mp hend
        unfold qa_hit at n2
        rw [Bool.and_eq_true, Bool.and_eq_true, Bool.and_eq_true, Bool.and_eq_true, Bool.and_eq_true] at n2
        obtain ⟨⟨a1, a2⟩, ⟨a3, a4⟩, a5, a6⟩ := n2
        have e1 := Nat.eq_of_beq_eq_true a1
        have e2 := Nat.eq_of_beq_eq_true a2
        obtain ⟨b1, b2⟩ := qa_ck_ok a5 hr hf e2
        obtain ⟨b3, b4⟩ := qa_rk_ok hr.2.2.2.1 a6
        have z : (qa_pv p (qa_th nd c fs) nd.2.1.2.2.2.1)[0]? = some i0 := by
          unfold qa_z0 at a3
          split at a3
          · rename_i w hw
            have := of_decide_eq_true a3
            subst this
            rw [qa_pv_get (Nat.le_of_ble_eq_true a4) hw, qa_gd, List.getD_eq_getElem?_getD, h0]
            rfl
          · cases a3
        have := hT nd n1 _ c' fs' d z b3 (by rw [← hm]; exact b4) b1 b2 hd
        rw [← e1]
        exact this
    | false =>
      rw [hend, cond_false] at h
      split at h
      · cases h
      · rename_i it hfe
        have hpc := (qm_fetch_ok hfe).2
        obtain ⟨r1, r2, r3, hs, hp, hI⟩ := hr
        obtain ⟨pc', ls', st', hh⟩ := c'
        have hstep : qm_step X (qm_cod qm_F j) (pc', ls', st', hh) = qm_x X it (pc', ls', st', hh) := by
          unfold qm_step
          rw [show ((pc', ls', st', hh) : qm_C).1 = c.1 from r1, hfe]
        obtain ⟨pc, np, ins, a, f, v⟩ := it
        obtain ⟨pc2, ls, st, K⟩ := c
        have hpc : pc = pc2 := hpc
        have r1 : pc' = pc2 := r1
        subst hpc
        subst r1
        have hs : qa_sat p K := hs
        have hp : qa_hp p K hh := hp
        have hX' := hX
        obtain ⟨L, xs, hX1, hX2, hX3, hX4⟩ := hX
        have hS : qa_scr P X p := ⟨L, xs, i0, hX1, h0, hX2, hX3, hX4⟩
        split at h
        · cases h
        · rename_i c1 hx
          obtain ⟨t, c1', e1, e2⟩ := qa_y hL hS r2 r3 hs hp hI hx
          exact qm_Ru.nx (hstep.trans e1) (qa_all_ok (i := i) hL hX' hC hR hE hT n d j c1 fs (p ++ t) c1' fs' h (qa_ext h0) (fun r hr hz => by rw [List.length_append]; have := hk r hr hz; omega) (by rw [qa_ms_ext hk]; exact hm) e2 (qa_GF_ext t hf) hd)
        · rename_i q hx
          obtain ⟨x', y', c1', c2', e1, gx, gy, ix, iy, e2, e3⟩ := qa_y hL hS r2 r3 hs hp hI hx
          rw [Bool.and_eq_true] at h
          refine qm_Ru.br (hstep.trans e1) (fun z => ?_) (fun z => ?_)
          · obtain ⟨s1, s2, s3, s4, s5, s6⟩ := e2
            obtain ⟨K1, k1, k2, k3⟩ := qa_as_ok (hh := c1'.2.2.2) s4 s5 gx gy ix iy z
            have h := h.1
            rw [k1] at h
            exact qa_all_ok (i := i) hL hX' hC hR hE hT n d j _ fs p c1' fs' h h0 hk hm ⟨s1, s2, s3, k2, k3, s6⟩ hf hd
          · obtain ⟨s1, s2, s3, s4, s5, s6⟩ := e3
            obtain ⟨K1, k1, k2, k3⟩ := qa_as_ok (hh := c2'.2.2.2) s4 s5 gx gy ix iy z
            have h := h.2
            rw [k1] at h
            exact qa_all_ok (i := i) hL hX' hC hR hE hT n d j _ fs p c2' fs' h h0 hk hm ⟨s1, s2, s3, k2, k3, s6⟩ hf hd
        · rename_i q hx
          obtain ⟨w', h', e1, e2, e3, e4, e5⟩ := qa_y hL hS r2 r3 hs hp hI hx
          split at h
          · have hf : fs' = [] := hf
            subst hf
            exact qm_Ru.rt (hstep.trans e1) (hR w' h' (qa_ro_ok h e3 e2) e5)
          · rename_i g fs0
            obtain ⟨g', gs, f1, f2, f3, f4⟩ := hf
            subst f1
            refine qm_Ru.rt (hstep.trans e1) ?_
            show qm_Ru X (d + 1) (qm_cod qm_F g'.1) (g'.2.1, g'.2.2.1, w'.toList ++ g'.2.2.2, h') (qa_KK X Z (d + 1) gs)
            rw [f2.1]
            rw [List.length_cons] at hd
            exact qa_all_ok (i := i) hL hX' hC hR hE hT n (d + 1) g.1 _ fs0 p (g'.2.1, g'.2.2.1, w'.toList ++ g'.2.2.2, h') gs h h0 hk hm ⟨f2.2, f3.1, qa_G_app e2 f3.2, e3, e4, e5⟩ f4 (by omega)
        · rename_i q hx
          obtain ⟨as', c1', e1, e2, e3⟩ := qa_y hL hS r2 r3 hs hp hI hx
          obtain ⟨s1, s2, s3, s4, s5, s6⟩ := e3
          split at h
          · cases h
          · rename_i d'
            cases hb : Nat.blt q.1 1000 && Nat.ble (qm_la q.2.1).length (qm_F q.1).1 with
            | false => rw [hb, cond_false] at h; cases h
            | true =>
              rw [hb, cond_true] at h
              rw [Bool.and_eq_true] at hb
              have hj : q.1 < 1000 := Nat.le_of_ble_eq_true hb.1
              have hcod : qm_cod qm_F q.1 = (qm_F q.1).2 := by
                unfold qm_cod
                rw [show Nat.beq q.1 1000 = false from qm_bne (by omega)]
                rfl
              have gla := qa_G_la e2
              have hlen : Nat.ble (qm_la as').length (qm_F q.1).1 = true := by rw [qa_G_len gla]; exact hb.2
              refine qm_Ru.call (hstep.trans e1) rfl hlen ?_
              split at h
              · rename_i w hw
                obtain ⟨w1, w2⟩ := qa_fc2_ok hw
                cases hp2 : w.2.1 q.2.2.2.2.2 q.2.1 && Nat.ble w.2.2.2.2 d' with
                | false => rw [hp2, cond_false] at h; cases h
                | true =>
                  rw [hp2, cond_true] at h
                  rw [Bool.and_eq_true] at hp2
                  have hc := hC w w1 p q.2.2.2.2.2 q.2.1 as' c1'.2.2.2 d' (fun r h1 => qm_Ru X (d' + 1) (qm_cod qm_F j) (c1'.1, c1'.2.1, r.toList ++ c1'.2.2.1, h1) (qa_KK X Z (d' + 1) fs')) s4 s5 e2 hp2.1 s6 (Nat.le_of_ble_eq_true hp2.2) (fun r h1 hr1 hI1 hm1 => by
                    have hv : qa_sat p (qa_hv q.2.2.2.2.2 w.2.2.2.1) := qa_sat_wr s4 rfl rfl rfl rfl
                    have hvp : qa_hp p (qa_hv q.2.2.2.2.2 w.2.2.2.1) h1 := qa_hv_hp s5 hm1
                    split at h
                    · rename_i hres
                      rw [hres] at hr1
                      have hr1 : r = none := hr1
                      subst hr1
                      exact qa_all_ok (i := i) hL hX' hC hR hE hT n (d' + 1) j _ fs p (c1'.1, c1'.2.1, c1'.2.2.1, h1) fs' h h0 hk hm ⟨s1, s2, s3, hv, hvp, hI1⟩ hf hd
                    · rename_i b hres
                      rw [hres] at hr1
                      obtain ⟨x, hx1, hx2⟩ := hr1
                      subst hx1
                      obtain ⟨t, t1, t2, t3⟩ := qa_mk_ok hv hvp hx2
                      exact qa_all_ok (i := i) hL hX' hC hR hE hT n (d' + 1) j _ fs (p ++ t) (c1'.1, c1'.2.1, .int x :: c1'.2.2.1, h1) fs' h (qa_ext h0) (fun r hr hz => by rw [List.length_append]; have := hk r hr hz; omega) (by rw [qa_ms_ext hk]; exact hm) ⟨s1, qa_G_ext t s2, ⟨_, _, rfl, t3, qa_G_ext t s3⟩, t1, t2, hI1⟩ (qa_GF_ext t hf) hd)
                  rw [w2] at hc
                  exact hc
              · have ih := qa_all_ok (i := i) hL hX' hC hR hE hT n d' q.1 _ _ p (qm_ent (qm_F q.1).1 as' c1'.2.2.2) ((j, c1'.1, c1'.2.1, c1'.2.2.1) :: fs') h h0 hk hm ⟨rfl, by
                  show qa_G p (qm_la q.2.1 ++ List.replicate ((qm_F q.1).1 - (qm_la q.2.1).length) (.float 0)) (qm_la as' ++ List.replicate ((qm_F q.1).1 - (qm_la as').length) (.float 0))
                  rw [qa_G_len gla]
                  exact qa_G_app gla (qa_G_rep (show qa_g p (.float 0) (.float 0) from rfl) _), rfl, s4, s5, s6⟩ ⟨_, _, rfl, ⟨rfl, s1⟩, ⟨s2, s3⟩, hf⟩ (by rw [List.length_cons]; omega)
                unfold qa_run at ih
                rw [hcod] at ih
                exact ih
        · rename_i q hx
          obtain ⟨m, lo, hi⟩ := q
          cases hb : Nat.blt m K.1 && decide (hi - lo ≤ 70) with
          | false =>
            simp only [hb, cond_false] at h
            cases h
          | true =>
            simp only [hb, cond_true] at h
            rw [Bool.and_eq_true] at hb h
            have hml : m < p.length := by
              rw [hs.1]
              exact Nat.le_of_ble_eq_true hb.1
            have hpm := List.getElem?_eq_getElem hml
            have bx := qa_lk_ok hpm hs.2.1
            have gm : qa_g p (.retAddr (m + 1)) (.int p[m]) := ⟨_, hpm, rfl⟩
            have go : ∀ q : qa_B, qa_in q p[m] → qa_all P T CT ro rk n d j (pc', ls, st, qa_cut K m q) fs = true → qa_run X Z d j (pc', ls', st', hh) fs' := fun q hq h => qa_all_ok (i := i) hL hX' hC hR hE hT n d j _ fs p (pc', ls', st', hh) fs' h h0 hk hm ⟨rfl, r2, r3, qa_set_ok hs gm hq, qa_set_hp _ _ hp, hI⟩ hf hd
            have h1 := h.1
            rw [Bool.and_eq_true] at h1
            unfold qa_in at bx
            by_cases c1 : p[m].toInt < lo
            · have h1 := h1.1
              rw [decide_eq_true (show (qa_lk K.2.1 m).1 < lo by omega), cond_true] at h1
              refine go _ ?_ h1
              show (qa_lk K.2.1 m).1 ≤ p[m].toInt ∧ p[m].toInt ≤ min (qa_lk K.2.1 m).2 (lo - 1)
              omega
            · by_cases c2 : hi < p[m].toInt
              · have h1 := h1.2
                rw [decide_eq_true (show hi < (qa_lk K.2.1 m).2 by omega), cond_true] at h1
                refine go _ ?_ h1
                show max (qa_lk K.2.1 m).1 (hi + 1) ≤ p[m].toInt ∧ p[m].toInt ≤ (qa_lk K.2.1 m).2
                omega
              · have h2 := List.all_eq_true.mp h.2 (p[m].toInt - lo).toNat (List.mem_range.mpr (by omega))
                have e : lo + (((p[m].toInt - lo).toNat : Nat) : Int) = p[m].toInt := by omega
                rw [e, decide_eq_true bx.1, decide_eq_true bx.2] at h2
                exact go _ ⟨Int.le_refl _, Int.le_refl _⟩ h2
