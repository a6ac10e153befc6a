/-! what the small machine runs, the real one does -/
theorem qm_main (l : Launch) (D : va_G) (aC : Nat → ClassId) (b B L : Nat) (xs : Nat → Int32) (F : Nat → Nat × qm_Cd) (hF : ∀ (j : Nat) (hd : qm_Hd), qm_hd[j]? = some hd → qm_okn hd (F j)) (hF0 : ∀ j, qm_hd[j]? = none → (F j).2 = []) (hKd : ∀ (d : Nat) (x : Int64) (h : qm_H), Met l hd_382.2.1 (qm_ws hd_382) (qm_rm d 0 0) (qm_Pc D aC b B L xs [.long x] h) (qm_Qc D aC b B (some (.int (qk_kind x))) h) 0 0 (qm_A B)) :
    ∀ (n d : Nat) (p : Program) (e : Env) (R : Room) (s : State) (m : MethodId) (args : Array Value) (below : List Frame) (meth : Method) (c : Code) (cc : ByteArray) (nL o : Nat) (ini : Bool) (rt n0 t0 : Nat) (Q : State → Prop) (cd : qm_Cd) (cf : qm_C) (r : Option Value) (h' : qm_H),
      qm_Cx p s m args meth c cc nL o ini D aC b B L xs → qm_ow B s → qm_okc o nL ini rt cc cd → qm_run F (some (L, xs)) n d cd cf = some (r, h') → (d + 6 ≤ R.frames ∧ 64 * (d + 6) ≤ R.locals) → (n0 ≤ cf.2.2.2.1.length ∧ t0 ≤ qm_tot cf.2.2.2.1) → (h'.1.length - n0 ≤ R.cells ∧ qm_tot h'.1 - t0 ≤ R.slots) →
      (∀ (pc : Nat) (H : Heap) (locs : List Loc) (la : Array Slot), qm_dec cc rt pc r → qm_HI D aC b B h' H → va_S (qm_A B) s.heap H locs → W p l e R s m args below meth c H locs (h'.1.length - n0) (qm_tot h'.1 - t0) Q (F0 m pc la (r.toList.map (qm_cv b B)))) →
      qm_Wm p l e R s m args below meth c D aC b B n0 t0 nL Q cf := by
  intro n
  induction n with
  | zero =>
    intro d p e R s m args below meth c cc nL o ini rt n0 t0 Q cd cf r h' C0 how hcd hrun
    cases hrun
  | succ n ih =>
    intro d p e R s m args below meth c cc nL o ini rt n0 t0 Q cd cf r h' C0 how hcd hrun hR h0 hroom hret
    have hmono := qm_run_mono (n + 1) d cd cf r h' hrun
    unfold qm_run at hrun
    unfold qm_step at hrun
    cases hf : qm_fetch cd cf.1 with
    | none => simp [hf] at hrun
    | some it =>
      simp only [hf] at hrun
      obtain ⟨⟨q0, hq0, hit⟩, hpc⟩ := qm_fetch_ok hf
      have hok := List.all_eq_true.mp (hcd q0 hq0) it hit
      obtain ⟨pc, np, ins, a, f, v⟩ := it
      obtain ⟨pc', ls, st, h⟩ := cf
      have hpc : pc = pc' := hpc
      subst hpc
      cases hx : qm_x (some (L, xs)) (pc, np, ins, a, f, v) (pc, ls, st, h) with
      | none => simp [hx] at hrun
      | some q =>
        have hfact := qm_x_fact (some (L, xs)) pc np a f ins v (pc, ls, st, h) (r := q) hx
        simp only [hx] at hrun
        have hmono : ∃ t, h'.1 = h.1 ++ t := hmono
        have hl0 : h.1.length ≤ h'.1.length ∧ qm_tot h.1 ≤ qm_tot h'.1 := by
          obtain ⟨t, ht⟩ := hmono
          rw [ht, qm_tot_push]
          simp
        have h0 : n0 ≤ h.1.length ∧ t0 ≤ qm_tot h.1 := h0
        match q, hfact, hrun, hx with
        | .inl c', hfact, hrun, hx =>
          obtain ⟨-, t, ht⟩ := hfact
          have ht : c'.2.2.2.1 = h.1 ++ t := ht
          have hl1 : h.1.length ≤ c'.2.2.2.1.length ∧ qm_tot h.1 ≤ qm_tot c'.2.2.2.1 := by
            rw [ht, qm_tot_push]
            simp
          have hl2 : c'.2.2.2.1.length ≤ h'.1.length ∧ qm_tot c'.2.2.2.1 ≤ qm_tot h'.1 := by
            obtain ⟨t2, ht2⟩ := qm_run_mono n d cd c' r h' hrun
            rw [ht2, qm_tot_push]
            simp
          exact qm_nx_ok C0 hok hx h0 (by omega) (by omega) (by omega) (ih d p e R s m args below meth c cc nL o ini rt n0 t0 Q cd c' r h' C0 how hcd hrun hR (by omega) hroom hret)
        | .inr (.inl (bb, c1, c2)), hfact, hrun, hx =>
          obtain ⟨-, e1, e2⟩ := hfact
          refine qm_br_ok C0 hok hx (ih d p e R s m args below meth c cc nL o ini rt n0 t0 Q cd _ r h' C0 how hcd hrun hR ?_ hroom hret)
          cases bb
          · show n0 ≤ c2.2.2.2.1.length ∧ t0 ≤ qm_tot c2.2.2.2.1
            rw [show c2.2.2.2 = h from e2]
            exact h0
          · show n0 ≤ c1.2.2.2.1.length ∧ t0 ≤ qm_tot c1.2.2.2.1
            rw [show c1.2.2.2 = h from e1]
            exact h0
        | .inr (.inr (.inl (v2, h2))), hfact, hrun, hx =>
          cases hrun
          obtain ⟨g1, g2, g3⟩ := qm_rt_ok hok hx
          subst g3
          subst g2
          intro H locs la hH hS hL
          exact hret pc H locs la g1 hH hS
        | .inr (.inr (.inr (j, as, c1))), hfact, hrun, hx =>
          obtain ⟨-, e1⟩ := hfact
          have e1 : c1.2.2.2 = h := e1
          match d, hrun, hR with
          | 0, hrun, hR => cases hrun
          | d + 1, hrun, hR =>
            dsimp only at hrun
            cases hl : Nat.ble (qm_la as).length (F j).1 with
            | false => simp only [hl, cond_false] at hrun; cases hrun
            | true =>
              simp only [hl, cond_true] at hrun
              have hl := Nat.le_of_ble_eq_true hl
              cases hr : qm_run F (some (L, xs)) n d (F j).2 (qm_ent (F j).1 as c1.2.2.2) with
              | none => simp only [hr] at hrun; cases hrun
              | some q2 =>
                obtain ⟨r2, h2⟩ := q2
                simp only [hr] at hrun
                rw [e1] at hr
                have hg1 := qm_run_mono n d _ _ r2 h2 hr
                have hg1 : ∃ t, h2.1 = h.1 ++ t := hg1
                have hg2 := qm_run_mono n (d + 1) cd _ r h' hrun
                have hg2 : ∃ t, h'.1 = h2.1 ++ t := hg2
                have hl1 : h.1.length ≤ h2.1.length ∧ qm_tot h.1 ≤ qm_tot h2.1 := by
                  obtain ⟨t, ht⟩ := hg1
                  rw [ht, qm_tot_push]
                  simp
                have hl2 : h2.1.length ≤ h'.1.length ∧ qm_tot h2.1 ≤ qm_tot h'.1 := by
                  obtain ⟨t, ht⟩ := hg2
                  rw [ht, qm_tot_push]
                  simp
                cases hhd : qm_hd[j]? with
                | none =>
                  rw [hF0 j hhd] at hr
                  cases n <;> cases hr
                | some hd =>
                  rcases hF j hd hhd with ⟨e8, e9⟩ | ⟨k1, k2⟩
                  · subst e8
                    rw [e9] at hr
                    obtain ⟨x, e10, e11⟩ := qk_call (by have := qm_call_as hok hx hhd; exact this) hr
                    subst e10
                    cases e11
                    have hM : Met l hd_382.2.1 (qm_ws hd_382) (qm_rm d (h.1.length - h.1.length) (qm_tot h.1 - qm_tot h.1)) (qm_Pc D aC b B L xs [.long x] h) (qm_Qc D aC b B (some (.int (qk_kind x))) h) (h.1.length - h.1.length) (qm_tot h.1 - qm_tot h.1) (qm_A B) := by
                      rw [Nat.sub_self, Nat.sub_self]
                      exact hKd d x h
                    exact qm_call_ok C0 how hok hx hhd hM hg1 h0 (by omega) (by omega) (ih (d + 1) p e R s m args below meth c cc nL o ini rt n0 t0 Q cd _ r h' C0 how hcd hrun hR (by show n0 ≤ h.1.length ∧ t0 ≤ qm_tot h.1; omega) hroom hret)
                  obtain ⟨w1, w2, w3, w4, w5, w6, w7, w8, w9, w10⟩ := qm_hds hhd
                  rw [k1] at hr hl
                  have hM : Met l hd.2.1 (qm_ws hd) (qm_rm d (h2.1.length - h.1.length) (qm_tot h2.1 - qm_tot h.1)) (qm_Pc D aC b B L xs as h) (qm_Qc D aC b B r2 h2) (h2.1.length - h.1.length) (qm_tot h2.1 - qm_tot h.1) (qm_A B) := by
                    refine qm_ofW (cc := hd.2.2.1) (maxL := hd.2.2.2.1) (ret := hd.2.2.2.2.1) w9 rfl ?_
                    intro p2 e2 s2 m2 args2 below2 meth2 c2 s₁ Bd hml hv
                    obtain ⟨rfl, hH, hK, hX, ⟨hbB, hBs⟩, how2⟩ := hv
                    have hts0 := atoms_spec (ws := qm_ws hd) Bd.pre
                    have C2 : qm_Cx p2 s2 m2 ((as.map (qm_cv b B)).toArray) meth2 c2 hd.2.2.1 hd.2.2.2.1 hd.1 (decide (hd.2.1.name = "<init>")) D aC b B L xs := by
                      refine ⟨Bd.exec, Bd.bytes, hml, ?_, ?_, hK, hX, hbB, hBs, ?_⟩
                      · rw [← w6]
                        exact findClass_of_methodNamed Bd.named
                      · intro w hw hu
                        cases hg : goodWord w with
                        | true => exact hts0 w (List.mem_cons_of_mem _ (List.mem_filter.mpr ⟨hw, hg⟩))
                        | false => exact how2.use hw hu hg
                      · intro z
                        rw [(name_of_methodNamed Bd.named Bd.method).1]
                        exact of_decide_eq_true z
                    have hWm := ih d p2 e2 (headSpec (qm_ws hd) (qm_rm d (h2.1.length - h.1.length) (qm_tot h2.1 - qm_tot h.1))).room s2 m2 ((as.map (qm_cv b B)).toArray) below2 meth2 c2 hd.2.2.1 hd.2.2.2.1 hd.1 (decide (hd.2.1.name = "<init>")) (qm_rto hd.2.2.2.2.1) h.1.length (qm_tot h.1) (MQ below2 (qm_Qc D aC b B r2 h2) ((as.map (qm_cv b B)).toArray) s2 (h2.1.length - h.1.length) (qm_tot h2.1 - qm_tot h.1) (qm_A B)) (F j).2 (qm_ent hd.2.2.2.1 as h) r2 h2 C2 how2 k2 hr ⟨Nat.le_refl _, Nat.le_refl _⟩ ⟨Nat.le_refl _, Nat.le_refl _⟩ ⟨Nat.le_refl _, Nat.le_refl _⟩ ?_
                    · have hent := qm_LR_ent (b := b) (B := B) (nL := hd.2.2.2.1) (as := as) hl h
                      have := hWm s2.heap [] _ hH va_S.rf hent
                      rw [show (qm_ent hd.2.2.2.1 as h).2.2.2.1.length - h.1.length = 0 from Nat.sub_self _, show qm_tot (qm_ent hd.2.2.2.1 as h).2.2.2.1 - qm_tot h.1 = 0 from Nat.sub_self _] at this
                      rw [lg_entry_eq]
                      exact this
                    · intro pc2 H locs la hdec hH2 hS2
                      have hlocks := Bd.notSynchronized
                      have hret2 := Bd.returns
                      have hres : ∀ t : State, t.heap = H → s2.WarmedH t.vm → qm_Qc D aC b B r2 h2 ((as.map (qm_cv b B)).toArray) s2 (.returned (r2.map (qm_cv b B))) t := fun t ht _ => ⟨rfl, by rw [ht]; exact hH2, hS2.F ht⟩
                      match r2, hdec, hres with
                      | none, hdec, hres =>
                        have hn : hd.2.2.2.2.1 = none := by
                          have := hdec.2
                          generalize hd.2.2.2.2.1 = rr at this
                          cases rr with
                          | none => rfl
                          | some ty => cases ty <;> simp [qm_rto] at this
                        exact W.vret Bd.exec Bd.bytes (by rw [hret2, hn]) hres hS2.2.2 hdec.1
                      | some (.int x), hdec, hres =>
                        rcases hdec.2 with hrt | ⟨hrt, hx01⟩
                        · have hn : hd.2.2.2.2.1 = some .int := by
                            generalize hd.2.2.2.2.1 = rr at hrt
                            cases rr with
                            | none => simp [qm_rto] at hrt
                            | some ty => cases ty <;> simp [qm_rto] at hrt <;> rfl
                          exact W.iret Bd.exec Bd.bytes (by rw [hret2, hn]) hres hS2.2.2 hdec.1
                        · have hn : hd.2.2.2.2.1 = some .boolean := by
                            generalize hd.2.2.2.2.1 = rr at hrt
                            cases rr with
                            | none => simp [qm_rto] at hrt
                            | some ty => cases ty <;> simp [qm_rto] at hrt <;> rfl
                          exact W.zret (ty := .boolean) Bd.exec Bd.bytes (by rw [hret2, hn]) (by rcases hx01 with rfl | rfl <;> rfl) hres hS2.2.2 hdec.1
                      | some (.long x), hdec, hres =>
                        have hn : hd.2.2.2.2.1 = some .long := by
                          have hrt := hdec.2
                          generalize hd.2.2.2.2.1 = rr at hrt
                          cases rr with
                          | none => simp [qm_rto] at hrt
                          | some ty => cases ty <;> simp [qm_rto] at hrt <;> rfl
                        exact W.lret Bd.exec Bd.bytes (by rw [hret2, hn]) hres hS2.2.2 hdec.1
                      | some .null, hdec, _ => exact hdec.elim
                      | some (.ref _), hdec, _ => exact hdec.elim
                      | some (.float _), hdec, _ => exact hdec.elim
                      | some (.double _), hdec, _ => exact hdec.elim
                      | some (.retAddr _), hdec, _ => exact hdec.elim
                  exact qm_call_ok C0 how hok hx hhd hM hg1 h0 (by omega) (by omega) (ih (d + 1) p e R s m args below meth c cc nL o ini rt n0 t0 Q cd _ r h' C0 how hcd hrun hR (by show n0 ≤ h2.1.length ∧ t0 ≤ qm_tot h2.1; omega) hroom hret)
