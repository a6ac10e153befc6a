/-! the instructions that look at cells, at the script, or call -/
/-- number 0 is the place in the script; five more ints are there -/
noncomputable def qa_scr (P : qa_P) (X : Option (Nat × (Nat → Int32))) (p : List Int32) : Prop := ∃ L xs i, X = some (L, xs) ∧ p[0]? = some i ∧ 0 ≤ i.toInt ∧ i.toInt + 5 < (L : Int) ∧ ∀ c, c < 6 → qa_in (P.2.2.2.2.2.getD c qa_full) (xs (i.toInt.toNat + c))
theorem qa_ri_ok {q : qa_B} {n : Nat} {i : Int32} (h : qa_ri q n = true) (hi : qa_in q i) : qm_in i n = true ∧ 0 ≤ i.toInt := by
  rw [qa_ri_d] at h
  rw [Bool.and_eq_true, decide_eq_true_eq, decide_eq_true_eq] at h
  unfold qa_in at hi
  have h0 : 0 ≤ i.toInt := by omega
  refine ⟨decide_eq_true fun w => ?_, h0⟩
  rcases w with w | w
  · have := Int32.lt_iff_toInt_lt.mp w
    have e : (0 : Int32).toInt = 0 := rfl
    omega
  · have e : i.toNatClampNeg = i.toInt.toNat := rfl
    omega
theorem qa_in_of {i : Int32} {n : Nat} (h0 : 0 ≤ i.toInt) (h1 : i.toInt < (n : Int)) : qm_in i n = true :=
  (qa_ri_ok (q := (i.toInt, i.toInt)) (by rw [qa_ri_d]; rw [Bool.and_eq_true, decide_eq_true_eq, decide_eq_true_eq]; exact ⟨h0, h1⟩) ⟨Int.le_refl _, Int.le_refl _⟩).1
section QAH
variable {P : qa_P} {S : qm_H → Prop} {X : Option (Nat × (Nat → Int32))} {p : List Int32} {K : qa_K} {h : qm_H} {pc np a f : Nat} {v : Value} {ls st ls' st' : List Value} {R : qa_S} {it : qm_It} {c' : qm_C}
theorem qa_rdi_il {r : List Value} {o n : Nat} {i : Value} (hx : qa_rdi P np ls r K o n i = some R) : qa_il i = true := by
  unfold qa_rdi at hx
  cases hb : qa_ri (qa_bd K i) n with
  | false => rw [hb, cond_false] at hx; cases hx
  | true =>
    rw [hb, cond_true] at hx
    split at hx
    · rfl
    · rfl
    · cases hx
theorem qa_rdi0 {r r' : List Value} {o n : Nat} {i : Value} {i' : Int32} (hx : qa_rdi P np ls r K o n i = some R) (gi : qa_g p i (.int i')) (e : qm_in i' n = true → qm_x X it c' = some (.inl (np, ls', .int (h.2.1 o i'.toNatClampNeg) :: r', h))) (hl : qa_G p ls ls') (hr : qa_G p r r') (hs : qa_sat p K) (hp : qa_hp p K h) (hI : qa_Inv P S h) : qa_ok P S X p it c' R := by
  unfold qa_rdi at hx
  cases hb : qa_ri (qa_bd K i) n with
  | false => rw [hb, cond_false] at hx; cases hx
  | true =>
    rw [hb, cond_true] at hx
    split at hx
    · rename_i c
      have gi : Value.int i' = .int c := gi
      cases gi
      have w := qa_ri_ok hb (i := i') ⟨Int.le_refl _, Int.le_refl _⟩
      exact qa_pu0 hx (qa_rd_ok hI hs hp o _) (e w.1) hl hr hI
    · rename_i k
      obtain ⟨x, g1, g2⟩ := gi
      cases g2
      have w := qa_ri_ok hb (qa_lk_ok g1 hs.2.1)
      exact qa_pu0 hx (qa_rx_ok hI hs hp g1 w.2) (e w.1) hl hr hI
    · cases hx
theorem qa_wri_il {r : List Value} {o n : Nat} {i x : Value} (hx : qa_wri P np ls r K o n i x = some R) : qa_il i = true ∧ qa_il x = true := by
  unfold qa_wri at hx
  rw [qa_has_eq] at hx
  cases hb : (qa_ri (qa_bd K i) n && !P.2.2.2.1.contains o) && qa_il x with
  | false => rw [hb, cond_false] at hx; cases hx
  | true =>
    rw [hb, cond_true] at hx
    rw [Bool.and_eq_true] at hb
    refine ⟨?_, hb.2⟩
    split at hx
    · rfl
    · rfl
    · cases hx
theorem qa_fp_row {o k n i : Nat} (hn : qa_sh P o = some (k, n)) (hk : k < 5) (hc : P.2.2.2.1.contains o = false) : ¬ qa_fp P o i := by
  intro c
  rcases c with c | c | ⟨_, q, c, c5⟩
  · rw [hc] at c
    cases c
  · exact nomatch hn.symm.trans c
  · have e := hn.symm.trans c
    cases e
    omega
theorem qa_wri_no {r : List Value} {o n : Nat} {i x : Value} (hx : qa_wri P np ls r K o n i x = some R) : P.2.2.2.1.contains o = false := by
  unfold qa_wri at hx
  rw [qa_has_eq] at hx
  cases hb : (qa_ri (qa_bd K i) n && !P.2.2.2.1.contains o) && qa_il x with
  | false => rw [hb, cond_false] at hx; cases hx
  | true =>
    rw [Bool.and_eq_true, Bool.and_eq_true, Bool.not_eq_true'] at hb
    exact hb.1.2
theorem qa_wri0 (hL : qa_locK P S) {o : Nat} (hn : ∀ i, ¬ qa_fp P o i) {r r' : List Value} {n : Nat} {i x : Value} {i' x' : Int32} (hx : qa_wri P np ls r K o n i x = some R) (gi : qa_g p i (.int i')) (gx : qa_g p x (.int x')) (e : qm_in i' n = true → qm_x X it c' = some (.inl (np, ls', r', qa_hw h o i'.toInt.toNat x'))) (hl : qa_G p ls ls') (hr : qa_G p r r') (hs : qa_sat p K) (hp : qa_hp p K h) (hI : qa_Inv P S h) : qa_ok P S X p it c' R := by
  unfold qa_wri at hx
  rw [qa_has_eq] at hx
  cases hb : (qa_ri (qa_bd K i) n && !P.2.2.2.1.contains o) && qa_il x with
  | false => rw [hb, cond_false] at hx; cases hx
  | true =>
    rw [hb, cond_true] at hx
    rw [Bool.and_eq_true, Bool.and_eq_true, Bool.not_eq_true'] at hb
    obtain ⟨⟨b1, b2⟩, b3⟩ := hb
    obtain ⟨y, e1, bx⟩ := qa_bd_ok hs gx b3
    cases e1
    split at hx
    · rename_i c
      have gi : Value.int i' = .int c := gi
      cases gi
      have w := qa_ri_ok b1 (i := i') ⟨Int.le_refl _, Int.le_refl _⟩
      cases hq : qa_le (qa_bd K x) (qa_bnd P o i'.toInt.toNat) with
      | false => rw [hq, cond_false] at hx; cases hx
      | true =>
        rw [hq, cond_true] at hx
        exact qa_nx0 hx (e w.1) ⟨rfl, hl, hr, qa_sat_wr hs rfl rfl rfl rfl, qa_wr_hp hp gx, qa_Inv_hw hL hI (qa_le_ok hq bx) b2 (hn _)⟩
    · rename_i k
      obtain ⟨z, g1, g2⟩ := gi
      cases g2
      have w := qa_ri_ok b1 (qa_lk_ok g1 hs.2.1)
      cases hq : qa_les P o (qa_bd K x) with
      | false => rw [hq, cond_false] at hx; cases hx
      | true =>
        rw [hq, cond_true] at hx
        exact qa_nx0 hx (e w.1) ⟨rfl, hl, hr, qa_sat_wr hs rfl rfl rfl rfl, qa_wx_hp hp gx g1 w.2, qa_Inv_hw hL hI (qa_les_ok hq bx _) b2 (hn _)⟩
    · cases hx
theorem qa_so1_ok : ∀ {l : List (Nat × Nat × Int)} {n c : Nat}, qa_so1 l n = some c → ∃ d ∈ l, d.1 = n ∧ d.2.1 = 0 ∧ d.2.2 = (c : Int) ∧ c ≤ 5
  | [], _, _, h => by cases h
  | d :: r, n, c, h => by
    unfold qa_so1 at h
    cases hb : Nat.beq d.1 n && (Nat.beq d.2.1 0 && (decide (0 ≤ d.2.2) && decide (d.2.2 ≤ 5))) with
    | true =>
      rw [hb, cond_true] at h
      rw [Bool.and_eq_true, Bool.and_eq_true, Bool.and_eq_true, decide_eq_true_eq, decide_eq_true_eq] at hb
      obtain ⟨b1, b2, b3, b4⟩ := hb
      cases h
      exact ⟨d, List.mem_cons_self, Nat.eq_of_beq_eq_true b1, Nat.eq_of_beq_eq_true b2, by omega, by omega⟩
    | false =>
      rw [hb, cond_false] at h
      obtain ⟨e, h1, h2⟩ := qa_so1_ok h
      exact ⟨e, List.mem_cons_of_mem _ h1, h2⟩
theorem qa_y_iaload (hX : qa_scr P X p) (hl : qa_G p ls ls') (ht : qa_G p st st') (hs : qa_sat p K) (hp : qa_hp p K h) (hI : qa_Inv P S h) (hx : qa_x P (pc, np, .iaload, a, f, v) (pc, ls, st, K) = some R) : qa_ok P S X p (pc, np, .iaload, a, f, v) (pc, ls', st', h) R := by
  simp only [qa_x, qi_iaload] at hx
  split at hx
  · rename_i i o r
    obtain ⟨i', s1, e1, gi, o', r', e2, go, hr⟩ := ht
    have go : o' = .ref o := go
    subst go
    subst e2
    subst e1
    split at hx
    · rename_i n hn
      obtain ⟨ii, ei⟩ := qa_il_ok gi (qa_rdi_il hx)
      subst ei
      have hh := qa_sh_ok hI hn
      refine qa_rdi0 hx gi (fun hin => ?_) hl hr hs hp hI
      simp only [qm_x, hh, hin, cond_true, qm_nx]
    · cases hx
  · rename_i i r
    obtain ⟨i', s1, e1, gi, o', r', e2, go, hr⟩ := ht
    have go : o' = .retAddr 0 := go
    subst go
    subst e2
    subst e1
    split at hx
    · rename_i c hq
      obtain ⟨L, xs, i0, rfl, p0, z1, z2, z3⟩ := hX
      have hi : ∃ ii : Int32, i' = .int ii ∧ ii.toInt = i0.toInt + (c : Int) ∧ c ≤ 5 := by
        unfold qa_so at hq
        split at hq
        · rename_i n
          obtain ⟨x, g1, g2⟩ := gi
          refine ⟨x, g2, ?_⟩
          cases hb : Nat.beq n 0 with
          | true =>
            rw [hb, cond_true] at hq
            cases hq
            have := Nat.eq_of_beq_eq_true hb
            subst this
            rw [p0] at g1
            cases g1
            exact ⟨by omega, by omega⟩
          | false =>
            rw [hb, cond_false] at hq
            obtain ⟨d, d1, d2, d3, d4, d5⟩ := qa_so1_ok hq
            obtain ⟨y, z, f1, f2, f3⟩ := hs.2.2.2 d d1
            rw [d2, g1] at f1
            rw [d3, p0] at f2
            cases f1
            cases f2
            exact ⟨by omega, d5⟩
        · cases hq
      obtain ⟨ii, rfl, y1, y2⟩ := hi
      have hin := qa_in_of (i := ii) (n := L) (by omega) (by omega)
      have e : ii.toNatClampNeg = i0.toInt.toNat + c := by
        show ii.toInt.toNat = _
        omega
      have hb := z3 c (by omega)
      rw [← e] at hb
      refine qa_pu0 hx (qa_mk_ok hs hp hb) (ls' := ls') (r' := r') (h' := h) ?_ hl hr hI
      simp only [qm_x, hin, cond_true, qm_nx]
    · cases hx
  · cases hx
theorem qa_y_baload (hl : qa_G p ls ls') (ht : qa_G p st st') (hs : qa_sat p K) (hp : qa_hp p K h) (hI : qa_Inv P S h) (hx : qa_x P (pc, np, .baload, a, f, v) (pc, ls, st, K) = some R) : qa_ok P S X p (pc, np, .baload, a, f, v) (pc, ls', st', h) R := by
  simp only [qa_x, qi_baload] at hx
  split at hx
  · rename_i i o r
    obtain ⟨i', s1, e1, gi, o', r', e2, go, hr⟩ := ht
    have go : o' = .ref o := go
    subst go
    subst e2
    subst e1
    split at hx
    · rename_i n hn
      obtain ⟨ii, ei⟩ := qa_il_ok gi (qa_rdi_il hx)
      subst ei
      have hh := qa_sh_ok hI hn
      refine qa_rdi0 hx gi (fun hin => ?_) hl hr hs hp hI
      simp only [qm_x, hh, hin, cond_true, qm_nx]
    · rename_i n hn
      obtain ⟨ii, ei⟩ := qa_il_ok gi (qa_rdi_il hx)
      subst ei
      have hh := qa_sh_ok hI hn
      refine qa_rdi0 hx gi (fun hin => ?_) hl hr hs hp hI
      simp only [qm_x, hh, hin, cond_true, qm_nx]
    · cases hx
  · cases hx
theorem qa_y_laload (hl : qa_G p ls ls') (ht : qa_G p st st') (hs : qa_sat p K) (hp : qa_hp p K h) (hI : qa_Inv P S h) (hx : qa_x P (pc, np, .laload, a, f, v) (pc, ls, st, K) = some R) : qa_ok P S X p (pc, np, .laload, a, f, v) (pc, ls', st', h) R := by
  simp only [qa_x, qi_laload] at hx
  split at hx
  · rename_i i o r
    obtain ⟨i', s1, e1, gi, o', r', e2, go, hr⟩ := ht
    have go : o' = .ref o := go
    subst go
    subst e2
    subst e1
    split at hx
    · rename_i n hn
      cases hb : qa_il i && qa_ri (qa_bd K i) n with
      | false => rw [hb, cond_false] at hx; cases hx
      | true =>
        rw [hb, cond_true] at hx
        rw [Bool.and_eq_true] at hb
        obtain ⟨ii, ei, bi⟩ := qa_bd_ok hs gi hb.1
        subst ei
        have hh := qa_sh_ok hI hn
        have hin := (qa_ri_ok hb.2 bi).1
        refine qa_nx0 hx (c1' := (np, ls', .long (h.2.2.1 o ii.toNatClampNeg) :: r', h)) ?_ ⟨rfl, hl, ⟨_, _, rfl, ⟨_, rfl⟩, hr⟩, hs, hp, hI⟩
        simp only [qm_x, hh, hin, cond_true, qm_nx]
    · cases hx
  · cases hx
theorem qa_rv_g {q : Option Nat} : qa_g p (qm_rv q) (qm_rv q) := by cases q <;> rfl
theorem qa_y_aaload (hl : qa_G p ls ls') (ht : qa_G p st st') (hs : qa_sat p K) (hp : qa_hp p K h) (hI : qa_Inv P S h) (hx : qa_x P (pc, np, .aaload, a, f, v) (pc, ls, st, K) = some R) : qa_ok P S X p (pc, np, .aaload, a, f, v) (pc, ls', st', h) R := by
  simp only [qa_x, qi_aaload] at hx
  split at hx
  · rename_i y o r
    obtain ⟨i', s1, e1, gi, o', r', e2, go, hr⟩ := ht
    have go : o' = .ref o := go
    have gi := qa_rs_g hs gi
    subst go
    subst e2
    subst e1
    split at hx
    · rename_i i ei
      rw [ei] at gi
      have gi : i' = .int i := gi
      subst gi
      split at hx
      · rename_i n hn
        cases hb : qm_in i n with
        | false => rw [hb, cond_false] at hx; cases hx
        | true =>
          rw [hb, cond_true] at hx
          split at hx
          · rename_i w hw
            have hh := qa_sh_ok hI hn
            have hr2 := qa_lr_ok hI hw
            refine qa_nx0 hx (c1' := (np, ls', qm_rv w :: r', h)) ?_ ⟨rfl, hl, ⟨_, _, rfl, qa_rv_g, hr⟩, hs, hp, hI⟩
            simp only [qm_x, hh, hb, hr2, cond_true, qm_nx]
          · cases hx
      · cases hx
    · have hx := (Option.some.inj hx).symm
      rw [hx]
      trivial
    · cases hx
  · cases hx
theorem qa_y_iastore (hL : qa_locK P S) (hl : qa_G p ls ls') (ht : qa_G p st st') (hs : qa_sat p K) (hp : qa_hp p K h) (hI : qa_Inv P S h) (hx : qa_x P (pc, np, .iastore, a, f, v) (pc, ls, st, K) = some R) : qa_ok P S X p (pc, np, .iastore, a, f, v) (pc, ls', st', h) R := by
  simp only [qa_x, qi_iastore] at hx
  split at hx
  · rename_i x i o r
    obtain ⟨x', s0, e0, gx, i', s1, e1, gi, o', r', e2, go, hr⟩ := ht
    have go : o' = .ref o := go
    subst go
    subst e2
    subst e1
    subst e0
    split at hx
    · rename_i n hn
      obtain ⟨ii, ei⟩ := qa_il_ok gi (qa_wri_il hx).1
      obtain ⟨xx, ex⟩ := qa_il_ok gx (qa_wri_il hx).2
      subst ei
      subst ex
      have hh := qa_sh_ok hI hn
      refine qa_wri0 hL (fun _ => qa_fp_row hn (by omega) (qa_wri_no hx)) hx gi gx (fun hin => ?_) hl hr hs hp hI
      simp only [qm_x, hh, hin, cond_true, qm_nx]
      rfl
    · cases hx
  · cases hx
end QAH
