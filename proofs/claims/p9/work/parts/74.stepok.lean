/-! each instruction over what is known is right -/
noncomputable def qa_rel (P : qa_P) (S : qm_H → Prop) (p : List Int32) (c : qa_C) (c' : qm_C) : Prop := c'.1 = c.1 ∧ qa_G p c.2.1 c'.2.1 ∧ qa_G p c.2.2.1 c'.2.2.1 ∧ qa_sat p c.2.2.2 ∧ qa_hp p c.2.2.2 c'.2.2.2 ∧ qa_Inv P S c'.2.2.2
noncomputable def qa_ok (P : qa_P) (S : qm_H → Prop) (X : Option (Nat × (Nat → Int32))) (p : List Int32) (it : qm_It) (c' : qm_C) (R : qa_S) : Prop := match R with
  | .inl c1 => ∃ t c1', qm_x X it c' = some (.inl c1') ∧ qa_rel P S (p ++ t) c1 c1'
  | .inr (.inl q) => ∃ x' y' c1' c2', qm_x X it c' = some (.inr (.inl (qm_cc q.1 x' y', c1', c2'))) ∧ qa_g p q.2.1 (.int x') ∧ qa_g p q.2.2.1 (.int y') ∧ qa_il q.2.1 = true ∧ qa_il q.2.2.1 = true ∧ qa_rel P S p q.2.2.2.1 c1' ∧ qa_rel P S p q.2.2.2.2 c2'
  | .inr (.inr (.inl q)) => ∃ w' h', qm_x X it c' = some (.inr (.inr (.inl (w', h')))) ∧ qa_G p q.1.toList w'.toList ∧ qa_sat p q.2 ∧ qa_hp p q.2 h' ∧ qa_Inv P S h'
  | .inr (.inr (.inr (.inl q))) => ∃ as' c1', qm_x X it c' = some (.inr (.inr (.inr (q.1, as', c1')))) ∧ qa_G p q.2.1 as' ∧ qa_rel P S p q.2.2 c1'
  | .inr (.inr (.inr (.inr _))) => True
theorem qa_n0_ok {q : qa_B} {y : Int32} (h : qa_n0 q = true) (hy : qa_in q y) : (y = 0) = False := by
  rw [qa_n0_d] at h
  rw [Bool.or_eq_true, decide_eq_true_eq, decide_eq_true_eq] at h
  unfold qa_in at hy
  refine eq_false fun e => ?_
  subst e
  have : (0 : Int32).toInt = 0 := rfl
  omega
theorem qa_cmp_ok (x y : Int64) : qa_in (-1, 1) (lg_cmp x y) := by
  unfold lg_cmp
  split
  · exact ⟨by decide, by decide⟩
  · split
    · exact ⟨by decide, by decide⟩
    · exact ⟨by decide, by decide⟩
section QAY
variable {P : qa_P} {S : qm_H → Prop} {X : Option (Nat × (Nat → Int32))} {p : List Int32} {K : qa_K} {h : qm_H} {pc np a f : Nat} {v : Value} {ls st ls' st' : List Value} {R : qa_S} {it : qm_It} {c' : qm_C}
theorem qa_lg_ok {b w : Value} (hg : qa_g p b w) (hb : qa_lg b = true) : ∃ x, w = .long x := by
  cases b with
  | long x => exact ⟨x, hg⟩
  | double _ => exact hg
  | _ => cases hb
theorem qa_il_ok {b w : Value} (hg : qa_g p b w) (hb : qa_il b = true) : ∃ x, w = .int x := by
  cases b with
  | int x => exact ⟨x, hg⟩
  | retAddr n =>
    cases n with
    | zero => cases hb
    | succ n =>
      obtain ⟨x, _, e⟩ := hg
      exact ⟨x, e⟩
  | _ => cases hb
theorem qa_nx0 {c1 : qa_C} {c1' : qm_C} (hx : qa_nx c1 = some R) (e : qm_x X it c' = some (.inl c1')) (hr : qa_rel P S p c1 c1') : qa_ok P S X p it c' R := by
  have hx : R = .inl c1 := (Option.some.inj hx).symm
  rw [hx]
  exact ⟨[], c1', e, by rw [List.append_nil]; exact hr⟩
theorem qa_pu0 {r r' : List Value} {m : Value × qa_K} {x : Int32} {h' : qm_H} (hx : qa_pu np ls r m = some R) (hm : ∃ t, qa_sat (p ++ t) m.2 ∧ qa_hp (p ++ t) m.2 h' ∧ qa_g (p ++ t) m.1 (.int x)) (e : qm_x X it c' = some (.inl (np, ls', .int x :: r', h'))) (hl : qa_G p ls ls') (hr : qa_G p r r') (hI : qa_Inv P S h') : qa_ok P S X p it c' R := by
  have hx : R = .inl (np, ls, m.1 :: r, m.2) := (Option.some.inj hx).symm
  rw [hx]
  obtain ⟨t, h1, h2, h3⟩ := hm
  exact ⟨t, _, e, rfl, qa_G_ext t hl, ⟨_, _, rfl, h3, qa_G_ext t hr⟩, h1, h2, hI⟩
/-- the number made is x and c more -/
theorem qa_ln_ok {x : Value} {x' : Int32} {c : Int32} (hs : qa_sat p K) (hp : qa_hp p K h) (gx : qa_g p x (.int x')) (ix : qa_il x = true) : ∃ t, qa_sat (p ++ t) (qa_ln K x c.toInt (qa_mk K (qa_add (qa_bd K x) (c.toInt, c.toInt)))).2 ∧ qa_hp (p ++ t) (qa_ln K x c.toInt (qa_mk K (qa_add (qa_bd K x) (c.toInt, c.toInt)))).2 h ∧ qa_g (p ++ t) (qa_ln K x c.toInt (qa_mk K (qa_add (qa_bd K x) (c.toInt, c.toInt)))).1 (.int (x' + c)) := by
  obtain ⟨y, e, bx⟩ := qa_bd_ok hs gx ix
  cases e
  obtain ⟨t, h1, h2, h3⟩ := qa_mk_ok hs hp (qa_add_ok (b := (c.toInt, c.toInt)) (y := c) bx ⟨Int.le_refl _, Int.le_refl _⟩)
  refine ⟨t, ?_⟩
  unfold qa_ln
  split
  · rename_i n k hn
    rw [zle_eq, zle_eq]
    cases hc : Nat.beq n K.1 && (decide (-2147483648 ≤ (qa_bd K (.retAddr (k + 1))).1 + c.toInt) && decide ((qa_bd K (.retAddr (k + 1))).2 + c.toInt ≤ 2147483647)) with
    | false => exact ⟨h1, h2, h3⟩
    | true =>
      simp only [Bool.and_eq_true, decide_eq_true_eq] at hc
      obtain ⟨h4, h5, h6⟩ := hc
      rw [cond_true]
      refine ⟨⟨h1.1, h1.2.1, h1.2.2.1, fun q hq => ?_⟩, h2, h3⟩
      rcases List.mem_cons.mp hq with rfl | hq
      · rw [hn] at h3
        obtain ⟨z, g1, g2⟩ := h3
        cases g2
        obtain ⟨u, g3, g4⟩ := gx
        cases g4
        refine ⟨_, _, g1, qa_ext g3, ?_⟩
        have b1 : (qa_bd K (.retAddr (k + 1))).1 ≤ x'.toInt := bx.1
        have b2 : x'.toInt ≤ (qa_bd K (.retAddr (k + 1))).2 := bx.2
        rw [Int32.toInt_add]
        show (x'.toInt + c.toInt).bmod (2 ^ 32) = x'.toInt + c.toInt
        rw [Int.bmod_def]
        omega
      · exact h1.2.2.2 q hq
  · exact ⟨h1, h2, h3⟩

theorem qa_y_iconst {i : Int} (hl : qa_G p ls ls') (ht : qa_G p st st') (hs : qa_sat p K) (hp : qa_hp p K h) (hI : qa_Inv P S h) (hx : qa_x P (pc, np, .iconst i, a, f, v) (pc, ls, st, K) = some R) : qa_ok P S X p (pc, np, .iconst i, a, f, v) (pc, ls', st', h) R := by
  simp only [qa_x] at hx
  cases v with
  | int x => exact qa_nx0 hx rfl ⟨rfl, hl, ⟨_, _, rfl, rfl, ht⟩, hs, hp, hI⟩
  | long x => exact qa_nx0 hx rfl ⟨rfl, hl, ⟨_, _, rfl, rfl, ht⟩, hs, hp, hI⟩
  | _ => cases hx
theorem qa_y_bipush {i : Int} (hl : qa_G p ls ls') (ht : qa_G p st st') (hs : qa_sat p K) (hp : qa_hp p K h) (hI : qa_Inv P S h) (hx : qa_x P (pc, np, .bipush i, a, f, v) (pc, ls, st, K) = some R) : qa_ok P S X p (pc, np, .bipush i, a, f, v) (pc, ls', st', h) R := by
  simp only [qa_x] at hx
  cases v with
  | int x => exact qa_nx0 hx rfl ⟨rfl, hl, ⟨_, _, rfl, rfl, ht⟩, hs, hp, hI⟩
  | long x => exact qa_nx0 hx rfl ⟨rfl, hl, ⟨_, _, rfl, rfl, ht⟩, hs, hp, hI⟩
  | _ => cases hx
theorem qa_y_sipush {i : Int} (hl : qa_G p ls ls') (ht : qa_G p st st') (hs : qa_sat p K) (hp : qa_hp p K h) (hI : qa_Inv P S h) (hx : qa_x P (pc, np, .sipush i, a, f, v) (pc, ls, st, K) = some R) : qa_ok P S X p (pc, np, .sipush i, a, f, v) (pc, ls', st', h) R := by
  simp only [qa_x] at hx
  cases v with
  | int x => exact qa_nx0 hx rfl ⟨rfl, hl, ⟨_, _, rfl, rfl, ht⟩, hs, hp, hI⟩
  | long x => exact qa_nx0 hx rfl ⟨rfl, hl, ⟨_, _, rfl, rfl, ht⟩, hs, hp, hI⟩
  | _ => cases hx
theorem qa_y_ldc {i : Nat} (hl : qa_G p ls ls') (ht : qa_G p st st') (hs : qa_sat p K) (hp : qa_hp p K h) (hI : qa_Inv P S h) (hx : qa_x P (pc, np, .ldc i, a, f, v) (pc, ls, st, K) = some R) : qa_ok P S X p (pc, np, .ldc i, a, f, v) (pc, ls', st', h) R := by
  simp only [qa_x] at hx
  cases v with
  | int x => exact qa_nx0 hx rfl ⟨rfl, hl, ⟨_, _, rfl, rfl, ht⟩, hs, hp, hI⟩
  | long x => exact qa_nx0 hx rfl ⟨rfl, hl, ⟨_, _, rfl, rfl, ht⟩, hs, hp, hI⟩
  | _ => cases hx
theorem qa_y_ldc_w {i : Nat} (hl : qa_G p ls ls') (ht : qa_G p st st') (hs : qa_sat p K) (hp : qa_hp p K h) (hI : qa_Inv P S h) (hx : qa_x P (pc, np, .ldc_w i, a, f, v) (pc, ls, st, K) = some R) : qa_ok P S X p (pc, np, .ldc_w i, a, f, v) (pc, ls', st', h) R := by
  simp only [qa_x] at hx
  cases v with
  | int x => exact qa_nx0 hx rfl ⟨rfl, hl, ⟨_, _, rfl, rfl, ht⟩, hs, hp, hI⟩
  | long x => exact qa_nx0 hx rfl ⟨rfl, hl, ⟨_, _, rfl, rfl, ht⟩, hs, hp, hI⟩
  | _ => cases hx
theorem qa_y_lconst {i : Fin 2} (hl : qa_G p ls ls') (ht : qa_G p st st') (hs : qa_sat p K) (hp : qa_hp p K h) (hI : qa_Inv P S h) (hx : qa_x P (pc, np, .lconst i, a, f, v) (pc, ls, st, K) = some R) : qa_ok P S X p (pc, np, .lconst i, a, f, v) (pc, ls', st', h) R := by
  simp only [qa_x] at hx
  cases v with
  | int x => exact qa_nx0 hx rfl ⟨rfl, hl, ⟨_, _, rfl, rfl, ht⟩, hs, hp, hI⟩
  | long x => exact qa_nx0 hx rfl ⟨rfl, hl, ⟨_, _, rfl, rfl, ht⟩, hs, hp, hI⟩
  | _ => cases hx
theorem qa_y_ldc2_w {i : Nat} (hl : qa_G p ls ls') (ht : qa_G p st st') (hs : qa_sat p K) (hp : qa_hp p K h) (hI : qa_Inv P S h) (hx : qa_x P (pc, np, .ldc2_w i, a, f, v) (pc, ls, st, K) = some R) : qa_ok P S X p (pc, np, .ldc2_w i, a, f, v) (pc, ls', st', h) R := by
  simp only [qa_x] at hx
  cases v with
  | int x => exact qa_nx0 hx rfl ⟨rfl, hl, ⟨_, _, rfl, rfl, ht⟩, hs, hp, hI⟩
  | long x => exact qa_nx0 hx rfl ⟨rfl, hl, ⟨_, _, rfl, rfl, ht⟩, hs, hp, hI⟩
  | _ => cases hx
theorem qa_y_iload {i : Nat} (hl : qa_G p ls ls') (ht : qa_G p st st') (hs : qa_sat p K) (hp : qa_hp p K h) (hI : qa_Inv P S h) (hx : qa_x P (pc, np, .iload i, a, f, v) (pc, ls, st, K) = some R) : qa_ok P S X p (pc, np, .iload i, a, f, v) (pc, ls', st', h) R := by
  simp only [qa_x, qi_iload] at hx
  split at hx
  · rename_i b hb
    cases hi : qa_il b with
    | false => rw [hi, cond_false] at hx; cases hx
    | true =>
      rw [hi, cond_true] at hx
      obtain ⟨b', e1, e2⟩ := qa_G_get hl hb
      obtain ⟨x, e3⟩ := qa_il_ok e2 hi
      subst e3
      refine qa_nx0 hx (c1' := (np, ls', .int x :: st', h)) ?_ ⟨rfl, hl, ⟨_, _, rfl, e2, ht⟩, hs, hp, hI⟩
      simp only [qm_x, e1, qm_nx]
  · cases hx
theorem qa_y_iload_n {i : Fin 4} (hl : qa_G p ls ls') (ht : qa_G p st st') (hs : qa_sat p K) (hp : qa_hp p K h) (hI : qa_Inv P S h) (hx : qa_x P (pc, np, .iload_n i, a, f, v) (pc, ls, st, K) = some R) : qa_ok P S X p (pc, np, .iload_n i, a, f, v) (pc, ls', st', h) R := by
  simp only [qa_x, qi_iload_n] at hx
  split at hx
  · rename_i b hb
    cases hi : qa_il b with
    | false => rw [hi, cond_false] at hx; cases hx
    | true =>
      rw [hi, cond_true] at hx
      obtain ⟨b', e1, e2⟩ := qa_G_get hl hb
      obtain ⟨x, e3⟩ := qa_il_ok e2 hi
      subst e3
      refine qa_nx0 hx (c1' := (np, ls', .int x :: st', h)) ?_ ⟨rfl, hl, ⟨_, _, rfl, e2, ht⟩, hs, hp, hI⟩
      simp only [qm_x, e1, qm_nx]
  · cases hx
theorem qa_y_lload {i : Nat} (hl : qa_G p ls ls') (ht : qa_G p st st') (hs : qa_sat p K) (hp : qa_hp p K h) (hI : qa_Inv P S h) (hx : qa_x P (pc, np, .lload i, a, f, v) (pc, ls, st, K) = some R) : qa_ok P S X p (pc, np, .lload i, a, f, v) (pc, ls', st', h) R := by
  simp only [qa_x, qi_lload] at hx
  split at hx
  · rename_i b hb
    cases hi : qa_lg b with
    | false => rw [hi, cond_false] at hx; cases hx
    | true =>
      rw [hi, cond_true] at hx
      obtain ⟨b', e1, e2⟩ := qa_G_get hl hb
      obtain ⟨x, e3⟩ := qa_lg_ok e2 hi
      subst e3
      refine qa_nx0 hx (c1' := (np, ls', .long x :: st', h)) ?_ ⟨rfl, hl, ⟨_, _, rfl, e2, ht⟩, hs, hp, hI⟩
      simp only [qm_x, e1, qm_nx]
  · cases hx
theorem qa_y_lload_n {i : Fin 4} (hl : qa_G p ls ls') (ht : qa_G p st st') (hs : qa_sat p K) (hp : qa_hp p K h) (hI : qa_Inv P S h) (hx : qa_x P (pc, np, .lload_n i, a, f, v) (pc, ls, st, K) = some R) : qa_ok P S X p (pc, np, .lload_n i, a, f, v) (pc, ls', st', h) R := by
  simp only [qa_x, qi_lload_n] at hx
  split at hx
  · rename_i b hb
    cases hi : qa_lg b with
    | false => rw [hi, cond_false] at hx; cases hx
    | true =>
      rw [hi, cond_true] at hx
      obtain ⟨b', e1, e2⟩ := qa_G_get hl hb
      obtain ⟨x, e3⟩ := qa_lg_ok e2 hi
      subst e3
      refine qa_nx0 hx (c1' := (np, ls', .long x :: st', h)) ?_ ⟨rfl, hl, ⟨_, _, rfl, e2, ht⟩, hs, hp, hI⟩
      simp only [qm_x, e1, qm_nx]
  · cases hx
theorem qa_y_aload {i : Nat} (hl : qa_G p ls ls') (ht : qa_G p st st') (hs : qa_sat p K) (hp : qa_hp p K h) (hI : qa_Inv P S h) (hx : qa_x P (pc, np, .aload i, a, f, v) (pc, ls, st, K) = some R) : qa_ok P S X p (pc, np, .aload i, a, f, v) (pc, ls', st', h) R := by
  simp only [qa_x, qi_aload] at hx
  split at hx
  · rename_i o hb
    obtain ⟨b', e1, e2⟩ := qa_G_get hl hb
    have e2 : b' = .ref o := e2
    subst e2
    refine qa_nx0 hx (c1' := (np, ls', .ref o :: st', h)) ?_ ⟨rfl, hl, ⟨_, _, rfl, rfl, ht⟩, hs, hp, hI⟩
    simp only [qm_x, e1, qm_nx]
  · rename_i hb
    obtain ⟨b', e1, e2⟩ := qa_G_get hl hb
    have e2 : b' = .retAddr 0 := e2
    subst e2
    refine qa_nx0 hx (c1' := (np, ls', .retAddr 0 :: st', h)) ?_ ⟨rfl, hl, ⟨_, _, rfl, rfl, ht⟩, hs, hp, hI⟩
    simp only [qm_x, e1, qm_nx]
  · cases hx
theorem qa_y_aload_n {i : Fin 4} (hl : qa_G p ls ls') (ht : qa_G p st st') (hs : qa_sat p K) (hp : qa_hp p K h) (hI : qa_Inv P S h) (hx : qa_x P (pc, np, .aload_n i, a, f, v) (pc, ls, st, K) = some R) : qa_ok P S X p (pc, np, .aload_n i, a, f, v) (pc, ls', st', h) R := by
  simp only [qa_x, qi_aload_n] at hx
  split at hx
  · rename_i o hb
    obtain ⟨b', e1, e2⟩ := qa_G_get hl hb
    have e2 : b' = .ref o := e2
    subst e2
    refine qa_nx0 hx (c1' := (np, ls', .ref o :: st', h)) ?_ ⟨rfl, hl, ⟨_, _, rfl, rfl, ht⟩, hs, hp, hI⟩
    simp only [qm_x, e1, qm_nx]
  · rename_i hb
    obtain ⟨b', e1, e2⟩ := qa_G_get hl hb
    have e2 : b' = .retAddr 0 := e2
    subst e2
    refine qa_nx0 hx (c1' := (np, ls', .retAddr 0 :: st', h)) ?_ ⟨rfl, hl, ⟨_, _, rfl, rfl, ht⟩, hs, hp, hI⟩
    simp only [qm_x, e1, qm_nx]
  · cases hx
theorem qa_y_istore {i : Nat} (hl : qa_G p ls ls') (ht : qa_G p st st') (hs : qa_sat p K) (hp : qa_hp p K h) (hI : qa_Inv P S h) (hx : qa_x P (pc, np, .istore i, a, f, v) (pc, ls, st, K) = some R) : qa_ok P S X p (pc, np, .istore i, a, f, v) (pc, ls', st', h) R := by
  simp only [qa_x, qi_istore] at hx
  split at hx
  · rename_i b r
    cases hi : qa_il b with
    | false => rw [hi, cond_false] at hx; cases hx
    | true =>
      rw [hi, cond_true] at hx
      obtain ⟨b', r', e1, e2, e4⟩ := ht
      obtain ⟨x, e3⟩ := qa_il_ok e2 hi
      subst e3
      subst e1
      exact qa_nx0 hx (c1' := (np, qm_s1 ls' a (.int x), r', h)) rfl ⟨rfl, qa_G_s1 hl e2 a, e4, hs, hp, hI⟩
  · cases hx
theorem qa_y_istore_n {i : Fin 4} (hl : qa_G p ls ls') (ht : qa_G p st st') (hs : qa_sat p K) (hp : qa_hp p K h) (hI : qa_Inv P S h) (hx : qa_x P (pc, np, .istore_n i, a, f, v) (pc, ls, st, K) = some R) : qa_ok P S X p (pc, np, .istore_n i, a, f, v) (pc, ls', st', h) R := by
  simp only [qa_x, qi_istore_n] at hx
  split at hx
  · rename_i b r
    cases hi : qa_il b with
    | false => rw [hi, cond_false] at hx; cases hx
    | true =>
      rw [hi, cond_true] at hx
      obtain ⟨b', r', e1, e2, e4⟩ := ht
      obtain ⟨x, e3⟩ := qa_il_ok e2 hi
      subst e3
      subst e1
      exact qa_nx0 hx (c1' := (np, qm_s1 ls' a (.int x), r', h)) rfl ⟨rfl, qa_G_s1 hl e2 a, e4, hs, hp, hI⟩
  · cases hx
theorem qa_y_lstore {i : Nat} (hl : qa_G p ls ls') (ht : qa_G p st st') (hs : qa_sat p K) (hp : qa_hp p K h) (hI : qa_Inv P S h) (hx : qa_x P (pc, np, .lstore i, a, f, v) (pc, ls, st, K) = some R) : qa_ok P S X p (pc, np, .lstore i, a, f, v) (pc, ls', st', h) R := by
  simp only [qa_x, qi_lstore] at hx
  split at hx
  · rename_i b r
    cases hi : qa_lg b with
    | false => rw [hi, cond_false] at hx; cases hx
    | true =>
      rw [hi, cond_true] at hx
      obtain ⟨b', r', e1, e2, e4⟩ := ht
      obtain ⟨x, e3⟩ := qa_lg_ok e2 hi
      subst e3
      subst e1
      exact qa_nx0 hx (c1' := (np, qm_s2 ls' a (.long x), r', h)) rfl ⟨rfl, qa_G_s2 hl e2 a, e4, hs, hp, hI⟩
  · cases hx
theorem qa_y_lstore_n {i : Fin 4} (hl : qa_G p ls ls') (ht : qa_G p st st') (hs : qa_sat p K) (hp : qa_hp p K h) (hI : qa_Inv P S h) (hx : qa_x P (pc, np, .lstore_n i, a, f, v) (pc, ls, st, K) = some R) : qa_ok P S X p (pc, np, .lstore_n i, a, f, v) (pc, ls', st', h) R := by
  simp only [qa_x, qi_lstore_n] at hx
  split at hx
  · rename_i b r
    cases hi : qa_lg b with
    | false => rw [hi, cond_false] at hx; cases hx
    | true =>
      rw [hi, cond_true] at hx
      obtain ⟨b', r', e1, e2, e4⟩ := ht
      obtain ⟨x, e3⟩ := qa_lg_ok e2 hi
      subst e3
      subst e1
      exact qa_nx0 hx (c1' := (np, qm_s2 ls' a (.long x), r', h)) rfl ⟨rfl, qa_G_s2 hl e2 a, e4, hs, hp, hI⟩
  · cases hx
theorem qa_y_astore {i : Nat} (hl : qa_G p ls ls') (ht : qa_G p st st') (hs : qa_sat p K) (hp : qa_hp p K h) (hI : qa_Inv P S h) (hx : qa_x P (pc, np, .astore i, a, f, v) (pc, ls, st, K) = some R) : qa_ok P S X p (pc, np, .astore i, a, f, v) (pc, ls', st', h) R := by
  simp only [qa_x, qi_astore] at hx
  split at hx
  · rename_i o r
    obtain ⟨b', r', e1, e2, e4⟩ := ht
    have e2 : b' = .ref o := e2
    subst e2
    subst e1
    exact qa_nx0 hx (c1' := (np, qm_s1 ls' a (.ref o), r', h)) rfl ⟨rfl, qa_G_s1 hl (show qa_g p (.ref o) (.ref o) from rfl) a, e4, hs, hp, hI⟩
  · cases hx
theorem qa_y_astore_n {i : Fin 4} (hl : qa_G p ls ls') (ht : qa_G p st st') (hs : qa_sat p K) (hp : qa_hp p K h) (hI : qa_Inv P S h) (hx : qa_x P (pc, np, .astore_n i, a, f, v) (pc, ls, st, K) = some R) : qa_ok P S X p (pc, np, .astore_n i, a, f, v) (pc, ls', st', h) R := by
  simp only [qa_x, qi_astore_n] at hx
  split at hx
  · rename_i o r
    obtain ⟨b', r', e1, e2, e4⟩ := ht
    have e2 : b' = .ref o := e2
    subst e2
    subst e1
    exact qa_nx0 hx (c1' := (np, qm_s1 ls' a (.ref o), r', h)) rfl ⟨rfl, qa_G_s1 hl (show qa_g p (.ref o) (.ref o) from rfl) a, e4, hs, hp, hI⟩
  · cases hx
theorem qa_y_iinc {i : Nat} {n : Int} (hl : qa_G p ls ls') (ht : qa_G p st st') (hs : qa_sat p K) (hp : qa_hp p K h) (hI : qa_Inv P S h) (hx : qa_x P (pc, np, .iinc i n, a, f, v) (pc, ls, st, K) = some R) : qa_ok P S X p (pc, np, .iinc i n, a, f, v) (pc, ls', st', h) R := by
  simp only [qa_x, qi_iinc] at hx
  split at hx
  · rename_i x k hb
    cases hi : qa_il x with
    | false => rw [hi, cond_false] at hx; cases hx
    | true =>
      rw [hi, cond_true] at hx
      obtain ⟨b', e1, e2⟩ := qa_G_get hl hb
      obtain ⟨x', e3⟩ := qa_il_ok e2 hi
      subst e3
      obtain ⟨t, h1, h2, h3⟩ := qa_ln_ok (c := k) hs hp e2 hi
      have hx := (Option.some.inj hx).symm
      rw [hx]
      refine ⟨t, (np, qm_s1 ls' a (.int (x' + k)), st', h), ?_, rfl, qa_G_s1 (qa_G_ext t hl) h3 a, qa_G_ext t ht, h1, h2, hI⟩
      simp only [qm_x, e1, qm_nx]
  · cases hx
theorem qa_y_imul (hl : qa_G p ls ls') (ht : qa_G p st st') (hs : qa_sat p K) (hp : qa_hp p K h) (hI : qa_Inv P S h) (hx : qa_x P (pc, np, .imul, a, f, v) (pc, ls, st, K) = some R) : qa_ok P S X p (pc, np, .imul, a, f, v) (pc, ls', st', h) R := by
  have hx : qa_bin np ls st K qa_mul = some R := hx
  cases st with
  | nil => cases hx
  | cons y s0 =>
    cases s0 with
    | nil => cases hx
    | cons x r =>
      obtain ⟨y', s1, e1, gy, x', r', e2, gx, hr⟩ := ht
      subst e2
      subst e1
      unfold qa_bin at hx
      cases hi : qa_il x && qa_il y with
      | false => simp only [hi, cond_false] at hx; cases hx
      | true =>
        simp only [hi, cond_true] at hx
        rw [Bool.and_eq_true] at hi
        obtain ⟨xx, ex, bx⟩ := qa_bd_ok hs gx hi.1
        obtain ⟨yy, ey, by_⟩ := qa_bd_ok hs gy hi.2
        subst ex
        subst ey
        exact qa_pu0 hx (qa_mk_ok hs hp (qa_mul_ok bx by_)) rfl hl hr hI
theorem qa_y_iand (hl : qa_G p ls ls') (ht : qa_G p st st') (hs : qa_sat p K) (hp : qa_hp p K h) (hI : qa_Inv P S h) (hx : qa_x P (pc, np, .iand, a, f, v) (pc, ls, st, K) = some R) : qa_ok P S X p (pc, np, .iand, a, f, v) (pc, ls', st', h) R := by
  have hx : qa_bin np ls st K qa_and = some R := hx
  cases st with
  | nil => cases hx
  | cons y s0 =>
    cases s0 with
    | nil => cases hx
    | cons x r =>
      obtain ⟨y', s1, e1, gy, x', r', e2, gx, hr⟩ := ht
      subst e2
      subst e1
      unfold qa_bin at hx
      cases hi : qa_il x && qa_il y with
      | false => simp only [hi, cond_false] at hx; cases hx
      | true =>
        simp only [hi, cond_true] at hx
        rw [Bool.and_eq_true] at hi
        obtain ⟨xx, ex, bx⟩ := qa_bd_ok hs gx hi.1
        obtain ⟨yy, ey, by_⟩ := qa_bd_ok hs gy hi.2
        subst ex
        subst ey
        exact qa_pu0 hx (qa_mk_ok hs hp (qa_and_ok bx by_)) rfl hl hr hI
theorem qa_y_ior (hl : qa_G p ls ls') (ht : qa_G p st st') (hs : qa_sat p K) (hp : qa_hp p K h) (hI : qa_Inv P S h) (hx : qa_x P (pc, np, .ior, a, f, v) (pc, ls, st, K) = some R) : qa_ok P S X p (pc, np, .ior, a, f, v) (pc, ls', st', h) R := by
  have hx : qa_bin np ls st K (fun _ _ => qa_full) = some R := hx
  cases st with
  | nil => cases hx
  | cons y s0 =>
    cases s0 with
    | nil => cases hx
    | cons x r =>
      obtain ⟨y', s1, e1, gy, x', r', e2, gx, hr⟩ := ht
      subst e2
      subst e1
      unfold qa_bin at hx
      cases hi : qa_il x && qa_il y with
      | false => simp only [hi, cond_false] at hx; cases hx
      | true =>
        simp only [hi, cond_true] at hx
        rw [Bool.and_eq_true] at hi
        obtain ⟨xx, ex, bx⟩ := qa_bd_ok hs gx hi.1
        obtain ⟨yy, ey, by_⟩ := qa_bd_ok hs gy hi.2
        subst ex
        subst ey
        exact qa_pu0 hx (qa_mk_ok hs hp (qa_in_full _)) rfl hl hr hI
theorem qa_not (x : Int32) : (x ^^^ -1).toInt = -1 - x.toInt := by
  have e : x ^^^ -1 = -1 - x := by
    apply Int32.toBitVec_inj.mp
    show x.toBitVec ^^^ BitVec.allOnes 32 = BitVec.allOnes 32 - x.toBitVec
    rw [BitVec.xor_allOnes, BitVec.allOnes_sub_eq_not]
  rw [e, Int32.toInt_sub]
  show ((-1 : Int) - x.toInt).bmod (2 ^ 32) = _
  have h1 := Int32.le_toInt x
  have h2 := Int32.toInt_lt x
  rw [Int.bmod_def]
  omega
theorem qa_y_ixor0 (hl : qa_G p ls ls') (ht : qa_G p st st') (hs : qa_sat p K) (hp : qa_hp p K h) (hI : qa_Inv P S h) (hx : qa_bin np ls st K (fun _ _ => qa_full) = some R) : qa_ok P S X p (pc, np, .ixor, a, f, v) (pc, ls', st', h) R := by
  cases st with
  | nil => cases hx
  | cons y s0 =>
    cases s0 with
    | nil => cases hx
    | cons x r =>
      obtain ⟨y', s1, e1, gy, x', r', e2, gx, hr⟩ := ht
      subst e2
      subst e1
      unfold qa_bin at hx
      cases hi : qa_il x && qa_il y with
      | false => simp only [hi, cond_false] at hx; cases hx
      | true =>
        simp only [hi, cond_true] at hx
        rw [Bool.and_eq_true] at hi
        obtain ⟨xx, ex, bx⟩ := qa_bd_ok hs gx hi.1
        obtain ⟨yy, ey, by_⟩ := qa_bd_ok hs gy hi.2
        subst ex
        subst ey
        exact qa_pu0 hx (qa_mk_ok hs hp (qa_in_full _)) rfl hl hr hI
theorem qa_y_ixor (hl : qa_G p ls ls') (ht : qa_G p st st') (hs : qa_sat p K) (hp : qa_hp p K h) (hI : qa_Inv P S h) (hx : qa_x P (pc, np, .ixor, a, f, v) (pc, ls, st, K) = some R) : qa_ok P S X p (pc, np, .ixor, a, f, v) (pc, ls', st', h) R := by
  replace hx : qi_ixor np ls st K = some R := hx
  unfold qi_ixor at hx
  split at hx
  · rename_i y x r
    cases hy : decide (y = -1) with
    | false => rw [hy, cond_false] at hx; exact qa_y_ixor0 hl ht hs hp hI hx
    | true =>
      rw [hy, cond_true] at hx
      rw [decide_eq_true_eq] at hy
      subst hy
      obtain ⟨y', s1, e1, gy, x', r', e2, gx, hr⟩ := ht
      have gy : y' = .int (-1) := gy
      have gx := qa_rs_g hs gx
      subst gy
      subst e2
      subst e1
      split at hx
      · rename_i i ei
        rw [ei] at gx
        have gx : x' = .int i := gx
        subst gx
        exact qa_nx0 hx (c1' := (np, ls', .int (i ^^^ -1) :: r', h)) rfl ⟨rfl, hl, ⟨_, _, rfl, rfl, hr⟩, hs, hp, hI⟩
      · rename_i n en
        rw [en] at gx
        obtain ⟨xx, ex, bx⟩ := qa_bd_ok hs gx rfl
        subst ex
        have bx : qa_in (qa_lk K.2.1 n) xx := bx
        cases hb : decide ((qa_lk K.2.1 n).1 ≤ -1) && decide (-39 ≤ (qa_lk K.2.1 n).2) with
        | true =>
          rw [hb, cond_true] at hx
          have hx := (Option.some.inj hx).symm
          rw [hx]
          trivial
        | false =>
          rw [hb, cond_false] at hx
          refine qa_pu0 (x := xx ^^^ -1) hx (qa_mk_ok hs hp ?_) rfl hl hr hI
          have e := qa_not xx
          unfold qa_in at bx ⊢
          rw [e]
          show -1 - (qa_lk K.2.1 n).2 ≤ -1 - xx.toInt ∧ -1 - xx.toInt ≤ -1 - (qa_lk K.2.1 n).1
          omega
      · cases hx
  · exact qa_y_ixor0 hl ht hs hp hI hx
theorem qa_y_ishl (hl : qa_G p ls ls') (ht : qa_G p st st') (hs : qa_sat p K) (hp : qa_hp p K h) (hI : qa_Inv P S h) (hx : qa_x P (pc, np, .ishl, a, f, v) (pc, ls, st, K) = some R) : qa_ok P S X p (pc, np, .ishl, a, f, v) (pc, ls', st', h) R := by
  have hx : qa_bin np ls st K (fun _ _ => qa_full) = some R := hx
  cases st with
  | nil => cases hx
  | cons y s0 =>
    cases s0 with
    | nil => cases hx
    | cons x r =>
      obtain ⟨y', s1, e1, gy, x', r', e2, gx, hr⟩ := ht
      subst e2
      subst e1
      unfold qa_bin at hx
      cases hi : qa_il x && qa_il y with
      | false => simp only [hi, cond_false] at hx; cases hx
      | true =>
        simp only [hi, cond_true] at hx
        rw [Bool.and_eq_true] at hi
        obtain ⟨xx, ex, bx⟩ := qa_bd_ok hs gx hi.1
        obtain ⟨yy, ey, by_⟩ := qa_bd_ok hs gy hi.2
        subst ex
        subst ey
        exact qa_pu0 hx (qa_mk_ok hs hp (qa_in_full _)) rfl hl hr hI
theorem qa_y_ishr (hl : qa_G p ls ls') (ht : qa_G p st st') (hs : qa_sat p K) (hp : qa_hp p K h) (hI : qa_Inv P S h) (hx : qa_x P (pc, np, .ishr, a, f, v) (pc, ls, st, K) = some R) : qa_ok P S X p (pc, np, .ishr, a, f, v) (pc, ls', st', h) R := by
  have hx : qa_bin np ls st K (fun _ _ => qa_full) = some R := hx
  cases st with
  | nil => cases hx
  | cons y s0 =>
    cases s0 with
    | nil => cases hx
    | cons x r =>
      obtain ⟨y', s1, e1, gy, x', r', e2, gx, hr⟩ := ht
      subst e2
      subst e1
      unfold qa_bin at hx
      cases hi : qa_il x && qa_il y with
      | false => simp only [hi, cond_false] at hx; cases hx
      | true =>
        simp only [hi, cond_true] at hx
        rw [Bool.and_eq_true] at hi
        obtain ⟨xx, ex, bx⟩ := qa_bd_ok hs gx hi.1
        obtain ⟨yy, ey, by_⟩ := qa_bd_ok hs gy hi.2
        subst ex
        subst ey
        exact qa_pu0 hx (qa_mk_ok hs hp (qa_in_full _)) rfl hl hr hI
theorem qa_y_iushr (hl : qa_G p ls ls') (ht : qa_G p st st') (hs : qa_sat p K) (hp : qa_hp p K h) (hI : qa_Inv P S h) (hx : qa_x P (pc, np, .iushr, a, f, v) (pc, ls, st, K) = some R) : qa_ok P S X p (pc, np, .iushr, a, f, v) (pc, ls', st', h) R := by
  have hx : qa_bin np ls st K (fun _ _ => qa_full) = some R := hx
  cases st with
  | nil => cases hx
  | cons y s0 =>
    cases s0 with
    | nil => cases hx
    | cons x r =>
      obtain ⟨y', s1, e1, gy, x', r', e2, gx, hr⟩ := ht
      subst e2
      subst e1
      unfold qa_bin at hx
      cases hi : qa_il x && qa_il y with
      | false => simp only [hi, cond_false] at hx; cases hx
      | true =>
        simp only [hi, cond_true] at hx
        rw [Bool.and_eq_true] at hi
        obtain ⟨xx, ex, bx⟩ := qa_bd_ok hs gx hi.1
        obtain ⟨yy, ey, by_⟩ := qa_bd_ok hs gy hi.2
        subst ex
        subst ey
        exact qa_pu0 hx (qa_mk_ok hs hp (qa_in_full _)) rfl hl hr hI
theorem qa_y_iadd (hl : qa_G p ls ls') (ht : qa_G p st st') (hs : qa_sat p K) (hp : qa_hp p K h) (hI : qa_Inv P S h) (hx : qa_x P (pc, np, .iadd, a, f, v) (pc, ls, st, K) = some R) : qa_ok P S X p (pc, np, .iadd, a, f, v) (pc, ls', st', h) R := by
  simp only [qa_x, qi_iadd] at hx
  split at hx
  · rename_i k x r
    cases hi : qa_il x with
    | false => rw [hi, cond_false] at hx; cases hx
    | true =>
      rw [hi, cond_true] at hx
      obtain ⟨y', s1, e1, gy, x', r', e2, gx, hr⟩ := ht
      have gy : y' = .int k := gy
      obtain ⟨xx, ex⟩ := qa_il_ok gx hi
      subst ex
      subst gy
      subst e2
      subst e1
      exact qa_pu0 hx (qa_ln_ok hs hp gx hi) rfl hl hr hI
  · have hx : qa_bin np ls st K qa_add = some R := hx

    cases st with
    | nil => cases hx
    | cons y s0 =>
      cases s0 with
      | nil => cases hx
      | cons x r =>
        obtain ⟨y', s1, e1, gy, x', r', e2, gx, hr⟩ := ht
        subst e2
        subst e1
        unfold qa_bin at hx
        cases hi : qa_il x && qa_il y with
        | false => simp only [hi, cond_false] at hx; cases hx
        | true =>
          simp only [hi, cond_true] at hx
          rw [Bool.and_eq_true] at hi
          obtain ⟨xx, ex, bx⟩ := qa_bd_ok hs gx hi.1
          obtain ⟨yy, ey, by_⟩ := qa_bd_ok hs gy hi.2
          subst ex
          subst ey
          exact qa_pu0 hx (qa_mk_ok hs hp (qa_add_ok bx by_)) rfl hl hr hI
theorem qa_y_isub (hl : qa_G p ls ls') (ht : qa_G p st st') (hs : qa_sat p K) (hp : qa_hp p K h) (hI : qa_Inv P S h) (hx : qa_x P (pc, np, .isub, a, f, v) (pc, ls, st, K) = some R) : qa_ok P S X p (pc, np, .isub, a, f, v) (pc, ls', st', h) R := by
  simp only [qa_x, qi_isub] at hx
  split at hx
  · rename_i k x r
    cases hi : qa_il x with
    | false => rw [hi, cond_false] at hx; cases hx
    | true =>
      rw [hi, cond_true] at hx
      obtain ⟨y', s1, e1, gy, x', r', e2, gx, hr⟩ := ht
      have gy : y' = .int k := gy
      obtain ⟨xx, ex⟩ := qa_il_ok gx hi
      subst ex
      subst gy
      subst e2
      subst e1
      refine qa_pu0 hx (qa_ln_ok hs hp gx hi) ?_ hl hr hI
      rw [← Int32.sub_eq_add_neg]
      rfl
  · rename_i y x r _
    cases hi : qa_il x && qa_il y with
    | false => rw [hi, cond_false] at hx; cases hx
    | true =>
      rw [hi, cond_true] at hx
      rw [Bool.and_eq_true] at hi
      obtain ⟨y', s1, e1, gy, x', r', e2, gx, hr⟩ := ht
      obtain ⟨xx, ex, bx⟩ := qa_bd_ok hs gx hi.1
      obtain ⟨yy, ey, by_⟩ := qa_bd_ok hs gy hi.2
      subst ex
      subst ey
      subst e2
      subst e1
      exact qa_pu0 hx (qa_mk_ok hs hp (qa_sub_ok bx by_ (qa_lo_ok hs gx gy))) rfl hl hr hI
  · cases hx
theorem qa_y_idiv (hl : qa_G p ls ls') (ht : qa_G p st st') (hs : qa_sat p K) (hp : qa_hp p K h) (hI : qa_Inv P S h) (hx : qa_x P (pc, np, .idiv, a, f, v) (pc, ls, st, K) = some R) : qa_ok P S X p (pc, np, .idiv, a, f, v) (pc, ls', st', h) R := by
  simp only [qa_x, qi_idiv] at hx
  split at hx
  · rename_i y x r
    cases hi : (qa_il x && qa_il y) && qa_n0 (qa_bd K y) with
    | false => rw [hi, cond_false] at hx; cases hx
    | true =>
      rw [hi, cond_true] at hx
      rw [Bool.and_eq_true, Bool.and_eq_true] at hi
      obtain ⟨y', s1, e1, gy, x', r', e2, gx, hr⟩ := ht
      obtain ⟨xx, ex, bx⟩ := qa_bd_ok hs gx hi.1.1
      obtain ⟨yy, ey, by_⟩ := qa_bd_ok hs gy hi.1.2
      subst ex
      subst ey
      subst e2
      subst e1
      have hn := qa_n0_ok hi.2 by_
      refine qa_pu0 hx (qa_mk_ok hs hp (qa_div_ok bx by_)) (r' := r') (ls' := ls') (h' := h) ?_ hl hr hI
      simp only [qm_x, hn, decide_false, cond_false, qm_nx]
  · cases hx
theorem qa_y_irem (hl : qa_G p ls ls') (ht : qa_G p st st') (hs : qa_sat p K) (hp : qa_hp p K h) (hI : qa_Inv P S h) (hx : qa_x P (pc, np, .irem, a, f, v) (pc, ls, st, K) = some R) : qa_ok P S X p (pc, np, .irem, a, f, v) (pc, ls', st', h) R := by
  simp only [qa_x, qi_irem] at hx
  split at hx
  · rename_i y x r
    cases hi : (qa_il x && qa_il y) && qa_n0 (qa_bd K y) with
    | false => rw [hi, cond_false] at hx; cases hx
    | true =>
      rw [hi, cond_true] at hx
      split at hx
      · have hx := (Option.some.inj hx).symm
        rw [hx]
        trivial
      · rw [Bool.and_eq_true, Bool.and_eq_true] at hi
        obtain ⟨y', s1, e1, gy, x', r', e2, gx, hr⟩ := ht
        obtain ⟨xx, ex, bx⟩ := qa_bd_ok hs gx hi.1.1
        obtain ⟨yy, ey, by_⟩ := qa_bd_ok hs gy hi.1.2
        subst ex
        subst ey
        subst e2
        subst e1
        have hn := qa_n0_ok hi.2 by_
        refine qa_pu0 hx (qa_mk_ok hs hp (qa_rem_ok bx by_)) (r' := r') (ls' := ls') (h' := h) ?_ hl hr hI
        simp only [qm_x, hn, decide_false, cond_false, qm_nx]
  · cases hx
theorem qa_y_ineg (hl : qa_G p ls ls') (ht : qa_G p st st') (hs : qa_sat p K) (hp : qa_hp p K h) (hI : qa_Inv P S h) (hx : qa_x P (pc, np, .ineg, a, f, v) (pc, ls, st, K) = some R) : qa_ok P S X p (pc, np, .ineg, a, f, v) (pc, ls', st', h) R := by
  simp only [qa_x, qi_ineg] at hx
  split at hx
  · rename_i x r
    cases hi : qa_il x with
    | false => rw [hi, cond_false] at hx; cases hx
    | true =>
      rw [hi, cond_true] at hx
      obtain ⟨x', r', e2, gx, hr⟩ := ht
      obtain ⟨xx, ex, bx⟩ := qa_bd_ok hs gx hi
      subst ex
      subst e2
      exact qa_pu0 hx (qa_mk_ok hs hp (qa_neg_ok bx)) rfl hl hr hI
  · cases hx
theorem qa_y_i2b (hl : qa_G p ls ls') (ht : qa_G p st st') (hs : qa_sat p K) (hp : qa_hp p K h) (hI : qa_Inv P S h) (hx : qa_x P (pc, np, .i2b, a, f, v) (pc, ls, st, K) = some R) : qa_ok P S X p (pc, np, .i2b, a, f, v) (pc, ls', st', h) R := by
  simp only [qa_x, qi_i2b] at hx
  split at hx
  · rename_i x r
    cases hi : qa_il x with
    | false => rw [hi, cond_false] at hx; cases hx
    | true =>
      rw [hi, cond_true] at hx
      obtain ⟨x', r', e2, gx, hr⟩ := ht
      obtain ⟨xx, ex, bx⟩ := qa_bd_ok hs gx hi
      subst ex
      subst e2
      exact qa_pu0 hx (qa_mk_ok hs hp (qa_byte_ok _)) rfl hl hr hI
  · cases hx
theorem qa_y_ladd (hl : qa_G p ls ls') (ht : qa_G p st st') (hs : qa_sat p K) (hp : qa_hp p K h) (hI : qa_Inv P S h) (hx : qa_x P (pc, np, .ladd, a, f, v) (pc, ls, st, K) = some R) : qa_ok P S X p (pc, np, .ladd, a, f, v) (pc, ls', st', h) R := by
  have hx : qa_lon np ls st K = some R := hx
  cases st with
  | nil => cases hx
  | cons y s0 =>
    cases s0 with
    | nil => cases hx
    | cons x r =>
      unfold qa_lon at hx
      cases hi : qa_lg x && qa_lg y with
      | false => simp only [hi, cond_false] at hx; cases hx
      | true =>
        simp only [hi, cond_true] at hx
        rw [Bool.and_eq_true] at hi
        obtain ⟨y', s1, e1, gy, x', r', e2, gx, hr⟩ := ht
        obtain ⟨xx, ex⟩ := qa_lg_ok gx hi.1
        obtain ⟨yy, ey⟩ := qa_lg_ok gy hi.2
        subst ex
        subst ey
        subst e2
        subst e1
        exact qa_nx0 hx rfl ⟨rfl, hl, ⟨_, _, rfl, ⟨_, rfl⟩, hr⟩, hs, hp, hI⟩
theorem qa_y_lsub (hl : qa_G p ls ls') (ht : qa_G p st st') (hs : qa_sat p K) (hp : qa_hp p K h) (hI : qa_Inv P S h) (hx : qa_x P (pc, np, .lsub, a, f, v) (pc, ls, st, K) = some R) : qa_ok P S X p (pc, np, .lsub, a, f, v) (pc, ls', st', h) R := by
  have hx : qa_lon np ls st K = some R := hx
  cases st with
  | nil => cases hx
  | cons y s0 =>
    cases s0 with
    | nil => cases hx
    | cons x r =>
      unfold qa_lon at hx
      cases hi : qa_lg x && qa_lg y with
      | false => simp only [hi, cond_false] at hx; cases hx
      | true =>
        simp only [hi, cond_true] at hx
        rw [Bool.and_eq_true] at hi
        obtain ⟨y', s1, e1, gy, x', r', e2, gx, hr⟩ := ht
        obtain ⟨xx, ex⟩ := qa_lg_ok gx hi.1
        obtain ⟨yy, ey⟩ := qa_lg_ok gy hi.2
        subst ex
        subst ey
        subst e2
        subst e1
        exact qa_nx0 hx rfl ⟨rfl, hl, ⟨_, _, rfl, ⟨_, rfl⟩, hr⟩, hs, hp, hI⟩
theorem qa_y_lmul (hl : qa_G p ls ls') (ht : qa_G p st st') (hs : qa_sat p K) (hp : qa_hp p K h) (hI : qa_Inv P S h) (hx : qa_x P (pc, np, .lmul, a, f, v) (pc, ls, st, K) = some R) : qa_ok P S X p (pc, np, .lmul, a, f, v) (pc, ls', st', h) R := by
  have hx : qa_lon np ls st K = some R := hx
  cases st with
  | nil => cases hx
  | cons y s0 =>
    cases s0 with
    | nil => cases hx
    | cons x r =>
      unfold qa_lon at hx
      cases hi : qa_lg x && qa_lg y with
      | false => simp only [hi, cond_false] at hx; cases hx
      | true =>
        simp only [hi, cond_true] at hx
        rw [Bool.and_eq_true] at hi
        obtain ⟨y', s1, e1, gy, x', r', e2, gx, hr⟩ := ht
        obtain ⟨xx, ex⟩ := qa_lg_ok gx hi.1
        obtain ⟨yy, ey⟩ := qa_lg_ok gy hi.2
        subst ex
        subst ey
        subst e2
        subst e1
        exact qa_nx0 hx rfl ⟨rfl, hl, ⟨_, _, rfl, ⟨_, rfl⟩, hr⟩, hs, hp, hI⟩
theorem qa_y_land (hl : qa_G p ls ls') (ht : qa_G p st st') (hs : qa_sat p K) (hp : qa_hp p K h) (hI : qa_Inv P S h) (hx : qa_x P (pc, np, .land, a, f, v) (pc, ls, st, K) = some R) : qa_ok P S X p (pc, np, .land, a, f, v) (pc, ls', st', h) R := by
  have hx : qa_lon np ls st K = some R := hx
  cases st with
  | nil => cases hx
  | cons y s0 =>
    cases s0 with
    | nil => cases hx
    | cons x r =>
      unfold qa_lon at hx
      cases hi : qa_lg x && qa_lg y with
      | false => simp only [hi, cond_false] at hx; cases hx
      | true =>
        simp only [hi, cond_true] at hx
        rw [Bool.and_eq_true] at hi
        obtain ⟨y', s1, e1, gy, x', r', e2, gx, hr⟩ := ht
        obtain ⟨xx, ex⟩ := qa_lg_ok gx hi.1
        obtain ⟨yy, ey⟩ := qa_lg_ok gy hi.2
        subst ex
        subst ey
        subst e2
        subst e1
        exact qa_nx0 hx rfl ⟨rfl, hl, ⟨_, _, rfl, ⟨_, rfl⟩, hr⟩, hs, hp, hI⟩
theorem qa_y_lor (hl : qa_G p ls ls') (ht : qa_G p st st') (hs : qa_sat p K) (hp : qa_hp p K h) (hI : qa_Inv P S h) (hx : qa_x P (pc, np, .lor, a, f, v) (pc, ls, st, K) = some R) : qa_ok P S X p (pc, np, .lor, a, f, v) (pc, ls', st', h) R := by
  have hx : qa_lon np ls st K = some R := hx
  cases st with
  | nil => cases hx
  | cons y s0 =>
    cases s0 with
    | nil => cases hx
    | cons x r =>
      unfold qa_lon at hx
      cases hi : qa_lg x && qa_lg y with
      | false => simp only [hi, cond_false] at hx; cases hx
      | true =>
        simp only [hi, cond_true] at hx
        rw [Bool.and_eq_true] at hi
        obtain ⟨y', s1, e1, gy, x', r', e2, gx, hr⟩ := ht
        obtain ⟨xx, ex⟩ := qa_lg_ok gx hi.1
        obtain ⟨yy, ey⟩ := qa_lg_ok gy hi.2
        subst ex
        subst ey
        subst e2
        subst e1
        exact qa_nx0 hx rfl ⟨rfl, hl, ⟨_, _, rfl, ⟨_, rfl⟩, hr⟩, hs, hp, hI⟩
theorem qa_y_ldiv (hl : qa_G p ls ls') (ht : qa_G p st st') (hs : qa_sat p K) (hp : qa_hp p K h) (hI : qa_Inv P S h) (hx : qa_x P (pc, np, .ldiv, a, f, v) (pc, ls, st, K) = some R) : qa_ok P S X p (pc, np, .ldiv, a, f, v) (pc, ls', st', h) R := by
  simp only [qa_x, qi_ldiv] at hx
  split at hx
  · rename_i y x r
    cases hi : qa_lg x && decide (¬ y = 0) with
    | false => rw [hi, cond_false] at hx; cases hx
    | true =>
      rw [hi, cond_true] at hx
      rw [Bool.and_eq_true, decide_eq_true_eq] at hi
      obtain ⟨y', s1, e1, gy, x', r', e2, gx, hr⟩ := ht
      have gy : y' = .long y := gy
      obtain ⟨xx, ex⟩ := qa_lg_ok gx hi.1
      subst ex
      subst gy
      subst e2
      subst e1
      refine qa_nx0 hx (c1' := (np, ls', .long (xx / y) :: r', h)) ?_ ⟨rfl, hl, ⟨_, _, rfl, ⟨_, rfl⟩, hr⟩, hs, hp, hI⟩
      simp only [qm_x, hi.2, decide_false, cond_false, qm_nx]
  · cases hx
theorem qa_y_lrem (hl : qa_G p ls ls') (ht : qa_G p st st') (hs : qa_sat p K) (hp : qa_hp p K h) (hI : qa_Inv P S h) (hx : qa_x P (pc, np, .lrem, a, f, v) (pc, ls, st, K) = some R) : qa_ok P S X p (pc, np, .lrem, a, f, v) (pc, ls', st', h) R := by
  simp only [qa_x, qi_lrem] at hx
  split at hx
  · rename_i y x r
    cases hi : qa_lg x && decide (¬ y = 0) with
    | false => rw [hi, cond_false] at hx; cases hx
    | true =>
      rw [hi, cond_true] at hx
      rw [Bool.and_eq_true, decide_eq_true_eq] at hi
      obtain ⟨y', s1, e1, gy, x', r', e2, gx, hr⟩ := ht
      have gy : y' = .long y := gy
      obtain ⟨xx, ex⟩ := qa_lg_ok gx hi.1
      subst ex
      subst gy
      subst e2
      subst e1
      refine qa_nx0 hx (c1' := (np, ls', .long (xx - xx / y * y) :: r', h)) ?_ ⟨rfl, hl, ⟨_, _, rfl, ⟨_, rfl⟩, hr⟩, hs, hp, hI⟩
      simp only [qm_x, hi.2, decide_false, cond_false, qm_nx]
  · cases hx
theorem qa_y_lshl (hl : qa_G p ls ls') (ht : qa_G p st st') (hs : qa_sat p K) (hp : qa_hp p K h) (hI : qa_Inv P S h) (hx : qa_x P (pc, np, .lshl, a, f, v) (pc, ls, st, K) = some R) : qa_ok P S X p (pc, np, .lshl, a, f, v) (pc, ls', st', h) R := by
  simp only [qa_x, qi_lshl] at hx
  split at hx
  · rename_i y x r
    cases hi : qa_lg x && qa_il y with
    | false => rw [hi, cond_false] at hx; cases hx
    | true =>
      rw [hi, cond_true] at hx
      rw [Bool.and_eq_true] at hi
      obtain ⟨y', s1, e1, gy, x', r', e2, gx, hr⟩ := ht
      obtain ⟨xx, ex⟩ := qa_lg_ok gx hi.1
      obtain ⟨yy, ey⟩ := qa_il_ok gy hi.2
      subst ex
      subst ey
      subst e2
      subst e1
      exact qa_nx0 hx rfl ⟨rfl, hl, ⟨_, _, rfl, ⟨_, rfl⟩, hr⟩, hs, hp, hI⟩
  · cases hx
theorem qa_y_lshr (hl : qa_G p ls ls') (ht : qa_G p st st') (hs : qa_sat p K) (hp : qa_hp p K h) (hI : qa_Inv P S h) (hx : qa_x P (pc, np, .lshr, a, f, v) (pc, ls, st, K) = some R) : qa_ok P S X p (pc, np, .lshr, a, f, v) (pc, ls', st', h) R := by
  simp only [qa_x, qi_lshr] at hx
  split at hx
  · rename_i y x r
    cases hi : qa_lg x && qa_il y with
    | false => rw [hi, cond_false] at hx; cases hx
    | true =>
      rw [hi, cond_true] at hx
      rw [Bool.and_eq_true] at hi
      obtain ⟨y', s1, e1, gy, x', r', e2, gx, hr⟩ := ht
      obtain ⟨xx, ex⟩ := qa_lg_ok gx hi.1
      obtain ⟨yy, ey⟩ := qa_il_ok gy hi.2
      subst ex
      subst ey
      subst e2
      subst e1
      exact qa_nx0 hx rfl ⟨rfl, hl, ⟨_, _, rfl, ⟨_, rfl⟩, hr⟩, hs, hp, hI⟩
  · cases hx
theorem qa_y_lcmp (hl : qa_G p ls ls') (ht : qa_G p st st') (hs : qa_sat p K) (hp : qa_hp p K h) (hI : qa_Inv P S h) (hx : qa_x P (pc, np, .lcmp, a, f, v) (pc, ls, st, K) = some R) : qa_ok P S X p (pc, np, .lcmp, a, f, v) (pc, ls', st', h) R := by
  simp only [qa_x, qi_lcmp] at hx
  split at hx
  · rename_i y x r
    cases hi : qa_lg x && qa_lg y with
    | false => rw [hi, cond_false] at hx; cases hx
    | true =>
      rw [hi, cond_true] at hx
      rw [Bool.and_eq_true] at hi
      obtain ⟨y', s1, e1, gy, x', r', e2, gx, hr⟩ := ht
      obtain ⟨xx, ex⟩ := qa_lg_ok gx hi.1
      obtain ⟨yy, ey⟩ := qa_lg_ok gy hi.2
      subst ex
      subst ey
      subst e2
      subst e1
      exact qa_pu0 hx (qa_mk_ok hs hp (qa_cmp_ok xx yy)) rfl hl hr hI
  · cases hx
theorem qa_y_i2l (hl : qa_G p ls ls') (ht : qa_G p st st') (hs : qa_sat p K) (hp : qa_hp p K h) (hI : qa_Inv P S h) (hx : qa_x P (pc, np, .i2l, a, f, v) (pc, ls, st, K) = some R) : qa_ok P S X p (pc, np, .i2l, a, f, v) (pc, ls', st', h) R := by
  simp only [qa_x, qi_i2l] at hx
  split at hx
  · rename_i x r
    cases hi : qa_il x with
    | false => rw [hi, cond_false] at hx; cases hx
    | true =>
      rw [hi, cond_true] at hx
      obtain ⟨x', r', e2, gx, hr⟩ := ht
      obtain ⟨xx, ex⟩ := qa_il_ok gx hi
      subst ex
      subst e2
      exact qa_nx0 hx rfl ⟨rfl, hl, ⟨_, _, rfl, ⟨_, rfl⟩, hr⟩, hs, hp, hI⟩
  · cases hx
theorem qa_y_l2i (hl : qa_G p ls ls') (ht : qa_G p st st') (hs : qa_sat p K) (hp : qa_hp p K h) (hI : qa_Inv P S h) (hx : qa_x P (pc, np, .l2i, a, f, v) (pc, ls, st, K) = some R) : qa_ok P S X p (pc, np, .l2i, a, f, v) (pc, ls', st', h) R := by
  simp only [qa_x, qi_l2i] at hx
  split at hx
  · rename_i x r
    cases hi : qa_lg x with
    | false => rw [hi, cond_false] at hx; cases hx
    | true =>
      rw [hi, cond_true] at hx
      obtain ⟨x', r', e2, gx, hr⟩ := ht
      obtain ⟨xx, ex⟩ := qa_lg_ok gx hi
      subst ex
      subst e2
      exact qa_pu0 hx (qa_mk_ok hs hp (qa_in_full _)) rfl hl hr hI
  · cases hx
theorem qa_y_dup (hl : qa_G p ls ls') (ht : qa_G p st st') (hs : qa_sat p K) (hp : qa_hp p K h) (hI : qa_Inv P S h) (hx : qa_x P (pc, np, .dup, a, f, v) (pc, ls, st, K) = some R) : qa_ok P S X p (pc, np, .dup, a, f, v) (pc, ls', st', h) R := by
  simp only [qa_x, qi_dup] at hx
  split at hx
  · rename_i b r
    cases hi : Nat.beq b.category 1 with
    | false => rw [hi, cond_false] at hx; cases hx
    | true =>
      rw [hi, cond_true] at hx
      obtain ⟨x', r', e2, gx, hr⟩ := ht
      subst e2
      refine qa_nx0 hx (c1' := (np, ls', x' :: x' :: r', h)) ?_ ⟨rfl, hl, ⟨_, _, rfl, gx, _, _, rfl, gx, hr⟩, hs, hp, hI⟩
      simp only [qm_x, qa_g_cat gx, hi, cond_true, qm_nx]
  · cases hx
theorem qa_y_pop (hl : qa_G p ls ls') (ht : qa_G p st st') (hs : qa_sat p K) (hp : qa_hp p K h) (hI : qa_Inv P S h) (hx : qa_x P (pc, np, .pop, a, f, v) (pc, ls, st, K) = some R) : qa_ok P S X p (pc, np, .pop, a, f, v) (pc, ls', st', h) R := by
  simp only [qa_x, qi_pop] at hx
  split at hx
  · rename_i b r
    cases hi : Nat.beq b.category 1 with
    | false => rw [hi, cond_false] at hx; cases hx
    | true =>
      rw [hi, cond_true] at hx
      obtain ⟨x', r', e2, gx, hr⟩ := ht
      subst e2
      refine qa_nx0 hx (c1' := (np, ls', r', h)) ?_ ⟨rfl, hl, hr, hs, hp, hI⟩
      simp only [qm_x, qa_g_cat gx, hi, cond_true, qm_nx]
  · cases hx
theorem qa_y_dup2 (hl : qa_G p ls ls') (ht : qa_G p st st') (hs : qa_sat p K) (hp : qa_hp p K h) (hI : qa_Inv P S h) (hx : qa_x P (pc, np, .dup2, a, f, v) (pc, ls, st, K) = some R) : qa_ok P S X p (pc, np, .dup2, a, f, v) (pc, ls', st', h) R := by
  simp only [qa_x, qi_dup2] at hx
  split at hx
  · rename_i y b r
    obtain ⟨y', s1, e1, gy, x', r', e2, gx, hr⟩ := ht
    subst e2
    subst e1
    cases hi : qa_il y && Nat.beq b.category 1 with
    | true =>
      rw [hi, cond_true] at hx
      rw [Bool.and_eq_true] at hi
      obtain ⟨yy, ey⟩ := qa_il_ok gy hi.1
      subst ey
      refine qa_nx0 hx (c1' := (np, ls', .int yy :: x' :: .int yy :: x' :: r', h)) ?_ ⟨rfl, hl, ⟨_, _, rfl, gy, _, _, rfl, gx, _, _, rfl, gy, _, _, rfl, gx, hr⟩, hs, hp, hI⟩
      simp only [qm_x, qa_g_cat gx, hi.2, cond_true, qm_nx]
    | false =>
      rw [hi, cond_false] at hx
      cases hj : qa_lg y with
      | false => rw [hj, cond_false] at hx; cases hx
      | true =>
        rw [hj, cond_true] at hx
        obtain ⟨yy, ey⟩ := qa_lg_ok gy hj
        subst ey
        exact qa_nx0 hx (c1' := (np, ls', .long yy :: .long yy :: x' :: r', h)) rfl ⟨rfl, hl, ⟨_, _, rfl, gy, _, _, rfl, gy, _, _, rfl, gx, hr⟩, hs, hp, hI⟩
  · rename_i y
    obtain ⟨y', s1, e1, gy, hr⟩ := ht
    have hr : s1 = [] := hr
    subst hr
    subst e1
    cases hj : qa_lg y with
    | false => rw [hj, cond_false] at hx; cases hx
    | true =>
      rw [hj, cond_true] at hx
      obtain ⟨yy, ey⟩ := qa_lg_ok gy hj
      subst ey
      exact qa_nx0 hx (c1' := (np, ls', [.long yy, .long yy], h)) rfl ⟨rfl, hl, ⟨_, _, rfl, gy, _, _, rfl, gy, rfl⟩, hs, hp, hI⟩
  · cases hx
theorem qa_y_goto {o : Int} (hl : qa_G p ls ls') (ht : qa_G p st st') (hs : qa_sat p K) (hp : qa_hp p K h) (hI : qa_Inv P S h) (hx : qa_x P (pc, np, .goto o, a, f, v) (pc, ls, st, K) = some R) : qa_ok P S X p (pc, np, .goto o, a, f, v) (pc, ls', st', h) R := by
  have hx : qa_nx (a, ls, st, K) = some R := hx
  exact qa_nx0 hx (c1' := (a, ls', st', h)) rfl ⟨rfl, hl, ht, hs, hp, hI⟩
theorem qa_y_ifCond {q : ClassFile.Cond} {o : Int} (hl : qa_G p ls ls') (ht : qa_G p st st') (hs : qa_sat p K) (hp : qa_hp p K h) (hI : qa_Inv P S h) (hx : qa_x P (pc, np, .ifCond q o, a, f, v) (pc, ls, st, K) = some R) : qa_ok P S X p (pc, np, .ifCond q o, a, f, v) (pc, ls', st', h) R := by
  simp only [qa_x, qi_ifCond] at hx
  split at hx
  · rename_i x r
    cases hi : qa_il x with
    | false => rw [hi, cond_false] at hx; cases hx
    | true =>
      rw [hi, cond_true] at hx
      obtain ⟨x', r', e2, gx, hr⟩ := ht
      obtain ⟨xx, ex⟩ := qa_il_ok gx hi
      subst ex
      subst e2
      have hx := (Option.some.inj hx).symm
      rw [hx]
      refine ⟨xx, 0, (a, ls', r', h), (np, ls', r', h), ?_, gx, rfl, hi, rfl, ⟨rfl, hl, hr, hs, hp, hI⟩, ⟨rfl, hl, hr, hs, hp, hI⟩⟩
      simp only [qm_x, qm_br]
      cases q <;> rfl
  · cases hx
theorem qa_y_if_icmp {q : ClassFile.Cond} {o : Int} (hl : qa_G p ls ls') (ht : qa_G p st st') (hs : qa_sat p K) (hp : qa_hp p K h) (hI : qa_Inv P S h) (hx : qa_x P (pc, np, .if_icmp q o, a, f, v) (pc, ls, st, K) = some R) : qa_ok P S X p (pc, np, .if_icmp q o, a, f, v) (pc, ls', st', h) R := by
  simp only [qa_x, qi_if_icmp] at hx
  split at hx
  · rename_i y x r
    cases hi : qa_il x && qa_il y with
    | false => rw [hi, cond_false] at hx; cases hx
    | true =>
      rw [hi, cond_true] at hx
      rw [Bool.and_eq_true] at hi
      obtain ⟨y', s1, e1, gy, x', r', e2, gx, hr⟩ := ht
      obtain ⟨xx, ex⟩ := qa_il_ok gx hi.1
      obtain ⟨yy, ey⟩ := qa_il_ok gy hi.2
      subst ex
      subst ey
      subst e2
      subst e1
      have hx := (Option.some.inj hx).symm
      rw [hx]
      exact ⟨xx, yy, (a, ls', r', h), (np, ls', r', h), rfl, gx, gy, hi.1, hi.2, ⟨rfl, hl, hr, hs, hp, hI⟩, ⟨rfl, hl, hr, hs, hp, hI⟩⟩
  · cases hx
theorem qa_y_ifnull {o : Int} (hl : qa_G p ls ls') (ht : qa_G p st st') (hs : qa_sat p K) (hp : qa_hp p K h) (hI : qa_Inv P S h) (hx : qa_x P (pc, np, .ifnull o, a, f, v) (pc, ls, st, K) = some R) : qa_ok P S X p (pc, np, .ifnull o, a, f, v) (pc, ls', st', h) R := by
  simp only [qa_x, qi_ifnull] at hx
  split at hx
  · rename_i b r
    obtain ⟨x', r', e2, gx, hr⟩ := ht
    have gx : x' = .ref b := gx
    subst gx
    subst e2
    exact qa_nx0 hx (c1' := (np, ls', r', h)) rfl ⟨rfl, hl, hr, hs, hp, hI⟩
  · rename_i r
    obtain ⟨x', r', e2, gx, hr⟩ := ht
    have gx : x' = .null := gx
    subst gx
    subst e2
    exact qa_nx0 hx (c1' := (a, ls', r', h)) rfl ⟨rfl, hl, hr, hs, hp, hI⟩
  · cases hx
theorem qa_y_ifnonnull {o : Int} (hl : qa_G p ls ls') (ht : qa_G p st st') (hs : qa_sat p K) (hp : qa_hp p K h) (hI : qa_Inv P S h) (hx : qa_x P (pc, np, .ifnonnull o, a, f, v) (pc, ls, st, K) = some R) : qa_ok P S X p (pc, np, .ifnonnull o, a, f, v) (pc, ls', st', h) R := by
  simp only [qa_x, qi_ifnonnull] at hx
  split at hx
  · rename_i b r
    obtain ⟨x', r', e2, gx, hr⟩ := ht
    have gx : x' = .ref b := gx
    subst gx
    subst e2
    exact qa_nx0 hx (c1' := (a, ls', r', h)) rfl ⟨rfl, hl, hr, hs, hp, hI⟩
  · rename_i r
    obtain ⟨x', r', e2, gx, hr⟩ := ht
    have gx : x' = .null := gx
    subst gx
    subst e2
    exact qa_nx0 hx (c1' := (np, ls', r', h)) rfl ⟨rfl, hl, hr, hs, hp, hI⟩
  · cases hx
end QAY
