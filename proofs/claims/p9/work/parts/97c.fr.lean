/-! a field that no code at hand writes stays as it is -/
theorem fr_up {I : Nat → Nat → Int32} {o k o0 f : Nat} {x : Int32} (h : o0 = o → f = k → False) : qm_up I o k x o0 f = I o0 f := by
  refine qa_up_ne ?_
  cases hb : Nat.beq o0 o && Nat.beq f k with
  | false => rfl
  | true =>
    rw [Bool.and_eq_true] at hb
    exact (h (Nat.eq_of_beq_eq_true hb.1) (Nat.eq_of_beq_eq_true hb.2)).elim
theorem fr_sh {I : Nat → Nat → Int32} {l : List (Nat × Nat)} {o i o0 f k n k0 n0 : Nat} {x : Int32} (h1 : l[o]? = some (k, n)) (hs : l[o0]? = some (k0, n0)) (h0 : k < k0) : qm_up I o i x o0 f = I o0 f := fr_up (fun e _ => by
  subst e
  rw [hs] at h1
  cases h1
  omega)
theorem fr_pf {I : Nat → Nat → Int32} {l : List (Nat × Nat)} {q : Nat × Nat} {o a b o0 f k0 n0 : Nat} {x : Int32} (h1 : l[o]? = some q) (h2 : Nat.beq q.1 (a + 5) = true) (hs : l[o0]? = some (k0, n0)) (hi : ¬ (a + 5 = k0 ∧ b = f)) : qm_up I o b x o0 f = I o0 f := fr_up (fun e e2 => by
  subst e
  rw [hs] at h1
  cases h1
  exact hi ⟨(Nat.eq_of_beq_eq_true h2).symm, e2.symm⟩)
theorem fr_cp {I : Nat → Nat → Int32} {l : List (Nat × Nat)} {o d s dp n o0 f k k0 n0 : Nat} (h1 : l[d]? = some (0, k)) (hs : l[o0]? = some (k0, n0)) (h0 : 5 ≤ k0) : qm_cp I o s d dp n o0 f = I o0 f := by
  unfold qm_cp
  cases hb : Nat.beq o0 d with
  | false => rfl
  | true =>
    exfalso
    have e := Nat.eq_of_beq_eq_true hb
    subst e
    rw [hs] at h1
    cases h1
    omega
set_option maxHeartbeats 4000000 in
theorem fr_x (X : Option (Nat × (Nat → Int32))) (pc np a b : Nat) (ins : Instr) (v : Value) (c : qm_C) {c' : qm_C} {o0 f k0 n0 : Nat} (h : qm_x X (pc, np, ins, a, b, v) c = some (.inl c')) (hs : c.2.2.2.1[o0]? = some (k0, n0)) (hk : 5 ≤ k0) (hi : ∀ i, ins = .putfield i → ¬ (a + 5 = k0 ∧ b = f)) : c'.2.2.2.2.1 o0 f = c.2.2.2.2.1 o0 f := by
  cases ins <;> simp only [qm_x, qm_nx, qm_br, qm_rt, qm_cl, Bool.cond_eq_ite] at h <;> (repeat' split at h) <;> first
    | (cases h; rfl)
    | (cases h; done)
    | (cases h; exact fr_sh (by assumption) hs (by omega))
    | (cases h; exact fr_pf (by assumption) (by assumption) hs (hi _ rfl))
    | (cases h; exact fr_cp (by assumption) hs hk)
noncomputable def fr_it (FL : List (Nat × Nat)) (M : List Nat) (it : qm_It) : Bool := match it.2.2.1 with
  | .putfield _ => !(FL.any (fun q => Nat.beq (it.2.2.2.1 + 5) q.1 && Nat.beq it.2.2.2.2.1 q.2))
  | .invokevirtual _ => M.contains it.2.2.2.1
  | .invokespecial _ => (match it.2.2.2.2.2 with
    | .null => true
    | _ => M.contains it.2.2.2.1)
  | .invokestatic _ => (match it.2.2.2.2.2 with
    | .null => true
    | .int _ => true
    | _ => M.contains it.2.2.2.1)
  | _ => true
set_option maxHeartbeats 4000000 in
theorem fr_call (X : Option (Nat × (Nat → Int32))) (pc np a b : Nat) (ins : Instr) (v : Value) (c : qm_C) {j : Nat} {as : List Value} {c' : qm_C} {FL : List (Nat × Nat)} {M : List Nat} (h : qm_x X (pc, np, ins, a, b, v) c = some (.inr (.inr (.inr (j, as, c'))))) (hi : fr_it FL M (pc, np, ins, a, b, v) = true) : M.contains j = true := by
  cases ins <;> simp only [qm_x, qm_nx, qm_br, qm_rt, qm_cl, Bool.cond_eq_ite] at h <;> (repeat' split at h) <;> first
    | (cases h; done)
    | (cases h; exact hi)
    | (cases h; unfold fr_it at hi; dsimp only at hi; split at hi <;> first | (exact hi) | (simp_all; done))
noncomputable def fr_cd (FL : List (Nat × Nat)) (M : List Nat) (cd : qm_Cd) : Bool := cd.all (fun q => q.2.all (fr_it FL M))
noncomputable def fr_M (FL : List (Nat × Nat)) (M : List Nat) : Bool := M.all (fun j => fr_cd FL M (qm_F j).2)
theorem fr_run {X : Option (Nat × (Nat → Int32))} {FL : List (Nat × Nat)} {k0 f o0 n0 : Nat} {M : List Nat} (hk : 5 ≤ k0) (hf0 : (k0, f) ∈ FL) (hM : fr_M FL M = true) : ∀ (n d : Nat) (cd : qm_Cd) (c : qm_C) (r : Option Value) (h' : qm_H), fr_cd FL M cd = true → qm_run qm_F X n d cd c = some (r, h') → c.2.2.2.1[o0]? = some (k0, n0) → h'.2.1 o0 f = c.2.2.2.2.1 o0 f
  | 0, _, _, _, _, _, _, h, _ => by cases h
  | n + 1, d, cd, c, r, h', hc, h, hs => by
    unfold qm_run at h
    unfold qm_step at h
    cases hf : qm_fetch cd c.1 with
    | none => simp [hf] at h
    | some it =>
      obtain ⟨⟨q0, m1, m2⟩, -⟩ := qm_fetch_ok hf
      have hit : fr_it FL M it = true := List.all_eq_true.mp (List.all_eq_true.mp hc q0 m1) it m2
      simp only [hf] at h
      cases hx : qm_x X it c with
      | none => simp [hx] at h
      | some q =>
        have hfact := qm_x_fact X it.1 it.2.1 it.2.2.2.1 it.2.2.2.2.1 it.2.2.1 it.2.2.2.2.2 c (r := q) hx
        simp only [hx] at h
        match q, hfact, h, hx with
        | .inl c', hfact, h, hx =>
          obtain ⟨-, t, ht⟩ := hfact
          have e := fr_x X it.1 it.2.1 it.2.2.2.1 it.2.2.2.2.1 it.2.2.1 it.2.2.2.2.2 c (c' := c') (f := f) hx hs hk (fun i hi z => by
            unfold fr_it at hit
            rw [hi] at hit
            dsimp only at hit
            rw [z.1, z.2, List.any_eq_true.mpr ⟨(k0, f), hf0, by rw [Nat.beq_refl, Nat.beq_refl]; rfl⟩] at hit
            cases hit)
          rw [fr_run hk hf0 hM n d cd c' r h' hc h (by rw [ht, List.getElem?_append_left (List.getElem?_eq_some_iff.mp hs).1]; exact hs)]
          exact e
        | .inr (.inl (b, c1, c2)), hfact, h, _ =>
          obtain ⟨-, h1, h2⟩ := hfact
          have h1 : c1.2.2.2 = c.2.2.2 := h1
          have h2 : c2.2.2.2 = c.2.2.2 := h2
          cases b with
          | true => rw [fr_run hk hf0 hM n d cd c1 r h' hc h (by rw [h1]; exact hs), h1]
          | false => rw [fr_run hk hf0 hM n d cd c2 r h' hc h (by rw [h2]; exact hs), h2]
        | .inr (.inr (.inl (v, h2))), hfact, h, _ =>
          obtain ⟨-, h3⟩ := hfact
          cases h
          rw [show h' = c.2.2.2 from h3]
        | .inr (.inr (.inr (j, as, c'))), hfact, h, hx =>
          obtain ⟨-, h3⟩ := hfact
          have h3 : c'.2.2.2 = c.2.2.2 := h3
          have hj : M.contains j = true := fr_call X it.1 it.2.1 it.2.2.2.1 it.2.2.2.2.1 it.2.2.1 it.2.2.2.2.2 c hx hit
          have hcj : fr_cd FL M (qm_F j).2 = true := List.all_eq_true.mp hM j (List.contains_iff_mem.mp hj)
          match d, h with
          | d' + 1, h =>
            dsimp only at h
            cases hl : Nat.ble (qm_la as).length (qm_F j).1 with
            | false => simp only [hl, cond_false] at h; cases h
            | true =>
              simp only [hl, cond_true] at h
              cases hr : qm_run qm_F X n d' (qm_F j).2 (qm_ent (qm_F j).1 as c'.2.2.2) with
              | none => simp only [hr] at h; cases h
              | some q2 =>
                simp only [hr] at h
                obtain ⟨t1, ht1⟩ := qm_run_mono n d' _ _ q2.1 q2.2 hr
                have e1 := fr_run hk hf0 hM n d' _ _ q2.1 q2.2 hcj hr (by show c'.2.2.2.1[o0]? = _; rw [h3]; exact hs)
                have e1 : q2.2.2.1 o0 f = c'.2.2.2.2.1 o0 f := e1
                have ht1 : q2.2.1 = c'.2.2.2.1 ++ t1 := ht1
                have e2 := fr_run hk hf0 hM n (d' + 1) cd _ r h' hc h (by show q2.2.1[o0]? = _; rw [ht1, h3, List.getElem?_append_left (List.getElem?_eq_some_iff.mp hs).1]; exact hs)
                rw [e2]
                show q2.2.2.1 o0 f = _
                rw [e1, h3]
/-- a method's run, and that the field stays -/
theorem fr_Ru {X : Option (Nat × (Nat → Int32))} {d : Nat} {cd : qm_Cd} {c : qm_C} {Q : Option Value → qm_H → Prop} {FL : List (Nat × Nat)} {k0 f o0 n0 : Nat} {M : List Nat} (hk : 5 ≤ k0) (hf0 : (k0, f) ∈ FL) (hM : fr_M FL M = true) (hc : fr_cd FL M cd = true) (hs : c.2.2.2.1[o0]? = some (k0, n0)) (h : qm_Ru X d cd c Q) : qm_Ru X d cd c (fun r h' => Q r h' ∧ h'.2.1 o0 f = c.2.2.2.2.1 o0 f) := by
  obtain ⟨n, r, h', e, q⟩ := h
  exact ⟨n, r, h', e, q, fr_run hk hf0 hM n d cd c r h' hc e hs⟩
/-! from a place of a method on: a field that the code from there on does not write -/
noncomputable def an_sw (ins : Instr) : Bool := match ins with
  | .tableswitch _ _ _ _ => false
  | .lookupswitch _ _ => false
  | _ => true
noncomputable def an_rt (ins : Instr) : Bool := match ins with
  | .ireturn => true
  | .lreturn => true
  | .return_ => true
  | _ => false
noncomputable def an_jp (ins : Instr) : Bool := match ins with
  | .goto _ => true
  | .ifCond _ _ => true
  | .if_icmp _ _ => true
  | .ifnull _ => true
  | .ifnonnull _ => true
  | _ => false
noncomputable def an_to (ins : Instr) (np a : Nat) (r : qm_C ⊕ ((Bool × qm_C × qm_C) ⊕ ((Option Value × qm_H) ⊕ (Nat × List Value × qm_C)))) : Prop := match r with
  | .inl c' => (an_rt ins = false ∧ c'.1 = np) ∨ (an_jp ins = true ∧ c'.1 = a)
  | .inr (.inl q) => (an_jp ins = true ∧ an_rt ins = false) ∧ q.2.1.1 = a ∧ q.2.2.1 = np
  | .inr (.inr (.inl _)) => True
  | .inr (.inr (.inr q)) => an_rt ins = false ∧ q.2.2.1 = np
set_option maxHeartbeats 4000000 in
theorem an_x (X : Option (Nat × (Nat → Int32))) (pc np a b : Nat) (ins : Instr) (v : Value) (c : qm_C) {r : qm_C ⊕ ((Bool × qm_C × qm_C) ⊕ ((Option Value × qm_H) ⊕ (Nat × List Value × qm_C)))} (h : qm_x X (pc, np, ins, a, b, v) c = some r) (hsw : an_sw ins = true) : an_to ins np a r := by
  cases ins <;> simp only [qm_x, qm_nx, qm_br, qm_rt, qm_cl, Bool.cond_eq_ite] at h <;> (repeat' split at h) <;> first
    | (cases h; exact Or.inl ⟨rfl, rfl⟩)
    | (cases h; exact Or.inr ⟨rfl, rfl⟩)
    | (cases h; exact ⟨⟨rfl, rfl⟩, rfl, rfl⟩)
    | (cases h; exact trivial)
    | (cases h; exact ⟨rfl, rfl⟩)
    | (cases h; done)
    | (exact absurd hsw Bool.false_ne_true)
noncomputable def sx_it (FL : List (Nat × Nat)) (M : List Nat) (p1 : Nat) (it : qm_It) : Bool := Nat.blt it.1 p1 || ((an_sw it.2.2.1 && fr_it FL M it) && ((an_rt it.2.2.1 || Nat.ble p1 it.2.1) && (!an_jp it.2.2.1 || Nat.ble p1 it.2.2.2.1)))
theorem sx_run {X : Option (Nat × (Nat → Int32))} {FL : List (Nat × Nat)} {k0 f o0 n0 p1 : Nat} {M : List Nat} {cd : qm_Cd} (hk : 5 ≤ k0) (hf0 : (k0, f) ∈ FL) (hM : fr_M FL M = true) (hc : cd.all (fun q => q.2.all (sx_it FL M p1)) = true) : ∀ (n d : Nat) (c : qm_C) (r : Option Value) (h' : qm_H), qm_run qm_F X n d cd c = some (r, h') → p1 ≤ c.1 → c.2.2.2.1[o0]? = some (k0, n0) → h'.2.1 o0 f = c.2.2.2.2.1 o0 f
  | 0, _, _, _, _, h, _, _ => by cases h
  | n + 1, d, c, r, h', h, hp, hs => by
    unfold qm_run at h
    unfold qm_step at h
    cases hf : qm_fetch cd c.1 with
    | none => simp [hf] at h
    | some it =>
      obtain ⟨⟨q0, m1, m2⟩, hpc⟩ := qm_fetch_ok hf
      have hit : sx_it FL M p1 it = true := List.all_eq_true.mp (List.all_eq_true.mp hc q0 m1) it m2
      unfold sx_it at hit
      rw [show Nat.blt it.1 p1 = false from by
        cases hb : Nat.blt it.1 p1 with
        | false => rfl
        | true =>
          have := Nat.le_of_ble_eq_true hb
          omega, Bool.false_or, Bool.and_eq_true, Bool.and_eq_true, Bool.and_eq_true, Bool.or_eq_true, Bool.or_eq_true] at hit
      obtain ⟨⟨hsw, hit⟩, hnp, hja⟩ := hit
      have hnp : an_rt it.2.2.1 = false → p1 ≤ it.2.1 := fun z => by
        rcases hnp with w | w
        · rw [z] at w
          cases w
        · exact Nat.le_of_ble_eq_true w
      have hja : an_jp it.2.2.1 = true → p1 ≤ it.2.2.2.1 := fun z => by
        rcases hja with w | w
        · rw [z] at w
          cases w
        · exact Nat.le_of_ble_eq_true w
      simp only [hf] at h
      cases hx : qm_x X it c with
      | none => simp [hx] at h
      | some q =>
        have hfact := qm_x_fact X it.1 it.2.1 it.2.2.2.1 it.2.2.2.2.1 it.2.2.1 it.2.2.2.2.2 c (r := q) hx
        have hto := an_x X it.1 it.2.1 it.2.2.2.1 it.2.2.2.2.1 it.2.2.1 it.2.2.2.2.2 c (r := q) hx hsw
        simp only [hx] at h
        match q, hfact, hto, h, hx with
        | .inl c', hfact, hto, h, hx =>
          obtain ⟨-, t, ht⟩ := hfact
          have e := fr_x X it.1 it.2.1 it.2.2.2.1 it.2.2.2.2.1 it.2.2.1 it.2.2.2.2.2 c (c' := c') (f := f) hx hs hk (fun i hi z => by
            unfold fr_it at hit
            rw [hi] at hit
            dsimp only at hit
            rw [z.1, z.2, List.any_eq_true.mpr ⟨(k0, f), hf0, by rw [Nat.beq_refl, Nat.beq_refl]; rfl⟩] at hit
            cases hit)
          have hp2 : p1 ≤ c'.1 := by
            rcases hto with ⟨w1, w2⟩ | ⟨w1, w2⟩
            · rw [w2]; exact hnp w1
            · rw [w2]; exact hja w1
          rw [sx_run hk hf0 hM hc n d c' r h' h hp2 (by rw [ht, List.getElem?_append_left (List.getElem?_eq_some_iff.mp hs).1]; exact hs)]
          exact e
        | .inr (.inl (b, c1, c2)), hfact, hto, h, _ =>
          obtain ⟨-, h1, h2⟩ := hfact
          obtain ⟨⟨w1, w2⟩, w3, w4⟩ := hto
          have h1 : c1.2.2.2 = c.2.2.2 := h1
          have h2 : c2.2.2.2 = c.2.2.2 := h2
          have w3 : c1.1 = it.2.2.2.1 := w3
          have w4 : c2.1 = it.2.1 := w4
          cases b with
          | true => rw [sx_run hk hf0 hM hc n d c1 r h' h (by rw [w3]; exact hja w1) (by rw [h1]; exact hs), h1]
          | false => rw [sx_run hk hf0 hM hc n d c2 r h' h (by rw [w4]; exact hnp w2) (by rw [h2]; exact hs), h2]
        | .inr (.inr (.inl (v, h2))), hfact, _, h, _ =>
          obtain ⟨-, h3⟩ := hfact
          cases h
          rw [show h' = c.2.2.2 from h3]
        | .inr (.inr (.inr (j, as, c'))), hfact, hto, h, hx =>
          obtain ⟨-, h3⟩ := hfact
          obtain ⟨w1, w2⟩ := hto
          have w2 : c'.1 = it.2.1 := w2
          have h3 : c'.2.2.2 = c.2.2.2 := h3
          have hj : M.contains j = true := fr_call X it.1 it.2.1 it.2.2.2.1 it.2.2.2.2.1 it.2.2.1 it.2.2.2.2.2 c hx hit
          have hcj : fr_cd FL M (qm_F j).2 = true := List.all_eq_true.mp hM j (List.contains_iff_mem.mp hj)
          match d, h with
          | d' + 1, h =>
            dsimp only at h
            cases hl : Nat.ble (qm_la as).length (qm_F j).1 with
            | false => simp only [hl, cond_false] at h; cases h
            | true =>
              simp only [hl, cond_true] at h
              cases hr : qm_run qm_F X n d' (qm_F j).2 (qm_ent (qm_F j).1 as c'.2.2.2) with
              | none => simp only [hr] at h; cases h
              | some q2 =>
                simp only [hr] at h
                obtain ⟨t1, ht1⟩ := qm_run_mono n d' _ _ q2.1 q2.2 hr
                have e1 := fr_run hk hf0 hM n d' _ _ q2.1 q2.2 hcj hr (by show c'.2.2.2.1[o0]? = _; rw [h3]; exact hs)
                have e1 : q2.2.2.1 o0 f = c'.2.2.2.2.1 o0 f := e1
                have ht1 : q2.2.1 = c'.2.2.2.1 ++ t1 := ht1
                have e2 := sx_run hk hf0 hM hc n (d' + 1) _ r h' h (by show p1 ≤ c'.1; rw [w2]; exact hnp w1) (by show q2.2.1[o0]? = _; rw [ht1, h3, List.getElem?_append_left (List.getElem?_eq_some_iff.mp hs).1]; exact hs)
                rw [e2]
                show q2.2.2.1 o0 f = _
                rw [e1, h3]
theorem sx_then {X : Option (Nat × (Nat → Int32))} {d : Nat} {cd : qm_Cd} {c : qm_C} {Q Z : Option Value → qm_H → Prop} {FL : List (Nat × Nat)} {k0 f o0 n0 p1 : Nat} {M : List Nat} (hk : 5 ≤ k0) (hf0 : (k0, f) ∈ FL) (hM : fr_M FL M = true) (hc : cd.all (fun q => q.2.all (sx_it FL M p1)) = true) (hp : p1 ≤ c.1) (hs : c.2.2.2.1[o0]? = some (k0, n0)) (h : qm_Ru X d cd c Q) (k : ∀ r h', Q r h' → h'.2.1 o0 f = c.2.2.2.2.1 o0 f → Z r h') : qm_Ru X d cd c Z := by
  obtain ⟨n, r, h', e, q⟩ := h
  exact ⟨n, r, h', e, k r h' q (sx_run hk hf0 hM hc n d c r h' e hp hs)⟩
theorem fr_im {X : Option (Nat × (Nat → Int32))} {d : Nat} {cd : qm_Cd} {c : qm_C} {Z : Option Value → qm_H → Prop} {FL : List (Nat × Nat)} {k0 f o0 n0 : Nat} {M : List Nat} (hk : 5 ≤ k0) (hf0 : (k0, f) ∈ FL) (hM : fr_M FL M = true) (hc : fr_cd FL M cd = true) (hs : c.2.2.2.1[o0]? = some (k0, n0)) (h : qm_Ru X d cd c (fun r h' => h'.2.1 o0 f = c.2.2.2.2.1 o0 f → Z r h')) : qm_Ru X d cd c Z := (fr_Ru hk hf0 hM hc hs h).mono (fun _ _ z => z.1 z.2)
noncomputable def fr_Mr : List Nat := [242, 244, 248, 249, 250, 251, 252, 253, 254, 255, 256, 257, 258, 259, 260, 261, 262, 263, 264, 265, 266, 267]
theorem fr_Mrok : fr_M [(17, 44), (17, 54), (17, 70)] fr_Mr = true := by decide +kernel
theorem fr_Mrc : fr_cd [(17, 44), (17, 54), (17, 70)] fr_Mr cd_248 = true := by decide +kernel
noncomputable def fr_Mt : List Nat := [242, 244, 249, 250, 251, 252, 253, 254, 255, 256, 257, 258, 259, 260, 261, 262, 263, 264, 265, 266, 267]
theorem fr_Mtok : fr_M [(17, 2)] fr_Mt = true := by decide +kernel
theorem fr_Mtc : cd_248.all (fun q => q.2.all (sx_it [(17, 2)] fr_Mt 203)) = true := by decide +kernel
