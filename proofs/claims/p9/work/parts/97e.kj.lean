/-! a row of 25 longs, once it holds no 0, stays as it is -/
theorem jr_las {J : Nat → Nat → Int64} {l : List (Nat × Nat)} {o n : Nat} {i : Int32} {x : Int64} (h1 : l[o]? = some (3, n)) (h2 : (qm_in i n && qm_w25 n (J o i.toNatClampNeg)) = true) (hs : l[125]? = some (3, 25)) (hn : ∀ k, k < 25 → J 125 k ≠ 0) (k : Nat) (hk : k < 25) : qm_up J o i.toNatClampNeg x 125 k = J 125 k := by
  unfold qm_up
  cases hb : Nat.beq 125 o && Nat.beq k i.toNatClampNeg with
  | false => rfl
  | true =>
    exfalso
    rw [Bool.and_eq_true] at hb h2
    have e1 := Nat.eq_of_beq_eq_true hb.1
    have e2 := Nat.eq_of_beq_eq_true hb.2
    subst e1
    rw [hs] at h1
    cases h1
    have h2 := h2.2
    unfold qm_w25 at h2
    rw [← e2] at h2
    exact hn k hk (by simpa using h2)
theorem jr_pl {J : Nat → Nat → Int64} {l : List (Nat × Nat)} {q : Nat × Nat} {o a b : Nat} {x : Int64} (h1 : l[o]? = some q) (h2 : Nat.beq q.1 (a + 5) = true) (hs : l[125]? = some (3, 25)) (k : Nat) (hk : k < 25) : qm_up J o b x 125 k = J 125 k := by
  unfold qm_up
  cases hb : Nat.beq 125 o && Nat.beq k b with
  | false => rfl
  | true =>
    exfalso
    rw [Bool.and_eq_true] at hb
    have e1 := Nat.eq_of_beq_eq_true hb.1
    subst e1
    rw [hs] at h1
    cases h1
    have := Nat.eq_of_beq_eq_true h2
    omega
set_option maxHeartbeats 4000000 in
theorem jr_x (X : Option (Nat × (Nat → Int32))) (pc np a b : Nat) (ins : Instr) (v : Value) (c : qm_C) {c' : qm_C} (h : qm_x X (pc, np, ins, a, b, v) c = some (.inl c')) (hs : c.2.2.2.1[125]? = some (3, 25)) (hn : ∀ k, k < 25 → c.2.2.2.2.2.1 125 k ≠ 0) : ∀ k, k < 25 → c'.2.2.2.2.2.1 125 k = c.2.2.2.2.2.1 125 k := by
  cases ins <;> simp only [qm_x, qm_nx, qm_br, qm_rt, qm_cl, Bool.cond_eq_ite] at h <;> (repeat' split at h) <;> first
    | (cases h; exact fun _ _ => rfl)
    | (cases h; done)
    | (cases h; exact jr_las (by assumption) (by assumption) hs hn)
    | (cases h; exact jr_pl (by assumption) (by assumption) hs)
noncomputable def kJ (f : Nat → Int64) (h : qm_H) : Prop := h.1[125]? = some (3, 25) ∧ ∀ k : Nat, k < 25 → h.2.2.1 125 k = f k
theorem jr_run {X : Option (Nat × (Nat → Int32))} {f : Nat → Int64} (hf : ∀ k, k < 25 → f k ≠ 0) : ∀ (n d : Nat) (cd : qm_Cd) (c : qm_C) (r : Option Value) (h' : qm_H), qm_run qm_F X n d cd c = some (r, h') → kJ f c.2.2.2 → kJ f h'
  | 0, _, _, _, _, _, h, _ => by cases h
  | n + 1, d, cd, c, r, h', h, hk => by
    unfold qm_run at h
    unfold qm_step at h
    cases hq : qm_fetch cd c.1 with
    | none => simp [hq] at h
    | some it =>
      simp only [hq] at h
      cases hx : qm_x X it c with
      | none => simp [hx] at h
      | some q =>
        have hfact := qm_x_fact X it.1 it.2.1 it.2.2.2.1 it.2.2.2.2.1 it.2.2.1 it.2.2.2.2.2 c (r := q) hx
        simp only [hx] at h
        match q, hfact, h, hx with
        | .inl c', hfact, h, hx =>
          obtain ⟨-, t, ht⟩ := hfact
          have e := jr_x X it.1 it.2.1 it.2.2.2.1 it.2.2.2.2.1 it.2.2.1 it.2.2.2.2.2 c (c' := c') hx hk.1 (fun k h25 => by rw [hk.2 k h25]; exact hf k h25)
          exact jr_run hf n d cd c' r h' h ⟨by rw [ht, List.getElem?_append_left (List.getElem?_eq_some_iff.mp hk.1).1]; exact hk.1, fun k h25 => (e k h25).trans (hk.2 k h25)⟩
        | .inr (.inl (b, c1, c2)), hfact, h, _ =>
          obtain ⟨-, h1, h2⟩ := hfact
          have h1 : c1.2.2.2 = c.2.2.2 := h1
          have h2 : c2.2.2.2 = c.2.2.2 := h2
          cases b with
          | true => exact jr_run hf n d cd c1 r h' h (by rw [h1]; exact hk)
          | false => exact jr_run hf n d cd c2 r h' h (by rw [h2]; exact hk)
        | .inr (.inr (.inl (v, h2))), hfact, h, _ =>
          obtain ⟨-, h3⟩ := hfact
          cases h
          rw [show h' = c.2.2.2 from h3]
          exact hk
        | .inr (.inr (.inr (j, as, c'))), hfact, h, hx =>
          obtain ⟨-, h3⟩ := hfact
          have h3 : c'.2.2.2 = c.2.2.2 := h3
          match d, h with
          | d' + 1, h =>
            dsimp only at h
            cases hl : Nat.ble (qm_la as).length (qm_F j).1 with
            | false => simp only [hl, cond_false] at h; cases h
            | true =>
              simp only [hl, cond_true] at h
              cases hr : qm_run qm_F X n d' (qm_F j).2 (qm_ent (qm_F j).1 as c'.2.2.2) with
              | none => simp only [hr] at h; cases h
              | some q2 =>
                simp only [hr] at h
                have e1 := jr_run hf n d' _ _ q2.1 q2.2 hr (by show kJ f c'.2.2.2; rw [h3]; exact hk)
                exact jr_run hf n (d' + 1) cd _ r h' h e1
/-- a run, and that the row stays -/
theorem jr_im {X : Option (Nat × (Nat → Int32))} {d : Nat} {cd : qm_Cd} {c : qm_C} {Z : Option Value → qm_H → Prop} {f : Nat → Int64} (hf : ∀ k, k < 25 → f k ≠ 0) (hk : kJ f c.2.2.2) (h : qm_Ru X d cd c (fun r h' => kJ f h' → Z r h')) : qm_Ru X d cd c Z := by
  obtain ⟨n, r, h', e, q⟩ := h
  exact ⟨n, r, h', e, q (jr_run hf n d cd c r h' e hk)⟩
