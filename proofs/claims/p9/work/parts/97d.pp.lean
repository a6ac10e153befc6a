/-! runs that are given: what holds of their ends. A run that doesn't end tells nothing -/
noncomputable def qm_Rp (fu : Nat) (X : Option (Nat × (Nat → Int32))) (cd : qm_Cd) (c : qm_C) (Q : Option Value → qm_H → Prop) : Prop := ∀ (d m : Nat) (r : Option Value) (h : qm_H), m ≤ fu → qm_run qm_F X m d cd c = some (r, h) → Q r h
section QRP
variable {X : Option (Nat × (Nat → Int32))} {fu : Nat} {cd : qm_Cd} {c : qm_C} {Q : Option Value → qm_H → Prop}
theorem qm_Rp.le {f2 : Nat} (h : qm_Rp fu X cd c Q) (hf : f2 ≤ fu) : qm_Rp f2 X cd c Q := fun d m r h' hm e => h d m r h' (Nat.le_trans hm hf) e
theorem qm_Rp.no (h : qm_step X cd c = none) : qm_Rp fu X cd c Q := by
  intro d m r h' _ e
  cases m with
  | zero => cases e
  | succ m =>
    unfold qm_run at e
    simp [h] at e
theorem qm_Rp.nx1 {c' : qm_C} (h : qm_step X cd c = some (.inl c')) (k : ∀ f2, f2 < fu → qm_Rp f2 X cd c' Q) : qm_Rp fu X cd c Q := by
  intro d m r h' hm e
  cases m with
  | zero => cases e
  | succ m =>
    unfold qm_run at e
    simp only [h] at e
    exact k m (by omega) d m r h' (Nat.le_refl _) e
theorem qm_Rp.nx {c' : qm_C} (h : qm_step X cd c = some (.inl c')) (k : qm_Rp fu X cd c' Q) : qm_Rp fu X cd c Q := qm_Rp.nx1 h (fun _ h2 => k.le (Nat.le_of_lt h2))
theorem qm_Rp.br {b : Bool} {c1 c2 : qm_C} (h : qm_step X cd c = some (.inr (.inl (b, c1, c2)))) (k1 : b = true → qm_Rp fu X cd c1 Q) (k2 : b = false → qm_Rp fu X cd c2 Q) : qm_Rp fu X cd c Q := by
  intro d m r h' hm e
  cases m with
  | zero => cases e
  | succ m =>
    unfold qm_run at e
    simp only [h] at e
    cases b with
    | true => exact k1 rfl d m r h' (by omega) e
    | false => exact k2 rfl d m r h' (by omega) e
theorem qm_Rp.rt {v : Option Value} {h' : qm_H} (h : qm_step X cd c = some (.inr (.inr (.inl (v, h'))))) (q : Q v h') : qm_Rp fu X cd c Q := by
  intro d m r h2 hm e
  cases m with
  | zero => cases e
  | succ m =>
    unfold qm_run at e
    simp only [h] at e
    cases e
    exact q
theorem qm_Rp.call {j nl : Nat} {as : List Value} {c' : qm_C} {cd' : qm_Cd} (h : qm_step X cd c = some (.inr (.inr (.inr (j, as, c'))))) (hF : qm_F j = (nl, cd')) (k : qm_Rp fu X cd' (qm_ent nl as c'.2.2.2) (fun r h1 => qm_Rp fu X cd (c'.1, c'.2.1, r.toList ++ c'.2.2.1, h1) Q)) : qm_Rp fu X cd c Q := by
  intro d m r h2 hm e
  cases m with
  | zero => cases e
  | succ m =>
    unfold qm_run at e
    simp only [h] at e
    cases d with
    | zero => cases e
    | succ d =>
      dsimp only at e
      rw [hF] at e
      cases hl : Nat.ble (qm_la as).length nl with
      | false =>
        simp only [hl, cond_false] at e
        cases e
      | true =>
        simp only [hl, cond_true] at e
        cases hr : qm_run qm_F X m d cd' (qm_ent nl as c'.2.2.2) with
        | none =>
          simp only [hr] at e
          cases e
        | some q =>
          obtain ⟨r1, h1⟩ := q
          simp only [hr] at e
          exact k d m r1 h1 (by omega) hr (d + 1) m r h2 (by omega) e
theorem qm_Rp.mono {Q' : Option Value → qm_H → Prop} (h : qm_Rp fu X cd c Q') (k : ∀ r h, Q' r h → Q r h) : qm_Rp fu X cd c Q := fun d m r h' hm e => k r h' (h d m r h' hm e)
theorem qm_Rp.go : ∀ (k : Nat) {c c' : qm_C}, qm_go X cd k c = some c' → qm_Rp fu X cd c' Q → qm_Rp fu X cd c Q
  | 0, c, c', h, kk => by
    cases h
    exact kk
  | k + 1, c, c', h, kk => by
    unfold qm_go at h
    cases hs : qm_step X cd c with
    | none => simp [hs] at h
    | some q =>
      simp only [hs] at h
      match q, h with
      | .inl c2, h => exact qm_Rp.nx hs (qm_Rp.go k h kk)
      | .inr (.inl (b, c1, c2)), h =>
        refine qm_Rp.br hs (fun z => ?_) (fun z => ?_)
        · subst z
          exact qm_Rp.go k h kk
        · subst z
          exact qm_Rp.go k h kk
      | .inr (.inr _), h => cases h
/-- straight on from a loop's head: less of the run is left -/
theorem qm_Rp.go1 (k : Nat) {c c' : qm_C} (h : qm_go X cd (k + 1) c = some c') (kk : ∀ f2, f2 < fu → qm_Rp f2 X cd c' Q) : qm_Rp fu X cd c Q := by
  unfold qm_go at h
  cases hs : qm_step X cd c with
  | none => simp [hs] at h
  | some q =>
    simp only [hs] at h
    match q, h with
    | .inl c2, h => exact qm_Rp.nx1 hs (fun f2 h2 => qm_Rp.go k h (kk f2 h2))
    | .inr (.inl (b, c1, c2)), h =>
      intro d m r h' hm e
      cases m with
      | zero => cases e
      | succ m =>
        unfold qm_run at e
        simp only [hs] at e
        cases b with
        | true => exact qm_Rp.go k h (kk m (by omega)) d m r h' (Nat.le_refl _) e
        | false => exact qm_Rp.go k h (kk m (by omega)) d m r h' (Nat.le_refl _) e
    | .inr (.inr _), h => cases h
/-- a run that ends, and what holds of ends -/
theorem qm_Ru.both {d : Nat} {Q2 : Option Value → qm_H → Prop} (h : qm_Ru X d cd c Q) (g : ∀ fu, qm_Rp fu X cd c Q2) : qm_Ru X d cd c (fun r h' => Q r h' ∧ Q2 r h') := by
  obtain ⟨n, r, h', e, q⟩ := h
  exact ⟨n, r, h', e, q, g n d n r h' (Nat.le_refl _) e⟩
theorem qm_Rp.both {Q2 : Option Value → qm_H → Prop} (h : qm_Rp fu X cd c Q) (g : qm_Rp fu X cd c Q2) : qm_Rp fu X cd c (fun r h' => Q r h' ∧ Q2 r h') := fun d m r h' hm e => ⟨h d m r h' hm e, g d m r h' hm e⟩
/-- fields that no code at hand writes -/
theorem fr_Rp {FL : List (Nat × Nat)} {k0 f o0 n0 : Nat} {M : List Nat} (hk : 5 ≤ k0) (hf0 : (k0, f) ∈ FL) (hM : fr_M FL M = true) (hc : fr_cd FL M cd = true) (hs : c.2.2.2.1[o0]? = some (k0, n0)) (h : qm_Rp fu X cd c (fun r h' => h'.2.1 o0 f = c.2.2.2.2.1 o0 f → Q r h')) : qm_Rp fu X cd c Q := fun d m r h' hm e => h d m r h' hm e (fr_run hk hf0 hM m d cd c r h' hc e hs)
end QRP
theorem hp_in {i : Int32} {n : Nat} (h : ¬ (0 ≤ i.toInt ∧ i.toInt < (n : Int))) : qm_in i n = false := by
  cases hb : qm_in i n with
  | false => rfl
  | true =>
    exfalso
    have h2 := of_decide_eq_true hb
    refine h ⟨?_, ?_⟩
    · by_cases c : i < 0
      · exact absurd (Or.inl c) h2
      · have := Int.not_lt.mp (fun z => c (hk_lti.mpr z))
        exact this
    · by_cases c : n ≤ i.toNatClampNeg
      · exact absurd (Or.inr c) h2
      · have e : i.toNatClampNeg = i.toInt.toNat := rfl
        omega
section HP
variable {X : Option (Nat × (Nat → Int32))} {fu : Nat} {cd : qm_Cd} {Z : Option Value → qm_H → Prop} {pc np a b o : Nat} {ls r : List Value} {h : qm_H} {k : Nat} {q : Nat × Nat}
theorem hp_geti {t v : Int32} (hf : qm_fetch cd pc = some (pc, np, .getfield k, a, b, .int t)) (hs : h.1[o]? = some q) (hq : Nat.beq q.1 (a + 5) = true) (hv : h.2.1 o b = v) (kk : qm_Rp fu X cd (np, ls, .int v :: r, h) Z) : qm_Rp fu X cd (pc, ls, .ref o :: r, h) Z := by
  refine qm_Rp.nx ?_ kk
  rw [hk_st (c := (pc, ls, .ref o :: r, h)) hf]
  show (match h.1[o]? with
    | some q => bif Nat.beq q.1 (a + 5) then qm_nx (np, ls, .int (h.2.1 o b) :: r, h) else none
    | none => none) = _
  rw [hs]
  dsimp only
  rw [hq, hv]
  rfl
theorem hp_getl {t v : Int64} (hf : qm_fetch cd pc = some (pc, np, .getfield k, a, b, .long t)) (hs : h.1[o]? = some q) (hq : Nat.beq q.1 (a + 5) = true) (hv : h.2.2.1 o b = v) (kk : qm_Rp fu X cd (np, ls, .long v :: r, h) Z) : qm_Rp fu X cd (pc, ls, .ref o :: r, h) Z := by
  refine qm_Rp.nx ?_ kk
  rw [hk_st (c := (pc, ls, .ref o :: r, h)) hf]
  show (match h.1[o]? with
    | some q => bif Nat.beq q.1 (a + 5) then qm_nx (np, ls, .long (h.2.2.1 o b) :: r, h) else none
    | none => none) = _
  rw [hs]
  dsimp only
  rw [hq, hv]
  rfl
theorem hp_getr {o2 : Nat} (hf : qm_fetch cd pc = some (pc, np, .getfield k, a, b, .null)) (hs : h.1[o]? = some q) (hq : Nat.beq q.1 (a + 5) = true) (hv : h.2.2.2 o b = some o2) (kk : qm_Rp fu X cd (np, ls, .ref o2 :: r, h) Z) : qm_Rp fu X cd (pc, ls, .ref o :: r, h) Z := by
  refine qm_Rp.nx ?_ kk
  rw [hk_st (c := (pc, ls, .ref o :: r, h)) hf]
  show (match h.1[o]? with
    | some q => bif Nat.beq q.1 (a + 5) then qm_nx (np, ls, qm_rv (h.2.2.2 o b) :: r, h) else none
    | none => none) = _
  rw [hs]
  dsimp only
  rw [hq, hv]
  rfl
theorem hp_getn  (hf : qm_fetch cd pc = some (pc, np, .getfield k, a, b, .null)) (hs : h.1[o]? = some q) (hq : Nat.beq q.1 (a + 5) = true) (hv : h.2.2.2 o b = none) (kk : qm_Rp fu X cd (np, ls, .null :: r, h) Z) : qm_Rp fu X cd (pc, ls, .ref o :: r, h) Z := by
  refine qm_Rp.nx ?_ kk
  rw [hk_st (c := (pc, ls, .ref o :: r, h)) hf]
  show (match h.1[o]? with
    | some q => bif Nat.beq q.1 (a + 5) then qm_nx (np, ls, qm_rv (h.2.2.2 o b) :: r, h) else none
    | none => none) = _
  rw [hs]
  dsimp only
  rw [hq, hv]
  rfl
theorem hp_puti {x : Int32} (hf : qm_fetch cd pc = some (pc, np, .putfield k, a, b, .int 0)) (hs : h.1[o]? = some q) (hq : Nat.beq q.1 (a + 5) = true) (kk : qm_Rp fu X cd (np, ls, r, (h.1, qm_up h.2.1 o b x, h.2.2.1, h.2.2.2)) Z) : qm_Rp fu X cd (pc, ls, .int x :: .ref o :: r, h) Z := by
  refine qm_Rp.nx ?_ kk
  rw [hk_st (c := (pc, ls, .int x :: .ref o :: r, h)) hf]
  show (match h.1[o]? with
    | some q => bif Nat.beq q.1 (a + 5) then qm_nx (np, ls, r, (h.1, qm_up h.2.1 o b x, h.2.2.1, h.2.2.2)) else none
    | none => none) = _
  rw [hs]
  dsimp only
  rw [hq]
  rfl
theorem hp_putl {t x : Int64} (hf : qm_fetch cd pc = some (pc, np, .putfield k, a, b, .long t)) (hs : h.1[o]? = some q) (hq : Nat.beq q.1 (a + 5) = true) (kk : qm_Rp fu X cd (np, ls, r, (h.1, h.2.1, qm_up h.2.2.1 o b x, h.2.2.2)) Z) : qm_Rp fu X cd (pc, ls, .long x :: .ref o :: r, h) Z := by
  refine qm_Rp.nx ?_ kk
  rw [hk_st (c := (pc, ls, .long x :: .ref o :: r, h)) hf]
  show (match h.1[o]? with
    | some q => bif Nat.beq q.1 (a + 5) then qm_nx (np, ls, r, (h.1, h.2.1, qm_up h.2.2.1 o b x, h.2.2.2)) else none
    | none => none) = _
  rw [hs]
  dsimp only
  rw [hq]
  rfl
theorem hp_putr {x : Nat} (hf : qm_fetch cd pc = some (pc, np, .putfield k, a, b, .null)) (hs : h.1[o]? = some q) (hq : Nat.beq q.1 (a + 5) = true) (kk : qm_Rp fu X cd (np, ls, r, (h.1, h.2.1, h.2.2.1, qm_up h.2.2.2 o b (some x))) Z) : qm_Rp fu X cd (pc, ls, .ref x :: .ref o :: r, h) Z := by
  refine qm_Rp.nx ?_ kk
  rw [hk_st (c := (pc, ls, .ref x :: .ref o :: r, h)) hf]
  show (match h.1[o]? with
    | some q => bif Nat.beq q.1 (a + 5) then qm_nx (np, ls, r, (h.1, h.2.1, h.2.2.1, qm_up h.2.2.2 o b (some x))) else none
    | none => none) = _
  rw [hs]
  dsimp only
  rw [hq]
  rfl
/-- a field of booleans is written -/
theorem hp_putb {x : Int32} (hf : qm_fetch cd pc = some (pc, np, .putfield k, a, b, .int 1)) (hs : h.1[o]? = some q) (hq : Nat.beq q.1 (a + 5) = true) (kk : (x.toInt = 0 ∨ x.toInt = 1) → qm_Rp fu X cd (np, ls, r, (h.1, qm_up h.2.1 o b x, h.2.2.1, h.2.2.2)) Z) : qm_Rp fu X cd (pc, ls, .int x :: .ref o :: r, h) Z := by
  have e : qm_step X cd (pc, ls, .int x :: .ref o :: r, h) = bif (decide (x = 0) || decide (x = 1)) then qm_nx (np, ls, r, (h.1, qm_up h.2.1 o b x, h.2.2.1, h.2.2.2)) else none := by
    rw [hk_st (c := (pc, ls, .int x :: .ref o :: r, h)) hf]
    show (match h.1[o]? with
      | some q => bif Nat.beq q.1 (a + 5) then (bif decide ((1 : Int32) = 0) || (decide (x = 0) || decide (x = 1)) then qm_nx (np, ls, r, (h.1, qm_up h.2.1 o b x, h.2.2.1, h.2.2.2)) else none) else none
      | none => none) = _
    rw [hs]
    dsimp only
    rw [hq]
    rfl
  cases c : (decide (x = 0) || decide (x = 1)) with
  | false => exact qm_Rp.no (by rw [e, c]; rfl)
  | true =>
    refine qm_Rp.nx (by rw [e, c]; rfl) (kk ?_)
    rw [Bool.or_eq_true, decide_eq_true_eq, decide_eq_true_eq] at c
    rcases c with c | c
    · left; rw [c]; rfl
    · right; rw [c]; rfl
theorem hp_ial {len : Nat} {i v : Int32} (hf : qm_fetch cd pc = some (pc, np, .iaload, a, b, .null)) (hs : h.1[o]? = some (0, len)) (hv : h.2.1 o i.toInt.toNat = v) (kk : 0 ≤ i.toInt → i.toInt < (len : Int) → qm_Rp fu X cd (np, ls, .int v :: r, h) Z) : qm_Rp fu X cd (pc, ls, .int i :: .ref o :: r, h) Z := by
  have e : qm_step X cd (pc, ls, .int i :: .ref o :: r, h) = bif qm_in i len then qm_nx (np, ls, .int (h.2.1 o i.toInt.toNat) :: r, h) else none := by
    rw [hk_st (c := (pc, ls, .int i :: .ref o :: r, h)) hf]
    show (match h.1[o]? with
    | some (0, len) => bif qm_in i len then qm_nx (np, ls, .int (h.2.1 o i.toInt.toNat) :: r, h) else none
    | _ => none) = _
    rw [hs]
    rfl
  by_cases c : 0 ≤ i.toInt ∧ i.toInt < (len : Int)
  · refine qm_Rp.nx ?_ (kk c.1 c.2)
    rw [e, hk_in c.1 c.2, hv]
    rfl
  · refine qm_Rp.no ?_
    rw [e, hp_in c]
    rfl
theorem hp_bal1 {len : Nat} {i v : Int32} (hf : qm_fetch cd pc = some (pc, np, .baload, a, b, .null)) (hs : h.1[o]? = some (1, len)) (hv : h.2.1 o i.toInt.toNat = v) (kk : 0 ≤ i.toInt → i.toInt < (len : Int) → qm_Rp fu X cd (np, ls, .int v :: r, h) Z) : qm_Rp fu X cd (pc, ls, .int i :: .ref o :: r, h) Z := by
  have e : qm_step X cd (pc, ls, .int i :: .ref o :: r, h) = bif qm_in i len then qm_nx (np, ls, .int (h.2.1 o i.toInt.toNat) :: r, h) else none := by
    rw [hk_st (c := (pc, ls, .int i :: .ref o :: r, h)) hf]
    show (match h.1[o]? with
    | some (1, len) => bif qm_in i len then qm_nx (np, ls, .int (h.2.1 o i.toInt.toNat) :: r, h) else none
    | some (2, len) => bif qm_in i len then qm_nx (np, ls, .int (h.2.1 o i.toInt.toNat) :: r, h) else none
    | _ => none) = _
    rw [hs]
    rfl
  by_cases c : 0 ≤ i.toInt ∧ i.toInt < (len : Int)
  · refine qm_Rp.nx ?_ (kk c.1 c.2)
    rw [e, hk_in c.1 c.2, hv]
    rfl
  · refine qm_Rp.no ?_
    rw [e, hp_in c]
    rfl
theorem hp_bal {len : Nat} {i v : Int32} (hf : qm_fetch cd pc = some (pc, np, .baload, a, b, .null)) (hs : h.1[o]? = some (2, len)) (hv : h.2.1 o i.toInt.toNat = v) (kk : 0 ≤ i.toInt → i.toInt < (len : Int) → qm_Rp fu X cd (np, ls, .int v :: r, h) Z) : qm_Rp fu X cd (pc, ls, .int i :: .ref o :: r, h) Z := by
  have e : qm_step X cd (pc, ls, .int i :: .ref o :: r, h) = bif qm_in i len then qm_nx (np, ls, .int (h.2.1 o i.toInt.toNat) :: r, h) else none := by
    rw [hk_st (c := (pc, ls, .int i :: .ref o :: r, h)) hf]
    show (match h.1[o]? with
    | some (1, len) => bif qm_in i len then qm_nx (np, ls, .int (h.2.1 o i.toInt.toNat) :: r, h) else none
    | some (2, len) => bif qm_in i len then qm_nx (np, ls, .int (h.2.1 o i.toInt.toNat) :: r, h) else none
    | _ => none) = _
    rw [hs]
    rfl
  by_cases c : 0 ≤ i.toInt ∧ i.toInt < (len : Int)
  · refine qm_Rp.nx ?_ (kk c.1 c.2)
    rw [e, hk_in c.1 c.2, hv]
    rfl
  · refine qm_Rp.no ?_
    rw [e, hp_in c]
    rfl
theorem hp_lal {len : Nat} {i : Int32} {v : Int64} (hf : qm_fetch cd pc = some (pc, np, .laload, a, b, .null)) (hs : h.1[o]? = some (3, len)) (hv : h.2.2.1 o i.toInt.toNat = v) (kk : 0 ≤ i.toInt → i.toInt < (len : Int) → qm_Rp fu X cd (np, ls, .long v :: r, h) Z) : qm_Rp fu X cd (pc, ls, .int i :: .ref o :: r, h) Z := by
  have e : qm_step X cd (pc, ls, .int i :: .ref o :: r, h) = bif qm_in i len then qm_nx (np, ls, .long (h.2.2.1 o i.toInt.toNat) :: r, h) else none := by
    rw [hk_st (c := (pc, ls, .int i :: .ref o :: r, h)) hf]
    show (match h.1[o]? with
    | some (3, len) => bif qm_in i len then qm_nx (np, ls, .long (h.2.2.1 o i.toInt.toNat) :: r, h) else none
    | _ => none) = _
    rw [hs]
    rfl
  by_cases c : 0 ≤ i.toInt ∧ i.toInt < (len : Int)
  · refine qm_Rp.nx ?_ (kk c.1 c.2)
    rw [e, hk_in c.1 c.2, hv]
    rfl
  · refine qm_Rp.no ?_
    rw [e, hp_in c]
    rfl
theorem hp_aal {len : Nat} {o2 : Nat} {i : Int32} (hf : qm_fetch cd pc = some (pc, np, .aaload, a, b, .null)) (hs : h.1[o]? = some (4, len)) (hv : h.2.2.2 o i.toInt.toNat = some o2) (kk : 0 ≤ i.toInt → i.toInt < (len : Int) → qm_Rp fu X cd (np, ls, .ref o2 :: r, h) Z) : qm_Rp fu X cd (pc, ls, .int i :: .ref o :: r, h) Z := by
  have e : qm_step X cd (pc, ls, .int i :: .ref o :: r, h) = bif qm_in i len then qm_nx (np, ls, qm_rv (h.2.2.2 o i.toInt.toNat) :: r, h) else none := by
    rw [hk_st (c := (pc, ls, .int i :: .ref o :: r, h)) hf]
    show (match h.1[o]? with
    | some (4, len) => bif qm_in i len then qm_nx (np, ls, qm_rv (h.2.2.2 o i.toInt.toNat) :: r, h) else none
    | _ => none) = _
    rw [hs]
    rfl
  by_cases c : 0 ≤ i.toInt ∧ i.toInt < (len : Int)
  · refine qm_Rp.nx ?_ (kk c.1 c.2)
    rw [e, hk_in c.1 c.2, hv]
    rfl
  · refine qm_Rp.no ?_
    rw [e, hp_in c]
    rfl
theorem hp_ias {len : Nat} {i x : Int32} (hf : qm_fetch cd pc = some (pc, np, .iastore, a, b, .null)) (hs : h.1[o]? = some (0, len)) (kk : 0 ≤ i.toInt → i.toInt < (len : Int) → qm_Rp fu X cd (np, ls, r, (h.1, qm_up h.2.1 o i.toInt.toNat x, h.2.2.1, h.2.2.2)) Z) : qm_Rp fu X cd (pc, ls, .int x :: .int i :: .ref o :: r, h) Z := by
  have e : qm_step X cd (pc, ls, .int x :: .int i :: .ref o :: r, h) = bif qm_in i len then qm_nx (np, ls, r, (h.1, qm_up h.2.1 o i.toInt.toNat x, h.2.2.1, h.2.2.2)) else none := by
    rw [hk_st (c := (pc, ls, .int x :: .int i :: .ref o :: r, h)) hf]
    show (match h.1[o]? with
    | some (0, len) => bif qm_in i len then qm_nx (np, ls, r, (h.1, qm_up h.2.1 o i.toInt.toNat x, h.2.2.1, h.2.2.2)) else none
    | _ => none) = _
    rw [hs]
    rfl
  by_cases c : 0 ≤ i.toInt ∧ i.toInt < (len : Int)
  · refine qm_Rp.nx ?_ (kk c.1 c.2)
    rw [e, hk_in c.1 c.2]
    rfl
  · refine qm_Rp.no ?_
    rw [e, hp_in c]
    rfl
theorem hp_bas1 {len : Nat} {i x : Int32} (hf : qm_fetch cd pc = some (pc, np, .bastore, a, b, .null)) (hs : h.1[o]? = some (1, len)) (kk : 0 ≤ i.toInt → i.toInt < (len : Int) → qm_Rp fu X cd (np, ls, r, (h.1, qm_up h.2.1 o i.toInt.toNat (vp_nar .byte x), h.2.2.1, h.2.2.2)) Z) : qm_Rp fu X cd (pc, ls, .int x :: .int i :: .ref o :: r, h) Z := by
  have e : qm_step X cd (pc, ls, .int x :: .int i :: .ref o :: r, h) = bif qm_in i len then qm_nx (np, ls, r, (h.1, qm_up h.2.1 o i.toInt.toNat (vp_nar .byte x), h.2.2.1, h.2.2.2)) else none := by
    rw [hk_st (c := (pc, ls, .int x :: .int i :: .ref o :: r, h)) hf]
    show (match h.1[o]? with
    | some (1, len) => bif qm_in i len then qm_nx (np, ls, r, (h.1, qm_up h.2.1 o i.toInt.toNat (vp_nar .byte x), h.2.2.1, h.2.2.2)) else none
    | some (2, len) => bif qm_in i len then qm_nx (np, ls, r, (h.1, qm_up h.2.1 o i.toInt.toNat (vp_nar .boolean x), h.2.2.1, h.2.2.2)) else none
    | _ => none) = _
    rw [hs]
    rfl
  by_cases c : 0 ≤ i.toInt ∧ i.toInt < (len : Int)
  · refine qm_Rp.nx ?_ (kk c.1 c.2)
    rw [e, hk_in c.1 c.2]
    rfl
  · refine qm_Rp.no ?_
    rw [e, hp_in c]
    rfl
theorem hp_bas2 {len : Nat} {i x : Int32} (hf : qm_fetch cd pc = some (pc, np, .bastore, a, b, .null)) (hs : h.1[o]? = some (2, len)) (kk : 0 ≤ i.toInt → i.toInt < (len : Int) → qm_Rp fu X cd (np, ls, r, (h.1, qm_up h.2.1 o i.toInt.toNat (vp_nar .boolean x), h.2.2.1, h.2.2.2)) Z) : qm_Rp fu X cd (pc, ls, .int x :: .int i :: .ref o :: r, h) Z := by
  have e : qm_step X cd (pc, ls, .int x :: .int i :: .ref o :: r, h) = bif qm_in i len then qm_nx (np, ls, r, (h.1, qm_up h.2.1 o i.toInt.toNat (vp_nar .boolean x), h.2.2.1, h.2.2.2)) else none := by
    rw [hk_st (c := (pc, ls, .int x :: .int i :: .ref o :: r, h)) hf]
    show (match h.1[o]? with
    | some (1, len) => bif qm_in i len then qm_nx (np, ls, r, (h.1, qm_up h.2.1 o i.toInt.toNat (vp_nar .byte x), h.2.2.1, h.2.2.2)) else none
    | some (2, len) => bif qm_in i len then qm_nx (np, ls, r, (h.1, qm_up h.2.1 o i.toInt.toNat (vp_nar .boolean x), h.2.2.1, h.2.2.2)) else none
    | _ => none) = _
    rw [hs]
    rfl
  by_cases c : 0 ≤ i.toInt ∧ i.toInt < (len : Int)
  · refine qm_Rp.nx ?_ (kk c.1 c.2)
    rw [e, hk_in c.1 c.2]
    rfl
  · refine qm_Rp.no ?_
    rw [e, hp_in c]
    rfl
theorem hp_las {len : Nat} {i : Int32} {x : Int64} (hf : qm_fetch cd pc = some (pc, np, .lastore, a, b, .null)) (hs : h.1[o]? = some (3, len)) (kk : 0 ≤ i.toInt → i.toInt < (len : Int) → qm_Rp fu X cd (np, ls, r, (h.1, h.2.1, qm_up h.2.2.1 o i.toInt.toNat x, h.2.2.2)) Z) : qm_Rp fu X cd (pc, ls, .long x :: .int i :: .ref o :: r, h) Z := by
  have e : qm_step X cd (pc, ls, .long x :: .int i :: .ref o :: r, h) = bif qm_in i len && qm_w25 len (h.2.2.1 o i.toInt.toNat) then qm_nx (np, ls, r, (h.1, h.2.1, qm_up h.2.2.1 o i.toInt.toNat x, h.2.2.2)) else none := by
    rw [hk_st (c := (pc, ls, .long x :: .int i :: .ref o :: r, h)) hf]
    show (match h.1[o]? with
    | some (3, len) => bif qm_in i len && qm_w25 len (h.2.2.1 o i.toInt.toNat) then qm_nx (np, ls, r, (h.1, h.2.1, qm_up h.2.2.1 o i.toInt.toNat x, h.2.2.2)) else none
    | _ => none) = _
    rw [hs]
    rfl
  by_cases c : 0 ≤ i.toInt ∧ i.toInt < (len : Int)
  · cases w : qm_w25 len (h.2.2.1 o i.toInt.toNat) with
    | true =>
      refine qm_Rp.nx ?_ (kk c.1 c.2)
      rw [e, hk_in c.1 c.2, w]
      rfl
    | false =>
      refine qm_Rp.no ?_
      rw [e, hk_in c.1 c.2, w]
      rfl
  · refine qm_Rp.no ?_
    rw [e, hp_in c]
    rfl
theorem hp_bas {len : Nat} {i x : Int32} (hf : qm_fetch cd pc = some (pc, np, .bastore, a, b, .null)) (hs : h.1[o]? = some (2, len)) (hx : vp_nar .boolean x = x) (kk : 0 ≤ i.toInt → i.toInt < (len : Int) → qm_Rp fu X cd (np, ls, r, (h.1, qm_up h.2.1 o i.toInt.toNat x, h.2.2.1, h.2.2.2)) Z) : qm_Rp fu X cd (pc, ls, .int x :: .int i :: .ref o :: r, h) Z := hp_bas2 hf hs (by rw [hx]; exact kk)
theorem hp_len {n kd : Nat} (hf : qm_fetch cd pc = some (pc, np, .arraylength, a, b, .null)) (hs : h.1[o]? = some (kd, n)) (hq : Nat.blt kd 5 = true) (kk : qm_Rp fu X cd (np, ls, .int (Int32.ofNat n) :: r, h) Z) : qm_Rp fu X cd (pc, ls, .ref o :: r, h) Z := by
  refine qm_Rp.nx ?_ kk
  rw [hk_st (c := (pc, ls, .ref o :: r, h)) hf]
  show (match h.1[o]? with
    | some q => bif Nat.blt q.1 5 then qm_nx (np, ls, .int (Int32.ofNat q.2) :: r, h) else none
    | none => none) = _
  rw [hs]
  dsimp only
  rw [hq]
  rfl
/-- a call of a method of an object -/
theorem hp_inv {st as : List Value} {nl ci : Nat} {cd' : qm_Cd} (hf : qm_fetch cd pc = some (pc, np, .invokevirtual k, a, b, .retAddr ci)) (hd : st.drop b = .ref o :: r) (hs : h.1[o]? = some q) (hq : (Nat.beq q.1 (ci + 5) && Nat.ble (qm_cat r) 8) = true) (ha : .ref o :: (st.take b).reverse = as) (hF : qm_F a = (nl, cd')) (kk : qm_Rp fu X cd' (qm_ent nl as h) (fun v h1 => qm_Rp fu X cd (np, ls, v.toList ++ r, h1) Z)) : qm_Rp fu X cd (pc, ls, st, h) Z := by
  subst ha
  refine qm_Rp.call (j := a) (c' := (np, ls, r, h)) ?_ hF kk
  rw [hk_st (c := (pc, ls, st, h)) hf]
  show (match st.drop b with
    | .ref o :: r => match h.1[o]?, Value.retAddr ci with
      | some q, .retAddr ci => bif Nat.beq q.1 (ci + 5) && (Nat.ble (qm_cat r) 8) then qm_cl a (.ref o :: (st.take b).reverse) (np, ls, r, h) else none
      | _, _ => none
    | _ => none) = _
  rw [hd]
  dsimp only
  rw [hs]
  dsimp only
  rw [hq]
  rfl
theorem hp_rtb {x : Int32} (hf : qm_fetch cd pc = some (pc, np, .ireturn, a, b, .null)) (ha : Nat.beq a 0 = false) (kk : (x.toInt = 0 ∨ x.toInt = 1) → Z (some (.int x)) h) : qm_Rp fu X cd (pc, ls, [.int x], h) Z := by
  have e : qm_step X cd (pc, ls, [.int x], h) = bif (decide (x = 0) || decide (x = 1)) then qm_rt (some (.int x)) h else none := by
    rw [hk_st (c := (pc, ls, [.int x], h)) hf]
    show (bif Nat.beq a 0 || (decide (x = 0) || decide (x = 1)) then qm_rt (some (.int x)) h else none) = _
    rw [ha, Bool.false_or]
  cases c : (decide (x = 0) || decide (x = 1)) with
  | false => exact qm_Rp.no (by rw [e, c]; rfl)
  | true =>
    refine qm_Rp.rt (by rw [e, c]; rfl) (kk ?_)
    rw [Bool.or_eq_true, decide_eq_true_eq, decide_eq_true_eq] at c
    rcases c with c | c
    · left; rw [c]; rfl
    · right; rw [c]; rfl
theorem hp_idiv {x y : Int32} {v : Value} (hf : qm_fetch cd pc = some (pc, np, .idiv, a, b, v)) (kk : y.toInt ≠ 0 → qm_Rp fu X cd (np, ls, .int (x / y) :: r, h) Z) : qm_Rp fu X cd (pc, ls, .int y :: .int x :: r, h) Z := by
  have e : qm_step X cd (pc, ls, .int y :: .int x :: r, h) = bif decide (y = 0) then none else qm_nx (np, ls, .int (x / y) :: r, h) := by
    rw [hk_st (c := (pc, ls, .int y :: .int x :: r, h)) hf]
    rfl
  cases c : decide (y = 0) with
  | true => exact qm_Rp.no (by rw [e, c]; rfl)
  | false => exact qm_Rp.nx (by rw [e, c]; rfl) (kk (fun z => of_decide_eq_false c (hk_eqi.mpr z)))
theorem hp_irem {x y : Int32} {v : Value} (hf : qm_fetch cd pc = some (pc, np, .irem, a, b, v)) (kk : y.toInt ≠ 0 → qm_Rp fu X cd (np, ls, .int (x - x / y * y) :: r, h) Z) : qm_Rp fu X cd (pc, ls, .int y :: .int x :: r, h) Z := by
  have e : qm_step X cd (pc, ls, .int y :: .int x :: r, h) = bif decide (y = 0) then none else qm_nx (np, ls, .int (x - x / y * y) :: r, h) := by
    rw [hk_st (c := (pc, ls, .int y :: .int x :: r, h)) hf]
    rfl
  cases c : decide (y = 0) with
  | true => exact qm_Rp.no (by rw [e, c]; rfl)
  | false => exact qm_Rp.nx (by rw [e, c]; rfl) (kk (fun z => of_decide_eq_false c (hk_eqi.mpr z)))
theorem hp_off {d x : Int} : ∀ {ps : List (Int × Int)}, (∀ p ∈ ps, x ≠ p.1) → Op.lookupswitch.offset ps d x = d
  | [], _ => rfl
  | q :: ps, h => by
    obtain ⟨a, o⟩ := q
    rw [Op.lookupswitch.offset_cons]
    have h1 := h (a, o) List.mem_cons_self
    have ih := hp_off (d := d) (x := x) (ps := ps) (fun p hp => h p (List.mem_cons_of_mem _ hp))
    split
    · next e => first | exact absurd e h1 | exact absurd e.symm h1 | (exfalso; simp_all; done)
    · exact ih
theorem hp_lsd {v : Value} {d : Int} {ps : Array (Int × Int)} {x : Int32} {tg : Nat} (hf : qm_fetch cd pc = some (pc, np, .lookupswitch d ps, a, b, v)) (hx : ∀ p ∈ ps.toList, x.toInt ≠ p.1) (ht : qm_tgt pc d = tg) (kk : qm_Rp fu X cd (tg, ls, r, h) Z) : qm_Rp fu X cd (pc, ls, .int x :: r, h) Z := by
  subst ht
  refine qm_Rp.nx (c' := (qm_tgt pc d, ls, r, h)) ?_ kk
  rw [hk_st (it := (pc, np, .lookupswitch d ps, a, b, v)) hf]
  show qm_nx (qm_tgt pc (Op.lookupswitch.offset ps.toList d x.toInt), ls, r, h) = _
  rw [hp_off hx]
  rfl
theorem hp_tsd {v : Value} {d lo hi : Int} {offs : Array Int} {x : Int32} {tg : Nat} (hf : qm_fetch cd pc = some (pc, np, .tableswitch d lo hi offs, a, b, v)) (hx : x.toInt < lo ∨ hi < x.toInt) (ht : qm_tgt pc d = tg) (kk : qm_Rp fu X cd (tg, ls, r, h) Z) : qm_Rp fu X cd (pc, ls, .int x :: r, h) Z := by
  subst ht
  refine qm_Rp.nx (c' := (qm_tgt pc d, ls, r, h)) ?_ kk
  rw [hk_st (it := (pc, np, .tableswitch d lo hi offs, a, b, v)) hf]
  simp only [qm_x, hx, decide_true, cond_true, qm_nx]
theorem hp_scr {n : Nat} {xs : Nat → Int32} {i v : Int32} {j : Nat} (hf : qm_fetch cd pc = some (pc, np, .iaload, a, b, .null)) (hv : xs i.toNatClampNeg = v) (kk : 0 ≤ i.toInt → i.toInt < (n : Int) → qm_Rp fu (some (n, xs)) cd (np, ls, .int v :: r, h) Z) : qm_Rp fu (some (n, xs)) cd (pc, ls, .int i :: .retAddr j :: r, h) Z := by
  have e : qm_step (some (n, xs)) cd (pc, ls, .int i :: .retAddr j :: r, h) = bif qm_in i n then qm_nx (np, ls, .int (xs i.toNatClampNeg) :: r, h) else none := by
    rw [hk_st (c := (pc, ls, .int i :: .retAddr j :: r, h)) hf]
    rfl
  by_cases c : 0 ≤ i.toInt ∧ i.toInt < (n : Int)
  · refine qm_Rp.nx ?_ (kk c.1 c.2)
    rw [e, hk_in c.1 c.2, hv]
    rfl
  · refine qm_Rp.no ?_
    rw [e, hp_in c]
    rfl
theorem hp_clt {x y : Int32} {ix iy : Int} {off : Int} {v : Value} (hf : qm_fetch cd pc = some (pc, np, .if_icmp .lt off, a, b, v)) (ex : x.toInt = ix) (ey : y.toInt = iy) (k1 : ix < iy → qm_Rp fu X cd (a, ls, r, h) Z) (k2 : iy ≤ ix → qm_Rp fu X cd (np, ls, r, h) Z) : qm_Rp fu X cd (pc, ls, .int y :: .int x :: r, h) Z := by
  subst ex
  subst ey
  exact qm_Rp.br (b := qm_cc .lt x y) (hk_st (c := (pc, ls, .int y :: .int x :: r, h)) hf) (fun z => k1 (hk_lti.mp (of_decide_eq_true z))) (fun z => k2 (Int.not_lt.mp (fun c => of_decide_eq_false z (hk_lti.mpr c))))
theorem hp_zlt {x : Int32} {ix : Int} {off : Int} {v : Value} (hf : qm_fetch cd pc = some (pc, np, .ifCond .lt off, a, b, v)) (ex : x.toInt = ix) (k1 : ix < 0 → qm_Rp fu X cd (a, ls, r, h) Z) (k2 : 0 ≤ ix → qm_Rp fu X cd (np, ls, r, h) Z) : qm_Rp fu X cd (pc, ls, .int x :: r, h) Z := by
  subst ex
  exact qm_Rp.br (b := qm_cz .lt x) (hk_st (c := (pc, ls, .int x :: r, h)) hf) (fun z => k1 (hk_lti.mp (of_decide_eq_true z))) (fun z => k2 (Int.not_lt.mp (fun c => of_decide_eq_false z (hk_lti.mpr c))))
theorem hp_cge {x y : Int32} {ix iy : Int} {off : Int} {v : Value} (hf : qm_fetch cd pc = some (pc, np, .if_icmp .ge off, a, b, v)) (ex : x.toInt = ix) (ey : y.toInt = iy) (k1 : iy ≤ ix → qm_Rp fu X cd (a, ls, r, h) Z) (k2 : ix < iy → qm_Rp fu X cd (np, ls, r, h) Z) : qm_Rp fu X cd (pc, ls, .int y :: .int x :: r, h) Z := by
  subst ex
  subst ey
  exact qm_Rp.br (b := qm_cc .ge x y) (hk_st (c := (pc, ls, .int y :: .int x :: r, h)) hf) (fun z => k1 (hk_lei.mp (of_decide_eq_true z))) (fun z => k2 (Int.not_le.mp (fun c => of_decide_eq_false z (hk_lei.mpr c))))
theorem hp_zge {x : Int32} {ix : Int} {off : Int} {v : Value} (hf : qm_fetch cd pc = some (pc, np, .ifCond .ge off, a, b, v)) (ex : x.toInt = ix) (k1 : 0 ≤ ix → qm_Rp fu X cd (a, ls, r, h) Z) (k2 : ix < 0 → qm_Rp fu X cd (np, ls, r, h) Z) : qm_Rp fu X cd (pc, ls, .int x :: r, h) Z := by
  subst ex
  exact qm_Rp.br (b := qm_cz .ge x) (hk_st (c := (pc, ls, .int x :: r, h)) hf) (fun z => k1 (hk_lei.mp (of_decide_eq_true z))) (fun z => k2 (Int.not_le.mp (fun c => of_decide_eq_false z (hk_lei.mpr c))))
theorem hp_cgt {x y : Int32} {ix iy : Int} {off : Int} {v : Value} (hf : qm_fetch cd pc = some (pc, np, .if_icmp .gt off, a, b, v)) (ex : x.toInt = ix) (ey : y.toInt = iy) (k1 : iy < ix → qm_Rp fu X cd (a, ls, r, h) Z) (k2 : ix ≤ iy → qm_Rp fu X cd (np, ls, r, h) Z) : qm_Rp fu X cd (pc, ls, .int y :: .int x :: r, h) Z := by
  subst ex
  subst ey
  exact qm_Rp.br (b := qm_cc .gt x y) (hk_st (c := (pc, ls, .int y :: .int x :: r, h)) hf) (fun z => k1 (hk_lti.mp (of_decide_eq_true z))) (fun z => k2 (Int.not_lt.mp (fun c => of_decide_eq_false z (hk_lti.mpr c))))
theorem hp_zgt {x : Int32} {ix : Int} {off : Int} {v : Value} (hf : qm_fetch cd pc = some (pc, np, .ifCond .gt off, a, b, v)) (ex : x.toInt = ix) (k1 : 0 < ix → qm_Rp fu X cd (a, ls, r, h) Z) (k2 : ix ≤ 0 → qm_Rp fu X cd (np, ls, r, h) Z) : qm_Rp fu X cd (pc, ls, .int x :: r, h) Z := by
  subst ex
  exact qm_Rp.br (b := qm_cz .gt x) (hk_st (c := (pc, ls, .int x :: r, h)) hf) (fun z => k1 (hk_lti.mp (of_decide_eq_true z))) (fun z => k2 (Int.not_lt.mp (fun c => of_decide_eq_false z (hk_lti.mpr c))))
theorem hp_cle {x y : Int32} {ix iy : Int} {off : Int} {v : Value} (hf : qm_fetch cd pc = some (pc, np, .if_icmp .le off, a, b, v)) (ex : x.toInt = ix) (ey : y.toInt = iy) (k1 : ix ≤ iy → qm_Rp fu X cd (a, ls, r, h) Z) (k2 : iy < ix → qm_Rp fu X cd (np, ls, r, h) Z) : qm_Rp fu X cd (pc, ls, .int y :: .int x :: r, h) Z := by
  subst ex
  subst ey
  exact qm_Rp.br (b := qm_cc .le x y) (hk_st (c := (pc, ls, .int y :: .int x :: r, h)) hf) (fun z => k1 (hk_lei.mp (of_decide_eq_true z))) (fun z => k2 (Int.not_le.mp (fun c => of_decide_eq_false z (hk_lei.mpr c))))
theorem hp_zle {x : Int32} {ix : Int} {off : Int} {v : Value} (hf : qm_fetch cd pc = some (pc, np, .ifCond .le off, a, b, v)) (ex : x.toInt = ix) (k1 : ix ≤ 0 → qm_Rp fu X cd (a, ls, r, h) Z) (k2 : 0 < ix → qm_Rp fu X cd (np, ls, r, h) Z) : qm_Rp fu X cd (pc, ls, .int x :: r, h) Z := by
  subst ex
  exact qm_Rp.br (b := qm_cz .le x) (hk_st (c := (pc, ls, .int x :: r, h)) hf) (fun z => k1 (hk_lei.mp (of_decide_eq_true z))) (fun z => k2 (Int.not_le.mp (fun c => of_decide_eq_false z (hk_lei.mpr c))))
theorem hp_ceq {x y : Int32} {ix iy : Int} {off : Int} {v : Value} (hf : qm_fetch cd pc = some (pc, np, .if_icmp .eq off, a, b, v)) (ex : x.toInt = ix) (ey : y.toInt = iy) (k1 : ix = iy → qm_Rp fu X cd (a, ls, r, h) Z) (k2 : ix ≠ iy → qm_Rp fu X cd (np, ls, r, h) Z) : qm_Rp fu X cd (pc, ls, .int y :: .int x :: r, h) Z := by
  subst ex
  subst ey
  exact qm_Rp.br (b := qm_cc .eq x y) (hk_st (c := (pc, ls, .int y :: .int x :: r, h)) hf) (fun z => k1 (hk_eqi.mp (of_decide_eq_true z))) (fun z => k2 (fun c => of_decide_eq_false z (hk_eqi.mpr c)))
theorem hp_zeq {x : Int32} {ix : Int} {off : Int} {v : Value} (hf : qm_fetch cd pc = some (pc, np, .ifCond .eq off, a, b, v)) (ex : x.toInt = ix) (k1 : ix = 0 → qm_Rp fu X cd (a, ls, r, h) Z) (k2 : ix ≠ 0 → qm_Rp fu X cd (np, ls, r, h) Z) : qm_Rp fu X cd (pc, ls, .int x :: r, h) Z := by
  subst ex
  exact qm_Rp.br (b := qm_cz .eq x) (hk_st (c := (pc, ls, .int x :: r, h)) hf) (fun z => k1 (hk_eqi.mp (of_decide_eq_true z))) (fun z => k2 (fun c => of_decide_eq_false z (hk_eqi.mpr c)))
theorem hp_cne {x y : Int32} {ix iy : Int} {off : Int} {v : Value} (hf : qm_fetch cd pc = some (pc, np, .if_icmp .ne off, a, b, v)) (ex : x.toInt = ix) (ey : y.toInt = iy) (k1 : ix ≠ iy → qm_Rp fu X cd (a, ls, r, h) Z) (k2 : ix = iy → qm_Rp fu X cd (np, ls, r, h) Z) : qm_Rp fu X cd (pc, ls, .int y :: .int x :: r, h) Z := by
  subst ex
  subst ey
  exact qm_Rp.br (b := qm_cc .ne x y) (hk_st (c := (pc, ls, .int y :: .int x :: r, h)) hf) (fun z => k1 (fun c => of_decide_eq_true z (hk_eqi.mpr c))) (fun z => k2 (Classical.byContradiction (fun c => of_decide_eq_false z (fun e => c (hk_eqi.mp e)))))
theorem hp_zne {x : Int32} {ix : Int} {off : Int} {v : Value} (hf : qm_fetch cd pc = some (pc, np, .ifCond .ne off, a, b, v)) (ex : x.toInt = ix) (k1 : ix ≠ 0 → qm_Rp fu X cd (a, ls, r, h) Z) (k2 : ix = 0 → qm_Rp fu X cd (np, ls, r, h) Z) : qm_Rp fu X cd (pc, ls, .int x :: r, h) Z := by
  subst ex
  exact qm_Rp.br (b := qm_cz .ne x) (hk_st (c := (pc, ls, .int x :: r, h)) hf) (fun z => k1 (fun c => of_decide_eq_true z (hk_eqi.mpr c))) (fun z => k2 (Classical.byContradiction (fun c => of_decide_eq_false z (fun e => c (hk_eqi.mp e)))))
end HP
