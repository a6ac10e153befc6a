/-! stacks as they are dug: pure -/
/-- x lies in stack s -/
noncomputable def con (f : Nat → Int) (s : Nat) (x : Int) : Prop := ∃ i : Nat, i < 4 ∧ (i : Int) < f (16 + s) ∧ f (4 * s + i) = x
noncomputable def lev_H (f : Nat → Int) : Prop := ∀ s : Nat, s < 4 → 0 ≤ f (16 + s) ∧ f (16 + s) ≤ 4
/-- heights; whoever isn't served lies in a stack -/
noncomputable def lev (f qd : Nat → Int) (sv qn : Int) : Prop := lev_H f ∧ ∀ q : Nat, sv ≤ (q : Int) → (q : Int) < qn → ∃ s : Nat, s < 4 ∧ con f s (qd q)
noncomputable def qdis (qd : Nat → Int) (qn : Int) : Prop := ∀ i j : Nat, i < j → (j : Int) < qn → qd i ≠ qd j
section LEV
variable {f qd : Nat → Int} {sv qn : Int}
theorem con_pop {s : Nat} {x h : Int} (hs : s < 4) (e : f (16 + s) = h) (h4 : h ≤ 4) (hx : f (4 * s + (h - 1).toNat) ≠ x) {s' : Nat} (hs' : s' < 4) (hc : con f s' x) : con (fu_up f (16 + s) (h - 1)) s' x := by
  obtain ⟨i, i4, i1, i2⟩ := hc
  refine ⟨i, i4, ?_, ?_⟩
  · by_cases c : s' = s
    · subst c
      rw [fu_eq]
      have : (i : Int) ≠ h - 1 := fun e2 => hx (by rw [show (h - 1).toNat = i by omega]; exact i2)
      omega
    · rw [fu_ne (by omega)]
      exact i1
  · rw [fu_ne (by omega)]
    exact i2
theorem lev_pop {s : Nat} {h : Int} {b : Nat} (hl : lev f qd sv qn) (hd : qdis qd qn) (hs : s < 4) (e : f (16 + s) = h) (h1 : 1 ≤ h) (h4 : h ≤ 4) (hb : (b : Int) = sv) (ht : f (4 * s + (h - 1).toNat) = qd b) : lev (fu_up f (16 + s) (h - 1)) qd (sv + 1) qn := by
  refine ⟨fun t ht' => ?_, fun q hq hn => ?_⟩
  · by_cases c : t = s
    · subst c
      rw [fu_eq]
      omega
    · rw [fu_ne (by omega)]
      exact hl.1 t ht'
  · obtain ⟨t, t4, tc⟩ := hl.2 q (by omega) hn
    refine ⟨t, t4, con_pop hs e h4 ?_ t4 tc⟩
    rw [ht]
    exact hd b q (by omega) hn
/-- the top of one stack comes to another -/
noncomputable def dg (f : Nat → Int) (a t : Nat) (ha hb m : Int) : Nat → Int := fu_up (fu_up (fu_up f (16 + a) (ha - 1)) (4 * t + hb.toNat) m) (16 + t) (hb + 1)
theorem con_dig {a t : Nat} {ha hb m x : Int} (h4 : a < 4) (t4 : t < 4) (ne : a ≠ t) (ea : f (16 + a) = ha) (eb : f (16 + t) = hb) (b0 : 0 ≤ hb) (b3 : hb ≤ 3) (a4 : ha ≤ 4) (em : f (4 * a + (ha - 1).toNat) = m) {s : Nat} (s4 : s < 4) (hc : con f s x) : con (dg f a t ha hb m) s x ∨ (x = m ∧ con (dg f a t ha hb m) t x) := by
  by_cases c : x = m
  · refine Or.inr ⟨c, hb.toNat, by omega, ?_, ?_⟩
    · unfold dg
      rw [fu_eq]
      omega
    · unfold dg
      rw [fu_ne (by omega), fu_eq]
      exact c.symm
  · refine Or.inl ?_
    obtain ⟨i, i4, i1, i2⟩ := con_pop (f := f) (s := a) (x := x) h4 ea a4 (by rw [em]; exact fun e => c e.symm) s4 hc
    refine ⟨i, i4, ?_, ?_⟩
    · unfold dg
      by_cases e : s = t
      · subst e
        rw [fu_eq]
        rw [fu_ne (by omega), eb] at i1
        omega
      · rw [fu_ne (by omega), fu_ne (by omega)]
        exact i1
    · unfold dg
      rw [fu_ne (by omega)]
      by_cases e : 4 * s + i = 4 * t + hb.toNat
      · exfalso
        have e1 : s = t := by omega
        subst e1
        rw [fu_ne (by omega), eb] at i1
        omega
      · rw [fu_ne e]
        exact i2
theorem lev_dig {a t : Nat} {ha hb m : Int} (hl : lev f qd sv qn) (h4 : a < 4) (t4 : t < 4) (ne : a ≠ t) (ea : f (16 + a) = ha) (eb : f (16 + t) = hb) (a1 : 1 ≤ ha) (b3 : hb ≤ 3) (em : f (4 * a + (ha - 1).toNat) = m) : lev (dg f a t ha hb m) qd sv qn := by
  have ha' := hl.1 a h4
  have hb' := hl.1 t t4
  rw [ea] at ha'
  rw [eb] at hb'
  refine ⟨fun s s4 => ?_, fun q hq hn => ?_⟩
  · have hs := hl.1 s s4
    unfold dg
    by_cases e : s = t
    · subst e
      rw [fu_eq]
      omega
    · rw [fu_ne (by omega), fu_ne (by omega)]
      by_cases e2 : s = a
      · subst e2
        rw [fu_eq]
        omega
      · rw [fu_ne (by omega)]
        exact hs
  · obtain ⟨s, s4, sc⟩ := hl.2 q hq hn
    rcases con_dig h4 t4 ne ea eb hb'.1 b3 ha'.2 em s4 sc with c | ⟨_, c⟩
    · exact ⟨s, s4, c⟩
    · exact ⟨t, t4, c⟩
/-- who isn't moved lies where he lay, and nowhere else -/
theorem con_back {a t : Nat} {ha hb m x : Int} (h4 : a < 4) (t4 : t < 4) (ne : a ≠ t) (ea : f (16 + a) = ha) (eb : f (16 + t) = hb) (b0 : 0 ≤ hb) (b3 : hb ≤ 3) (hx : x ≠ m) {s : Nat} (s4 : s < 4) (hc : con (dg f a t ha hb m) s x) : con f s x := by
  obtain ⟨i, i4, i1, i2⟩ := hc
  unfold dg at i1 i2
  rw [fu_ne (by omega)] at i2
  have n1 : 4 * s + i ≠ 4 * t + hb.toNat := fun e => by
    rw [e, fu_eq] at i2
    exact hx i2.symm
  rw [fu_ne n1, fu_ne (by omega)] at i2
  refine ⟨i, i4, ?_, i2⟩
  by_cases e : s = t
  · subst e
    rw [fu_eq] at i1
    have : (i : Int) ≠ hb := fun e => n1 (by omega)
    omega
  · rw [fu_ne (by omega), fu_ne (by omega)] at i1
    by_cases e2 : s = a
    · subst e2
      rw [fu_eq] at i1
      omega
    · rw [fu_ne (by omega)] at i1
      exact i1
end LEV
