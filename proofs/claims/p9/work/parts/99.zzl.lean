/-! the side that is read, and the side in force: pure -/
theorem ht_cg2 {co co' : Nat → Int} {a : Nat} : ∀ n : Nat, (∀ i, a ≤ i → i < a + n → co' i = co i) → ht co' a n = ht co a n
  | 0, _ => rfl
  | n + 1, h => by
    unfold ht
    rw [ht_cg2 n (fun i h0 hi => h i h0 (by omega)), h (a + n) (by omega) (by omega)]
theorem pf_cg2 {co ci co' ci' : Nat → Int} {a b : Nat} (h : pf_seg co ci a b) (e1 : ∀ i, a ≤ i → i < b → co' i = co i) (e2 : ∀ i, a ≤ i → i < b → ci' i = ci i) : pf_seg co' ci' a b := by
  refine ⟨h.1, h.2.1, fun n hn => ?_⟩
  rw [e1 _ (by omega) hn, e2 _ (by omega) hn, ht_cg2 n (fun i h0 hi => e1 i h0 (by omega))]
  exact h.2.2 n hn
theorem lit_cg2 {I I2 : Nat → Nat → Int32} {l : Nat} (h : lit_ok I l) (e : I2 138 l = I 138 l ∧ I2 139 l = I 139 l ∧ I2 140 l = I 140 l) (a : ∀ i : Nat, pI I 138 l ≤ (i : Int) → (i : Int) < pI I 140 l → I2 141 i = I 141 i ∧ I2 142 i = I 142 i) : lit_ok I2 l := by
  obtain ⟨⟨b1, b2, b3, b4⟩, s1, s2⟩ := h
  have e1 : pI I2 138 l = pI I 138 l := congrArg Int32.toInt e.1
  have e2 : pI I2 139 l = pI I 139 l := congrArg Int32.toInt e.2.1
  have e3 : pI I2 140 l = pI I 140 l := congrArg Int32.toInt e.2.2
  unfold lit_ok
  rw [e1, e2, e3]
  exact ⟨⟨b1, b2, b3, b4⟩, pf_cg2 s1 (fun i h0 hi => congrArg Int32.toInt (a i (by omega) (by omega)).1) (fun i h0 hi => congrArg Int32.toInt (a i (by omega) (by omega)).2), pf_cg2 s2 (fun i h0 hi => congrArg Int32.toInt (a i (by omega) (by omega)).1) (fun i h0 hi => congrArg Int32.toInt (a i (by omega) (by omega)).2)⟩
/-- a rule that was told on this side -/
noncomputable def rk (I : Nat → Nat → Int32) (r : Nat) (l0 li c0 cd : Int) : Prop := l0 ≤ pI I 133 r ∧ pI I 134 r ≤ li ∧ ru I (pI I 133 r) (pI I 134 r) c0 cd
noncomputable def rs (I : Nat → Nat → Int32) (sd : Nat) (p1 p2 l0 li c0 cd : Int) : Prop := (∀ j : Nat, (j : Int) < p1 → rk I (16 * sd + j) l0 li c0 cd) ∧ (∀ j : Nat, (j : Int) < p2 → rk I (16 * sd + 8 + j) l0 li c0 cd)
theorem rk_keep {I I2 : Nat → Nat → Int32} {r : Nat} {l0 la li c0 ca cd hi : Int} (h : rk I r l0 la c0 ca) (a : pa I I2 ca hi) (p : pl I I2 la li) (e1 : I2 133 r = I 133 r) (e2 : I2 134 r = I 134 r) (hl : la ≤ li ∧ ca ≤ cd) : rk I2 r l0 li c0 cd := by
  obtain ⟨h1, h2, h3⟩ := h
  have f1 : pI I2 133 r = pI I 133 r := congrArg Int32.toInt e1
  have f2 : pI I2 134 r = pI I 134 r := congrArg Int32.toInt e2
  unfold rk
  rw [f1, f2]
  refine ⟨h1, by omega, fun l g1 g2 => ?_⟩
  obtain ⟨k1, k2, k3⟩ := h3 l g1 g2
  obtain ⟨n1, n2, n3⟩ := p l (Or.inl (by omega))
  have m1 : pI I2 138 l = pI I 138 l := congrArg Int32.toInt n1
  have m3 : pI I2 140 l = pI I 140 l := congrArg Int32.toInt n3
  exact ⟨lit_cg k1 ⟨n1, n2, n3⟩ (fun i hi => a i (Or.inl (by omega))), by omega, by omega⟩
/-- only this side's cells were written -/
noncomputable def td (sd : Nat) (I0 I : Nat → Nat → Int32) : Prop := pa I0 I (420 * (sd : Int)) (420 * (sd : Int) + 420) ∧ (∀ i : Nat, i < 150 * sd ∨ 150 * sd + 150 ≤ i → I 138 i = I0 138 i ∧ I 139 i = I0 139 i ∧ I 140 i = I0 140 i) ∧ (∀ i : Nat, i < 16 * sd ∨ 16 * sd + 16 ≤ i → I 133 i = I0 133 i ∧ I 134 i = I0 134 i) ∧ (∀ i : Nat, i ≠ sd → I 131 i = I0 131 i ∧ I 132 i = I0 132 i)
theorem td_refl {sd : Nat} {I : Nat → Nat → Int32} : td sd I I := ⟨fun _ _ => ⟨rfl, rfl⟩, fun _ _ => ⟨rfl, rfl, rfl⟩, fun _ _ => ⟨rfl, rfl⟩, fun _ _ => ⟨rfl, rfl⟩⟩
theorem td_tr {sd : Nat} {I0 I1 I2 : Nat → Nat → Int32} (h : td sd I0 I1) (g : td sd I1 I2) : td sd I0 I2 :=
  ⟨fun i hi => ⟨(g.1 i hi).1.trans (h.1 i hi).1, (g.1 i hi).2.trans (h.1 i hi).2⟩, fun i hi => ⟨(g.2.1 i hi).1.trans (h.2.1 i hi).1, (g.2.1 i hi).2.1.trans (h.2.1 i hi).2.1, (g.2.1 i hi).2.2.trans (h.2.1 i hi).2.2⟩, fun i hi => ⟨(g.2.2.1 i hi).1.trans (h.2.2.1 i hi).1, (g.2.2.1 i hi).2.trans (h.2.2.1 i hi).2⟩, fun i hi => ⟨(g.2.2.2 i hi).1.trans (h.2.2.2 i hi).1, (g.2.2.2 i hi).2.trans (h.2.2.2 i hi).2⟩⟩
theorem td_eq {sd : Nat} {I0 I : Nat → Nat → Int32} (e : ∀ o ∈ [131, 132, 133, 134, 138, 139, 140, 141, 142], ∀ i, I o i = I0 o i) : td sd I0 I := ⟨fun i _ => ⟨e 141 (by decide) i, e 142 (by decide) i⟩, fun i _ => ⟨e 138 (by decide) i, e 139 (by decide) i, e 140 (by decide) i⟩, fun i _ => ⟨e 133 (by decide) i, e 134 (by decide) i⟩, fun i _ => ⟨e 131 (by decide) i, e 132 (by decide) i⟩⟩
/-- the side in force stays well told -/
theorem sp_live {I0 I : Nat → Nat → Int32} {sd lv : Nat} (h : s_P I0) (t : td sd I0 I) (q0 : (I0 118 18).toInt.toNat = lv) (q : I 118 18 = I0 118 18) (hs : sd ≤ 1) (hl : lv = 1 - sd) (hb : pI I0 131 lv ≤ 8 ∧ pI I0 132 lv ≤ 8) : s_P I := by
  obtain ⟨t1, t2, t3, t4⟩ := t
  have e1 : pI I 131 lv = pI I0 131 lv := congrArg Int32.toInt (t4 lv (by omega)).1
  have e2 : pI I 132 lv = pI I0 132 lv := congrArg Int32.toInt (t4 lv (by omega)).2
  unfold s_P at h ⊢
  rw [q, q0, e1, e2]
  rw [q0] at h
  have key : ∀ r : Nat, 16 * lv ≤ r → r < 16 * lv + 16 → rule_ok I0 r → rule_ok I r := by
    intro r r1 r2 hr l g1 g2
    obtain ⟨u1, u2⟩ := t3 r (by omega)
    have f1 : pI I 133 r = pI I0 133 r := congrArg Int32.toInt u1
    have f2 : pI I 134 r = pI I0 134 r := congrArg Int32.toInt u2
    obtain ⟨k1, k2, k3⟩ := hr l (by omega) (by omega)
    obtain ⟨n1, n2, n3⟩ := t2 l (by
      by_cases z : r < 16
      · have := (k2 z).1; omega
      · have := (k3 (by omega)).1; omega)
    have m1 : pI I 138 l = pI I0 138 l := congrArg Int32.toInt n1
    have m3 : pI I 140 l = pI I0 140 l := congrArg Int32.toInt n3
    refine ⟨lit_cg2 k1 ⟨n1, n2, n3⟩ (fun i i1 i2 => t1 i ?_), fun z => ?_, fun z => ?_⟩
    · by_cases z : r < 16
      · have := (k2 z).2; omega
      · have := (k3 (by omega)).2; omega
    · have := k2 z
      omega
    · have := k3 z
      omega
  intro j
  obtain ⟨a1, a2⟩ := h j
  exact ⟨fun z => key _ (by omega) (by omega) (a1 z), fun z => key _ (by omega) (by omega) (a2 z)⟩
/-- the side that was read is well told -/
theorem sp_new {I : Nat → Nat → Int32} {sd : Nat} {p1 p2 l0 li c0 cd : Int} (h : rs I sd p1 p2 l0 li c0 cd) (q : (I 118 18).toInt.toNat = sd) (q1 : pI I 131 sd = p1) (q2 : pI I 132 sd = p2) (hp : p1 ≤ 8 ∧ p2 ≤ 8) (hs : sd ≤ 1) (hl : l0 = 150 * (sd : Int) ∧ c0 = 420 * (sd : Int) ∧ li ≤ l0 + 150 ∧ cd ≤ c0 + 420) : s_P I := by
  have key : ∀ r : Nat, 16 * sd ≤ r → r < 16 * sd + 16 → rk I r l0 li c0 cd → rule_ok I r := by
    intro r r1 r2 hr l g1 g2
    obtain ⟨h1, h2, h3⟩ := hr
    obtain ⟨k1, k2, k3⟩ := h3 l g1 g2
    exact ⟨k1, fun z => by omega, fun z => by omega⟩
  unfold s_P
  rw [q, q1, q2]
  intro j
  exact ⟨fun z => key _ (by omega) (by omega) (h.1 j z), fun z => key _ (by omega) (by omega) (h.2 j z)⟩
