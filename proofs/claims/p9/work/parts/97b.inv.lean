/-! what holds of boxes, ship and yard: pure -/
noncomputable def fu_up (f : Nat → Int) (k : Nat) (v : Int) : Nat → Int := fun i => if i = k then v else f i
theorem fu_eq {f : Nat → Int} {k : Nat} {v : Int} : fu_up f k v k = v := if_pos rfl
theorem fu_ne {f : Nat → Int} {k i : Nat} {v : Int} (h : i ≠ k) : fu_up f k v i = f i := if_neg h
/-- class: where, bay, row, tier of boxes; the ship's cells; the yard's cells and heights; how many boxes -/
noncomputable def sf_A (w y r t c : Nat → Int) : Prop := ∀ k : Nat, k < 80 → 0 ≤ c k → w (c k).toNat = 1 ∧ 16 * y (c k).toNat + 4 * r (c k).toNat + t (c k).toNat = (k : Int)
noncomputable def sf_C (w y t yc hi : Nat → Int) : Prop := ∀ s i : Nat, s < 4 → i < 4 → (i : Int) < hi s → w (yc (4 * s + i)).toNat = 2 ∧ y (yc (4 * s + i)).toNat = (s : Int) ∧ t (yc (4 * s + i)).toNat = (i : Int)
noncomputable def sf_D (w : Nat → Int) (n : Int) : Prop := ∀ b : Nat, w b ≠ 0 → (b : Int) < n
noncomputable def sf_R (w y r t : Nat → Int) : Prop := ∀ b : Nat, (w b = 1 → (0 ≤ y b ∧ y b ≤ 4) ∧ (0 ≤ r b ∧ r b ≤ 3) ∧ (0 ≤ t b ∧ t b ≤ 3)) ∧ (w b = 2 → (0 ≤ y b ∧ y b ≤ 3) ∧ (0 ≤ t b ∧ t b ≤ 3))
noncomputable def sf (w y r t c yc hi : Nat → Int) (n : Int) : Prop := sf_A w y r t c ∧ sf_C w y t yc hi ∧ sf_D w n ∧ sf_R w y r t
section SF
variable {w y r t c yc hi : Nat → Int} {n : Int}
theorem sf_make {b : Nat} {v1 v2 v3 : Int} (h : sf w y r t c yc hi n) (hb : (b : Int) = n) : sf (fu_up w b 0) (fu_up y b v1) (fu_up r b v2) (fu_up t b v3) c yc hi (n + 1) := by
  obtain ⟨hA, hC, hD, hR⟩ := h
  have w0 : w b = 0 := by
    apply Classical.byContradiction
    intro hc
    have := hD b hc
    omega
  refine ⟨fun k hk h0 => ?_, fun s i hs hi h0 => ?_, fun x hx => ?_, fun x => ?_⟩
  · have := hA k hk h0
    have ne : (c k).toNat ≠ b := fun e => by rw [e] at this; omega
    rw [fu_ne ne, fu_ne ne, fu_ne ne, fu_ne ne]
    exact this
  · have := hC s i hs hi h0
    have ne : (yc (4 * s + i)).toNat ≠ b := fun e => by rw [e] at this; omega
    rw [fu_ne ne, fu_ne ne, fu_ne ne]
    exact this
  · by_cases e : x = b
    · subst e
      omega
    · rw [fu_ne e] at hx
      have := hD x hx
      omega
  · by_cases e : x = b
    · subst e
      rw [fu_eq]
      exact ⟨fun h => by omega, fun h => by omega⟩
    · rw [fu_ne e, fu_ne e, fu_ne e, fu_ne e]
      exact hR x
theorem sf_yput {b s : Nat} {v : Int} (h : sf w y r t c yc hi n) (hw : w b = 0) (hs : s < 4) (h0 : 0 ≤ hi s) (h4 : hi s ≤ 3) (hn : (b : Int) < n) : sf (fu_up w b 2) (fu_up y b s) (fu_up r b v) (fu_up t b (hi s)) c (fu_up yc (4 * s + (hi s).toNat) b) (fu_up hi s (hi s + 1)) n := by
  obtain ⟨hA, hC, hD, hR⟩ := h
  refine ⟨fun k hk g0 => ?_, fun s' i hs' hi' g0 => ?_, fun x hx => ?_, fun x => ?_⟩
  · have := hA k hk g0
    have ne : (c k).toNat ≠ b := fun e => by rw [e] at this; omega
    rw [fu_ne ne, fu_ne ne, fu_ne ne, fu_ne ne]
    exact this
  · by_cases e : s' = s
    · subst e
      rw [fu_eq] at g0
      by_cases e2 : (i : Int) = hi s'
      · have e3 : 4 * s' + i = 4 * s' + (hi s').toNat := by omega
        rw [e3, fu_eq, show ((b : Int)).toNat = b from Int.toNat_natCast b, fu_eq, fu_eq, fu_eq]
        exact ⟨rfl, rfl, e2.symm⟩
      · have := hC s' i hs' hi' (by omega)
        rw [fu_ne (f := yc) (show 4 * s' + i ≠ 4 * s' + (hi s').toNat by omega)]
        have ne : (yc (4 * s' + i)).toNat ≠ b := fun e => by rw [e] at this; omega
        rw [fu_ne ne, fu_ne ne, fu_ne ne]
        exact this
    · rw [fu_ne e] at g0
      have := hC s' i hs' hi' g0
      rw [fu_ne (f := yc) (show 4 * s' + i ≠ 4 * s + (hi s).toNat by omega)]
      have ne : (yc (4 * s' + i)).toNat ≠ b := fun e => by rw [e] at this; omega
      rw [fu_ne ne, fu_ne ne, fu_ne ne]
      exact this
  · by_cases e : x = b
    · subst e
      exact hn
    · rw [fu_ne e] at hx
      exact hD x hx
  · by_cases e : x = b
    · subst e
      rw [fu_eq, fu_eq, fu_eq, fu_eq]
      exact ⟨fun h => by omega, fun h => by omega⟩
    · rw [fu_ne e, fu_ne e, fu_ne e, fu_ne e]
      exact hR x
theorem sf_take {s b : Nat} {v1 v2 v3 : Int} (h : sf w y r t c yc hi n) (hs : s < 4) (h1 : 1 ≤ hi s) (h4 : hi s ≤ 4) (hb : b = (yc (4 * s + ((hi s).toNat - 1))).toNat) : sf (fu_up w b 0) (fu_up y b v1) (fu_up r b v2) (fu_up t b v3) c yc (fu_up hi s (hi s - 1)) n ∧ w b = 2 := by
  obtain ⟨hA, hC, hD, hR⟩ := h
  have top := hC s ((hi s).toNat - 1) hs (by omega) (by omega)
  rw [← hb] at top
  refine ⟨⟨fun k hk g0 => ?_, fun s' i hs' hi' g0 => ?_, fun x hx => ?_, fun x => ?_⟩, top.1⟩
  · have := hA k hk g0
    have ne : (c k).toNat ≠ b := fun e => by rw [e] at this; omega
    rw [fu_ne ne, fu_ne ne, fu_ne ne, fu_ne ne]
    exact this
  · have g1 : (i : Int) < hi s' := by
      by_cases e : s' = s
      · subst e
        rw [fu_eq] at g0
        omega
      · rw [fu_ne e] at g0
        exact g0
    have := hC s' i hs' hi' g1
    have ne : (yc (4 * s' + i)).toNat ≠ b := fun e => by
      rw [e] at this
      have e1 : s' = s := by omega
      subst e1
      rw [fu_eq] at g0
      omega
    rw [fu_ne ne, fu_ne ne, fu_ne ne]
    exact this
  · by_cases e : x = b
    · subst e
      rw [fu_eq] at hx
      exact absurd rfl hx
    · rw [fu_ne e] at hx
      exact hD x hx
  · by_cases e : x = b
    · subst e
      rw [fu_eq]
      exact ⟨fun h => by omega, fun h => by omega⟩
    · rw [fu_ne e, fu_ne e, fu_ne e, fu_ne e]
      exact hR x
theorem sf_put {b k : Nat} {y1 r1 t1 : Int} (h : sf w y r t c yc hi n) (hw : w b = 0) (hk : 16 * y1 + 4 * r1 + t1 = (k : Int)) (hy : 0 ≤ y1 ∧ y1 ≤ 4) (hr : 0 ≤ r1 ∧ r1 ≤ 3) (ht : 0 ≤ t1 ∧ t1 ≤ 3) (hn : (b : Int) < n) : sf (fu_up w b 1) (fu_up y b y1) (fu_up r b r1) (fu_up t b t1) (fu_up c k b) yc hi n := by
  obtain ⟨hA, hC, hD, hR⟩ := h
  refine ⟨fun k' hk' g0 => ?_, fun s' i hs' hi' g0 => ?_, fun x hx => ?_, fun x => ?_⟩
  · by_cases e : k' = k
    · subst e
      rw [fu_eq, show ((b : Int)).toNat = b from Int.toNat_natCast b, fu_eq, fu_eq, fu_eq, fu_eq]
      exact ⟨rfl, hk⟩
    · rw [fu_ne (f := c) e] at g0 ⊢
      have := hA k' hk' g0
      have ne : (c k').toNat ≠ b := fun e => by rw [e] at this; omega
      rw [fu_ne ne, fu_ne ne, fu_ne ne, fu_ne ne]
      exact this
  · have := hC s' i hs' hi' g0
    have ne : (yc (4 * s' + i)).toNat ≠ b := fun e => by rw [e] at this; omega
    rw [fu_ne ne, fu_ne ne, fu_ne ne]
    exact this
  · by_cases e : x = b
    · subst e
      exact hn
    · rw [fu_ne e] at hx
      exact hD x hx
  · by_cases e : x = b
    · subst e
      rw [fu_eq, fu_eq, fu_eq, fu_eq]
      exact ⟨fun _ => ⟨hy, hr, ht⟩, fun h => by omega⟩
    · rw [fu_ne e, fu_ne e, fu_ne e, fu_ne e]
      exact hR x
theorem sf_rem {b k : Nat} {v1 v2 v3 : Int} (h : sf w y r t c yc hi n) (hw : w b = 1) (hk : 16 * y b + 4 * r b + t b = (k : Int)) : sf (fu_up w b 0) (fu_up y b v1) (fu_up r b v2) (fu_up t b v3) (fu_up c k (-1)) yc hi n := by
  obtain ⟨hA, hC, hD, hR⟩ := h
  refine ⟨fun k' hk' g0 => ?_, fun s' i hs' hi' g0 => ?_, fun x hx => ?_, fun x => ?_⟩
  · by_cases e : k' = k
    · subst e
      rw [fu_eq] at g0
      omega
    · rw [fu_ne (f := c) e] at g0 ⊢
      have := hA k' hk' g0
      have ne : (c k').toNat ≠ b := fun e => by rw [e] at this; omega
      rw [fu_ne ne, fu_ne ne, fu_ne ne, fu_ne ne]
      exact this
  · have := hC s' i hs' hi' g0
    have ne : (yc (4 * s' + i)).toNat ≠ b := fun e => by rw [e] at this; omega
    rw [fu_ne ne, fu_ne ne, fu_ne ne]
    exact this
  · by_cases e : x = b
    · subst e
      rw [fu_eq] at hx
      exact absurd rfl hx
    · rw [fu_ne e] at hx
      exact hD x hx
  · by_cases e : x = b
    · subst e
      rw [fu_eq]
      exact ⟨fun h => by omega, fun h => by omega⟩
    · rw [fu_ne e, fu_ne e, fu_ne e, fu_ne e]
      exact hR x
end SF
/-- a box above has one below -/
noncomputable def sf_B (c : Nat → Int) : Prop := ∀ q : Nat, q < 40 → 0 ≤ c (2 * q + 1) → 0 ≤ c (2 * q)
/-! the reference's: where, spot; places of the ship; the yard's cells and heights; how many boxes -/
noncomputable def sr_A (w s c : Nat → Int) : Prop := ∀ k : Nat, k < 80 → 0 ≤ c k → w (c k).toNat = 1 ∧ s (c k).toNat = (k : Int)
noncomputable def sr_C (w s yc hi : Nat → Int) : Prop := ∀ g i : Nat, g < 4 → i < 4 → (i : Int) < hi g → w (yc (4 * g + i)).toNat = 2 ∧ s (yc (4 * g + i)).toNat = 4 * (g : Int) + (i : Int)
noncomputable def sr_E (w s yc hi : Nat → Int) : Prop := ∀ b : Nat, w b = 2 → ∃ g i : Nat, g < 4 ∧ i < 4 ∧ s b = 4 * (g : Int) + (i : Int) ∧ (i : Int) < hi g ∧ yc (4 * g + i) = (b : Int)
noncomputable def sr (w s c yc hi : Nat → Int) (n : Int) : Prop := sr_A w s c ∧ sr_C w s yc hi ∧ sr_E w s yc hi ∧ sf_D w n
section SR
variable {w s c yc hi : Nat → Int} {n : Int}
theorem sr_box {b : Nat} (h : sr w s c yc hi n) (hb : (b : Int) = n) : sr (fu_up w b 0) s c yc hi (n + 1) := by
  obtain ⟨hA, hC, hE, hD⟩ := h
  have w0 : w b = 0 := by
    apply Classical.byContradiction
    intro hc
    have := hD b hc
    omega
  have e : fu_up w b 0 = w := funext fun i => by
    by_cases e : i = b
    · subst e
      rw [fu_eq, w0]
    · rw [fu_ne e]
  rw [e]
  exact ⟨hA, hC, hE, fun x hx => by have := hD x hx; omega⟩
theorem sr_puts {b g : Nat} (h : sr w s c yc hi n) (hw : w b = 0) (hg : g < 4) (h0 : 0 ≤ hi g) (h4 : hi g ≤ 3) (hn : (b : Int) < n) : sr (fu_up w b 2) (fu_up s b (4 * (g : Int) + hi g)) c (fu_up yc (4 * g + (hi g).toNat) b) (fu_up hi g (hi g + 1)) n := by
  obtain ⟨hA, hC, hE, hD⟩ := h
  refine ⟨fun k hk g0 => ?_, fun s' i hs' hi' g0 => ?_, fun x hx => ?_, fun x hx => ?_⟩
  · have := hA k hk g0
    have ne : (c k).toNat ≠ b := fun e => by rw [e] at this; omega
    rw [fu_ne ne, fu_ne ne]
    exact this
  · by_cases e : s' = g
    · subst e
      rw [fu_eq] at g0
      by_cases e2 : (i : Int) = hi s'
      · have e3 : 4 * s' + i = 4 * s' + (hi s').toNat := by omega
        rw [e3, fu_eq, show ((b : Int)).toNat = b from Int.toNat_natCast b, fu_eq, fu_eq]
        exact ⟨rfl, by omega⟩
      · have := hC s' i hs' hi' (by omega)
        rw [fu_ne (f := yc) (show 4 * s' + i ≠ 4 * s' + (hi s').toNat by omega)]
        have ne : (yc (4 * s' + i)).toNat ≠ b := fun e => by rw [e] at this; omega
        rw [fu_ne ne, fu_ne ne]
        exact this
    · rw [fu_ne e] at g0
      have := hC s' i hs' hi' g0
      rw [fu_ne (f := yc) (show 4 * s' + i ≠ 4 * g + (hi g).toNat by omega)]
      have ne : (yc (4 * s' + i)).toNat ≠ b := fun e => by rw [e] at this; omega
      rw [fu_ne ne, fu_ne ne]
      exact this
  · by_cases e : x = b
    · subst e
      refine ⟨g, (hi g).toNat, hg, by omega, by rw [fu_eq]; omega, by rw [fu_eq]; omega, ?_⟩
      rw [fu_eq]
    · rw [fu_ne e] at hx
      obtain ⟨g', i', q1, q2, q3, q4, q5⟩ := hE x hx
      refine ⟨g', i', q1, q2, by rw [fu_ne e]; exact q3, ?_, ?_⟩
      · by_cases e2 : g' = g
        · subst e2
          rw [fu_eq]
          omega
        · rw [fu_ne e2]
          exact q4
      · rw [fu_ne]
        · exact q5
        · intro e3
          have e4 : g' = g := by omega
          subst e4
          omega
  · by_cases e : x = b
    · subst e
      exact hn
    · rw [fu_ne e] at hx
      exact hD x hx
theorem sr_take {g b : Nat} (h : sr w s c yc hi n) (hg : g < 4) (h1 : 1 ≤ hi g) (h4 : hi g ≤ 4) (hw : w b = 2) (hb : s b = 4 * (g : Int) + (hi g - 1)) : sr (fu_up w b 0) s c yc (fu_up hi g (hi g - 1)) n := by
  obtain ⟨hA, hC, hE, hD⟩ := h
  refine ⟨fun k hk g0 => ?_, fun s' i hs' hi' g0 => ?_, fun x hx => ?_, fun x hx => ?_⟩
  · have := hA k hk g0
    have ne : (c k).toNat ≠ b := fun e => by rw [e] at this; omega
    rw [fu_ne ne]
    exact this
  · have g1 : (i : Int) < hi s' := by
      by_cases e : s' = g
      · subst e
        rw [fu_eq] at g0
        omega
      · rw [fu_ne e] at g0
        exact g0
    have := hC s' i hs' hi' g1
    have ne : (yc (4 * s' + i)).toNat ≠ b := fun e => by
      rw [e] at this
      have e1 : s' = g := by omega
      subst e1
      rw [fu_eq] at g0
      omega
    rw [fu_ne ne]
    exact this
  · by_cases e : x = b
    · subst e
      rw [fu_eq] at hx
      omega
    · rw [fu_ne e] at hx
      obtain ⟨g', i', q1, q2, q3, q4, q5⟩ := hE x hx
      refine ⟨g', i', q1, q2, q3, ?_, q5⟩
      by_cases e2 : g' = g
      · subst e2
        rw [fu_eq]
        obtain ⟨g2, i2, p1, p2, p3, p4, p5⟩ := hE b hw
        have e5 : g2 = g' := by omega
        subst e5
        have : i' ≠ i2 := fun e6 => by
          subst e6
          rw [p5] at q5
          omega
        omega
      · rw [fu_ne e2]
        exact q4
  · by_cases e : x = b
    · subst e
      rw [fu_eq] at hx
      exact absurd rfl hx
    · rw [fu_ne e] at hx
      exact hD x hx
theorem sr_boards {b k : Nat} (h : sr w s c yc hi n) (hw : w b = 0) (hn : (b : Int) < n) : sr (fu_up w b 1) (fu_up s b k) (fu_up c k b) yc hi n := by
  obtain ⟨hA, hC, hE, hD⟩ := h
  refine ⟨fun k' hk' g0 => ?_, fun s' i hs' hi' g0 => ?_, fun x hx => ?_, fun x hx => ?_⟩
  · by_cases e : k' = k
    · subst e
      rw [fu_eq, show ((b : Int)).toNat = b from Int.toNat_natCast b, fu_eq, fu_eq]
      exact ⟨rfl, rfl⟩
    · rw [fu_ne (f := c) e] at g0 ⊢
      have := hA k' hk' g0
      have ne : (c k').toNat ≠ b := fun e => by rw [e] at this; omega
      rw [fu_ne ne, fu_ne ne]
      exact this
  · have := hC s' i hs' hi' g0
    have ne : (yc (4 * s' + i)).toNat ≠ b := fun e => by rw [e] at this; omega
    rw [fu_ne ne, fu_ne ne]
    exact this
  · by_cases e : x = b
    · subst e
      rw [fu_eq] at hx
      omega
    · rw [fu_ne e] at hx
      obtain ⟨g', i', q1, q2, q3, q4, q5⟩ := hE x hx
      exact ⟨g', i', q1, q2, by rw [fu_ne e]; exact q3, q4, q5⟩
  · by_cases e : x = b
    · subst e
      exact hn
    · rw [fu_ne e] at hx
      exact hD x hx
theorem sr_away {b k : Nat} (h : sr w s c yc hi n) (hw : w b = 1) (hk : s b = (k : Int)) : sr (fu_up w b 0) s (fu_up c k (-1)) yc hi n := by
  obtain ⟨hA, hC, hE, hD⟩ := h
  refine ⟨fun k' hk' g0 => ?_, fun s' i hs' hi' g0 => ?_, fun x hx => ?_, fun x hx => ?_⟩
  · by_cases e : k' = k
    · subst e
      rw [fu_eq] at g0
      omega
    · rw [fu_ne (f := c) e] at g0 ⊢
      have := hA k' hk' g0
      have ne : (c k').toNat ≠ b := fun e => by rw [e] at this; omega
      rw [fu_ne ne]
      exact this
  · have := hC s' i hs' hi' g0
    have ne : (yc (4 * s' + i)).toNat ≠ b := fun e => by rw [e] at this; omega
    rw [fu_ne ne]
    exact this
  · by_cases e : x = b
    · subst e
      rw [fu_eq] at hx
      omega
    · rw [fu_ne e] at hx
      exact hE x hx
  · by_cases e : x = b
    · subst e
      rw [fu_eq] at hx
      exact absurd rfl hx
    · rw [fu_ne e] at hx
      exact hD x hx
end SR
