/-! unloading: class and reference the same -/
theorem unl_cg {y B x g lo : Int} {c tk w hi : Nat → Int} {lift : Int} {ok ok' : Bool} (h : 0 ≤ y → y < B → 0 ≤ x → x ≤ 3 → ¬ c (kV c lo).toNat = -1 → ok = ok') : unlV y B x g lo c tk w hi lift ok = unlV y B x g lo c tk w hi lift ok' := by
  by_cases c1 : 0 ≤ y ∧ y < B ∧ 0 ≤ x ∧ x ≤ 3 ∧ -1 ≤ g ∧ g ≤ 3
  · by_cases c2 : c (kV c lo).toNat = -1
    · rw [unl_b c1 c2, unl_b c1 c2]
    · rw [h c1.1 c1.2.1 c1.2.2.1 c1.2.2.2.1 c2]
  · rw [unl_a c1, unl_a c1]
noncomputable def loA (A : Nat → Nat → Int) (y : Int32) (x : Int) : Int := lowV (Int32.ofInt (A 118 54)) y x
theorem lo_b {cv y : Int32} {x : Int} (hy : 0 ≤ y.toInt ∧ y.toInt ≤ 4) (hx : 0 ≤ x ∧ x ≤ 3) : (16 * y.toInt + 4 * x ≤ lowV cv y x ∧ lowV cv y x ≤ 16 * y.toInt + 4 * x + 2) ∧ lowV cv y x % 2 = 0 := by
  unfold lowV
  split <;> omega
theorem kV_b (c : Nat → Int) (lo : Int) : kV c lo = lo ∨ kV c lo = lo + 1 := by
  unfold kV
  split
  · exact Or.inl rfl
  · exact Or.inr rfl
/-- what unloading answers -/
noncomputable def ulV (s : Nat) (A : Nat → Nat → Int) (y x g : Int32) : Int := unlV y.toInt (A 127 s) x.toInt g.toInt (loA A y x.toInt) (A 152) (A 149) (A 146) (A 154) (A 129 s) (mayA s A (whU (A 152) (A 149) (A 150) (loA A y x.toInt)) (A 151))
/-- one box is landed, or two -/
noncomputable def ulS1 (A : Nat → Nat → Int) (lo : Int) (g : Int32) : Nat → Nat → Int := aS (aS (aS (aS (aS A 150 (fu_up (A 150) (A 152 (kV (A 152) lo).toNat).toNat (if g.toInt = -1 then 0 else 2))) 151 (if g.toInt = -1 then A 151 else fu_up (A 151) (A 152 (kV (A 152) lo).toNat).toNat (4 * g.toInt + A 154 g.toInt.toNat))) 152 (fu_up (A 152) (kV (A 152) lo).toNat (-1))) 153 (if g.toInt = -1 then A 153 else fu_up (A 153) (4 * g.toInt + A 154 g.toInt.toNat).toNat (A 152 (kV (A 152) lo).toNat))) 154 (if g.toInt = -1 then A 154 else fu_up (A 154) g.toInt.toNat (A 154 g.toInt.toNat + 1))
noncomputable def ulS2 (A : Nat → Nat → Int) (lo : Int) (g : Int32) : Nat → Nat → Int := aS (aS (aS (aS (aS A 150 (if g.toInt = -1 then fu_up (fu_up (A 150) (A 152 (lo + 1).toNat).toNat 0) (A 152 lo.toNat).toNat 0 else fu_up (fu_up (A 150) (A 152 lo.toNat).toNat 2) (A 152 (lo + 1).toNat).toNat 2)) 151 (if g.toInt = -1 then A 151 else fu_up (fu_up (A 151) (A 152 lo.toNat).toNat (4 * g.toInt + A 154 g.toInt.toNat)) (A 152 (lo + 1).toNat).toNat (4 * g.toInt + (A 154 g.toInt.toNat + 1)))) 152 (fu_up (fu_up (A 152) (lo + 1).toNat (-1)) lo.toNat (-1))) 153 (if g.toInt = -1 then A 153 else fu_up (fu_up (A 153) (4 * g.toInt + A 154 g.toInt.toNat).toNat (A 152 lo.toNat)) (4 * g.toInt + (A 154 g.toInt.toNat + 1)).toNat (A 152 (lo + 1).toNat))) 154 (if g.toInt = -1 then A 154 else fu_up (A 154) g.toInt.toNat (A 154 g.toInt.toNat + 1 + 1))
noncomputable def ulS (s : Nat) (A : Nat → Nat → Int) (y x g : Int32) : Nat → Nat → Int := if ulV s A y x g = 1 then ulS1 A (loA A y x.toInt) g else if ulV s A y x g = 2 then ulS2 A (loA A y x.toInt) g else A
/-- what an answer of 1 or 2 tells -/
theorem unl_inv {y B x g lo : Int} {c tk w hi : Nat → Int} {lift : Int} {ok : Bool} (h : 0 < unlV y B x g lo c tk w hi lift ok) : (0 ≤ y ∧ y < B ∧ 0 ≤ x ∧ x ≤ 3 ∧ -1 ≤ g ∧ g ≤ 3) ∧ ¬ c (kV c lo).toNat = -1 ∧ ¬ (g ≠ -1 ∧ 4 < hi g.toNat + mV c tk lo) ∧ unlV y B x g lo c tk w hi lift ok = mV c tk lo := by
  by_cases c1 : 0 ≤ y ∧ y < B ∧ 0 ≤ x ∧ x ≤ 3 ∧ -1 ≤ g ∧ g ≤ 3
  · by_cases c2 : c (kV c lo).toNat = -1
    · rw [unl_b c1 c2] at h
      omega
    · by_cases c3 : g ≠ -1 ∧ 4 < hi g.toNat + mV c tk lo
      · rw [unl_c c1 c2 c3] at h
        omega
      · by_cases c4 : lift < w (c (kV c lo).toNat).toNat + (if mV c tk lo = 2 then w (c lo.toNat).toNat else 0)
        · rw [unl_d c1 c2 c3 c4] at h
          omega
        · cases ok with
          | false =>
            rw [unl_e c1 c2 c3 c4 rfl] at h
            omega
          | true => exact ⟨c1, c2, c3, unl_f c1 c2 c3 c4 rfl⟩
  · rw [unl_a c1] at h
    omega
theorem mV_i2 {c tk : Nat → Int} {lo : Int} (h : mV c tk lo = 2) : kV c lo = lo + 1 ∧ tk (c (lo + 1).toNat).toNat ≠ 0 := by
  unfold mV at h
  by_cases e : tk (c (kV c lo).toNat).toNat ≠ 0 ∧ kV c lo ≠ lo
  · have k := (kV_b c lo).resolve_left e.2
    rw [k] at e
    exact ⟨k, e.1⟩
  · rw [if_neg e] at h
    omega
theorem mV_b (c tk : Nat → Int) (lo : Int) : mV c tk lo = 1 ∨ mV c tk lo = 2 := by
  unfold mV
  split
  · exact Or.inr rfl
  · exact Or.inl rfl
section UL
variable {A : Nat → Nat → Int} {s : Nat}
/-- the boxes that are lifted: aboard, at their places -/
theorem ul_at (hi : zI s A) {k : Int} (h0 : 0 ≤ k) (h9 : k ≤ 79) (h : ¬ A 152 k.toNat = -1) : (0 ≤ A 152 k.toNat ∧ A 152 k.toNat ≤ 29) ∧ A 150 (A 152 k.toNat).toNat = 1 ∧ A 151 (A 152 k.toNat).toNat = k ∧ (A 152 k.toNat).toNat < (A 118 44).toNat := by
  have b := hi.2.1.2.2.2.1 k.toNat
  have a := hi.1.1.1 k.toNat (by omega) (by omega)
  have d := hi.1.1.2.2.2 (A 152 k.toNat).toNat (by omega)
  omega
theorem ul_lo (hi : zI s A) {y : Int32} {x : Int} (hy : 0 ≤ y.toInt ∧ y.toInt ≤ 4) (hx : 0 ≤ x ∧ x ≤ 3) (h : ¬ A 152 (loA A y x + 1).toNat = -1) : ¬ A 152 (loA A y x).toNat = -1 := by
  have l := lo_b (cv := Int32.ofInt (A 118 54)) (y := y) (x := x) hy hx
  have l : (16 * y.toInt + 4 * x ≤ loA A y x ∧ loA A y x ≤ 16 * y.toInt + 4 * x + 2) ∧ loA A y x % 2 = 0 := l
  have k := hi.1.2 ((loA A y x).toNat / 2) (by omega)
  rw [show 2 * ((loA A y x).toNat / 2) + 1 = (loA A y x + 1).toNat by omega, show 2 * ((loA A y x).toNat / 2) = (loA A y x).toNat by omega] at k
  have b := hi.2.1.2.2.2.1 (loA A y x + 1).toNat
  omega
theorem ul_C {y x g B l g0 g1 g2 cv ls wt : Int32} {bw : Nat → Int} (hi : zI s A) (hs : zSum ls.toInt wt.toInt bw (A 146) (A 150) (A 151) (A 118 44).toNat) (eB : B.toInt = A 127 s) (e0 : g0.toInt = A 128 (3 * s)) (e1 : g1.toInt = A 128 (3 * s + 1)) (e2 : g2.toInt = A 128 (3 * s + 2)) (el : l.toInt = A 129 s) (ec : cv.toInt = A 118 54) : unlV y.toInt B.toInt x.toInt g.toInt (lowV cv y x.toInt) (A 152) (A 149) (A 146) (A 154) l.toInt (okb (mayC B.toInt g0.toInt g1.toInt g2.toInt ls.toInt wt.toInt bw y.toInt x.toInt (-(A 146 (A 152 (kV (A 152) (lowV cv y x.toInt)).toNat).toNat + (if mV (A 152) (A 149) (lowV cv y x.toInt) = 2 then A 146 (A 152 (lowV cv y x.toInt).toNat).toNat else 0))))) = ulV s A y x g := by
  have ef : lowV cv y x.toInt = loA A y x.toInt := by
    unfold loA
    rw [← ec, Int32.ofInt_toInt]
  unfold ulV
  rw [eB, el, ef]
  refine unl_cg (fun y0 yB x0 x3 hk => okb_cg ?_)
  rw [e0, e1, e2]
  have hB := hi.2.2.2
  have l := lo_b (cv := Int32.ofInt (A 118 54)) (y := y) (x := x.toInt) ⟨y0, by omega⟩ ⟨x0, x3⟩
  have l : (16 * y.toInt + 4 * x.toInt ≤ loA A y x.toInt ∧ loA A y x.toInt ≤ 16 * y.toInt + 4 * x.toInt + 2) ∧ loA A y x.toInt % 2 = 0 := l
  have kb := kV_b (A 152) (loA A y x.toInt)
  have a1 := ul_at hi (k := kV (A 152) (loA A y x.toInt)) (by omega) (by omega) hk
  rcases mV_b (A 152) (A 149) (loA A y x.toInt) with m | m
  · rw [m, if_neg (by decide), Int.add_zero]
    have w9 : whU (A 152) (A 149) (A 150) (loA A y x.toInt) = fu_up (A 150) (A 152 (kV (A 152) (loA A y x.toInt)).toNat).toNat 0 := if_neg (by rw [m]; decide)
    rw [w9]
    exact may_off hs a1.2.2.2 a1.2.1 hB (by omega) (by omega) hi.2.1.2.2.1
  · have i2 := mV_i2 m
    rw [i2.1] at hk a1 ⊢
    have h0 := ul_lo hi ⟨y0, by omega⟩ ⟨x0, x3⟩ hk
    have a0 := ul_at hi (k := loA A y x.toInt) (by omega) (by omega) h0
    rw [m, if_pos rfl]
    have w9 : whU (A 152) (A 149) (A 150) (loA A y x.toInt) = fu_up (fu_up (A 150) (A 152 (loA A y x.toInt + 1).toNat).toNat 0) (A 152 (loA A y x.toInt).toNat).toNat 0 := if_pos m
    rw [w9]
    refine may_off2 hs a1.2.2.2 a0.2.2.2 (fun z => ?_) a1.2.1 a0.2.1 hB (by omega) (by omega) (by omega) (by omega) hi.2.1.2.2.1
    have q1 := a0.2.2.1
    rw [z] at q1
    omega
end UL
/-- what unloading leaves in the class: one box -/
theorem ul_zC1 {A : Nat → Nat → Int} {I I' : Nat → Nat → Int32} {s : Nat} {y x g l2 w2 : Int32} {lo : Int} (hi : zI s A) (hc : zC A I) (hy : 0 ≤ y.toInt ∧ y.toInt ≤ 4) (hx : 0 ≤ x.toInt ∧ x.toInt ≤ 3) (hg : -1 ≤ g.toInt ∧ g.toInt ≤ 3) (hk : 16 * y.toInt + 4 * x.toInt ≤ kV (A 152) lo ∧ kV (A 152) lo ≤ 16 * y.toInt + 4 * x.toInt + 3) (hb : ¬ A 152 (kV (A 152) lo).toNat = -1) (h4 : g.toInt = -1 ∨ A 154 g.toInt.toNat ≤ 3) (e7 : pI I' 7 = pI I 7) (e8 : pI I' 8 = pI I 8) (e9 : pI I' 9 = pI I 9) (e10 : pI I' 10 = pI I 10) (e28 : I' 28 4 = I 28 4) (e6 : I' 6 0 = I 6 0) (q5 : I' 28 5 = l2) (q6 : I' 28 6 = w2) (x5 : l2.toInt = (I 28 5).toInt - A 146 (A 152 (kV (A 152) lo).toNat).toNat * (2 * x.toInt - 3)) (x6 : w2.toInt = (I 28 6).toInt - A 146 (A 152 (kV (A 152) lo).toNat).toNat) (x11 : pI I' 11 = fu_up (A 150) (A 152 (kV (A 152) lo).toNat).toNat (if g.toInt = -1 then 0 else 2)) (x12 : pI I' 12 = fu_up (pI I 12) (A 152 (kV (A 152) lo).toNat).toNat (if g.toInt = -1 then -1 else g.toInt)) (x13 : pI I' 13 = fu_up (pI I 13) (A 152 (kV (A 152) lo).toNat).toNat (-1)) (x14 : pI I' 14 = fu_up (pI I 14) (A 152 (kV (A 152) lo).toNat).toNat (if g.toInt = -1 then -1 else A 154 g.toInt.toNat)) (x36 : pI I' 36 = fu_up (A 152) (kV (A 152) lo).toNat (-1)) (x16 : pI I' 16 = (if g.toInt = -1 then A 153 else fu_up (A 153) (4 * g.toInt + A 154 g.toInt.toNat).toNat (A 152 (kV (A 152) lo).toNat))) (x17 : pI I' 17 = (if g.toInt = -1 then A 154 else fu_up (A 154) g.toInt.toNat (A 154 g.toInt.toNat + 1))) (x37 : pI I' 37 = fu_up (pI I 37) y.toInt.toNat (pI I 37 y.toInt.toNat + -A 146 (A 152 (kV (A 152) lo).toNat).toNat)) : zC (ulS1 A lo g) I' := by
  obtain ⟨⟨c1, c2, c3, c4, c5, c6, c7, c8⟩, ⟨c9, c10⟩, hp, hs⟩ := hc
  have a := ul_at hi (k := kV (A 152) lo) (by omega) (by omega) hb
  have hi4 := hi.2.1.2.2.2.2.2 g.toInt.toNat
  have sb : ∀ v, v ≠ 1 → zSum l2.toInt w2.toInt (pI I' 37) (A 146) (fu_up (A 150) (A 152 (kV (A 152) lo).toNat).toNat v) (A 151) (A 118 44).toNat := fun v hv => by
    have k := zSum_off (v := v) hs a.2.2.2 a.2.1 hv (by rw [a.2.2.1]; omega)
    rw [a.2.2.1, show kV (A 152) lo / 16 = y.toInt by omega] at k
    have e5 : (I 28 5).toInt - pL (A 146 (A 152 (kV (A 152) lo).toNat).toNat) (kV (A 152) lo) = l2.toInt := by
      rw [x5]
      show _ - A 146 _ * (2 * (kV (A 152) lo / 4 % 4) - 3) = _
      rw [show kV (A 152) lo / 4 % 4 = x.toInt by omega]
    rw [e5, ← x6, ← x37] at k
    exact k
  refine ⟨⟨e7.trans c1, e8.trans c2, e9.trans c3, e10.trans c4, x11, x36, x16, x17⟩, ⟨by rw [e28]; exact c9, by rw [e6]; exact c10⟩, ?_, ?_⟩
  · show zPos (fu_up (A 150) (A 152 (kV (A 152) lo).toNat).toNat (if g.toInt = -1 then 0 else 2)) (if g.toInt = -1 then A 151 else fu_up (A 151) (A 152 (kV (A 152) lo).toNat).toNat (4 * g.toInt + A 154 g.toInt.toNat)) (pI I' 12) (pI I' 13) (pI I' 14) (A 118 44)
    rw [x12, x13, x14]
    by_cases e : g.toInt = -1
    · rw [if_pos e, if_pos e, if_pos e, if_pos e]
      exact zPos_away hp
    · rw [if_neg e, if_neg e, if_neg e, if_neg e]
      exact zPos_yard hp rfl (by omega) (by omega)
  · show zSum (I' 28 5).toInt (I' 28 6).toInt (pI I' 37) (A 146) (fu_up (A 150) (A 152 (kV (A 152) lo).toNat).toNat (if g.toInt = -1 then 0 else 2)) (if g.toInt = -1 then A 151 else fu_up (A 151) (A 152 (kV (A 152) lo).toNat).toNat (4 * g.toInt + A 154 g.toInt.toNat)) (A 118 44).toNat
    rw [q5, q6]
    by_cases e : g.toInt = -1
    · rw [if_pos e, if_pos e]
      exact sb 0 (by omega)
    · rw [if_neg e, if_neg e]
      refine zSum_cg (sb 2 (by omega)) (fun z _ => ⟨rfl, fun z1 => (fu_ne (fun ez => ?_)).symm⟩)
      subst ez
      rw [fu_eq] at z1
      omega
/-- .. two boxes -/
theorem ul_zC2 {A : Nat → Nat → Int} {I I' : Nat → Nat → Int32} {s : Nat} {y x g l2 w2 : Int32} {lo : Int} (hi : zI s A) (hc : zC A I) (hy : 0 ≤ y.toInt ∧ y.toInt ≤ 4) (hx : 0 ≤ x.toInt ∧ x.toInt ≤ 3) (hg : -1 ≤ g.toInt ∧ g.toInt ≤ 3) (hl : 16 * y.toInt + 4 * x.toInt ≤ lo ∧ lo ≤ 16 * y.toInt + 4 * x.toInt + 2) (hb : ¬ A 152 (lo + 1).toNat = -1) (ht : ¬ A 152 lo.toNat = -1) (h4 : g.toInt = -1 ∨ A 154 g.toInt.toNat ≤ 2) (e7 : pI I' 7 = pI I 7) (e8 : pI I' 8 = pI I 8) (e9 : pI I' 9 = pI I 9) (e10 : pI I' 10 = pI I 10) (e28 : I' 28 4 = I 28 4) (e6 : I' 6 0 = I 6 0) (q5 : I' 28 5 = l2) (q6 : I' 28 6 = w2) (x5 : l2.toInt = (I 28 5).toInt - A 146 (A 152 lo.toNat).toNat * (2 * x.toInt - 3) - A 146 (A 152 (lo + 1).toNat).toNat * (2 * x.toInt - 3)) (x6 : w2.toInt = (I 28 6).toInt - A 146 (A 152 lo.toNat).toNat - A 146 (A 152 (lo + 1).toNat).toNat) (x11 : pI I' 11 = (if g.toInt = -1 then fu_up (fu_up (A 150) (A 152 (lo + 1).toNat).toNat 0) (A 152 lo.toNat).toNat 0 else fu_up (fu_up (A 150) (A 152 lo.toNat).toNat 2) (A 152 (lo + 1).toNat).toNat 2)) (x12 : pI I' 12 = (if g.toInt = -1 then fu_up (fu_up (pI I 12) (A 152 lo.toNat).toNat (-1)) (A 152 (lo + 1).toNat).toNat (-1) else fu_up (fu_up (pI I 12) (A 152 lo.toNat).toNat g.toInt) (A 152 (lo + 1).toNat).toNat g.toInt)) (x13 : pI I' 13 = fu_up (fu_up (pI I 13) (A 152 lo.toNat).toNat (-1)) (A 152 (lo + 1).toNat).toNat (-1)) (x14 : pI I' 14 = (if g.toInt = -1 then fu_up (fu_up (pI I 14) (A 152 lo.toNat).toNat (-1)) (A 152 (lo + 1).toNat).toNat (-1) else fu_up (fu_up (pI I 14) (A 152 lo.toNat).toNat (A 154 g.toInt.toNat)) (A 152 (lo + 1).toNat).toNat (A 154 g.toInt.toNat + 1))) (x36 : pI I' 36 = fu_up (fu_up (A 152) (lo + 1).toNat (-1)) lo.toNat (-1)) (x16 : pI I' 16 = (if g.toInt = -1 then A 153 else fu_up (fu_up (A 153) (4 * g.toInt + A 154 g.toInt.toNat).toNat (A 152 lo.toNat)) (4 * g.toInt + (A 154 g.toInt.toNat + 1)).toNat (A 152 (lo + 1).toNat))) (x17 : pI I' 17 = (if g.toInt = -1 then A 154 else fu_up (A 154) g.toInt.toNat (A 154 g.toInt.toNat + 1 + 1))) (x37 : pI I' 37 = fu_up (pI I 37) y.toInt.toNat (pI I 37 y.toInt.toNat + -A 146 (A 152 lo.toNat).toNat + -A 146 (A 152 (lo + 1).toNat).toNat)) : zC (ulS2 A lo g) I' := by
  obtain ⟨⟨c1, c2, c3, c4, c5, c6, c7, c8⟩, ⟨c9, c10⟩, hp, hs⟩ := hc
  have a := ul_at hi (k := lo + 1) (by omega) (by omega) hb
  have t := ul_at hi (k := lo) (by omega) (by omega) ht
  have hi4 := hi.2.1.2.2.2.2.2 g.toInt.toNat
  have hne : (A 152 (lo + 1).toNat).toNat ≠ (A 152 lo.toNat).toNat := fun z => by
    have q := a.2.2.1
    rw [z] at q
    omega
  have sb : ∀ v, v ≠ 1 → zSum l2.toInt w2.toInt (pI I' 37) (A 146) (fu_up (fu_up (A 150) (A 152 lo.toNat).toNat v) (A 152 (lo + 1).toNat).toNat v) (A 151) (A 118 44).toNat := fun v hv => by
    have k0 := zSum_off (v := v) hs t.2.2.2 t.2.1 hv (by rw [t.2.2.1]; omega)
    have k := zSum_off (v := v) k0 a.2.2.2 ((fu_ne hne).trans a.2.1) hv (by rw [a.2.2.1]; omega)
    rw [a.2.2.1, t.2.2.1, show (lo + 1) / 16 = y.toInt by omega, show lo / 16 = y.toInt by omega, fu_fu2, fu_eq, ← x37] at k
    have e5 : (I 28 5).toInt - pL (A 146 (A 152 lo.toNat).toNat) lo - pL (A 146 (A 152 (lo + 1).toNat).toNat) (lo + 1) = l2.toInt := by
      rw [x5]
      show _ - A 146 _ * (2 * (lo / 4 % 4) - 3) - A 146 _ * (2 * ((lo + 1) / 4 % 4) - 3) = _
      rw [show lo / 4 % 4 = x.toInt by omega, show (lo + 1) / 4 % 4 = x.toInt by omega]
    rw [e5, ← x6] at k
    exact k
  refine ⟨⟨e7.trans c1, e8.trans c2, e9.trans c3, e10.trans c4, x11, x36, x16, x17⟩, ⟨by rw [e28]; exact c9, by rw [e6]; exact c10⟩, ?_, ?_⟩
  · show zPos (if g.toInt = -1 then fu_up (fu_up (A 150) (A 152 (lo + 1).toNat).toNat 0) (A 152 lo.toNat).toNat 0 else fu_up (fu_up (A 150) (A 152 lo.toNat).toNat 2) (A 152 (lo + 1).toNat).toNat 2) (if g.toInt = -1 then A 151 else fu_up (fu_up (A 151) (A 152 lo.toNat).toNat (4 * g.toInt + A 154 g.toInt.toNat)) (A 152 (lo + 1).toNat).toNat (4 * g.toInt + (A 154 g.toInt.toNat + 1))) (pI I' 12) (pI I' 13) (pI I' 14) (A 118 44)
    rw [x12, x13, x14]
    by_cases e : g.toInt = -1
    · rw [if_pos e, if_pos e, if_pos e, if_pos e, fu_cm (p := (A 152 lo.toNat).toNat) hne]
      exact zPos_away (zPos_away hp)
    · rw [if_neg e, if_neg e, if_neg e, if_neg e]
      exact zPos_yard (zPos_yard hp rfl (by omega) (by omega)) rfl (by omega) (by omega)
  · show zSum (I' 28 5).toInt (I' 28 6).toInt (pI I' 37) (A 146) (if g.toInt = -1 then fu_up (fu_up (A 150) (A 152 (lo + 1).toNat).toNat 0) (A 152 lo.toNat).toNat 0 else fu_up (fu_up (A 150) (A 152 lo.toNat).toNat 2) (A 152 (lo + 1).toNat).toNat 2) (if g.toInt = -1 then A 151 else fu_up (fu_up (A 151) (A 152 lo.toNat).toNat (4 * g.toInt + A 154 g.toInt.toNat)) (A 152 (lo + 1).toNat).toNat (4 * g.toInt + (A 154 g.toInt.toNat + 1))) (A 118 44).toNat
    rw [q5, q6]
    by_cases e : g.toInt = -1
    · rw [if_pos e, if_pos e, fu_cm (p := (A 152 lo.toNat).toNat) hne]
      exact sb 0 (by omega)
    · rw [if_neg e, if_neg e]
      refine zSum_cg (sb 2 (by omega)) (fun z _ => ⟨rfl, fun z1 => ?_⟩)
      by_cases e1 : z = (A 152 (lo + 1).toNat).toNat
      · subst e1
        rw [fu_eq] at z1
        omega
      · rw [fu_ne e1] at z1 ⊢
        by_cases e2 : z = (A 152 lo.toNat).toNat
        · subst e2
          rw [fu_eq] at z1
          omega
        · rw [fu_ne e2]
/-- a place is emptied: no box above a gap -/
theorem sfB_1 {c : Nat → Int} {lo : Int} (h : sf_B c) (h0 : 0 ≤ lo) (he : lo % 2 = 0) (hc : ∀ k, -1 ≤ c k) : sf_B (fu_up c (kV c lo).toNat (-1)) := by
  intro q hq z
  by_cases e1 : 2 * q + 1 = (kV c lo).toNat
  · rw [e1, fu_eq] at z
    omega
  · rw [fu_ne e1] at z
    by_cases e2 : 2 * q = (kV c lo).toNat
    · have k : kV c lo = lo := (kV_b c lo).resolve_right (by omega)
      have k2 : c (lo + 1).toNat = -1 := by
        apply Classical.byContradiction
        intro n
        have := kV_1 n
        omega
      rw [show 2 * q + 1 = (lo + 1).toNat by omega, k2] at z
      omega
    · rw [fu_ne e2]
      exact h q hq z
theorem sfB_2 {c : Nat → Int} {lo : Int} (h : sf_B c) (h0 : 0 ≤ lo) (he : lo % 2 = 0) : sf_B (fu_up (fu_up c (lo + 1).toNat (-1)) lo.toNat (-1)) := by
  intro q hq z
  by_cases e0 : 2 * q + 1 = lo.toNat
  · omega
  · rw [fu_ne e0] at z
    by_cases e1 : 2 * q + 1 = (lo + 1).toNat
    · rw [e1, fu_eq] at z
      omega
    · rw [fu_ne e1] at z
      rw [fu_ne (by omega), fu_ne (by omega)]
      exact h q hq z
theorem ul_zI1 {A : Nat → Nat → Int} {s : Nat} {g : Int32} {lo : Int} (hi : zI s A) (h0 : 0 ≤ lo ∧ lo ≤ 78) (he : lo % 2 = 0) (hg : -1 ≤ g.toInt ∧ g.toInt ≤ 3) (hb : ¬ A 152 (kV (A 152) lo).toNat = -1) (h4 : g.toInt = -1 ∨ A 154 g.toInt.toNat ≤ 3) : zI s (ulS1 A lo g) := by
  have kb := kV_b (A 152) lo
  have a := ul_at hi (k := kV (A 152) lo) (by omega) (by omega) hb
  have hi' := hi
  obtain ⟨⟨hr, h2⟩, ⟨k1, k2, k3, k4, k5, k6⟩, hn, hB⟩ := hi
  have r1 := sr_away (b := (A 152 (kV (A 152) lo).toNat).toNat) (k := (kV (A 152) lo).toNat) hr a.2.1 (by rw [a.2.2.1]; omega)
  have eb : A 152 (kV (A 152) lo).toNat = (((A 152 (kV (A 152) lo).toNat).toNat : Nat) : Int) := by omega
  have g4 := k6 g.toInt.toNat
  refine ⟨⟨?_, sfB_1 h2 h0.1 he (fun k => (k4 k).1)⟩, ⟨k1, ?_, ?_, fu_in k4 (by omega), ?_, ?_⟩, hn, hB⟩
  · show sr (fu_up (A 150) (A 152 (kV (A 152) lo).toNat).toNat (if g.toInt = -1 then 0 else 2)) (if g.toInt = -1 then A 151 else fu_up (A 151) (A 152 (kV (A 152) lo).toNat).toNat (4 * g.toInt + A 154 g.toInt.toNat)) (fu_up (A 152) (kV (A 152) lo).toNat (-1)) (if g.toInt = -1 then A 153 else fu_up (A 153) (4 * g.toInt + A 154 g.toInt.toNat).toNat (A 152 (kV (A 152) lo).toNat)) (if g.toInt = -1 then A 154 else fu_up (A 154) g.toInt.toNat (A 154 g.toInt.toNat + 1)) (A 118 44)
    by_cases e : g.toInt = -1
    · rw [if_pos e, if_pos e, if_pos e, if_pos e]
      exact r1
    · rw [if_neg e, if_neg e, if_neg e, if_neg e]
      have k := sr_puts (b := (A 152 (kV (A 152) lo).toNat).toNat) (g := g.toInt.toNat) r1 fu_eq (by omega) (by omega) (by omega) (by omega)
      rw [fu_fu2, ← eb, show 4 * ((g.toInt.toNat : Nat) : Int) + A 154 g.toInt.toNat = 4 * g.toInt + A 154 g.toInt.toNat by omega, show 4 * g.toInt.toNat + (A 154 g.toInt.toNat).toNat = (4 * g.toInt + A 154 g.toInt.toNat).toNat by omega] at k
      exact k
  · show ∀ q, 0 ≤ (fu_up (A 150) (A 152 (kV (A 152) lo).toNat).toNat (if g.toInt = -1 then 0 else 2)) q ∧ (fu_up (A 150) (A 152 (kV (A 152) lo).toNat).toNat (if g.toInt = -1 then 0 else 2)) q ≤ 2
    by_cases e : g.toInt = -1
    · rw [if_pos e]
      exact fu_in k2 (by omega)
    · rw [if_neg e]
      exact fu_in k2 (by omega)
  · show ∀ q, 0 ≤ (if g.toInt = -1 then A 151 else fu_up (A 151) (A 152 (kV (A 152) lo).toNat).toNat (4 * g.toInt + A 154 g.toInt.toNat)) q ∧ (if g.toInt = -1 then A 151 else fu_up (A 151) (A 152 (kV (A 152) lo).toNat).toNat (4 * g.toInt + A 154 g.toInt.toNat)) q ≤ 79
    by_cases e : g.toInt = -1
    · rw [if_pos e]
      exact k3
    · rw [if_neg e]
      exact fu_in k3 (by omega)
  · show ∀ q, 0 ≤ (if g.toInt = -1 then A 153 else fu_up (A 153) (4 * g.toInt + A 154 g.toInt.toNat).toNat (A 152 (kV (A 152) lo).toNat)) q ∧ (if g.toInt = -1 then A 153 else fu_up (A 153) (4 * g.toInt + A 154 g.toInt.toNat).toNat (A 152 (kV (A 152) lo).toNat)) q ≤ 29
    by_cases e : g.toInt = -1
    · rw [if_pos e]
      exact k5
    · rw [if_neg e]
      exact fu_in k5 a.1
  · show ∀ q, 0 ≤ (if g.toInt = -1 then A 154 else fu_up (A 154) g.toInt.toNat (A 154 g.toInt.toNat + 1)) q ∧ (if g.toInt = -1 then A 154 else fu_up (A 154) g.toInt.toNat (A 154 g.toInt.toNat + 1)) q ≤ 4
    by_cases e : g.toInt = -1
    · rw [if_pos e]
      exact k6
    · rw [if_neg e]
      exact fu_in k6 (by omega)
theorem ul_zI2 {A : Nat → Nat → Int} {s : Nat} {g : Int32} {lo : Int} (hi : zI s A) (h0 : 0 ≤ lo ∧ lo ≤ 78) (he : lo % 2 = 0) (hg : -1 ≤ g.toInt ∧ g.toInt ≤ 3) (hb : ¬ A 152 (lo + 1).toNat = -1) (ht : ¬ A 152 lo.toNat = -1) (h4 : g.toInt = -1 ∨ A 154 g.toInt.toNat ≤ 2) : zI s (ulS2 A lo g) := by
  have a := ul_at hi (k := lo + 1) (by omega) (by omega) hb
  have t := ul_at hi (k := lo) (by omega) (by omega) ht
  have hne : (A 152 (lo + 1).toNat).toNat ≠ (A 152 lo.toNat).toNat := fun z => by
    have q := a.2.2.1
    rw [z] at q
    omega
  obtain ⟨⟨hr, h2⟩, ⟨k1, k2, k3, k4, k5, k6⟩, hn, hB⟩ := hi
  have r1 := sr_away (b := (A 152 lo.toNat).toNat) (k := lo.toNat) hr t.2.1 (by rw [t.2.2.1]; omega)
  have eb : A 152 (lo + 1).toNat = (((A 152 (lo + 1).toNat).toNat : Nat) : Int) := by omega
  have et : A 152 lo.toNat = (((A 152 lo.toNat).toNat : Nat) : Int) := by omega
  have g4 := k6 g.toInt.toNat
  have cc : fu_up (fu_up (A 152) (lo + 1).toNat (-1)) lo.toNat (-1) = fu_up (fu_up (A 152) lo.toNat (-1)) (lo + 1).toNat (-1) := fu_cm (by omega)
  refine ⟨⟨?_, sfB_2 h2 h0.1 he⟩, ⟨k1, ?_, ?_, fu_in (fu_in k4 (by omega)) (by omega), ?_, ?_⟩, hn, hB⟩
  · show sr (if g.toInt = -1 then fu_up (fu_up (A 150) (A 152 (lo + 1).toNat).toNat 0) (A 152 lo.toNat).toNat 0 else fu_up (fu_up (A 150) (A 152 lo.toNat).toNat 2) (A 152 (lo + 1).toNat).toNat 2) (if g.toInt = -1 then A 151 else fu_up (fu_up (A 151) (A 152 lo.toNat).toNat (4 * g.toInt + A 154 g.toInt.toNat)) (A 152 (lo + 1).toNat).toNat (4 * g.toInt + (A 154 g.toInt.toNat + 1))) (fu_up (fu_up (A 152) (lo + 1).toNat (-1)) lo.toNat (-1)) (if g.toInt = -1 then A 153 else fu_up (fu_up (A 153) (4 * g.toInt + A 154 g.toInt.toNat).toNat (A 152 lo.toNat)) (4 * g.toInt + (A 154 g.toInt.toNat + 1)).toNat (A 152 (lo + 1).toNat)) (if g.toInt = -1 then A 154 else fu_up (A 154) g.toInt.toNat (A 154 g.toInt.toNat + 1 + 1)) (A 118 44)
    rw [cc]
    by_cases e : g.toInt = -1
    · rw [if_pos e, if_pos e, if_pos e, if_pos e, fu_cm (p := (A 152 lo.toNat).toNat) hne]
      exact sr_away r1 ((fu_ne hne).trans a.2.1) (by rw [a.2.2.1]; omega)
    · rw [if_neg e, if_neg e, if_neg e, if_neg e]
      have p1 := sr_puts (b := (A 152 lo.toNat).toNat) (g := g.toInt.toNat) r1 fu_eq (by omega) (by omega) (by omega) (by omega)
      rw [fu_fu2, ← et, show 4 * ((g.toInt.toNat : Nat) : Int) + A 154 g.toInt.toNat = 4 * g.toInt + A 154 g.toInt.toNat by omega, show 4 * g.toInt.toNat + (A 154 g.toInt.toNat).toNat = (4 * g.toInt + A 154 g.toInt.toNat).toNat by omega] at p1
      have r2 := sr_away (b := (A 152 (lo + 1).toNat).toNat) (k := (lo + 1).toNat) p1 ((fu_ne hne).trans a.2.1) (by rw [fu_ne hne, a.2.2.1]; omega)
      have h1 : fu_up (A 154) g.toInt.toNat (A 154 g.toInt.toNat + 1) g.toInt.toNat = A 154 g.toInt.toNat + 1 := fu_eq
      have p2 := sr_puts (b := (A 152 (lo + 1).toNat).toNat) (g := g.toInt.toNat) r2 fu_eq (by omega) (by rw [h1]; omega) (by rw [h1]; omega) (by omega)
      rw [fu_fu2, h1, ← eb, fu_fu2, show 4 * ((g.toInt.toNat : Nat) : Int) + (A 154 g.toInt.toNat + 1) = 4 * g.toInt + (A 154 g.toInt.toNat + 1) by omega, show 4 * g.toInt.toNat + (A 154 g.toInt.toNat + 1).toNat = (4 * g.toInt + (A 154 g.toInt.toNat + 1)).toNat by omega] at p2
      exact p2
  · show ∀ q, 0 ≤ (if g.toInt = -1 then fu_up (fu_up (A 150) (A 152 (lo + 1).toNat).toNat 0) (A 152 lo.toNat).toNat 0 else fu_up (fu_up (A 150) (A 152 lo.toNat).toNat 2) (A 152 (lo + 1).toNat).toNat 2) q ∧ (if g.toInt = -1 then fu_up (fu_up (A 150) (A 152 (lo + 1).toNat).toNat 0) (A 152 lo.toNat).toNat 0 else fu_up (fu_up (A 150) (A 152 lo.toNat).toNat 2) (A 152 (lo + 1).toNat).toNat 2) q ≤ 2
    by_cases e : g.toInt = -1
    · rw [if_pos e]
      exact fu_in (fu_in k2 (by omega)) (by omega)
    · rw [if_neg e]
      exact fu_in (fu_in k2 (by omega)) (by omega)
  · show ∀ q, 0 ≤ (if g.toInt = -1 then A 151 else fu_up (fu_up (A 151) (A 152 lo.toNat).toNat (4 * g.toInt + A 154 g.toInt.toNat)) (A 152 (lo + 1).toNat).toNat (4 * g.toInt + (A 154 g.toInt.toNat + 1))) q ∧ (if g.toInt = -1 then A 151 else fu_up (fu_up (A 151) (A 152 lo.toNat).toNat (4 * g.toInt + A 154 g.toInt.toNat)) (A 152 (lo + 1).toNat).toNat (4 * g.toInt + (A 154 g.toInt.toNat + 1))) q ≤ 79
    by_cases e : g.toInt = -1
    · rw [if_pos e]
      exact k3
    · rw [if_neg e]
      exact fu_in (fu_in k3 (by omega)) (by omega)
  · show ∀ q, 0 ≤ (if g.toInt = -1 then A 153 else fu_up (fu_up (A 153) (4 * g.toInt + A 154 g.toInt.toNat).toNat (A 152 lo.toNat)) (4 * g.toInt + (A 154 g.toInt.toNat + 1)).toNat (A 152 (lo + 1).toNat)) q ∧ (if g.toInt = -1 then A 153 else fu_up (fu_up (A 153) (4 * g.toInt + A 154 g.toInt.toNat).toNat (A 152 lo.toNat)) (4 * g.toInt + (A 154 g.toInt.toNat + 1)).toNat (A 152 (lo + 1).toNat)) q ≤ 29
    by_cases e : g.toInt = -1
    · rw [if_pos e]
      exact k5
    · rw [if_neg e]
      exact fu_in (fu_in k5 t.1) a.1
  · show ∀ q, 0 ≤ (if g.toInt = -1 then A 154 else fu_up (A 154) g.toInt.toNat (A 154 g.toInt.toNat + 1 + 1)) q ∧ (if g.toInt = -1 then A 154 else fu_up (A 154) g.toInt.toNat (A 154 g.toInt.toNat + 1 + 1)) q ≤ 4
    by_cases e : g.toInt = -1
    · rw [if_pos e]
      exact k6
    · rw [if_neg e]
      exact fu_in k6 (by omega)
/-- what an answer of 1 or 2 tells of the functions -/
theorem ul_inv {A : Nat → Nat → Int} {s : Nat} {y x g : Int32} (hi : zI s A) (h : 0 < ulV s A y x g) : (0 ≤ y.toInt ∧ y.toInt < A 127 s ∧ 0 ≤ x.toInt ∧ x.toInt ≤ 3 ∧ -1 ≤ g.toInt ∧ g.toInt ≤ 3) ∧ ((16 * y.toInt + 4 * x.toInt ≤ loA A y x.toInt ∧ loA A y x.toInt ≤ 16 * y.toInt + 4 * x.toInt + 2) ∧ loA A y x.toInt % 2 = 0) ∧ ¬ A 152 (kV (A 152) (loA A y x.toInt)).toNat = -1 ∧ ((ulV s A y x g = 1 ∧ (g.toInt = -1 ∨ A 154 g.toInt.toNat ≤ 3)) ∨ (ulV s A y x g = 2 ∧ (g.toInt = -1 ∨ A 154 g.toInt.toNat ≤ 2) ∧ ¬ A 152 (loA A y x.toInt + 1).toNat = -1 ∧ ¬ A 152 (loA A y x.toInt).toNat = -1)) := by
  obtain ⟨c, hk, hm, hv⟩ := unl_inv h
  have hB := hi.2.2.2
  have l := lo_b (cv := Int32.ofInt (A 118 54)) (y := y) (x := x.toInt) ⟨c.1, by omega⟩ ⟨c.2.2.1, c.2.2.2.1⟩
  have hv : ulV s A y x g = mV (A 152) (A 149) (loA A y x.toInt) := hv
  refine ⟨c, l, hk, ?_⟩
  rcases mV_b (A 152) (A 149) (loA A y x.toInt) with m | m
  · refine Or.inl ⟨hv.trans m, ?_⟩
    rw [m] at hm
    omega
  · have i2 := mV_i2 m
    have hk2 := hk
    rw [i2.1] at hk2
    refine Or.inr ⟨hv.trans m, ?_, hk2, ul_lo hi ⟨c.1, by omega⟩ ⟨c.2.2.1, c.2.2.2.1⟩ hk2⟩
    rw [m] at hm
    omega
theorem ul_zI {A : Nat → Nat → Int} {s : Nat} {y x g : Int32} (hi : zI s A) : zI s (ulS s A y x g) := by
  have hB := hi.2.2.2
  by_cases h : 0 < ulV s A y x g
  · obtain ⟨c, l, hk, q⟩ := ul_inv hi h
    rcases q with ⟨q1, q2⟩ | ⟨q1, q2, q3, q4⟩
    · unfold ulS
      rw [if_pos q1]
      exact ul_zI1 hi (by omega) l.2 ⟨c.2.2.2.2.1, c.2.2.2.2.2⟩ hk q2
    · unfold ulS
      rw [if_neg (by omega), if_pos q1]
      exact ul_zI2 hi (by omega) l.2 ⟨c.2.2.2.2.1, c.2.2.2.2.2⟩ q3 q4 q2
  · unfold ulS
    rw [if_neg (by omega), if_neg (by omega)]
    exact hi
