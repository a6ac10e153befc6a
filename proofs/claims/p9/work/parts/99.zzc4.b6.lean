/-! loading: class and reference the same -/
theorem okb_cg {p q : Prop} (h : p ↔ q) : okb p = okb q := by rw [propext h]
theorem try_cg {n b : Int} {had had' : Bool} {y x B fr w lift : Int} {ok ok' : Bool} (h : 0 ≤ b → b < n → 0 ≤ y → y < B → 0 ≤ x → x ≤ 3 → had = had' ∧ (had = true → ¬ fr = -1 → ok = ok')) : tryV n b had y x B fr w lift ok = tryV n b had' y x B fr w lift ok' := by
  by_cases c : 0 ≤ b ∧ b < n ∧ 0 ≤ y ∧ y < B ∧ 0 ≤ x ∧ x ≤ 3
  · obtain ⟨h1, h2⟩ := h c.1 c.2.1 c.2.2.1 c.2.2.2.1 c.2.2.2.2.1 c.2.2.2.2.2
    subst h1
    by_cases e : had = true
    · by_cases f : fr = -1
      · rw [try_b c e f, try_b c e f]
      · rw [h2 e f]
    · rw [try_a (fun z => e z.2.2.2.2.2.2), try_a (fun z => e z.2.2.2.2.2.2)]
  · rw [try_a (fun z => c ⟨z.1, z.2.1, z.2.2.1, z.2.2.2.1, z.2.2.2.2.1, z.2.2.2.2.2.1⟩), try_a (fun z => c ⟨z.1, z.2.1, z.2.2.1, z.2.2.2.1, z.2.2.2.2.1, z.2.2.2.2.2.1⟩)]
/-- cells of the class are as the functions A tell -/
noncomputable def zC (A : Nat → Nat → Int) (I : Nat → Nat → Int32) : Prop := (pI I 7 = A 146 ∧ pI I 8 = A 147 ∧ pI I 9 = A 148 ∧ pI I 10 = A 149 ∧ pI I 11 = A 150 ∧ pI I 36 = A 152 ∧ pI I 16 = A 153 ∧ pI I 17 = A 154) ∧ ((I 28 4).toInt = A 118 54 ∧ (I 6 0).toInt = A 118 44) ∧ zPos (A 150) (A 151) (pI I 12) (pI I 13) (pI I 14) (A 118 44) ∧ zSum (I 28 5).toInt (I 28 6).toInt (pI I 37) (A 146) (A 150) (A 151) (A 118 44).toNat
/-- the text in force is told alike -/
noncomputable def zM (t s : Nat) (A : Nat → Nat → Int) (I : Nat → Nat → Int32) : Prop := A 118 18 = (s : Int) ∧ (I t 0).toInt = A 127 s ∧ (I t 1).toInt = A 128 (3 * s) ∧ (I t 2).toInt = A 128 (3 * s + 1) ∧ (I t 3).toInt = A 128 (3 * s + 2) ∧ (I t 4).toInt = A 129 s ∧ (I t 6).toInt = A 131 s ∧ (I t 7).toInt = A 132 s
/-- what holds of the functions -/
noncomputable def zI (s : Nat) (A : Nat → Nat → Int) : Prop := (sr (A 150) (A 151) (A 152) (A 153) (A 154) (A 118 44) ∧ sf_B (A 152)) ∧ ((∀ b, 0 ≤ A 146 b ∧ A 146 b ≤ 40) ∧ (∀ b, 0 ≤ A 150 b ∧ A 150 b ≤ 2) ∧ (∀ b, 0 ≤ A 151 b ∧ A 151 b ≤ 79) ∧ (∀ b, -1 ≤ A 152 b ∧ A 152 b ≤ 29) ∧ (∀ b, 0 ≤ A 153 b ∧ A 153 b ≤ 29) ∧ (∀ b, 0 ≤ A 154 b ∧ A 154 b ≤ 4)) ∧ (0 ≤ A 118 44 ∧ A 118 44 ≤ 30) ∧ (1 ≤ A 127 s ∧ A 127 s ≤ 5)
noncomputable def frA (A : Nat → Nat → Int) (y : Int32) (x : Int) : Int := frV (Int32.ofInt (A 118 54)) y x (A 152)
noncomputable def hadA (A : Nat → Nat → Int) (b : Nat) : Bool := okb (A 150 b = 0 ∨ (A 150 b = 2 ∧ A 151 b % 4 = A 154 (A 151 b / 4).toNat - 1))
noncomputable def mayA (s : Nat) (A : Nat → Nat → Int) (wh sp : Nat → Int) : Bool := okb (mayP (A 127 s) (A 128 (3 * s)) (A 128 (3 * s + 1)) (A 128 (3 * s + 2)) (ab (zL (A 146) (A 150) (A 151) (A 118 44).toNat)) (ab (zT (A 127 s) (A 146) (A 150) (A 151) (A 118 44).toNat)) (zD (A 127 s) (A 146) (A 150) (A 151) (A 118 44).toNat) (A 146) wh sp (A 118 44).toNat)
/-- what loading answers, and leaves -/
noncomputable def ldV (s : Nat) (A : Nat → Nat → Int) (b y x : Int32) : Int := tryV (A 118 44) b.toInt (hadA A b.toInt.toNat) y.toInt x.toInt (A 127 s) (frA A y x.toInt) (A 146 b.toInt.toNat) (A 129 s) (mayA s A (fu_up (A 150) b.toInt.toNat 1) (fu_up (A 151) b.toInt.toNat (frA A y x.toInt)))
noncomputable def ldS (s : Nat) (A : Nat → Nat → Int) (b y x : Int32) : Nat → Nat → Int := if 0 ≤ ldV s A b y x then aS (aS (aS (aS A 150 (fu_up (A 150) b.toInt.toNat 1)) 151 (fu_up (A 151) b.toInt.toNat (frA A y x.toInt))) 152 (fu_up (A 152) (frA A y x.toInt).toNat b.toInt)) 154 (if A 150 b.toInt.toNat = 2 then fu_up (A 154) (A 151 b.toInt.toNat / 4).toNat (A 154 (A 151 b.toInt.toNat / 4).toNat - 1) else A 154) else aS A 151 (if ldV s A b y x = -3 ∧ A 150 b.toInt.toNat = 0 then fu_up (A 151) b.toInt.toNat (frA A y x.toInt) else A 151)
section LD
variable {A : Nat → Nat → Int} {I : Nat → Nat → Int32} {s t : Nat}
theorem frV_b {cv y : Int32} {x : Int} {c : Nat → Int} (hy : 0 ≤ y.toInt ∧ y.toInt ≤ 4) (hx : 0 ≤ x ∧ x ≤ 3) (h : ¬ frV cv y x c = -1) : (0 ≤ frV cv y x c ∧ frV cv y x c ≤ 79) ∧ frV cv y x c / 16 = y.toInt ∧ frV cv y x c / 4 % 4 = x := by
  have k := fr_in hy hx h
  omega
theorem had_C {yb rb tb : Nat → Int} {b : Int} (hi : zI s A) (hp : zPos (A 150) (A 151) yb rb tb (A 118 44)) (h0 : 0 ≤ b) (hb : b < A 118 44) : (A 150 b.toNat = 0 ∨ (A 150 b.toNat = 2 ∧ A 154 (yb b.toNat).toNat ≠ 0 ∧ A 153 (4 * yb b.toNat + A 154 (yb b.toNat).toNat - 1).toNat = b)) ↔ (A 150 b.toNat = 0 ∨ (A 150 b.toNat = 2 ∧ A 151 b.toNat % 4 = A 154 (A 151 b.toNat / 4).toNat - 1)) := by
  have p := (hp b.toNat).2.1
  obtain ⟨⟨⟨hA, hC, hE, hD⟩, -⟩, ⟨-, -, -, -, -, h4⟩, -⟩ := hi
  refine ⟨fun z => z.elim Or.inl (fun ⟨z1, z2, z3⟩ => Or.inr ⟨z1, ?_⟩), fun z => z.elim Or.inl (fun ⟨z1, z2⟩ => Or.inr ⟨z1, ?_⟩)⟩
  · obtain ⟨p1, -, p3, p4⟩ := p z1
    have h := h4 (yb b.toNat).toNat
    have k := hC (yb b.toNat).toNat (A 154 (yb b.toNat).toNat - 1).toNat (by omega) (by omega) (by omega)
    rw [show 4 * (yb b.toNat).toNat + (A 154 (yb b.toNat).toNat - 1).toNat = (4 * yb b.toNat + A 154 (yb b.toNat).toNat - 1).toNat by omega, z3] at k
    rw [show (A 151 b.toNat / 4).toNat = (yb b.toNat).toNat by omega]
    omega
  · obtain ⟨p1, -, p3, p4⟩ := p z1
    rw [show (A 151 b.toNat / 4).toNat = (yb b.toNat).toNat by omega] at z2
    obtain ⟨g, i, g1, i1, k1, k2, k3⟩ := hE b.toNat z1
    refine ⟨by omega, ?_⟩
    rw [show (4 * yb b.toNat + A 154 (yb b.toNat).toNat - 1).toNat = 4 * g + i by omega, k3]
    omega
/-- the class's answer -/
theorem ld_C {b y x n B l g0 g1 g2 cv ls wt : Int32} {yb rb tb bw : Nat → Int} (hi : zI s A) (hp : zPos (A 150) (A 151) yb rb tb (A 118 44)) (hs : zSum ls.toInt wt.toInt bw (A 146) (A 150) (A 151) (A 118 44).toNat) (en : n.toInt = A 118 44) (eB : B.toInt = A 127 s) (e0 : g0.toInt = A 128 (3 * s)) (e1 : g1.toInt = A 128 (3 * s + 1)) (e2 : g2.toInt = A 128 (3 * s + 2)) (el : l.toInt = A 129 s) (ec : cv.toInt = A 118 54) : tryV n.toInt b.toInt (okb (A 150 b.toInt.toNat = 0 ∨ (A 150 b.toInt.toNat = 2 ∧ A 154 (yb b.toInt.toNat).toNat ≠ 0 ∧ A 153 (4 * yb b.toInt.toNat + A 154 (yb b.toInt.toNat).toNat - 1).toNat = b.toInt))) y.toInt x.toInt B.toInt (frV cv y x.toInt (A 152)) (A 146 b.toInt.toNat) l.toInt (okb (mayC B.toInt g0.toInt g1.toInt g2.toInt ls.toInt wt.toInt bw y.toInt x.toInt (A 146 b.toInt.toNat))) = ldV s A b y x := by
  have ef : frV cv y x.toInt (A 152) = frA A y x.toInt := by
    unfold frA
    rw [← ec, Int32.ofInt_toInt]
  unfold ldV
  rw [en, eB, el, ef]
  refine try_cg (fun b0 bn y0 yB x0 x3 => ?_)
  have hB := hi.2.2.2
  refine ⟨okb_cg (had_C hi hp b0 bn), fun hh hf => okb_cg ?_⟩
  rw [e0, e1, e2]
  have fb := frV_b (cv := Int32.ofInt (A 118 54)) (y := y) (x := x.toInt) (c := A 152) ⟨y0, by omega⟩ ⟨x0, x3⟩ hf
  have hw : A 150 b.toInt.toNat ≠ 1 := by
    have := okb_iff.mp hh
    omega
  exact may_on hs (by omega) hw hB fb.1 fb.2.1 fb.2.2 hi.2.1.2.2.1
end LD
/-- what loading leaves in the class -/
theorem ld_zC1 {A : Nat → Nat → Int} {I I' : Nat → Nat → Int32} {s : Nat} {b y x l2 w2 : Int32} (hi : zI s A) (hc : zC A I) (h : 0 ≤ ldV s A b y x) (e7 : pI I' 7 = pI I 7) (e8 : pI I' 8 = pI I 8) (e9 : pI I' 9 = pI I 9) (e10 : pI I' 10 = pI I 10) (e28 : I' 28 4 = I 28 4) (e6 : I' 6 0 = I 6 0) (q5 : I' 28 5 = l2) (q6 : I' 28 6 = w2) (x5 : l2.toInt = (I 28 5).toInt + A 146 b.toInt.toNat * (2 * x.toInt - 3)) (x6 : w2.toInt = (I 28 6).toInt + A 146 b.toInt.toNat) (x11 : pI I' 11 = fu_up (A 150) b.toInt.toNat 1) (x12 : pI I' 12 = fu_up (pI I 12) b.toInt.toNat y.toInt) (x13 : pI I' 13 = fu_up (pI I 13) b.toInt.toNat x.toInt) (x14 : pI I' 14 = fu_up (pI I 14) b.toInt.toNat (frA A y x.toInt % 4)) (x36 : pI I' 36 = fu_up (A 152) (frA A y x.toInt).toNat b.toInt) (x16 : pI I' 16 = A 153) (x17 : pI I' 17 = (if A 150 b.toInt.toNat = 2 then fu_up (A 154) (pI I 12 b.toInt.toNat).toNat (A 154 (pI I 12 b.toInt.toNat).toNat - 1) else A 154)) (x37 : pI I' 37 = fu_up (pI I 37) y.toInt.toNat (pI I 37 y.toInt.toNat + A 146 b.toInt.toNat)) : zC (ldS s A b y x) I' := by
  obtain ⟨⟨b0, bn, y0, yB, x0, x3⟩, hh, hf, -, -, -⟩ := try_inv h
  obtain ⟨⟨c1, c2, c3, c4, c5, c6, c7, c8⟩, ⟨c9, c10⟩, hp, hs⟩ := hc
  have hB := hi.2.2.2
  have hw : A 150 b.toInt.toNat ≠ 1 := by
    have := okb_iff.mp hh
    omega
  have fb := frV_b (cv := Int32.ofInt (A 118 54)) (y := y) (x := x.toInt) (c := A 152) ⟨y0, by omega⟩ ⟨x0, x3⟩ hf
  have fb : (0 ≤ frA A y x.toInt ∧ frA A y x.toInt ≤ 79) ∧ frA A y x.toInt / 16 = y.toInt ∧ frA A y x.toInt / 4 % 4 = x.toInt := fb
  have f17 : pI I' 17 = (if A 150 b.toInt.toNat = 2 then fu_up (A 154) (A 151 b.toInt.toNat / 4).toNat (A 154 (A 151 b.toInt.toNat / 4).toNat - 1) else A 154) := by
    rw [x17]
    by_cases e : A 150 b.toInt.toNat = 2
    · obtain ⟨p1, -, p3, p4⟩ := (hp b.toInt.toNat).2.1 e
      rw [show (A 151 b.toInt.toNat / 4).toNat = (pI I 12 b.toInt.toNat).toNat by omega]
    · rw [if_neg e, if_neg e]
  unfold ldS
  rw [if_pos h]
  refine ⟨⟨e7.trans c1, e8.trans c2, e9.trans c3, e10.trans c4, x11, x36, x16, f17⟩, ⟨by rw [e28]; exact c9, by rw [e6]; exact c10⟩, ?_, ?_⟩
  · show zPos (fu_up (A 150) b.toInt.toNat 1) (fu_up (A 151) b.toInt.toNat (frA A y x.toInt)) (pI I' 12) (pI I' 13) (pI I' 14) (A 118 44)
    rw [x12, x13, x14]
    exact zPos_on hp (by omega) ⟨y0, by omega⟩ ⟨x0, x3⟩ (by omega)
  · show zSum (I' 28 5).toInt (I' 28 6).toInt (pI I' 37) (A 146) (fu_up (A 150) b.toInt.toNat 1) (fu_up (A 151) b.toInt.toNat (frA A y x.toInt)) (A 118 44).toNat
    have k := zSum_on (b := b.toInt.toNat) hs (by omega) hw fb.1
    rw [fb.2.1] at k
    have e5 : (I 28 5).toInt + pL (A 146 b.toInt.toNat) (frA A y x.toInt) = l2.toInt := by
      rw [x5]
      show _ + A 146 b.toInt.toNat * (2 * (frA A y x.toInt / 4 % 4) - 3) = _
      rw [fb.2.2]
    rw [e5, ← x6] at k
    rw [q5, q6, x37]
    exact k
theorem ld_zC0 {A : Nat → Nat → Int} {I : Nat → Nat → Int32} {s : Nat} {b y x : Int32} (hc : zC A I) (h : ldV s A b y x < 0) : zC (ldS s A b y x) I := by
  obtain ⟨⟨c1, c2, c3, c4, c5, c6, c7, c8⟩, ⟨c9, c10⟩, hp, hs⟩ := hc
  unfold ldS
  rw [if_neg (by omega)]
  refine ⟨⟨c1, c2, c3, c4, c5, c6, c7, c8⟩, ⟨c9, c10⟩, ?_, ?_⟩
  · show zPos (A 150) (if ldV s A b y x = -3 ∧ A 150 b.toInt.toNat = 0 then fu_up (A 151) b.toInt.toNat (frA A y x.toInt) else A 151) (pI I 12) (pI I 13) (pI I 14) (A 118 44)
    by_cases c : ldV s A b y x = -3 ∧ A 150 b.toInt.toNat = 0
    · rw [if_pos c]
      exact zPos_sp hp c.2
    · rw [if_neg c]
      exact hp
  · show zSum (I 28 5).toInt (I 28 6).toInt (pI I 37) (A 146) (A 150) (if ldV s A b y x = -3 ∧ A 150 b.toInt.toNat = 0 then fu_up (A 151) b.toInt.toNat (frA A y x.toInt) else A 151) (A 118 44).toNat
    by_cases c : ldV s A b y x = -3 ∧ A 150 b.toInt.toNat = 0
    · rw [if_pos c]
      refine zSum_cg hs (fun z _ => ⟨rfl, fun z1 => (fu_ne (fun e => ?_)).symm⟩)
      subst e
      omega
    · rw [if_neg c]
      exact hs
/-- what holds of the functions stays -/
theorem ld_zI {A : Nat → Nat → Int} {s : Nat} {b y x : Int32} (hi : zI s A) (h29 : b.toInt ≤ 29) : zI s (ldS s A b y x) := by
  obtain ⟨⟨hr, h2⟩, ⟨k1, k2, k3, k4, k5, k6⟩, hn, hB⟩ := hi
  by_cases h : 0 ≤ ldV s A b y x
  · obtain ⟨⟨b0, bn, y0, yB, x0, x3⟩, hh, hf, -, -, -⟩ := try_inv h
    have hh := okb_iff.mp hh
    have fb := frV_b (cv := Int32.ofInt (A 118 54)) (y := y) (x := x.toInt) (c := A 152) ⟨y0, by omega⟩ ⟨x0, x3⟩ hf
    have fb : (0 ≤ frA A y x.toInt ∧ frA A y x.toInt ≤ 79) ∧ frA A y x.toInt / 16 = y.toInt ∧ frA A y x.toInt / 4 % 4 = x.toInt := fb
    have h8 : ∀ q : Nat, q < 40 → 0 ≤ fu_up (A 152) (frA A y x.toInt).toNat b.toInt (2 * q + 1) → 0 ≤ fu_up (A 152) (frA A y x.toInt).toNat b.toInt (2 * q) := by
      intro q hq z
      by_cases e : 2 * q = (frA A y x.toInt).toNat
      · rw [e, fu_eq]
        exact b0
      · rw [fu_ne e]
        by_cases e2 : 2 * q + 1 = (frA A y x.toInt).toNat
        · have hl : lowV (Int32.ofInt (A 118 54)) y x.toInt % 2 = 0 := by
            unfold lowV
            split <;> omega
          have c1 : ¬ A 152 (lowV (Int32.ofInt (A 118 54)) y x.toInt).toNat = -1 := fun c => by
            have : frA A y x.toInt = lowV (Int32.ofInt (A 118 54)) y x.toInt := fr_1 rfl c
            omega
          have c2 : frA A y x.toInt = lowV (Int32.ofInt (A 118 54)) y x.toInt + 1 := by
            by_cases c : A 152 (lowV (Int32.ofInt (A 118 54)) y x.toInt + 1).toNat = -1
            · exact fr_2 rfl c1 c
            · have : frA A y x.toInt = -1 := fr_3 rfl c1 c
              omega
          have := k4 (2 * q)
          rw [show (lowV (Int32.ofInt (A 118 54)) y x.toInt).toNat = 2 * q by omega] at c1
          omega
        · rw [fu_ne e2] at z
          exact h2 q hq z
    unfold ldS
    rw [if_pos h]
    refine ⟨⟨?_, h8⟩, ⟨k1, fu_in k2 (by omega), fu_in k3 fb.1, fu_in k4 (by omega), k5, ?_⟩, hn, hB⟩
    · show sr (fu_up (A 150) b.toInt.toNat 1) (fu_up (A 151) b.toInt.toNat (frA A y x.toInt)) (fu_up (A 152) (frA A y x.toInt).toNat b.toInt) (A 153) (if A 150 b.toInt.toNat = 2 then fu_up (A 154) (A 151 b.toInt.toNat / 4).toNat (A 154 (A 151 b.toInt.toNat / 4).toNat - 1) else A 154) (A 118 44)
      have eb : b.toInt = ((b.toInt.toNat : Nat) : Int) := by omega
      have ef : frA A y x.toInt = (((frA A y x.toInt).toNat : Nat) : Int) := by omega
      rcases hh with z | ⟨z1, z2⟩
      · rw [if_neg (by omega)]
        have k := sr_boards (b := b.toInt.toNat) (k := (frA A y x.toInt).toNat) hr z (by omega)
        rw [← eb, ← ef] at k
        exact k
      · rw [if_pos z1]
        have t := sr_take (g := (A 151 b.toInt.toNat / 4).toNat) (b := b.toInt.toNat) hr (by have := k3 b.toInt.toNat; have := k6 (A 151 b.toInt.toNat / 4).toNat; obtain ⟨g, i, g1, i1, q1, q2, q3⟩ := hr.2.2.1 b.toInt.toNat z1; omega) (by have := k3 b.toInt.toNat; omega) (k6 _).2 z1 (by have := k3 b.toInt.toNat; omega)
        have k := sr_boards (b := b.toInt.toNat) (k := (frA A y x.toInt).toNat) t fu_eq (by omega)
        rw [← eb, ← ef, fu_fu2] at k
        exact k
    · show ∀ q, 0 ≤ (if A 150 b.toInt.toNat = 2 then fu_up (A 154) (A 151 b.toInt.toNat / 4).toNat (A 154 (A 151 b.toInt.toNat / 4).toNat - 1) else A 154) q ∧ (if A 150 b.toInt.toNat = 2 then fu_up (A 154) (A 151 b.toInt.toNat / 4).toNat (A 154 (A 151 b.toInt.toNat / 4).toNat - 1) else A 154) q ≤ 4
      by_cases e : A 150 b.toInt.toNat = 2
      · rw [if_pos e]
        have := k3 b.toInt.toNat
        have := k6 (A 151 b.toInt.toNat / 4).toNat
        exact fu_in k6 (by omega)
      · rw [if_neg e]
        exact k6
  · have fb : ldV s A b y x = -3 → 0 ≤ frA A y x.toInt ∧ frA A y x.toInt ≤ 79 := fun z => by
      by_cases c : 0 ≤ b.toInt ∧ b.toInt < A 118 44 ∧ 0 ≤ y.toInt ∧ y.toInt < A 127 s ∧ 0 ≤ x.toInt ∧ x.toInt ≤ 3
      · by_cases c2 : hadA A b.toInt.toNat = true
        · by_cases c3 : frA A y x.toInt = -1
          · unfold ldV at z
            rw [try_b c c2 c3] at z
            omega
          · exact (frV_b (cv := Int32.ofInt (A 118 54)) (y := y) (x := x.toInt) (c := A 152) ⟨by omega, by omega⟩ ⟨by omega, by omega⟩ c3).1
        · unfold ldV at z
          rw [try_a (fun q => c2 q.2.2.2.2.2.2)] at z
          omega
      · unfold ldV at z
        rw [try_a (fun q => c ⟨q.1, q.2.1, q.2.2.1, q.2.2.2.1, q.2.2.2.2.1, q.2.2.2.2.2.1⟩)] at z
        omega
    unfold ldS
    rw [if_neg h]
    refine ⟨⟨?_, h2⟩, ⟨k1, k2, ?_, k4, k5, k6⟩, hn, hB⟩
    · show sr (A 150) (if ldV s A b y x = -3 ∧ A 150 b.toInt.toNat = 0 then fu_up (A 151) b.toInt.toNat (frA A y x.toInt) else A 151) (A 152) (A 153) (A 154) (A 118 44)
      by_cases c : ldV s A b y x = -3 ∧ A 150 b.toInt.toNat = 0
      · rw [if_pos c]
        obtain ⟨hA, hC, hE, hD⟩ := hr
        refine ⟨fun q hq z => ?_, fun g i hg hi2 z => ?_, fun q z => ?_, hD⟩
        · have k := hA q hq z
          rw [fu_ne (fun e => by rw [e] at k; omega)]
          exact k
        · have k := hC g i hg hi2 z
          rw [fu_ne (fun e => by rw [e] at k; omega)]
          exact k
        · rw [fu_ne (fun e => by rw [e] at z; omega)]
          exact hE q z
      · rw [if_neg c]
        exact hr
    · show ∀ q, 0 ≤ (if ldV s A b y x = -3 ∧ A 150 b.toInt.toNat = 0 then fu_up (A 151) b.toInt.toNat (frA A y x.toInt) else A 151) q ∧ (if ldV s A b y x = -3 ∧ A 150 b.toInt.toNat = 0 then fu_up (A 151) b.toInt.toNat (frA A y x.toInt) else A 151) q ≤ 79
      by_cases c : ldV s A b y x = -3 ∧ A 150 b.toInt.toNat = 0
      · rw [if_pos c]
        exact fu_in k3 (fb c.1)
      · rw [if_neg c]
        exact k3
