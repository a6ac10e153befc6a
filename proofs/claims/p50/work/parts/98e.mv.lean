/-! the moves of boxes over cells -/
def pI (I : Nat → Nat → Int32) (o : Nat) : Nat → Int := fun i => (I o i).toInt
def hk_rr (I : Nat → Nat → Int32) : Prop := ∀ i, (I 150 i).toInt = 2 → 0 ≤ (I 151 i).toInt ∧ (I 151 i).toInt ≤ 15
def hk_rc (I : Nat → Nat → Int32) : Prop := sf_R (fun i => (I 11 i).toInt) (fun i => (I 12 i).toInt) (fun i => (I 13 i).toInt) (fun i => (I 14 i).toInt)
def v_C (I : Nat → Nat → Int32) : Prop := s_C I ∧ hk_rr I
def v_R (I : Nat → Nat → Int32) : Prop := s_R I ∧ hk_rc I
theorem v_R_rr {I : Nat → Nat → Int32} (h : s_R I) : hk_rr I := fun b e => by
  obtain ⟨g, i, g1, g2, g3, _⟩ := h.2.2.1 b e
  have g3 : (I 151 b).toInt = 4 * (g : Int) + (i : Int) := g3
  omega
theorem v_C_ru {I : Nat → Nat → Int32} (h : v_C I) : hk_ru I := hk_ru_of h.1.1.2.2.2 h.2
theorem v_R_ru {I : Nat → Nat → Int32} (h : v_R I) : hk_ru I := hk_ru_of h.2 (v_R_rr h.1)
section MV
variable {I I' : Nat → Nat → Int32} {b s k k16 : Nat} {a11 a12 a13 a14 a36 a16 a17 m n hv : Int}
theorem mC_make (hV : s_Cf I) (e11 : pI I' 11 = fu_up (pI I 11) b a11) (e12 : pI I' 12 = fu_up (pI I 12) b a12) (e13 : pI I' 13 = fu_up (pI I 13) b a13) (e14 : pI I' 14 = fu_up (pI I 14) b a14) (e36 : pI I' 36 = pI I 36) (e16 : pI I' 16 = pI I 16) (e17 : pI I' 17 = pI I 17) (e6 : (I' 6 0).toInt = m) (f6 : (I 6 0).toInt = n) (h11 : a11 = 0) (hb : (b : Int) = n) (hm : m = n + 1) : s_Cf I' := by
  subst h11
  subst hm
  have := sf_make (v1 := a12) (v2 := a13) (v3 := a14) hV (hb.trans f6.symm)
  show sf (pI I' 11) (pI I' 12) (pI I' 13) (pI I' 14) (pI I' 36) (pI I' 16) (pI I' 17) (I' 6 0).toInt
  rw [e11, e12, e13, e14, e36, e16, e17, e6, ← f6]
  exact this
theorem mC_yput (hV : s_Cf I) (e11 : pI I' 11 = fu_up (pI I 11) b a11) (e12 : pI I' 12 = fu_up (pI I 12) b a12) (e13 : pI I' 13 = fu_up (pI I 13) b a13) (e14 : pI I' 14 = fu_up (pI I 14) b a14) (e36 : pI I' 36 = pI I 36) (e16 : pI I' 16 = fu_up (pI I 16) k16 a16) (e17 : pI I' 17 = fu_up (pI I 17) s a17) (e6 : (I' 6 0).toInt = (I 6 0).toInt) (f11 : pI I 11 b = 0) (f17 : pI I 17 s = hv) (f6 : (I 6 0).toInt = n) (h11 : a11 = 2) (h12 : a12 = s) (h14 : a14 = hv) (h16 : a16 = b) (hk : k16 = 4 * s + hv.toNat) (h17 : a17 = hv + 1) (hs : s < 4) (h0 : 0 ≤ hv) (h3 : hv ≤ 3) (hb : (b : Int) < n) : s_Cf I' := by
  subst h11
  subst h12
  rw [h14] at e14
  subst h16
  subst h17
  subst hk
  have := sf_yput (v := a13) (s := s) hV f11 hs (by rw [show (I 17 s).toInt = hv from f17]; exact h0) (by rw [show (I 17 s).toInt = hv from f17]; exact h3) (by rw [f6]; exact hb)
  rw [show (I 17 s).toInt = hv from f17] at this
  show sf (pI I' 11) (pI I' 12) (pI I' 13) (pI I' 14) (pI I' 36) (pI I' 16) (pI I' 17) (I' 6 0).toInt
  rw [e11, e12, e13, e14, e36, e16, e17, e6]
  exact this
theorem mC_take (hV : s_Cf I) (e11 : pI I' 11 = fu_up (pI I 11) b a11) (e12 : pI I' 12 = fu_up (pI I 12) b a12) (e13 : pI I' 13 = fu_up (pI I 13) b a13) (e14 : pI I' 14 = fu_up (pI I 14) b a14) (e36 : pI I' 36 = pI I 36) (e16 : pI I' 16 = pI I 16) (e17 : pI I' 17 = fu_up (pI I 17) s a17) (e6 : (I' 6 0).toInt = (I 6 0).toInt) (f17 : pI I 17 s = hv) (f16 : (pI I 16 k16).toNat = b) (h11 : a11 = 0) (hk : k16 = 4 * s + (hv.toNat - 1)) (h17 : a17 = hv - 1) (hs : s < 4) (h1 : 1 ≤ hv) (h4 : hv ≤ 4) : s_Cf I' := by
  subst h11
  subst h17
  subst hk
  have := (sf_take (s := s) (b := b) (v1 := a12) (v2 := a13) (v3 := a14) hV hs (by rw [show (I 17 s).toInt = hv from f17]; exact h1) (by rw [show (I 17 s).toInt = hv from f17]; exact h4) (by rw [show (I 17 s).toInt = hv from f17]; exact f16.symm)).1
  rw [show (I 17 s).toInt = hv from f17] at this
  show sf (pI I' 11) (pI I' 12) (pI I' 13) (pI I' 14) (pI I' 36) (pI I' 16) (pI I' 17) (I' 6 0).toInt
  rw [e11, e12, e13, e14, e36, e16, e17, e6]
  exact this
theorem mC_put (hV : s_Cf I) (e11 : pI I' 11 = fu_up (pI I 11) b a11) (e12 : pI I' 12 = fu_up (pI I 12) b a12) (e13 : pI I' 13 = fu_up (pI I 13) b a13) (e14 : pI I' 14 = fu_up (pI I 14) b a14) (e36 : pI I' 36 = fu_up (pI I 36) k a36) (e16 : pI I' 16 = pI I 16) (e17 : pI I' 17 = pI I 17) (e6 : (I' 6 0).toInt = (I 6 0).toInt) (f11 : pI I 11 b = 0) (f6 : (I 6 0).toInt = n) (h11 : a11 = 1) (h36 : a36 = b) (hk : 16 * a12 + 4 * a13 + a14 = (k : Int)) (hy : 0 ≤ a12 ∧ a12 ≤ 4) (hr : 0 ≤ a13 ∧ a13 ≤ 3) (ht : 0 ≤ a14 ∧ a14 ≤ 3) (hb : (b : Int) < n) : s_Cf I' := by
  subst h11
  subst h36
  have := sf_put hV f11 hk hy hr ht (by rw [f6]; exact hb)
  show sf (pI I' 11) (pI I' 12) (pI I' 13) (pI I' 14) (pI I' 36) (pI I' 16) (pI I' 17) (I' 6 0).toInt
  rw [e11, e12, e13, e14, e36, e16, e17, e6]
  exact this
theorem mC_rem (hV : s_Cf I) (e11 : pI I' 11 = fu_up (pI I 11) b a11) (e12 : pI I' 12 = fu_up (pI I 12) b a12) (e13 : pI I' 13 = fu_up (pI I 13) b a13) (e14 : pI I' 14 = fu_up (pI I 14) b a14) (e36 : pI I' 36 = fu_up (pI I 36) k a36) (e16 : pI I' 16 = pI I 16) (e17 : pI I' 17 = pI I 17) (e6 : (I' 6 0).toInt = (I 6 0).toInt) (f11 : pI I 11 b = 1) (h11 : a11 = 0) (h36 : a36 = -1) (hk : 16 * pI I 12 b + 4 * pI I 13 b + pI I 14 b = (k : Int)) : s_Cf I' := by
  subst h11
  subst h36
  have := sf_rem (v1 := a12) (v2 := a13) (v3 := a14) hV f11 hk
  show sf (pI I' 11) (pI I' 12) (pI I' 13) (pI I' 14) (pI I' 36) (pI I' 16) (pI I' 17) (I' 6 0).toInt
  rw [e11, e12, e13, e14, e36, e16, e17, e6]
  exact this
variable {g : Nat} {w0 w1 w2 w3 w4 : Int}
theorem mR_box (hV : s_R I) (e0 : pI I' 150 = fu_up (pI I 150) b w0) (e1 : pI I' 151 = pI I 151) (e2 : pI I' 152 = pI I 152) (e3 : pI I' 153 = pI I 153) (e4 : pI I' 154 = pI I 154) (e6 : (I' 118 44).toInt = m) (f6 : (I 118 44).toInt = n) (h0 : w0 = 0) (hb : (b : Int) = n) (hm : m = n + 1) : s_R I' := by
  subst h0
  subst hm
  have := sr_box hV (hb.trans f6.symm)
  show sr (pI I' 150) (pI I' 151) (pI I' 152) (pI I' 153) (pI I' 154) (I' 118 44).toInt
  rw [e0, e1, e2, e3, e4, e6, ← f6]
  exact this
theorem mR_puts (hV : s_R I) (e0 : pI I' 150 = fu_up (pI I 150) b w0) (e1 : pI I' 151 = fu_up (pI I 151) b w1) (e2 : pI I' 152 = pI I 152) (e3 : pI I' 153 = fu_up (pI I 153) k w3) (e4 : pI I' 154 = fu_up (pI I 154) g w4) (e6 : (I' 118 44).toInt = (I 118 44).toInt) (f0 : pI I 150 b = 0) (f4 : pI I 154 g = hv) (f6 : (I 118 44).toInt = n) (h0 : w0 = 2) (h1 : w1 = 4 * (g : Int) + hv) (h3 : w3 = b) (hk : k = 4 * g + hv.toNat) (h4 : w4 = hv + 1) (hg : g < 4) (hv0 : 0 ≤ hv) (hv3 : hv ≤ 3) (hb : (b : Int) < n) : s_R I' := by
  subst h0
  subst h1
  subst h3
  subst h4
  subst hk
  have := sr_puts (g := g) hV f0 hg (by rw [show (I 154 g).toInt = hv from f4]; exact hv0) (by rw [show (I 154 g).toInt = hv from f4]; exact hv3) (by rw [f6]; exact hb)
  rw [show (I 154 g).toInt = hv from f4] at this
  show sr (pI I' 150) (pI I' 151) (pI I' 152) (pI I' 153) (pI I' 154) (I' 118 44).toInt
  rw [e0, e1, e2, e3, e4, e6]
  exact this
theorem mR_take (hV : s_R I) (e0 : pI I' 150 = fu_up (pI I 150) b w0) (e1 : pI I' 151 = pI I 151) (e2 : pI I' 152 = pI I 152) (e3 : pI I' 153 = pI I 153) (e4 : pI I' 154 = fu_up (pI I 154) g w4) (e6 : (I' 118 44).toInt = (I 118 44).toInt) (f0 : pI I 150 b = 2) (f4 : pI I 154 g = hv) (f1 : pI I 151 b = 4 * (g : Int) + (hv - 1)) (h0 : w0 = 0) (h4 : w4 = hv - 1) (hg : g < 4) (hv0 : 1 ≤ hv) (hv3 : hv ≤ 4) : s_R I' := by
  subst h0
  subst h4
  have := sr_take (g := g) hV hg (by rw [show (I 154 g).toInt = hv from f4]; exact hv0) (by rw [show (I 154 g).toInt = hv from f4]; exact hv3) f0 (by rw [show (I 154 g).toInt = hv from f4]; exact f1)
  rw [show (I 154 g).toInt = hv from f4] at this
  show sr (pI I' 150) (pI I' 151) (pI I' 152) (pI I' 153) (pI I' 154) (I' 118 44).toInt
  rw [e0, e1, e2, e3, e4, e6]
  exact this
theorem mR_boards (hV : s_R I) (e0 : pI I' 150 = fu_up (pI I 150) b w0) (e1 : pI I' 151 = fu_up (pI I 151) b w1) (e2 : pI I' 152 = fu_up (pI I 152) k w2) (e3 : pI I' 153 = pI I 153) (e4 : pI I' 154 = pI I 154) (e6 : (I' 118 44).toInt = (I 118 44).toInt) (f0 : pI I 150 b = 0) (f6 : (I 118 44).toInt = n) (h0 : w0 = 1) (h1 : w1 = (k : Int)) (h2 : w2 = b) (hb : (b : Int) < n) : s_R I' := by
  subst h0
  subst h1
  subst h2
  have := sr_boards (k := k) hV f0 (by rw [f6]; exact hb)
  show sr (pI I' 150) (pI I' 151) (pI I' 152) (pI I' 153) (pI I' 154) (I' 118 44).toInt
  rw [e0, e1, e2, e3, e4, e6]
  exact this
theorem mR_away (hV : s_R I) (e0 : pI I' 150 = fu_up (pI I 150) b w0) (e1 : pI I' 151 = pI I 151) (e2 : pI I' 152 = fu_up (pI I 152) k w2) (e3 : pI I' 153 = pI I 153) (e4 : pI I' 154 = pI I 154) (e6 : (I' 118 44).toInt = (I 118 44).toInt) (f0 : pI I 150 b = 1) (f1 : pI I 151 b = (k : Int)) (h0 : w0 = 0) (h2 : w2 = -1) : s_R I' := by
  subst h0
  subst h2
  have := sr_away (k := k) hV f0 f1
  show sr (pI I' 150) (pI I' 151) (pI I' 152) (pI I' 153) (pI I' 154) (I' 118 44).toInt
  rw [e0, e1, e2, e3, e4, e6]
  exact this
end MV
