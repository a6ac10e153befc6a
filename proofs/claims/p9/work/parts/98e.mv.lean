/-! the moves of boxes over cells -/
noncomputable def pI (I : Nat → Nat → Int32) (o : Nat) : Nat → Int := fun i => (I o i).toInt
theorem pI_sk {I : Nat → Nat → Int32} {o k o' : Nat} {x : Int32} (h : Nat.beq o' o = false) : pI (qm_up I o k x) o' = pI I o' := funext fun i => congrArg Int32.toInt (qa_up_ne (by rw [h]; rfl))
theorem pI_up {I : Nat → Nat → Int32} {o k : Nat} {x : Int32} : pI (qm_up I o k x) o = fu_up (pI I o) k x.toInt := hk_pu
noncomputable def hk_rr (I : Nat → Nat → Int32) : Prop := ∀ i, (I 150 i).toInt = 2 → 0 ≤ (I 151 i).toInt ∧ (I 151 i).toInt ≤ 15
noncomputable def hk_rc (I : Nat → Nat → Int32) : Prop := sf_R (fun i => (I 11 i).toInt) (fun i => (I 12 i).toInt) (fun i => (I 13 i).toInt) (fun i => (I 14 i).toInt)
noncomputable def v_C (I : Nat → Nat → Int32) : Prop := s_C I ∧ hk_rr I
noncomputable def v_R (I : Nat → Nat → Int32) : Prop := s_R I ∧ hk_rc I
theorem v_R_rr {I : Nat → Nat → Int32} (h : s_R I) : hk_rr I := fun b e => by
  obtain ⟨g, i, g1, g2, g3, _⟩ := h.2.2.1 b e
  have g3 : (I 151 b).toInt = 4 * (g : Int) + (i : Int) := g3
  omega
theorem v_C_ru {I : Nat → Nat → Int32} (h : v_C I) : hk_ru I := hk_ru_of h.1.1.2.2.2 h.2
theorem v_R_ru {I : Nat → Nat → Int32} (h : v_R I) : hk_ru I := hk_ru_of h.2 (v_R_rr h.1)
section MV
variable {I I' : Nat → Nat → Int32} {b s k k16 : Nat} {a11 a12 a13 a14 a36 a16 a17 m n hv : Int}
theorem mC_make (hV : s_Cf I) (e11 : pI I' 11 = fu_up (pI I 11) b a11) (e12 : pI I' 12 = fu_up (pI I 12) b a12) (e13 : pI I' 13 = fu_up (pI I 13) b a13) (e14 : pI I' 14 = fu_up (pI I 14) b a14) (e36 : pI I' 36 = pI I 36) (e16 : pI I' 16 = pI I 16) (e17 : pI I' 17 = pI I 17) (e6 : (I' 6 0).toInt = m) (f6 : (I 6 0).toInt = n) (h11 : a11 = 0) (hb : (b : Int) = n) (hm : m = n + 1) : s_Cf I' := by
  subst h11
  subst hm
  have := sf_make (v1 := a12) (v2 := a13) (v3 := a14) hV (hb.trans f6.symm)
  show sf (pI I' 11) (pI I' 12) (pI I' 13) (pI I' 14) (pI I' 36) (pI I' 16) (pI I' 17) (I' 6 0).toInt
  rw [e11, e12, e13, e14, e36, e16, e17, e6, ← f6]
  exact this
theorem mC_yput (hV : s_Cf I) (e11 : pI I' 11 = fu_up (pI I 11) b a11) (e12 : pI I' 12 = fu_up (pI I 12) b a12) (e13 : pI I' 13 = fu_up (pI I 13) b a13) (e14 : pI I' 14 = fu_up (pI I 14) b a14) (e36 : pI I' 36 = pI I 36) (e16 : pI I' 16 = fu_up (pI I 16) k16 a16) (e17 : pI I' 17 = fu_up (pI I 17) s a17) (e6 : (I' 6 0).toInt = (I 6 0).toInt) (f11 : pI I 11 b = 0) (f17 : pI I 17 s = hv) (f6 : (I 6 0).toInt = n) (h11 : a11 = 2) (h12 : a12 = s) (h14 : a14 = hv) (h16 : a16 = b) (hk : k16 = 4 * s + hv.toNat) (h17 : a17 = hv + 1) (hs : s < 4) (h0 : 0 ≤ hv) (h3 : hv ≤ 3) (hb : (b : Int) < n) : s_Cf I' := by
  subst h11
  subst h12
  rw [h14] at e14
  subst h16
  subst h17
  subst hk
  have := sf_yput (v := a13) (s := s) hV f11 hs (by rw [show (I 17 s).toInt = hv from f17]; exact h0) (by rw [show (I 17 s).toInt = hv from f17]; exact h3) (by rw [f6]; exact hb)
  rw [show (I 17 s).toInt = hv from f17] at this
  show sf (pI I' 11) (pI I' 12) (pI I' 13) (pI I' 14) (pI I' 36) (pI I' 16) (pI I' 17) (I' 6 0).toInt
  rw [e11, e12, e13, e14, e36, e16, e17, e6]
  exact this
theorem mC_take (hV : s_Cf I) (e11 : pI I' 11 = fu_up (pI I 11) b a11) (e12 : pI I' 12 = fu_up (pI I 12) b a12) (e13 : pI I' 13 = fu_up (pI I 13) b a13) (e14 : pI I' 14 = fu_up (pI I 14) b a14) (e36 : pI I' 36 = pI I 36) (e16 : pI I' 16 = pI I 16) (e17 : pI I' 17 = fu_up (pI I 17) s a17) (e6 : (I' 6 0).toInt = (I 6 0).toInt) (f17 : pI I 17 s = hv) (f16 : (pI I 16 k16).toNat = b) (h11 : a11 = 0) (hk : k16 = 4 * s + (hv.toNat - 1)) (h17 : a17 = hv - 1) (hs : s < 4) (h1 : 1 ≤ hv) (h4 : hv ≤ 4) : s_Cf I' := by
  subst h11
  subst h17
  subst hk
  have := (sf_take (s := s) (b := b) (v1 := a12) (v2 := a13) (v3 := a14) hV hs (by rw [show (I 17 s).toInt = hv from f17]; exact h1) (by rw [show (I 17 s).toInt = hv from f17]; exact h4) (by rw [show (I 17 s).toInt = hv from f17]; exact f16.symm)).1
  rw [show (I 17 s).toInt = hv from f17] at this
  show sf (pI I' 11) (pI I' 12) (pI I' 13) (pI I' 14) (pI I' 36) (pI I' 16) (pI I' 17) (I' 6 0).toInt
  rw [e11, e12, e13, e14, e36, e16, e17, e6]
  exact this
theorem mC_put (hV : s_Cf I) (e11 : pI I' 11 = fu_up (pI I 11) b a11) (e12 : pI I' 12 = fu_up (pI I 12) b a12) (e13 : pI I' 13 = fu_up (pI I 13) b a13) (e14 : pI I' 14 = fu_up (pI I 14) b a14) (e36 : pI I' 36 = fu_up (pI I 36) k a36) (e16 : pI I' 16 = pI I 16) (e17 : pI I' 17 = pI I 17) (e6 : (I' 6 0).toInt = (I 6 0).toInt) (f11 : pI I 11 b = 0) (f6 : (I 6 0).toInt = n) (h11 : a11 = 1) (h36 : a36 = b) (hk : 16 * a12 + 4 * a13 + a14 = (k : Int)) (hy : 0 ≤ a12 ∧ a12 ≤ 4) (hr : 0 ≤ a13 ∧ a13 ≤ 3) (ht : 0 ≤ a14 ∧ a14 ≤ 3) (hb : (b : Int) < n) : s_Cf I' := by
  subst h11
  subst h36
  have := sf_put hV f11 hk hy hr ht (by rw [f6]; exact hb)
  show sf (pI I' 11) (pI I' 12) (pI I' 13) (pI I' 14) (pI I' 36) (pI I' 16) (pI I' 17) (I' 6 0).toInt
  rw [e11, e12, e13, e14, e36, e16, e17, e6]
  exact this
theorem mC_rem (hV : s_Cf I) (e11 : pI I' 11 = fu_up (pI I 11) b a11) (e12 : pI I' 12 = fu_up (pI I 12) b a12) (e13 : pI I' 13 = fu_up (pI I 13) b a13) (e14 : pI I' 14 = fu_up (pI I 14) b a14) (e36 : pI I' 36 = fu_up (pI I 36) k a36) (e16 : pI I' 16 = pI I 16) (e17 : pI I' 17 = pI I 17) (e6 : (I' 6 0).toInt = (I 6 0).toInt) (f11 : pI I 11 b = 1) (h11 : a11 = 0) (h36 : a36 = -1) (hk : 16 * pI I 12 b + 4 * pI I 13 b + pI I 14 b = (k : Int)) : s_Cf I' := by
  subst h11
  subst h36
  have := sf_rem (v1 := a12) (v2 := a13) (v3 := a14) hV f11 hk
  show sf (pI I' 11) (pI I' 12) (pI I' 13) (pI I' 14) (pI I' 36) (pI I' 16) (pI I' 17) (I' 6 0).toInt
  rw [e11, e12, e13, e14, e36, e16, e17, e6]
  exact this
variable {g : Nat} {w0 w1 w2 w3 w4 : Int}
theorem mR_box (hV : s_R I) (e0 : pI I' 150 = fu_up (pI I 150) b w0) (e1 : pI I' 151 = pI I 151) (e2 : pI I' 152 = pI I 152) (e3 : pI I' 153 = pI I 153) (e4 : pI I' 154 = pI I 154) (e6 : (I' 118 44).toInt = m) (f6 : (I 118 44).toInt = n) (h0 : w0 = 0) (hb : (b : Int) = n) (hm : m = n + 1) : s_R I' := by
  subst h0
  subst hm
  have := sr_box hV (hb.trans f6.symm)
  show sr (pI I' 150) (pI I' 151) (pI I' 152) (pI I' 153) (pI I' 154) (I' 118 44).toInt
  rw [e0, e1, e2, e3, e4, e6, ← f6]
  exact this
theorem mR_puts (hV : s_R I) (e0 : pI I' 150 = fu_up (pI I 150) b w0) (e1 : pI I' 151 = fu_up (pI I 151) b w1) (e2 : pI I' 152 = pI I 152) (e3 : pI I' 153 = fu_up (pI I 153) k w3) (e4 : pI I' 154 = fu_up (pI I 154) g w4) (e6 : (I' 118 44).toInt = (I 118 44).toInt) (f0 : pI I 150 b = 0) (f4 : pI I 154 g = hv) (f6 : (I 118 44).toInt = n) (h0 : w0 = 2) (h1 : w1 = 4 * (g : Int) + hv) (h3 : w3 = b) (hk : k = 4 * g + hv.toNat) (h4 : w4 = hv + 1) (hg : g < 4) (hv0 : 0 ≤ hv) (hv3 : hv ≤ 3) (hb : (b : Int) < n) : s_R I' := by
  subst h0
  subst h1
  subst h3
  subst h4
  subst hk
  have := sr_puts (g := g) hV f0 hg (by rw [show (I 154 g).toInt = hv from f4]; exact hv0) (by rw [show (I 154 g).toInt = hv from f4]; exact hv3) (by rw [f6]; exact hb)
  rw [show (I 154 g).toInt = hv from f4] at this
  show sr (pI I' 150) (pI I' 151) (pI I' 152) (pI I' 153) (pI I' 154) (I' 118 44).toInt
  rw [e0, e1, e2, e3, e4, e6]
  exact this
theorem mR_take (hV : s_R I) (e0 : pI I' 150 = fu_up (pI I 150) b w0) (e1 : pI I' 151 = pI I 151) (e2 : pI I' 152 = pI I 152) (e3 : pI I' 153 = pI I 153) (e4 : pI I' 154 = fu_up (pI I 154) g w4) (e6 : (I' 118 44).toInt = (I 118 44).toInt) (f0 : pI I 150 b = 2) (f4 : pI I 154 g = hv) (f1 : pI I 151 b = 4 * (g : Int) + (hv - 1)) (h0 : w0 = 0) (h4 : w4 = hv - 1) (hg : g < 4) (hv0 : 1 ≤ hv) (hv3 : hv ≤ 4) : s_R I' := by
  subst h0
  subst h4
  have := sr_take (g := g) hV hg (by rw [show (I 154 g).toInt = hv from f4]; exact hv0) (by rw [show (I 154 g).toInt = hv from f4]; exact hv3) f0 (by rw [show (I 154 g).toInt = hv from f4]; exact f1)
  rw [show (I 154 g).toInt = hv from f4] at this
  show sr (pI I' 150) (pI I' 151) (pI I' 152) (pI I' 153) (pI I' 154) (I' 118 44).toInt
  rw [e0, e1, e2, e3, e4, e6]
  exact this
theorem mR_boards (hV : s_R I) (e0 : pI I' 150 = fu_up (pI I 150) b w0) (e1 : pI I' 151 = fu_up (pI I 151) b w1) (e2 : pI I' 152 = fu_up (pI I 152) k w2) (e3 : pI I' 153 = pI I 153) (e4 : pI I' 154 = pI I 154) (e6 : (I' 118 44).toInt = (I 118 44).toInt) (f0 : pI I 150 b = 0) (f6 : (I 118 44).toInt = n) (h0 : w0 = 1) (h1 : w1 = (k : Int)) (h2 : w2 = b) (hb : (b : Int) < n) : s_R I' := by
  subst h0
  subst h1
  subst h2
  have := sr_boards (k := k) hV f0 (by rw [f6]; exact hb)
  show sr (pI I' 150) (pI I' 151) (pI I' 152) (pI I' 153) (pI I' 154) (I' 118 44).toInt
  rw [e0, e1, e2, e3, e4, e6]
  exact this
theorem mR_away (hV : s_R I) (e0 : pI I' 150 = fu_up (pI I 150) b w0) (e1 : pI I' 151 = pI I 151) (e2 : pI I' 152 = fu_up (pI I 152) k w2) (e3 : pI I' 153 = pI I 153) (e4 : pI I' 154 = pI I 154) (e6 : (I' 118 44).toInt = (I 118 44).toInt) (f0 : pI I 150 b = 1) (f1 : pI I 151 b = (k : Int)) (h0 : w0 = 0) (h2 : w2 = -1) : s_R I' := by
  subst h0
  subst h2
  have := sr_away (k := k) hV f0 f1
  show sr (pI I' 150) (pI I' 151) (pI I' 152) (pI I' 153) (pI I' 154) (I' 118 44).toInt
  rw [e0, e1, e2, e3, e4, e6]
  exact this
end MV
/-! a place that is free, a box that can be had -/
noncomputable def t_free (I : Nat → Nat → Int32) (y r t : Int) : Prop := (0 ≤ y ∧ y ≤ 4) ∧ (0 ≤ r ∧ r ≤ 3) ∧ (0 ≤ t ∧ t ≤ 3) ∧ pI I 36 (16 * y + 4 * r + t).toNat = -1 ∧ (t % 2 = 1 → 0 ≤ pI I 36 (16 * y + 4 * r + t - 1).toNat)
noncomputable def t_had (I : Nat → Nat → Int32) (b : Int) : Prop := 0 ≤ b ∧ b < pI I 6 0 ∧ (pI I 11 b.toNat = 0 ∨ (pI I 11 b.toNat = 2 ∧ pI I 16 (4 * pI I 12 b.toNat + pI I 17 (pI I 12 b.toNat).toNat - 1).toNat = b ∧ 1 ≤ pI I 17 (pI I 12 b.toNat).toNat))
theorem t_free0 {I : Nat → Nat → Int32} {y r t : Int} {k : Nat} {c : Int32} (hy : 0 ≤ y ∧ y ≤ 4) (hr : 0 ≤ r ∧ r ≤ 3) (ht : t = 0 ∨ t = 2) (q : I 36 k = c) (hc : c.toInt = -1) (hk : k = (16 * y + 4 * r + t).toNat) : t_free I y r t := by
  refine ⟨hy, hr, by omega, ?_, fun h => by omega⟩
  rw [← hk]
  show (I 36 k).toInt = -1
  rw [q]
  exact hc
theorem t_free1 {I : Nat → Nat → Int32} {y r t : Int} {k k0 : Nat} {c c0 : Int32} (hy : 0 ≤ y ∧ y ≤ 4) (hr : 0 ≤ r ∧ r ≤ 3) (ht : t = 1 ∨ t = 3) (q : I 36 k = c) (hc : c.toInt = -1) (hk : k = (16 * y + 4 * r + t).toNat) (q0 : I 36 k0 = c0) (hc0 : 0 ≤ c0.toInt) (hk0 : k0 = (16 * y + 4 * r + t - 1).toNat) : t_free I y r t := by
  refine ⟨hy, hr, by omega, ?_, fun h => ?_⟩
  · rw [← hk]
    show (I 36 k).toInt = -1
    rw [q]
    exact hc
  · rw [← hk0]
    show 0 ≤ (I 36 k0).toInt
    rw [q0]
    exact hc0
theorem t_had0 {I : Nat → Nat → Int32} {b : Int} {n w : Int32} (h0 : 0 ≤ b) (q6 : I 6 0 = n) (hn : b < n.toInt) (q : I 11 b.toNat = w) (hw : w.toInt = 0) : t_had I b := by
  refine ⟨h0, ?_, Or.inl ?_⟩
  · show b < (I 6 0).toInt
    rw [q6]
    exact hn
  · show (I 11 b.toNat).toInt = 0
    rw [q]
    exact hw
theorem t_had2 {I : Nat → Nat → Int32} {b : Int} {n w y hi x : Int32} {k g : Nat} (h0 : 0 ≤ b) (q6 : I 6 0 = n) (hn : b < n.toInt) (q : I 11 b.toNat = w) (hw : w.toInt = 2) (q12 : I 12 b.toNat = y) (q17 : I 17 g = hi) (hg : g = y.toInt.toNat) (h1 : 1 ≤ hi.toInt) (q16 : I 16 k = x) (hx : x.toInt = b) (hk : k = (4 * y.toInt + hi.toInt - 1).toNat) : t_had I b := by
  have e12 : pI I 12 b.toNat = y.toInt := congrArg Int32.toInt q12
  have e17 : pI I 17 y.toInt.toNat = hi.toInt := by
    rw [← hg]
    exact congrArg Int32.toInt q17
  refine ⟨h0, ?_, Or.inr ⟨?_, ?_, ?_⟩⟩
  · show b < (I 6 0).toInt
    rw [q6]
    exact hn
  · show (I 11 b.toNat).toInt = 2
    rw [q]
    exact hw
  · rw [e12, e17, ← hk]
    show (I 16 k).toInt = b
    rw [q16]
    exact hx
  · rw [e12, e17]
    exact h1
theorem hk_m1 : (-1 : Int32).toInt = -1 := by decide
section MB
variable {I I' : Nat → Nat → Int32} {k k2 : Nat} {a a2 y r t : Int}
theorem mB_put (hV : s_Cb I) (e36 : pI I' 36 = fu_up (pI I 36) k a) (h0 : 0 ≤ a) (hk : (k : Int) = 16 * y + 4 * r + t) (hf : t % 2 = 1 → 0 ≤ pI I 36 (16 * y + 4 * r + t - 1).toNat) : s_Cb I' := by
  show sf_B (pI I' 36)
  rw [e36]
  intro q hq h1
  by_cases e : 2 * q = k
  · rw [e, fu_eq]
    exact h0
  · rw [fu_ne e]
    by_cases e2 : 2 * q + 1 = k
    · have := hf (by omega)
      rw [show (16 * y + 4 * r + t - 1).toNat = 2 * q by omega] at this
      exact this
    · rw [fu_ne e2] at h1
      exact hV q hq h1
theorem mB_rem (hV : s_Cb I) (e36 : pI I' 36 = fu_up (pI I 36) k a) (ha : a = -1) (hf : k % 2 = 0 → pI I 36 (k + 1) < 0) : s_Cb I' := by
  show sf_B (pI I' 36)
  rw [e36]
  intro q hq h1
  by_cases e2 : 2 * q + 1 = k
  · rw [e2, fu_eq] at h1
    omega
  · rw [fu_ne e2] at h1
    by_cases e : 2 * q = k
    · have := hf (by omega)
      rw [← e] at this
      omega
    · rw [fu_ne e]
      exact hV q hq h1
theorem mB_rem2 (hV : s_Cb I) (e36 : pI I' 36 = fu_up (fu_up (pI I 36) k a) k2 a2) (ha : a = -1) (ha2 : a2 = -1) (hk : k % 2 = 0) (hk2 : k2 = k + 1) : s_Cb I' := by
  show sf_B (pI I' 36)
  rw [e36]
  subst hk2
  intro q hq h1
  by_cases e : 2 * q = k
  · rw [e, fu_eq] at h1
    omega
  · rw [fu_ne (show 2 * q + 1 ≠ k + 1 by omega), fu_ne (show 2 * q + 1 ≠ k by omega)] at h1
    rw [fu_ne (show 2 * q ≠ k + 1 by omega), fu_ne e]
    exact hV q hq h1
theorem a_of {x : Int32} {n : Nat} (hV : s_Cf I) (hk : n < 80) (q : I 36 n = x) (h0 : 0 ≤ x.toInt) : (I 11 x.toInt.toNat).toInt = 1 ∧ 16 * (I 12 x.toInt.toNat).toInt + 4 * (I 13 x.toInt.toNat).toInt + (I 14 x.toInt.toNat).toInt = (n : Int) := by
  have e : pI I 36 n = x.toInt := congrArg Int32.toInt q
  have := hV.1 n hk (by show 0 ≤ pI I 36 n; rw [e]; exact h0)
  have this : (I 11 (pI I 36 n).toNat).toInt = 1 ∧ 16 * (I 12 (pI I 36 n).toNat).toInt + 4 * (I 13 (pI I 36 n).toNat).toInt + (I 14 (pI I 36 n).toNat).toInt = (n : Int) := this
  rw [e] at this
  exact this
end MB
theorem b_low {I : Nat → Nat → Int32} {y r t : Int} (hV : s_Cb I) (hy : 0 ≤ y ∧ y ≤ 4) (hr : 0 ≤ r ∧ r ≤ 3) (ht : t = 0 ∨ t = 2) (h : 0 ≤ pI I 36 (16 * y + 4 * r + (t + 1)).toNat) : 0 ≤ pI I 36 (16 * y + 4 * r + t).toNat := by
  have e1 : (16 * y + 4 * r + (t + 1)).toNat = 2 * ((16 * y + 4 * r + t).toNat / 2) + 1 := by omega
  have e0 : (16 * y + 4 * r + t).toNat = 2 * ((16 * y + 4 * r + t).toNat / 2) := by omega
  rw [e1] at h
  rw [e0]
  exact hV _ (by omega) h
theorem p_at {I : Nat → Nat → Int32} {k : Nat} {c : Int32} {m : Int} (q : I 36 k = c) (e : k = m.toNat) (h : 0 ≤ c.toInt) : 0 ≤ pI I 36 m.toNat := by
  rw [← e]
  show 0 ≤ (I 36 k).toInt
  rw [q]
  exact h
theorem p_no {I : Nat → Nat → Int32} {k : Nat} {c : Int32} {m : Int} (q : I 36 k = c) (e : k = m.toNat) (h : c.toInt = -1) : pI I 36 m.toNat < 0 := by
  rw [← e]
  show (I 36 k).toInt < 0
  rw [q]
  omega
