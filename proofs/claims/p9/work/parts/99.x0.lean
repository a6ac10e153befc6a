/-! what is left as it was -/
theorem hk_ms {m1 m2 : List Nat} {o : Nat} (h : m1.all (fun x => m2.contains x) = true) (ho : m2.contains o = false) : m1.contains o = false := by
  cases hb : m1.contains o with
  | false => rfl
  | true =>
    have := List.all_eq_true.mp h o (List.contains_iff_mem.mp hb)
    rw [ho] at this
    cases this
theorem v_R_cg {I I' : Nat → Nat → Int32} {mod : List Nat} (h : v_R I) (e : ∀ o, mod.contains o = false → ∀ i, I' o i = I o i) (hm : [150, 151, 152, 153, 154, 118, 11, 12, 13, 14].all (fun o => !mod.contains o) = true) : v_R I' := by
  have hm := List.all_eq_true.mp hm
  have g : ∀ o, o ∈ [150, 151, 152, 153, 154, 118, 11, 12, 13, 14] → pI I' o = pI I o := fun o ho => funext fun i => congrArg Int32.toInt (e o (by have := hm o ho; rw [Bool.not_eq_true'] at this; exact this) i)
  have e6 : (I' 118 44).toInt = (I 118 44).toInt := congrFun (g 118 (by decide)) 44
  refine ⟨?_, ?_⟩
  · show sr (pI I' 150) (pI I' 151) (pI I' 152) (pI I' 153) (pI I' 154) (I' 118 44).toInt
    rw [g 150 (by decide), g 151 (by decide), g 152 (by decide), g 153 (by decide), g 154 (by decide), e6]
    exact h.1
  · show sf_R (pI I' 11) (pI I' 12) (pI I' 13) (pI I' 14)
    rw [g 11 (by decide), g 12 (by decide), g 13 (by decide), g 14 (by decide)]
    exact h.2
theorem v_C_cg {I I' : Nat → Nat → Int32} {mod : List Nat} (h : v_C I) (e : ∀ o, mod.contains o = false → ∀ i, I' o i = I o i) (hm : [11, 12, 13, 14, 36, 16, 17, 6, 150, 151].all (fun o => !mod.contains o) = true) : v_C I' := by
  have hm := List.all_eq_true.mp hm
  have g0 : ∀ o, o ∈ [11, 12, 13, 14, 36, 16, 17, 6, 150, 151] → ∀ i, I' o i = I o i := fun o ho i => e o (by have := hm o ho; rw [Bool.not_eq_true'] at this; exact this) i
  have g : ∀ o, o ∈ [11, 12, 13, 14, 36, 16, 17, 6, 150, 151] → pI I' o = pI I o := fun o ho => funext fun i => congrArg Int32.toInt (g0 o ho i)
  have e6 : (I' 6 0).toInt = (I 6 0).toInt := congrFun (g 6 (by decide)) 0
  refine ⟨⟨?_, ?_⟩, fun i => ?_⟩
  · show sf (pI I' 11) (pI I' 12) (pI I' 13) (pI I' 14) (pI I' 36) (pI I' 16) (pI I' 17) (I' 6 0).toInt
    rw [g 11 (by decide), g 12 (by decide), g 13 (by decide), g 14 (by decide), g 36 (by decide), g 16 (by decide), g 17 (by decide), e6]
    exact h.1.1
  · show sf_B (pI I' 36)
    rw [g 36 (by decide)]
    exact h.1.2
  · rw [g0 150 (by decide) i, g0 151 (by decide) i]
    exact h.2 i
theorem c_of {I : Nat → Nat → Int32} {x : Int32} {g i k : Nat} {hv : Int} (hV : s_R I) (hg : g < 4) (hi4 : i < 4) (f4 : pI I 154 g = hv) (hi : (i : Int) < hv) (q : I 153 k = x) (hk : k = 4 * g + i) : (I 150 x.toInt.toNat).toInt = 2 ∧ (I 151 x.toInt.toNat).toInt = 4 * (g : Int) + (i : Int) := by
  subst hk
  have e : pI I 153 (4 * g + i) = x.toInt := congrArg Int32.toInt q
  have := hV.2.1 g i hg hi4 (by show (i : Int) < pI I 154 g; rw [f4]; exact hi)
  have this : (I 150 (pI I 153 (4 * g + i)).toNat).toInt = 2 ∧ (I 151 (pI I 153 (4 * g + i)).toNat).toInt = 4 * (g : Int) + (i : Int) := this
  rw [e] at this
  exact this
theorem ra_of {I : Nat → Nat → Int32} {x : Int32} {n : Nat} (hV : s_R I) (hk : n < 80) (q : I 152 n = x) (h0 : 0 ≤ x.toInt) : (I 150 x.toInt.toNat).toInt = 1 ∧ (I 151 x.toInt.toNat).toInt = (n : Int) := by
  have e : pI I 152 n = x.toInt := congrArg Int32.toInt q
  have := hV.1 n hk (by show 0 ≤ pI I 152 n; rw [e]; exact h0)
  have this : (I 150 (pI I 152 n).toNat).toInt = 1 ∧ (I 151 (pI I 152 n).toNat).toInt = (n : Int) := this
  rw [e] at this
  exact this
theorem hk_id {I : Nat → Nat → Int32} {o k : Nat} {x : Int32} (h : I o k = x) : qm_up I o k x = I := by
  funext o' i'
  cases hb : Nat.beq o' o && Nat.beq i' k with
  | true =>
    rw [Bool.and_eq_true] at hb
    rw [Nat.eq_of_beq_eq_true hb.1, Nat.eq_of_beq_eq_true hb.2, qa_up_eq, h]
  | false => exact qa_up_ne hb
