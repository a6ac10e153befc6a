/-! lorries -/
theorem v_S_add {I I' : Nat → Nat → Int32} {n : Int32} {b : Int} (h : v_S I) (hn : I 118 59 = n) (e59 : (I' 118 59).toInt = n.toInt + 1) (e158 : pI I' 158 = fu_up (pI I 158) n.toInt.toNat b) (hb : ∀ i : Nat, (i : Int) < n.toInt → (I 158 i).toInt ≠ b) (h0 : 0 ≤ n.toInt) (hq : v_Q I') : v_S I' := by
  refine ⟨hq, fun i j hij hj => ?_⟩
  rw [e59] at hj
  show pI I' 158 i ≠ pI I' 158 j
  rw [e158, fu_ne (show i ≠ n.toInt.toNat by omega)]
  by_cases c : j = n.toInt.toNat
  · subst c
    rw [fu_eq]
    exact hb i (by omega)
  · rw [fu_ne c]
    exact h.2 i j hij (by rw [hn]; omega)
theorem v_S_none {I' : Nat → Nat → Int32} (hq : v_Q I') (e59 : (I' 118 59).toInt = 0) : v_S I' := ⟨hq, fun i j hij hj => by rw [e59] at hj; omega⟩
theorem v_Q_cg3 {I I' : Nat → Nat → Int32} (h : v_Q I) (g : ∀ o ∈ q_objs, pI I' o = pI I o) (e44 : I' 118 44 = I 118 44) (e18 : I' 118 18 = I 118 18) : v_Q I' := ⟨v_R_cg2 h.1 g e44, s_P_cg h.2 g e18⟩
