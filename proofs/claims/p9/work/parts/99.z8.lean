/-! boxes, rules and lorries of the reference -/
noncomputable def v_S (I : Nat → Nat → Int32) : Prop := v_Q I ∧ s_L I
theorem v_S_cg {I I' : Nat → Nat → Int32} {mod : List Nat} (h : v_S I) (e : ∀ o, mod.contains o = false → ∀ i, I' o i = I o i) (e8 : ∀ i, i < 61 → I' 118 i = I 118 i) (hm : q_objs.all (fun o => !mod.contains o) = true) (hl : mod.contains 158 = false) : v_S I' := by
  refine ⟨⟨v_R_cg2 h.1.1 (q_same e hm) (e8 44 (by decide)), s_P_cg h.1.2 (q_same e hm) (e8 18 (by decide))⟩, fun i j hij hj => ?_⟩
  rw [e8 59 (by decide)] at hj
  rw [e 158 hl i, e 158 hl j]
  exact h.2 i j hij hj
