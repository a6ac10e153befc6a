/-! what holds of the reference: boxes and rules -/
noncomputable def v_Q (I : Nat → Nat → Int32) : Prop := v_R I ∧ s_P I
noncomputable def q_objs : List Nat := [150, 151, 152, 153, 154, 11, 12, 13, 14, 131, 132, 133, 134, 138, 139, 140, 141, 142]
theorem s_P_cg {I I' : Nat → Nat → Int32} (h : s_P I) (g : ∀ o ∈ q_objs, pI I' o = pI I o) (e18 : I' 118 18 = I 118 18) : s_P I' := by
  intro j
  rw [e18, g 131 (by decide), g 132 (by decide)]
  exact ⟨fun hj => rule_cg ((h j).1 hj) (g 133 (by decide)) (g 134 (by decide)) (g 138 (by decide)) (g 139 (by decide)) (g 140 (by decide)) (g 141 (by decide)) (g 142 (by decide)), fun hj => rule_cg ((h j).2 hj) (g 133 (by decide)) (g 134 (by decide)) (g 138 (by decide)) (g 139 (by decide)) (g 140 (by decide)) (g 141 (by decide)) (g 142 (by decide))⟩
theorem v_R_cg2 {I I' : Nat → Nat → Int32} (h : v_R I) (g : ∀ o ∈ q_objs, pI I' o = pI I o) (e44 : I' 118 44 = I 118 44) : v_R I' := by
  refine ⟨?_, ?_⟩
  · show sr (pI I' 150) (pI I' 151) (pI I' 152) (pI I' 153) (pI I' 154) (I' 118 44).toInt
    rw [g 150 (by decide), g 151 (by decide), g 152 (by decide), g 153 (by decide), g 154 (by decide), e44]
    exact h.1
  · show sf_R (pI I' 11) (pI I' 12) (pI I' 13) (pI I' 14)
    rw [g 11 (by decide), g 12 (by decide), g 13 (by decide), g 14 (by decide)]
    exact h.2
theorem q_same {I I' : Nat → Nat → Int32} {mod : List Nat} (e : ∀ o, mod.contains o = false → ∀ i, I' o i = I o i) (hm : q_objs.all (fun o => !mod.contains o) = true) : ∀ o ∈ q_objs, pI I' o = pI I o := fun o ho => funext fun i => congrArg Int32.toInt (e o (by have := List.all_eq_true.mp hm o ho; rw [Bool.not_eq_true'] at this; exact this) i)
theorem v_Q_cg8 {I I' : Nat → Nat → Int32} {mod : List Nat} (h : v_Q I) (e : ∀ o, mod.contains o = false → ∀ i, I' o i = I o i) (e8 : ∀ i, i ≠ 57 → I' 118 i = I 118 i) (hm : q_objs.all (fun o => !mod.contains o) = true) : v_Q I' := ⟨v_R_cg2 h.1 (q_same e hm) (e8 44 (by decide)), s_P_cg h.2 (q_same e hm) (e8 18 (by decide))⟩
theorem sp_pair {I : Nat → Nat → Int32} {lv pr : Int32} {j : Nat} (h : s_P I) (q : I 118 18 = lv) (q2 : I 131 lv.toInt.toNat = pr) (hj : (j : Int) < pr.toInt) : rule_ok I (16 * (I 118 18).toInt.toNat + j) := by
  refine (h j).1 ?_
  show (j : Int) < (I 131 (I 118 18).toInt.toNat).toInt
  rw [q, q2]
  exact hj
theorem sp_place {I : Nat → Nat → Int32} {lv pr : Int32} {j : Nat} (h : s_P I) (q : I 118 18 = lv) (q2 : I 132 lv.toInt.toNat = pr) (hj : (j : Int) < pr.toInt) : rule_ok I (16 * (I 118 18).toInt.toNat + 8 + j) := by
  refine (h j).2 ?_
  show (j : Int) < (I 132 (I 118 18).toInt.toNat).toInt
  rw [q, q2]
  exact hj
/-- a contract that leaves the rules alone -/
theorem ct_Q {hT : qm_H → Prop} {pre : List Value → (Nat → Nat → Int32) → Prop} {j dep : Nat} {ro : Option qa_B} {mod : List Nat} (h : hk_ct v_R hT pre j ro mod dep) (hm : [131, 132, 133, 134, 138, 139, 140, 141, 142, 118].all (fun o => !mod.contains o) = true) : hk_ct v_Q hT pre j ro mod dep := by
  intro L xs d Z h0 as h6 hH hT hB hV hp hd k
  refine h L xs d Z h0 as h6 hH hT hB hV.1 hp hd (fun r I J hr hB2 hV2 e => k r I J hr hB2 ⟨hV2, ?_⟩ e)
  have hm := List.all_eq_true.mp hm
  have g : ∀ o ∈ [131, 132, 133, 134, 138, 139, 140, 141, 142, 118], ∀ i, I o i = h0.2.1 o i := fun o ho i => e o (by have := hm o ho; rw [Bool.not_eq_true'] at this; exact this) i
  have g2 : ∀ o ∈ [131, 132, 133, 134, 138, 139, 140, 141, 142, 118], pI I o = pI h0.2.1 o := fun o ho => funext fun i => congrArg Int32.toInt (g o ho i)
  intro j
  rw [g 118 (by decide) 18, g2 131 (by decide), g2 132 (by decide)]
  exact ⟨fun hj => rule_cg ((hV.2 j).1 hj) (g2 133 (by decide)) (g2 134 (by decide)) (g2 138 (by decide)) (g2 139 (by decide)) (g2 140 (by decide)) (g2 141 (by decide)) (g2 142 (by decide)), fun hj => rule_cg ((hV.2 j).2 hj) (g2 133 (by decide)) (g2 134 (by decide)) (g2 138 (by decide)) (g2 139 (by decide)) (g2 140 (by decide)) (g2 141 (by decide)) (g2 142 (by decide))⟩
theorem s_P_cg3 {I I' : Nat → Nat → Int32} (h : s_P I) (e1 : pI I' 131 = pI I 131) (e2 : pI I' 132 = pI I 132) (f1 : pI I' 133 = pI I 133) (f2 : pI I' 134 = pI I 134) (f3 : pI I' 138 = pI I 138) (f4 : pI I' 139 = pI I 139) (f5 : pI I' 140 = pI I 140) (f6 : pI I' 141 = pI I 141) (f7 : pI I' 142 = pI I 142) (e18 : I' 118 18 = I 118 18) : s_P I' := by
  intro j
  rw [e18, e1, e2]
  exact ⟨fun hj => rule_cg ((h j).1 hj) f1 f2 f3 f4 f5 f6 f7, fun hj => rule_cg ((h j).2 hj) f1 f2 f3 f4 f5 f6 f7⟩
