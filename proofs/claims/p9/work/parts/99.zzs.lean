/-! what holds of class and reference between calls; contracts by hand, for the engine -/
noncomputable def gS (h : qm_H) : Prop := v_C h.2.1 ∧ v_S h.2.1 ∧ wI h
theorem v_S_sm {I I' : Nat → Nat → Int32} (h : v_S I) (g : ∀ o ∈ q_objs, ∀ i, I' o i = I o i) (g2 : ∀ i, I' 158 i = I 158 i) (e18 : I' 118 18 = I 118 18) (e44 : I' 118 44 = I 118 44) (e59 : I' 118 59 = I 118 59) : v_S I' := by
  have g' : ∀ o ∈ q_objs, pI I' o = pI I o := fun o ho => funext fun i => congrArg Int32.toInt (g o ho i)
  exact ⟨⟨v_R_cg2 h.1.1 g' e44, s_P_cg h.1.2 g' e18⟩, s_L_cg h.2 (funext fun i => congrArg Int32.toInt (g2 i)) e59⟩
theorem hk_H_in {t1 t2 : Nat} {foot : List Nat} {S : qm_H → Prop} {h : qm_H} (hI : qa_Inv (qa_PC t1 t2 foot) S h) : hk_H h ∧ (h.2.2.2 0 9 = some t2 ∧ h.2.2.2 28 2 = some t1) := by
  obtain ⟨i1, i2, i3, i4, i5⟩ := hI
  refine ⟨⟨i1, fun o i w e => ?_⟩, i3 0 9 (some t2) rfl, i3 28 2 (some t1) rfl⟩
  refine i3 o i w ?_
  show (bif Nat.beq o 0 && Nat.beq i 9 then some (some t2) else (bif Nat.beq o 28 && Nat.beq i 2 then some (some t1) else qa_Rt0 o i)) = some w
  cases c1 : Nat.beq o 0 && Nat.beq i 9 with
  | true =>
    rw [Bool.and_eq_true] at c1
    rw [Nat.eq_of_beq_eq_true c1.1, Nat.eq_of_beq_eq_true c1.2] at e
    cases e
  | false =>
    rw [cond_false]
    cases c2 : Nat.beq o 28 && Nat.beq i 2 with
    | true =>
      rw [Bool.and_eq_true] at c2
      rw [Nat.eq_of_beq_eq_true c2.1, Nat.eq_of_beq_eq_true c2.2] at e
      cases e
    | false =>
      rw [cond_false]
      exact e
/-- a contract by hand, for the engine -/
theorem hc_lift {V : (Nat → Nat → Int32) → Prop} {hT : qm_H → Prop} {pre : List Value → (Nat → Nat → Int32) → Prop} {j dep t1 t2 L : Nat} {ro : qa_B} {mod foot : List Nat} {S : qm_H → Prop} {xs : Nat → Int32} {chk : qa_K → List Value → Bool} (c : hk_ct V hT pre j (some ro) mod dep) (h6 : 6 ≤ L) (hV : ∀ h, S h → V h.2.1) (hT' : ∀ h, S h → (h.2.2.2 0 9 = some t2 ∧ h.2.2.2 28 2 = some t1) → hT h) (hS : ∀ (h : qm_H) (I : Nat → Nat → Int32) (J : Nat → Nat → Int64), S h → V I → (∀ o, mod.contains o = false → ∀ i, I o i = h.2.1 o i) → S (h.1, I, J, h.2.2.2)) (hR : ∀ h, S h → hk_ru h.2.1) (hp : ∀ (p : List Int32) (K : qa_K) (as as' : List Value) (I : Nat → Nat → Int32), qa_sat p K → qa_G p as as' → chk K as = true → pre as' I) : qa_hc (qa_PC t1 t2 foot) S (some (L, xs)) (j, chk, some ro, mod, dep) := by
  intro p K as as' h d Z hs hpp hg hc hI hd k
  have hH := hk_H_in hI
  obtain ⟨i1, i2, i3, i4, i5⟩ := hI
  refine c L xs d Z h as' h6 hH.1 (hT' h i4 hH.2) i2 (hV h i4) (hp p K as as' h.2.1 hs hg hc) hd (fun r I J hr hB hVI e => ?_)
  have hS' := hS h I J i4 hVI e
  exact k r (h.1, I, J, h.2.2.2) hr ⟨i1, hB, i3, hS', fun r hr1 _ _ i e => hR _ hS' r hr1 i e⟩ e
