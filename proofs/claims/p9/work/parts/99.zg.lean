/-! System.arraycopy by hand -/
theorem hk_acp {X : Option (Nat × (Nat → Int32))} {d : Nat} {cd : qm_Cd} {Z : Option Value → qm_H → Prop} {pc np a b k : Nat} {ls r : List Value} {h : qm_H} {n dp sp : Int32} {o d0 m k2 : Nat} (hf : qm_fetch cd pc = some (pc, np, .invokestatic k, a, b, .null)) (hs : h.1[o]? = some (0, m)) (hd : h.1[d0]? = some (0, k2)) (hc : ((decide (¬ n < 0) && (decide (¬ sp < 0) && decide (¬ dp < 0))) && ((Nat.ble (sp.toNatClampNeg + n.toNatClampNeg) m && Nat.ble (dp.toNatClampNeg + n.toNatClampNeg) k2) && Nat.ble (qm_cat r) 8)) = true) (kk : qm_Ru X d cd (np, ls, r, (h.1, qm_cp h.2.1 o sp.toNatClampNeg d0 dp.toNatClampNeg n.toNatClampNeg, h.2.2.1, h.2.2.2)) Z) : qm_Ru X d cd (pc, ls, .int n :: .int dp :: .ref d0 :: .int sp :: .ref o :: r, h) Z := by
  refine qm_Ru.nx ?_ kk
  rw [hk_st (c := (pc, ls, .int n :: .int dp :: .ref d0 :: .int sp :: .ref o :: r, h)) hf]
  show (match h.1[o]?, h.1[d0]? with
    | some (0, m), some (0, k) => bif (decide (¬ n < 0) && (decide (¬ sp < 0) && decide (¬ dp < 0))) && ((Nat.ble (sp.toNatClampNeg + n.toNatClampNeg) m && Nat.ble (dp.toNatClampNeg + n.toNatClampNeg) k) && Nat.ble (qm_cat r) 8) then qm_nx (np, ls, r, (h.1, qm_cp h.2.1 o sp.toNatClampNeg d0 dp.toNatClampNeg n.toNatClampNeg, h.2.2.1, h.2.2.2)) else none
    | _, _ => none) = _
  rw [hs, hd]
  show (bif (decide (¬ n < 0) && (decide (¬ sp < 0) && decide (¬ dp < 0))) && ((Nat.ble (sp.toNatClampNeg + n.toNatClampNeg) m && Nat.ble (dp.toNatClampNeg + n.toNatClampNeg) k2) && Nat.ble (qm_cat r) 8) then qm_nx (np, ls, r, (h.1, qm_cp h.2.1 o sp.toNatClampNeg d0 dp.toNatClampNeg n.toNatClampNeg, h.2.2.1, h.2.2.2)) else none) = _
  rw [hc]
  rfl
section ACP
variable {I : Nat → Nat → Int32} {s sp d0 dp n : Nat}
theorem cp_ot {o i : Nat} (h : o ≠ d0) : qm_cp I s sp d0 dp n o i = I o i := by
  unfold qm_cp
  rw [qm_bne h]
  rfl
theorem cp_in {i : Nat} (h : i < n) : qm_cp I s sp d0 dp n d0 (dp + i) = I s (sp + i) := by
  unfold qm_cp
  rw [Nat.beq_refl, show Nat.ble dp (dp + i) = true from Nat.ble_eq_true_of_le (by omega), show Nat.blt (dp + i) (dp + n) = true from Nat.ble_eq_true_of_le (by omega), show dp + i - dp = i by omega]
  rfl
theorem cp_out {i : Nat} (h : i < dp ∨ dp + n ≤ i) : qm_cp I s sp d0 dp n d0 i = I d0 i := by
  unfold qm_cp
  have e : (Nat.ble dp i && Nat.blt i (dp + n)) = false := by
    cases g1 : Nat.ble dp i with
    | false => rfl
    | true =>
      cases g2 : Nat.blt i (dp + n) with
      | false => rfl
      | true =>
        have h1 := Nat.le_of_ble_eq_true g1
        have h2 : i + 1 ≤ dp + n := Nat.le_of_ble_eq_true g2
        omega
  rw [e, Bool.and_false]
  rfl
theorem cp_B (hB : hk_B I) (hc : ∀ i : Nat, i < n → qa_in (qa_bd2 d0 (dp + i)) (I s (sp + i))) : hk_B (qm_cp I s sp d0 dp n) := by
  intro o i
  by_cases c : o = d0
  · subst c
    by_cases c2 : i < dp ∨ dp + n ≤ i
    · rw [cp_out c2]
      exact hB o i
    · have e : i = dp + (i - dp) := by omega
      rw [e, cp_in (by omega)]
      exact hc (i - dp) (by omega)
  · rw [cp_ot c]
    exact hB o i
end ACP
/-- stacks of turns of the class -/
noncomputable def tw (f : Nat → Int) : Prop := ∀ s : Nat, s < 4 → 0 ≤ f (16 + s) ∧ f (16 + s) ≤ 4
