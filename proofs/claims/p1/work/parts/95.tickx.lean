/-! the explorer's steps for digits and their sums -/
def ti_2 (g : Bool) (E : qm_En) (y x : Value) : Option (Nat × Nat) := bif g then (match y, x with
  | .int _, .int _ => none
  | _, _ => (match ti_of y, ti_of x with
    | some a, some b => some (ti_n E a, ti_n E b)
    | _, _ => none)) else none
theorem ti_n_le (E : qm_En) (m : Nat) : ti_n E m ≤ m := by
  unfold ti_n
  cases ti_z E 310 <;> cases ti_z E 314 <;> cases ti_z E 318 <;> simp <;> omega
theorem ti_2_ok {xs : Nat → Int32} {E : qm_En} (hs : qm_sat (qm_rho xs (ti_y xs)) E) {g : Bool} (hG : g = true → ti_G (xs 1)) {y x : Value} {m k : Nat} (h : ti_2 g E y x = some (m, k)) : qm_sv (qm_rho xs (ti_y xs)) y = .int (ti_l (xs 1) m) ∧ qm_sv (qm_rho xs (ti_y xs)) x = .int (ti_l (xs 1) k) ∧ m < 30000 ∧ k < 30000 := by
  cases g with
  | false => cases h
  | true =>
    have hG := hG rfl
    simp only [ti_2, cond_true] at h
    split at h
    · cases h
    · split at h
      · rename_i a b ha hb
        cases h
        obtain ⟨a1, a2⟩ := ti_of_ok (xs := xs) ha
        obtain ⟨b1, b2⟩ := ti_of_ok (xs := xs) hb
        have := ti_n_le E a
        have := ti_n_le E b
        refine ⟨by rw [ti_n_ok hs hG]; exact a1, by rw [ti_n_ok hs hG]; exact b1, by omega, by omega⟩
      · cases h
def ti_ok2 (a b : Nat) : Bool := (Nat.blt (a % 64 + b % 64) 64 && Nat.blt (a / 64 % 8 + b / 64 % 8) 8) && Nat.blt (a / 512 % 8 + b / 512 % 8) 8
theorem ti_ok2_ok {a b : Nat} (h : ti_ok2 a b = true) (x : Int32) : ti_l x (a + b) = ti_l x a + ti_l x b := by
  unfold ti_ok2 at h
  simp only [Bool.and_eq_true] at h
  exact ti_add x (Nat.le_of_ble_eq_true h.1.1) (Nat.le_of_ble_eq_true h.1.2) (Nat.le_of_ble_eq_true h.2)
def ti_xa (g : Bool) (E : qm_En) (it : qm_It) (c : qm_CS) : qm_RS := match c.2.2.1 with
  | y :: x :: r => (match ti_2 g E y x with
    | some (m, k) => bif ti_ok2 k m then qm_nxS (it.2.1, c.2.1, ti_to (k + m) :: r, c.2.2.2) else none
    | none => qm_xS E it c)
  | _ => qm_xS E it c
section TIX
variable {xs : Nat → Int32} {E : qm_En} {pc np a f : Nat} {v : Value} {ls st : List Value} {h : qm_HS} {R : qm_SS} {g : Bool}
theorem ti_y_iadd (hs : qm_sat (qm_rho xs (ti_y xs)) E) (hG : g = true → ti_G (xs 1)) (hx : ti_xa g E (pc, np, .iadd, a, f, v) (pc, ls, st, h) = some R) (hR : qm_isp R = false) : qm_x (some (6, xs)) (pc, np, .iadd, a, f, v) (qm_cs (qm_rho xs (ti_y xs)) (pc, ls, st, h)) = qm_f2 (qm_rho xs (ti_y xs)) R := by
  unfold ti_xa at hx
  split at hx
  · rename_i y x q hst
    have hst : st = y :: x :: q := hst
    subst hst
    split at hx
    · rename_i m k h2
      obtain ⟨g1, g2, g3, g4⟩ := ti_2_ok hs hG h2
      cases ho : ti_ok2 k m with
      | false => simp only [ho, cond_false] at hx; cases hx
      | true =>
        simp only [ho, cond_true, qm_nxS] at hx
        cases hx
        have e1 := ti_to_ok (xs := xs) (m := k + m) (by omega)
        rw [ti_ok2_ok ho] at e1
        simp only [qm_x, qm_cs, List.map_cons, g1, g2, qm_nx, qm_f2, e1]
    · exact qm_y hs hx hR
  · exact qm_y hs hx hR
end TIX
