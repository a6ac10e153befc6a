/-! branches over sums; the larger of two sums -/
def ti_xb (g : Bool) (E : qm_En) (it : qm_It) (q : ClassFile.Cond) (c : qm_CS) : qm_RS := match c.2.2.1 with
  | y :: x :: r => (match ti_2 g E y x with
    | some (m, k) => bif Nat.blt m 64 && Nat.blt k 64 then qm_brS q (.int (Int32.ofNat k)) (.int (Int32.ofNat m)) (it.2.2.2.1, c.2.1, r, c.2.2.2) (it.2.1, c.2.1, r, c.2.2.2) else qm_brS q (.float (ti_id k)) (.float (ti_id m)) (it.2.2.2.1, c.2.1, r, c.2.2.2) (it.2.1, c.2.1, r, c.2.2.2)
    | none => qm_xS E it c)
  | _ => qm_xS E it c
def ti_xx (g : Bool) (E : qm_En) (it : qm_It) (c : qm_CS) : qm_RS := match it.2.2.2.2.2, it.2.2.2.1, c.2.2.1 with
  | .int _, 0, y :: x :: r => (match ti_2 g E y x with
    | some (m, k) => bif Nat.ble (qm_cat r) 8 then (match qm_fa E.2 (400 + 2 * k) (400 + 2 * m) with
      | some true => qm_nxS (it.2.1, c.2.1, ti_to m :: r, c.2.2.2)
      | some false => qm_nxS (it.2.1, c.2.1, ti_to k :: r, c.2.2.2)
      | none => qm_spS (1180591620717411303424 + (400 + 2 * k) * 4294967296 + (400 + 2 * m))) else none
    | none => qm_xS E it c)
  | _, _, _ => qm_xS E it c
section TIB
variable {xs : Nat → Int32} {E : qm_En} {pc np a f : Nat} {v : Value} {ls st : List Value} {h : qm_HS} {R : qm_SS} {g : Bool}
theorem ti_y_icmp {q : ClassFile.Cond} {t : Int} (hs : qm_sat (qm_rho xs (ti_y xs)) E) (hG : g = true → ti_G (xs 1)) (hx : ti_xb g E (pc, np, .if_icmp q t, a, f, v) q (pc, ls, st, h) = some R) (hR : qm_isp R = false) : qm_x (some (6, xs)) (pc, np, .if_icmp q t, a, f, v) (qm_cs (qm_rho xs (ti_y xs)) (pc, ls, st, h)) = qm_f2 (qm_rho xs (ti_y xs)) R := by
  unfold ti_xb at hx
  split at hx
  · rename_i y x r hst
    have hst : st = y :: x :: r := hst
    subst hst
    split at hx
    · rename_i m k h2
      obtain ⟨g1, g2, g3, g4⟩ := ti_2_ok hs hG h2
      cases ho : Nat.blt m 64 && Nat.blt k 64 with
      | true =>
        simp only [ho, cond_true, qm_brS] at hx
        cases hx
        rw [Bool.and_eq_true] at ho
        rw [ti_con (xs 1) (Nat.le_of_ble_eq_true ho.1)] at g1
        rw [ti_con (xs 1) (Nat.le_of_ble_eq_true ho.2)] at g2
        have e1 : ∀ z : Int32, qm_sv (qm_rho xs (ti_y xs)) (.int z) = .int z := fun _ => rfl
        simp only [qm_x, qm_cs, List.map_cons, g1, g2, qm_br, qm_f2, e1]
      | false =>
        simp only [ho, cond_false, qm_brS] at hx
        cases hx
        have e1 := ti_fl (xs := xs) (m := m) (by omega)
        have e2 := ti_fl (xs := xs) (m := k) (by omega)
        simp only [qm_x, qm_cs, List.map_cons, g1, g2, qm_br, qm_f2, e1, e2]
    · exact qm_y hs hx hR
  · exact qm_y hs hx hR
theorem ti_y_max {i : Nat} (hs : qm_sat (qm_rho xs (ti_y xs)) E) (hG : g = true → ti_G (xs 1)) (hx : ti_xx g E (pc, np, .invokestatic i, a, f, v) (pc, ls, st, h) = some R) (hR : qm_isp R = false) : qm_x (some (6, xs)) (pc, np, .invokestatic i, a, f, v) (qm_cs (qm_rho xs (ti_y xs)) (pc, ls, st, h)) = qm_f2 (qm_rho xs (ti_y xs)) R := by
  unfold ti_xx at hx
  split at hx
  · rename_i t y x r hv ha hst
    have hst : st = y :: x :: r := hst
    have hv : v = .int t := hv
    have ha : a = 0 := ha
    subst hst
    subst hv
    subst ha
    split at hx
    · rename_i m k h2
      obtain ⟨g1, g2, g3, g4⟩ := ti_2_ok hs hG h2
      cases ho : Nat.ble (qm_cat r) 8 with
      | false => simp only [ho, cond_false] at hx; cases hx
      | true =>
        simp only [ho, cond_true] at hx
        split at hx
        · rename_i hf
          have h1 : qm_rho xs (ti_y xs) (400 + 2 * k) < qm_rho xs (ti_y xs) (400 + 2 * m) := of_decide_eq_true (hs.2 _ (qm_fa_mem hf))
          rw [ti_r400, ti_r400] at h1
          cases hx
          have e1 := ti_to_ok (xs := xs) (m := m) (by omega)
          simp only [qm_x, qm_cs, List.map_cons, g1, g2, qm_cat_sv, ho, cond_true, qm_nx, qm_f2, e1, if_pos h1]
        · rename_i hf
          have h1 : ¬ qm_rho xs (ti_y xs) (400 + 2 * k) < qm_rho xs (ti_y xs) (400 + 2 * m) := of_decide_eq_false (hs.2 _ (qm_fa_mem hf))
          rw [ti_r400, ti_r400] at h1
          cases hx
          have e1 := ti_to_ok (xs := xs) (m := k) (by omega)
          simp only [qm_x, qm_cs, List.map_cons, g1, g2, qm_cat_sv, ho, cond_true, qm_nx, qm_f2, e1, if_neg h1]
        · cases hx
          cases hR
    · exact qm_y hs hx hR
  · exact qm_y hs hx hR
end TIB
