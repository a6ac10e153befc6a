/-! the other steps over digits and sums -/
def ti_dv (n : UInt32) : Option UInt32 := bif decide (n = 2) then some 312 else bif decide (n = 312) then some 316 else bif decide (n = 316) then some 320 else none
def ti_rm (n : UInt32) : Option UInt32 := bif decide (n = 2) then some 310 else bif decide (n = 312) then some 314 else bif decide (n = 316) then some 318 else none
theorem ti_s6 {xs ys : Nat → Int32} : qm_sv (qm_rho xs ys) (.float 312) = .int (ys 6) := rfl
theorem ti_s8 {xs ys : Nat → Int32} : qm_sv (qm_rho xs ys) (.float 316) = .int (ys 8) := rfl
theorem ti_s10 {xs ys : Nat → Int32} : qm_sv (qm_rho xs ys) (.float 320) = .int (ys 10) := rfl
theorem ti_dv_ok {xs : Nat → Int32} {n k : UInt32} (h : ti_dv n = some k) : ∃ x, qm_sv (qm_rho xs (ti_y xs)) (.float n) = .int x ∧ qm_sv (qm_rho xs (ti_y xs)) (.float k) = .int (x / 21) := by
  unfold ti_dv at h
  by_cases h1 : n = 2
  · subst h1
    simp at h
    subst h
    exact ⟨xs 1, wk_rx, by rw [ti_s6, ti_yl (by omega)]; rfl⟩
  · by_cases h2 : n = 312
    · subst h2
      simp at h
      subst h
      exact ⟨xs 1 / 21, by rw [ti_s6, ti_yl (by omega)]; rfl, by rw [ti_s8, ti_yl (by omega)]; rfl⟩
    · by_cases h3 : n = 316
      · subst h3
        simp at h
        subst h
        exact ⟨xs 1 / 21 / 21, by rw [ti_s8, ti_yl (by omega)]; rfl, by rw [ti_s10, ti_yl (by omega)]; rfl⟩
      · simp [h1, h2, h3] at h
theorem ti_rm_ok {xs : Nat → Int32} {n k : UInt32} (h : ti_rm n = some k) : ∃ x, qm_sv (qm_rho xs (ti_y xs)) (.float n) = .int x ∧ qm_sv (qm_rho xs (ti_y xs)) (.float k) = .int (x - x / 21 * 21) := by
  unfold ti_rm at h
  by_cases h1 : n = 2
  · subst h1
    simp at h
    subst h
    exact ⟨xs 1, wk_rx, by rw [ti_f310, ti_yl (by omega)]; rfl⟩
  · by_cases h2 : n = 312
    · subst h2
      simp at h
      subst h
      exact ⟨xs 1 / 21, by rw [ti_s6, ti_yl (by omega)]; rfl, by rw [ti_f314, ti_yl (by omega)]; rfl⟩
    · by_cases h3 : n = 316
      · subst h3
        simp at h
        subst h
        exact ⟨xs 1 / 21 / 21, by rw [ti_s8, ti_yl (by omega)]; rfl, by rw [ti_f318, ti_yl (by omega)]; rfl⟩
      · simp [h1, h2, h3] at h
def ti_xd (E : qm_En) (it : qm_It) (c : qm_CS) : qm_RS := match c.2.2.1 with
  | .int y :: .float n :: r => (match ti_dv n with
    | some k => bif decide (y = 21) then qm_nxS (it.2.1, c.2.1, .float k :: r, c.2.2.2) else qm_xS E it c
    | none => qm_xS E it c)
  | _ => qm_xS E it c
def ti_xr (E : qm_En) (it : qm_It) (c : qm_CS) : qm_RS := match c.2.2.1 with
  | .int y :: .float n :: r => (match ti_rm n with
    | some k => bif decide (y = 21) then qm_nxS (it.2.1, c.2.1, .float k :: r, c.2.2.2) else qm_xS E it c
    | none => qm_xS E it c)
  | _ => qm_xS E it c
def ti_xs (g : Bool) (E : qm_En) (it : qm_It) (c : qm_CS) : qm_RS := match c.2.2.1 with
  | y :: x :: r => (match ti_2 g E y x with
    | some (m, k) => bif Nat.ble m (k % 64) then qm_nxS (it.2.1, c.2.1, ti_to (k - m) :: r, c.2.2.2) else none
    | none => qm_xS E it c)
  | _ => qm_xS E it c
def ti_xm (g : Bool) (E : qm_En) (it : qm_It) (c : qm_CS) : qm_RS := match c.2.2.1 with
  | y :: x :: r => (match ti_2 g E y x with
    | some (m, k) => bif Nat.beq k 2 && ti_ok2 m m then qm_nxS (it.2.1, c.2.1, ti_to (m + m) :: r, c.2.2.2) else none
    | none => qm_xS E it c)
  | _ => qm_xS E it c
section TIY
variable {xs : Nat → Int32} {E : qm_En} {pc np a f : Nat} {v : Value} {ls st : List Value} {h : qm_HS} {R : qm_SS} {g : Bool}
theorem ti_y_idiv (hs : qm_sat (qm_rho xs (ti_y xs)) E) (hx : ti_xd E (pc, np, .idiv, a, f, v) (pc, ls, st, h) = some R) (hR : qm_isp R = false) : qm_x (some (6, xs)) (pc, np, .idiv, a, f, v) (qm_cs (qm_rho xs (ti_y xs)) (pc, ls, st, h)) = qm_f2 (qm_rho xs (ti_y xs)) R := by
  unfold ti_xd at hx
  split at hx
  · rename_i y n q hst
    have hst : st = .int y :: .float n :: q := hst
    subst hst
    split at hx
    · rename_i k hk
      by_cases hy : y = 21
      · subst hy
        simp only [decide_true, cond_true, qm_nxS] at hx
        cases hx
        obtain ⟨x, g1, g2⟩ := ti_dv_ok (xs := xs) hk
        have e1 : qm_sv (qm_rho xs (ti_y xs)) (.int 21) = .int 21 := rfl
        have e2 : decide ((21 : Int32) = 0) = false := rfl
        simp only [qm_x, qm_cs, List.map_cons, e1, g1, e2, cond_false, qm_nx, qm_f2, g2]
      · simp only [hy, decide_false, cond_false] at hx
        exact qm_y hs hx hR
    · exact qm_y hs hx hR
  · exact qm_y hs hx hR
theorem ti_y_irem (hs : qm_sat (qm_rho xs (ti_y xs)) E) (hx : ti_xr E (pc, np, .irem, a, f, v) (pc, ls, st, h) = some R) (hR : qm_isp R = false) : qm_x (some (6, xs)) (pc, np, .irem, a, f, v) (qm_cs (qm_rho xs (ti_y xs)) (pc, ls, st, h)) = qm_f2 (qm_rho xs (ti_y xs)) R := by
  unfold ti_xr at hx
  split at hx
  · rename_i y n q hst
    have hst : st = .int y :: .float n :: q := hst
    subst hst
    split at hx
    · rename_i k hk
      by_cases hy : y = 21
      · subst hy
        simp only [decide_true, cond_true, qm_nxS] at hx
        cases hx
        obtain ⟨x, g1, g2⟩ := ti_rm_ok (xs := xs) hk
        have e1 : qm_sv (qm_rho xs (ti_y xs)) (.int 21) = .int 21 := rfl
        have e2 : decide ((21 : Int32) = 0) = false := rfl
        simp only [qm_x, qm_cs, List.map_cons, e1, g1, e2, cond_false, qm_nx, qm_f2, g2]
      · simp only [hy, decide_false, cond_false] at hx
        exact qm_y hs hx hR
    · exact qm_y hs hx hR
  · exact qm_y hs hx hR
theorem ti_y_isub (hs : qm_sat (qm_rho xs (ti_y xs)) E) (hG : g = true → ti_G (xs 1)) (hx : ti_xs g E (pc, np, .isub, a, f, v) (pc, ls, st, h) = some R) (hR : qm_isp R = false) : qm_x (some (6, xs)) (pc, np, .isub, a, f, v) (qm_cs (qm_rho xs (ti_y xs)) (pc, ls, st, h)) = qm_f2 (qm_rho xs (ti_y xs)) R := by
  unfold ti_xs at hx
  split at hx
  · rename_i y x q hst
    have hst : st = y :: x :: q := hst
    subst hst
    split at hx
    · rename_i m k h2
      obtain ⟨g1, g2, g3, g4⟩ := ti_2_ok hs hG h2
      cases ho : Nat.ble m (k % 64) with
      | false => simp only [ho, cond_false] at hx; cases hx
      | true =>
        simp only [ho, cond_true, qm_nxS] at hx
        cases hx
        have hm := Nat.le_of_ble_eq_true ho
        have e1 := ti_to_ok (xs := xs) (m := k - m) (by omega)
        rw [← ti_sub (xs 1) hm, ← ti_con (xs 1) (c := m) (by omega)] at e1
        simp only [qm_x, qm_cs, List.map_cons, g1, g2, qm_nx, qm_f2, e1]
    · exact qm_y hs hx hR
  · exact qm_y hs hx hR
theorem ti_y_imul (hs : qm_sat (qm_rho xs (ti_y xs)) E) (hG : g = true → ti_G (xs 1)) (hx : ti_xm g E (pc, np, .imul, a, f, v) (pc, ls, st, h) = some R) (hR : qm_isp R = false) : qm_x (some (6, xs)) (pc, np, .imul, a, f, v) (qm_cs (qm_rho xs (ti_y xs)) (pc, ls, st, h)) = qm_f2 (qm_rho xs (ti_y xs)) R := by
  unfold ti_xm at hx
  split at hx
  · rename_i y x q hst
    have hst : st = y :: x :: q := hst
    subst hst
    split at hx
    · rename_i m k h2
      obtain ⟨g1, g2, g3, g4⟩ := ti_2_ok hs hG h2
      cases ho : Nat.beq k 2 && ti_ok2 m m with
      | false => simp only [ho, cond_false] at hx; cases hx
      | true =>
        simp only [ho, cond_true, qm_nxS] at hx
        cases hx
        rw [Bool.and_eq_true] at ho
        have hk := Nat.eq_of_beq_eq_true ho.1
        subst hk
        have e1 := ti_to_ok (xs := xs) (m := m + m) (by omega)
        rw [ti_ok2_ok ho.2] at e1
        have e2 : ti_l (xs 1) 2 * ti_l (xs 1) m = ti_l (xs 1) m + ti_l (xs 1) m := by
          rw [ti_con (xs 1) (by omega), show Int32.ofNat 2 = 1 + 1 from rfl, Int32.add_mul, Int32.one_mul]
        simp only [qm_x, qm_cs, List.map_cons, g1, g2, qm_nx, qm_f2, e1, e2]
    · exact qm_y hs hx hR
  · exact qm_y hs hx hR
end TIY
