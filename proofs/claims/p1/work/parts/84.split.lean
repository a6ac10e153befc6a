/-! stretches -/
def qm_E2 (j : Int) (a b : Int × Int) : qm_En := ([(0, 0), (-2147483648, 2147483647), a, b, (-2147483648, 2147483647), (-2147483648, 2147483647), (-2147483648, 2147483647), (j, j)], [])
theorem qm_sat2 (xs ys : Nat → Int32) {j : Int} (h : (xs 0 &&& 63).toInt = j) {a b : Int × Int} (ha : a.1 ≤ (xs 1).toInt ∧ (xs 1).toInt ≤ a.2) (hb : b.1 ≤ (xs 2).toInt ∧ (xs 2).toInt ≤ b.2) : qm_sat (qm_rho xs ys) (qm_E2 j a b) :=
  qm_sat_set (n := 3) (qm_sat_set (n := 2) (qm_sat0 xs ys h) ha) hb
def qm_eqA (r : Option (Nat × Nat × qm_CS × qm_Fs)) (x : Nat × Nat × qm_CS × qm_Fs) : Bool := match r with
  | some g => (decide (g.1 = x.1) && decide (g.2.1 = x.2.1)) && ((decide (g.2.2.1.1 = x.2.2.1.1) && (decide (g.2.2.1.2.1 = x.2.2.1.2.1) && decide (g.2.2.1.2.2.1 = x.2.2.1.2.2.1))) && ((decide (g.2.2.1.2.2.2.1 = x.2.2.1.2.2.2.1) && decide (g.2.2.1.2.2.2.2.1 = x.2.2.1.2.2.2.2.1)) && ((decide (g.2.2.1.2.2.2.2.2.1 = x.2.2.1.2.2.2.2.2.1) && decide (g.2.2.1.2.2.2.2.2.2 = x.2.2.1.2.2.2.2.2.2)) && decide (g.2.2.2 = x.2.2.2))))
  | none => false
theorem qm_eqA_ok {r : Option (Nat × Nat × qm_CS × qm_Fs)} {x : Nat × Nat × qm_CS × qm_Fs} (e : qm_eqA r x = true) : r = some x := by
  unfold qm_eqA at e
  split at e
  · rename_i g
    simp only [Bool.and_eq_true, decide_eq_true_eq] at e
    obtain ⟨⟨e1, e2⟩, ⟨e3, e4, e5⟩, ⟨e6, e7⟩, ⟨e8, e9⟩, e10⟩ := e
    obtain ⟨g1, g2, ⟨g3, g4, g5, g6, g7, g8, g9⟩, g10⟩ := g
    obtain ⟨x1, x2, ⟨x3, x4, x5, x6, x7, x8, x9⟩, x10⟩ := x
    simp only at e1 e2 e3 e4 e5 e6 e7 e8 e9 e10
    subst e1 e2 e3 e4 e5 e6 e7 e8 e9 e10
    rfl
  · cases e
