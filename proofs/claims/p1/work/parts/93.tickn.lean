/-! sums without the digits that are 0; sums that are above 0 -/
/-- digits 0..20 -/
def ti_G (x : Int32) : Prop := ∃ e0 e1 e2 : Nat, (e0 ≤ 20 ∧ e1 ≤ 20 ∧ e2 ≤ 20) ∧ ti_g x 5 = Int32.ofNat e0 ∧ ti_g x 7 = Int32.ofNat e1 ∧ ti_g x 9 = Int32.ofNat e2
/-- is the number known to be 0; to be above 0 -/
def ti_z (E : qm_En) (n : Nat) : Bool := match qm_fa E.2 400 n with
  | some false => true
  | _ => false
def ti_p (E : qm_En) (n : Nat) : Bool := match qm_fa E.2 400 n with
  | some true => true
  | _ => false
def ti_n (E : qm_En) (m : Nat) : Nat := m % 64 + (bif ti_z E 310 then 0 else m / 64 % 8) * 64 + (bif ti_z E 314 then 0 else m / 512 % 8) * 512 + (bif ti_z E 318 then 0 else m / 4096) * 4096
theorem ti_0 {xs : Nat → Int32} : qm_rho xs (ti_y xs) 400 = 0 := by
  have := ti_r400 (xs := xs) (m := 0)
  rw [ti_con (xs 1) (by omega)] at this
  exact this
theorem ti_e5 {xs ys : Nat → Int32} : qm_rho xs ys 310 = ys 5 := rfl
theorem ti_e7 {xs ys : Nat → Int32} : qm_rho xs ys 314 = ys 7 := rfl
theorem ti_e9 {xs ys : Nat → Int32} : qm_rho xs ys 318 = ys 9 := rfl
theorem ti_e10 {xs ys : Nat → Int32} : qm_rho xs ys 320 = ys 10 := rfl
theorem ti_yl {xs : Nat → Int32} {k : Nat} (h : k < 50) : ti_y xs k = ti_g (xs 1) k := by
  unfold ti_y
  rw [if_pos h]
theorem ti_z_ok {xs : Nat → Int32} {E : qm_En} (hs : qm_sat (qm_rho xs (ti_y xs)) E) {n e : Nat} (he : e ≤ 20) (hd : qm_rho xs (ti_y xs) n = Int32.ofNat e) (h : ti_z E n = true) : e = 0 := by
  unfold ti_z at h
  split at h
  · rename_i hf
    have h1 := hs.2 _ (qm_fa_mem hf)
    have h2 : ¬ qm_rho xs (ti_y xs) 400 < qm_rho xs (ti_y xs) n := of_decide_eq_false h1
    rw [ti_0, hd] at h2
    rcases Nat.eq_zero_or_pos e with z | z
    · exact z
    · exfalso
      apply h2
      apply Int32.lt_iff_toInt_lt.mpr
      rw [Int32.toInt_ofNat_of_lt (by omega)]
      show (0 : Int) < (e : Int)
      omega
  · cases h
theorem ti_p_ok {xs : Nat → Int32} {E : qm_En} (hs : qm_sat (qm_rho xs (ti_y xs)) E) {n : Nat} (h : ti_p E n = true) : 0 < qm_rho xs (ti_y xs) n := by
  unfold ti_p at h
  split at h
  · rename_i hf
    have h1 := hs.2 _ (qm_fa_mem hf)
    have h2 : qm_rho xs (ti_y xs) 400 < qm_rho xs (ti_y xs) n := of_decide_eq_true h1
    rw [ti_0] at h2
    exact h2
  · cases h
theorem ti_drop {b : Bool} {c e : Nat} (h : b = true → e = 0) : Int32.ofNat (bif b then 0 else c) * Int32.ofNat e = Int32.ofNat c * Int32.ofNat e := by
  cases b with
  | true =>
    rw [h rfl]
    simp
  | false => rfl
theorem ti_n_ok {xs : Nat → Int32} {E : qm_En} (hs : qm_sat (qm_rho xs (ti_y xs)) E) (hG : ti_G (xs 1)) (m : Nat) : ti_l (xs 1) (ti_n E m) = ti_l (xs 1) m := by
  obtain ⟨e0, e1, e2, ⟨b0, b1, b2⟩, g0, g1, g2⟩ := hG
  have z0 : ti_z E 310 = true → e0 = 0 := ti_z_ok hs b0 (by rw [ti_e5, ti_yl (by omega), g0])
  have z1 : ti_z E 314 = true → e1 = 0 := ti_z_ok hs b1 (by rw [ti_e7, ti_yl (by omega), g1])
  have z2 : ti_z E 318 = true → e2 = 0 := ti_z_ok hs b2 (by rw [ti_e9, ti_yl (by omega), g2])
  have d0 := ti_drop (c := m / 64 % 8) z0
  have d1 := ti_drop (c := m / 512 % 8) z1
  have d2 := ti_drop (c := m / 4096) z2
  have l0 : (bif ti_z E 310 then 0 else m / 64 % 8) < 8 := by cases ti_z E 310 <;> simp <;> omega
  have l1 : (bif ti_z E 314 then 0 else m / 512 % 8) < 8 := by cases ti_z E 314 <;> simp <;> omega
  unfold ti_l ti_n
  generalize (bif ti_z E 310 then 0 else m / 64 % 8) = c1 at *
  generalize (bif ti_z E 314 then 0 else m / 512 % 8) = c2 at *
  generalize (bif ti_z E 318 then 0 else m / 4096) = c3 at *
  have hm : m % 64 < 64 := Nat.mod_lt _ (by omega)
  generalize m % 64 = c0 at *
  rw [show (c0 + c1 * 64 + c2 * 512 + c3 * 4096) % 64 = c0 by omega, show (c0 + c1 * 64 + c2 * 512 + c3 * 4096) / 64 % 8 = c1 by omega, show (c0 + c1 * 64 + c2 * 512 + c3 * 4096) / 512 % 8 = c2 by omega, show (c0 + c1 * 64 + c2 * 512 + c3 * 4096) / 4096 = c3 by omega, g0, g1, g2, d0, d1, d2]
/-- a sum as a small number -/
theorem ti_nat {x : Int32} {e0 e1 e2 : Nat} (g0 : ti_g x 5 = Int32.ofNat e0) (g1 : ti_g x 7 = Int32.ofNat e1) (g2 : ti_g x 9 = Int32.ofNat e2) (m : Nat) : ti_l x m = Int32.ofNat (m % 64 + m / 64 % 8 * e0 + m / 512 % 8 * e1 + m / 4096 * e2) := by
  unfold ti_l
  rw [g0, g1, g2, Int32.ofNat_add, Int32.ofNat_add, Int32.ofNat_add, Int32.ofNat_mul, Int32.ofNat_mul, Int32.ofNat_mul]
