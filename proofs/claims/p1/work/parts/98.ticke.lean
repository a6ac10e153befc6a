/-! where the digits and what is left of them lie -/
theorem ti_d21 {y : Int32} {N : Nat} (h : y.toInt = (N : Int)) : (y / 21).toInt = ((N / 21 : Nat) : Int) := by
  have hN := Int32.toInt_lt y
  rw [Int32.toInt_div, h, Int.tdiv_eq_ediv_of_nonneg (Int.natCast_nonneg N)]
  show ((N : Int) / 21).bmod (2 ^ 32) = _
  rw [Int.bmod_def]
  omega
theorem ti_r21 {y : Int32} {N : Nat} (h : y.toInt = (N : Int)) : (y - y / 21 * 21).toInt = ((N % 21 : Nat) : Int) := by
  have hN := Int32.toInt_lt y
  rw [Int32.toInt_sub, Int32.toInt_mul, ti_d21 h, h]
  show ((N : Int) - (((N / 21 : Nat) : Int) * 21).bmod (2 ^ 32)).bmod (2 ^ 32) = _
  rw [Int.bmod_def, Int.bmod_def]
  omega
theorem ti_ofn {y : Int32} {e : Nat} (h : y.toInt = (e : Int)) (he : e ≤ 20) : y = Int32.ofNat e := by
  apply Int32.toInt_inj.mp
  rw [Int32.toInt_ofNat_of_lt (by omega), h]
theorem ti_isG {x : Int32} (h0 : 0 ≤ x.toInt) (h1 : x.toInt ≤ 9260) : ti_G x := by
  have e0 : x.toInt = ((x.toInt.toNat : Nat) : Int) := by omega
  have e1 := ti_d21 e0
  have e2 := ti_d21 e1
  have m0 : x.toInt.toNat % 21 ≤ 20 := by omega
  have m1 : x.toInt.toNat / 21 % 21 ≤ 20 := by omega
  have m2 : x.toInt.toNat / 21 / 21 % 21 ≤ 20 := by omega
  exact ⟨_, _, _, ⟨m0, m1, m2⟩, ti_ofn (ti_r21 e0) m0, ti_ofn (ti_r21 e1) m1, ti_ofn (ti_r21 e2) m2⟩
theorem ti_w (y : Int32) : ((-2147483648, 2147483647) : Int × Int).1 ≤ y.toInt ∧ y.toInt ≤ ((-2147483648, 2147483647) : Int × Int).2 := by
  have h1 := Int32.le_toInt y
  have h2 := Int32.toInt_lt y
  dsimp only
  omega
theorem ti_320 {xs : Nat → Int32} : qm_rho xs (ti_y xs) 320 = xs 1 / 21 / 21 / 21 := by
  rw [ti_e10, ti_yl (by omega)]
  rfl
theorem ti_low {xs : Nat → Int32} (h0 : 0 ≤ (xs 1).toInt) (h1 : (xs 1).toInt ≤ 9260) : ((0, 0) : Int × Int).1 ≤ (qm_rho xs (ti_y xs) 320).toInt ∧ (qm_rho xs (ti_y xs) 320).toInt ≤ ((0, 0) : Int × Int).2 := by
  have e0 : (xs 1).toInt = (((xs 1).toInt.toNat : Nat) : Int) := by omega
  rw [ti_320, ti_d21 (ti_d21 (ti_d21 e0))]
  dsimp only
  omega
theorem ti_big {xs : Nat → Int32} (h0 : 9261 ≤ (xs 1).toInt) : ((1, 2147483647) : Int × Int).1 ≤ (qm_rho xs (ti_y xs) 320).toInt ∧ (qm_rho xs (ti_y xs) 320).toInt ≤ ((1, 2147483647) : Int × Int).2 := by
  have hN := Int32.toInt_lt (xs 1)
  have e0 : (xs 1).toInt = (((xs 1).toInt.toNat : Nat) : Int) := by omega
  rw [ti_320, ti_d21 (ti_d21 (ti_d21 e0))]
  dsimp only
  omega
def ti_E (j : Int) (a b l : Int × Int) (f : List (Nat × Nat × Bool)) : qm_En := (((qm_E2 j a b).1 ++ List.replicate 313 (-2147483648, 2147483647)).set 320 l, f)
theorem ti_pad (l : List (Int × Int)) (d : Int × Int) (k n : Nat) : (l ++ List.replicate k d).getD n d = l.getD n d := by
  rw [List.getD_eq_getElem?_getD, List.getD_eq_getElem?_getD]
  by_cases h : n < l.length
  · rw [List.getElem?_append_left h]
  · rw [List.getElem?_append_right (by omega), List.getElem?_replicate, List.getElem?_eq_none (by omega)]
    split <;> rfl
theorem ti_sat1 {r : Nat → Int32} {j : Int} {a b l : Int × Int} (h : qm_sat r (qm_E2 j a b)) (hl : l.1 ≤ (r 320).toInt ∧ (r 320).toInt ≤ l.2) : qm_sat r (ti_E j a b l []) := by
  have h1 : qm_sat r ((qm_E2 j a b).1 ++ List.replicate 313 (-2147483648, 2147483647), []) := ⟨fun n hn => by
    have hb := h.1 n hn
    unfold qm_bd at hb ⊢
    rw [ti_pad]
    exact hb, fun q hq => by cases hq⟩
  exact qm_sat_set h1 hl
theorem ti_sat0 {xs : Nat → Int32} {j : Int} (h : (xs 0 &&& 63).toInt = j) {a b l : Int × Int} (ha : a.1 ≤ (xs 1).toInt ∧ (xs 1).toInt ≤ a.2) (hb : b.1 ≤ (xs 2).toInt ∧ (xs 2).toInt ≤ b.2) (hl : l.1 ≤ (qm_rho xs (ti_y xs) 320).toInt ∧ (qm_rho xs (ti_y xs) 320).toInt ≤ l.2) : qm_sat (qm_rho xs (ti_y xs)) (ti_E j a b l []) := ti_sat1 (qm_sat2 xs (ti_y xs) h ha hb) hl
theorem ti_no {x : Int32} (h : false = true) : ti_G x := by cases h
theorem ti_fin {xs ys : Nat → Int32} (h : qm_Ru (some (6, xs)) 12 cd_law (qm_cs (qm_rho xs ys) qm_c0) (qm_K (some (6, xs)) (qm_rho xs ys) 12 [])) : qm_Ru (some (6, xs)) 12 cd_law (18, qm_l18, [], qm_fn qm_d2) qm_Qf := by
  rw [qm_cs0] at h
  exact h
