/-! ops 23 and 24: digits to the base 21, and sums of them, as free numbers -/
/-- the digits of x to the base 21, and what is left -/
def ti_g (x : Int32) (k : Nat) : Int32 := match k with
  | 5 => x - x / 21 * 21
  | 6 => x / 21
  | 7 => x / 21 - x / 21 / 21 * 21
  | 8 => x / 21 / 21
  | 9 => x / 21 / 21 - x / 21 / 21 / 21 * 21
  | 10 => x / 21 / 21 / 21
  | _ => 0
/-- a sum of them: m = c0 + 64 * (c1 + 8 * (c2 + 8 * c3)) -/
def ti_l (x : Int32) (m : Nat) : Int32 := Int32.ofNat (m % 64) + Int32.ofNat (m / 64 % 8) * ti_g x 5 + Int32.ofNat (m / 512 % 8) * ti_g x 7 + Int32.ofNat (m / 4096) * ti_g x 9
def ti_y (xs : Nat → Int32) (k : Nat) : Int32 := if k < 50 then ti_g (xs 1) k else ti_l (xs 1) (k - 50)
theorem ti_add (x : Int32) {a b : Nat} (h0 : a % 64 + b % 64 < 64) (h1 : a / 64 % 8 + b / 64 % 8 < 8) (h2 : a / 512 % 8 + b / 512 % 8 < 8) : ti_l x (a + b) = ti_l x a + ti_l x b := by
  have e0 : (a + b) % 64 = a % 64 + b % 64 := by omega
  have e1 : (a + b) / 64 % 8 = a / 64 % 8 + b / 64 % 8 := by omega
  have e2 : (a + b) / 512 % 8 = a / 512 % 8 + b / 512 % 8 := by omega
  have s1 : a % 512 = a % 64 + 64 * (a / 64 % 8) := by omega
  have s2 : b % 512 = b % 64 + 64 * (b / 64 % 8) := by omega
  have s3 : (a + b) / 512 = a / 512 + b / 512 := by omega
  have s4 : ∀ z : Nat, z / 4096 = z / 512 / 8 := fun z => by omega
  have e3 : (a + b) / 4096 = a / 4096 + b / 4096 := by
    rw [s4, s4 a, s4 b, s3]
    omega
  unfold ti_l
  rw [e0, e1, e2, e3, Int32.ofNat_add, Int32.ofNat_add, Int32.ofNat_add, Int32.ofNat_add, Int32.add_mul, Int32.add_mul, Int32.add_mul]
  ac_rfl
theorem ti_dbl (x : Int32) {a : Nat} (h0 : a % 64 + a % 64 < 64) (h1 : a / 64 % 8 + a / 64 % 8 < 8) (h2 : a / 512 % 8 + a / 512 % 8 < 8) : ti_l x (a + a) = 2 * ti_l x a := by
  rw [ti_add x h0 h1 h2, show (2 : Int32) = 1 + 1 from rfl, Int32.add_mul, Int32.one_mul]
theorem ti_con (x : Int32) {c : Nat} (h : c < 64) : ti_l x c = Int32.ofNat c := by
  unfold ti_l
  rw [Nat.mod_eq_of_lt h, show c / 64 % 8 = 0 by omega, show c / 512 % 8 = 0 by omega, show c / 4096 = 0 by omega]
  simp
theorem ti_sub (x : Int32) {a c : Nat} (h : c ≤ a % 64) : ti_l x a - Int32.ofNat c = ti_l x (a - c) := by
  have h1 : ti_l x (a - c + c) = ti_l x (a - c) + ti_l x c := ti_add x (by omega) (by omega) (by omega)
  rw [show a - c + c = a by omega, ti_con x (c := c) (by omega)] at h1
  rw [h1, Int32.add_sub_cancel]
theorem ti_r400 {xs : Nat → Int32} {m : Nat} : qm_rho xs (ti_y xs) (400 + 2 * m) = ti_l (xs 1) m := by
  unfold qm_rho ti_y
  rw [if_neg (by omega), if_neg (by omega), if_neg (by omega), if_neg (by omega), if_pos (by omega), if_neg (by omega), show (400 + 2 * m - 300) / 2 - 50 = m by omega]
/-- a value as a sum -/
def ti_of (v : Value) : Option Nat := match v with
  | .int c => bif decide (0 ≤ c) && decide (c < 64) then some c.toNatClampNeg else none
  | .float n => bif decide (n = 310) then some 64 else bif decide (n = 314) then some 512 else bif decide (n = 318) then some 4096 else bif decide (400 ≤ n.toNat) && (decide (n.toNat % 2 = 0) && decide (n.toNat < 60000)) then some ((n.toNat - 400) / 2) else none
  | _ => none
def ti_id (m : Nat) : UInt32 := UInt32.ofNat (400 + 2 * m)
/-- a sum as a value -/
def ti_to (m : Nat) : Value := bif Nat.blt m 64 then .int (Int32.ofNat m) else .float (ti_id m)
theorem ti_idn {m : Nat} (h : m < 100000) : (ti_id m).toNat = 400 + 2 * m := by
  unfold ti_id
  rw [UInt32.toNat_ofNat']
  exact Nat.mod_eq_of_lt (by omega)
theorem ti_fl {xs : Nat → Int32} {m : Nat} (h : m < 100000) : qm_sv (qm_rho xs (ti_y xs)) (.float (ti_id m)) = .int (ti_l (xs 1) m) := by
  have e := ti_idn h
  have hn : ¬ ti_id m = 0 := fun z => by
    rw [z] at e
    simp at e
    omega
  simp only [qm_sv, hn, decide_false, cond_false, e, ti_r400]
theorem ti_to_ok {xs : Nat → Int32} {m : Nat} (h : m < 100000) : qm_sv (qm_rho xs (ti_y xs)) (ti_to m) = .int (ti_l (xs 1) m) := by
  unfold ti_to
  cases hb : Nat.blt m 64 with
  | true =>
    have : m < 64 := Nat.le_of_ble_eq_true hb
    rw [cond_true, ti_con (xs 1) this]
    rfl
  | false => exact ti_fl h
theorem ti_f310 {xs ys : Nat → Int32} : qm_sv (qm_rho xs ys) (.float 310) = .int (ys 5) := rfl
theorem ti_f314 {xs ys : Nat → Int32} : qm_sv (qm_rho xs ys) (.float 314) = .int (ys 7) := rfl
theorem ti_f318 {xs ys : Nat → Int32} : qm_sv (qm_rho xs ys) (.float 318) = .int (ys 9) := rfl
theorem ti_of_ok {xs : Nat → Int32} {v : Value} {m : Nat} (h : ti_of v = some m) : qm_sv (qm_rho xs (ti_y xs)) v = .int (ti_l (xs 1) m) ∧ m < 30000 := by
  cases v with
  | int c =>
    simp only [ti_of] at h
    cases hc : decide (0 ≤ c) && decide (c < 64) with
    | false => simp [hc] at h
    | true =>
      simp only [hc, cond_true, Option.some.injEq] at h
      rw [Bool.and_eq_true, decide_eq_true_eq, decide_eq_true_eq] at hc
      have h1 : (0 : Int) ≤ c.toInt := by simpa using Int32.le_iff_toInt_le.mp hc.1
      have h2 : c.toInt < 64 := by simpa using Int32.lt_iff_toInt_lt.mp hc.2
      have h3 : c.toNatClampNeg = c.toInt.toNat := rfl
      subst h
      have h4 : c.toNatClampNeg < 64 := by omega
      refine ⟨?_, by omega⟩
      rw [ti_con (xs 1) h4]
      show Value.int c = _
      congr 1
      apply Int32.toInt_inj.mp
      rw [Int32.toInt_ofNat_of_lt (by omega)]
      omega
  | float n =>
    simp only [ti_of] at h
    by_cases g1 : n = 310
    · subst g1
      simp at h
      subst h
      refine ⟨?_, by omega⟩
      rw [ti_f310, show ti_y xs 5 = ti_g (xs 1) 5 by unfold ti_y; rw [if_pos (by omega)]]
      simp [ti_l]
    · by_cases g2 : n = 314
      · subst g2
        simp at h
        subst h
        refine ⟨?_, by omega⟩
        rw [ti_f314, show ti_y xs 7 = ti_g (xs 1) 7 by unfold ti_y; rw [if_pos (by omega)]]
        simp [ti_l]
      · by_cases g3 : n = 318
        · subst g3
          simp at h
          subst h
          refine ⟨?_, by omega⟩
          rw [ti_f318, show ti_y xs 9 = ti_g (xs 1) 9 by unfold ti_y; rw [if_pos (by omega)]]
          simp [ti_l]
        · simp only [g1, g2, g3, decide_false, cond_false] at h
          cases hc : decide (400 ≤ n.toNat) && (decide (n.toNat % 2 = 0) && decide (n.toNat < 60000)) with
          | false => simp [hc] at h
          | true =>
            simp only [hc, cond_true, Option.some.injEq] at h
            simp only [Bool.and_eq_true, decide_eq_true_eq] at hc
            subst h
            have e : n = ti_id ((n.toNat - 400) / 2) := by
              apply UInt32.toNat_inj.mp
              rw [ti_idn (by omega)]
              omega
            refine ⟨?_, by omega⟩
            have := ti_fl (xs := xs) (m := (n.toNat - 400) / 2) (by omega)
            rw [← e] at this
            exact this
  | _ => cases h
