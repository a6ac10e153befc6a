/-! what is known of sums; branches over sums; the larger of two sums -/
theorem ti_ft {r : Nat → Int32} {E : qm_En} (hs : qm_sat r E) {n m : Nat} {b : Bool} (h : qm_fa E.2 n m = some b) : decide (r n < r m) = b := hs.2 _ (qm_fa_mem h)
theorem ti_irr (x : Int32) : ¬ x < x := fun h => by
  have := Int32.lt_iff_toInt_lt.mp h
  omega
theorem ti_asy {x y : Int32} (h : x < y) : ¬ y < x := fun k => by
  have h1 := Int32.lt_iff_toInt_lt.mp h
  have h2 := Int32.lt_iff_toInt_lt.mp k
  omega
theorem ti_nel {x y : Int32} (h : x < y) : ¬ x = y := fun e => by
  subst e
  exact ti_irr x h
theorem ti_le (a b : Int32) : decide (b ≤ a) = !decide (a < b) := by
  by_cases z : a < b
  · have : ¬ b ≤ a := by
      intro w
      have h1 := Int32.lt_iff_toInt_lt.mp z
      have h2 := Int32.le_iff_toInt_le.mp w
      omega
    simp [z, this]
  · have : b ≤ a := by
      refine Int32.le_iff_toInt_le.mpr ?_
      have h1 : ¬ a.toInt < b.toInt := fun w => z (Int32.lt_iff_toInt_lt.mpr w)
      omega
    simp [z, this]
theorem ti_i0 {e : Nat} (h : e < 2147483648) (p : 0 < e) : (0 : Int32) < Int32.ofNat e := by
  apply Int32.lt_iff_toInt_lt.mpr
  rw [Int32.toInt_ofNat_of_lt (by omega)]
  show (0 : Int) < (e : Int)
  omega
theorem ti_i1 {e : Nat} (h : (0 : Int32) < Int32.ofNat e) : 0 < e := by
  rcases Nat.eq_zero_or_pos e with z | z
  · subst z
    exact absurd h (ti_irr 0)
  · exact z
/-- a sum that is above 0 -/
def ti_pos (g : Bool) (E : qm_En) (n : Nat) : Bool := g && ((Nat.ble 400 n && (Nat.beq (n % 2) 0 && Nat.blt n 60000)) && ((Nat.blt 0 ((n - 400) / 2 % 64) || (Nat.blt 0 ((n - 400) / 2 / 64 % 8) && ti_p E 310)) || ((Nat.blt 0 ((n - 400) / 2 / 512 % 8) && ti_p E 314) || (Nat.blt 0 ((n - 400) / 2 / 4096) && ti_p E 318))))
theorem ti_sum {c0 c1 c2 c3 e0 e1 e2 : Nat} (h0 : c0 < 64) (h1 : c1 < 8) (h2 : c2 < 8) (h3 : c3 < 8) (b0 : e0 ≤ 20) (b1 : e1 ≤ 20) (b2 : e2 ≤ 20) : c0 + c1 * e0 + c2 * e1 + c3 * e2 < 2147483648 := by
  have k0 : c1 * e0 ≤ 7 * 20 := Nat.mul_le_mul (by omega) b0
  have k1 : c2 * e1 ≤ 7 * 20 := Nat.mul_le_mul (by omega) b1
  have k2 : c3 * e2 ≤ 7 * 20 := Nat.mul_le_mul (by omega) b2
  generalize c1 * e0 = z0 at *
  generalize c2 * e1 = z1 at *
  generalize c3 * e2 = z2 at *
  omega
theorem ti_sup {c0 c1 c2 c3 e0 e1 e2 : Nat} (h : (0 < c0 ∨ 0 < c1 ∧ 0 < e0) ∨ (0 < c2 ∧ 0 < e1 ∨ 0 < c3 ∧ 0 < e2)) : 0 < c0 + c1 * e0 + c2 * e1 + c3 * e2 := by
  rcases h with (h | ⟨h, k⟩) | (⟨h, k⟩ | ⟨h, k⟩)
  · omega
  · have := Nat.mul_pos h k
    omega
  · have := Nat.mul_pos h k
    omega
  · have := Nat.mul_pos h k
    omega
section TIP
variable {xs : Nat → Int32} {E : qm_En} {g : Bool}
theorem ti_dp (hs : qm_sat (qm_rho xs (ti_y xs)) E) {n k e : Nat} (hk : k < 50) (hn : qm_rho xs (ti_y xs) n = ti_y xs k) (hg : ti_g (xs 1) k = Int32.ofNat e) (z : ti_p E n = true) : 0 < e := by
  have h := ti_p_ok hs z
  rw [hn, ti_yl hk, hg] at h
  exact ti_i1 h
theorem ti_pos_ok (hs : qm_sat (qm_rho xs (ti_y xs)) E) (hG : g = true → ti_G (xs 1)) {n : Nat} (h : ti_pos g E n = true) : 0 < qm_rho xs (ti_y xs) n := by
  unfold ti_pos at h
  rw [Bool.and_eq_true, Bool.and_eq_true, Bool.and_eq_true, Bool.and_eq_true] at h
  obtain ⟨h0, ⟨h1, h2, h3⟩, h4⟩ := h
  obtain ⟨e0, e1, e2, ⟨b0, b1, b2⟩, g0, g1, g2⟩ := hG h0
  have h1 := Nat.le_of_ble_eq_true h1
  have h2 := Nat.eq_of_beq_eq_true h2
  have h3 : n < 60000 := Nat.le_of_ble_eq_true h3
  have p0 := ti_dp hs (n := 310) (k := 5) (by omega) ti_e5 g0
  have p1 := ti_dp hs (n := 314) (k := 7) (by omega) ti_e7 g1
  have p2 := ti_dp hs (n := 318) (k := 9) (by omega) ti_e9 g2
  have hm : n = 400 + 2 * ((n - 400) / 2) := by omega
  generalize (n - 400) / 2 = m at *
  subst hm
  rw [ti_r400, ti_nat g0 g1 g2]
  refine ti_i0 (ti_sum (by omega) (by omega) (by omega) (by omega) b0 b1 b2) (ti_sup ?_)
  rw [Bool.or_eq_true, Bool.or_eq_true, Bool.or_eq_true, Bool.and_eq_true, Bool.and_eq_true, Bool.and_eq_true] at h4
  rcases h4 with (h | ⟨h, k⟩) | (⟨h, k⟩ | ⟨h, k⟩)
  · exact Or.inl (Or.inl (Nat.le_of_ble_eq_true h))
  · exact Or.inl (Or.inr ⟨Nat.le_of_ble_eq_true h, p0 k⟩)
  · exact Or.inr (Or.inl ⟨Nat.le_of_ble_eq_true h, p1 k⟩)
  · exact Or.inr (Or.inr ⟨Nat.le_of_ble_eq_true h, p2 k⟩)
end TIP
/-- is n below m; is n m -/
def ti_fa (g : Bool) (E : qm_En) (n m : Nat) : Option Bool := match qm_fa E.2 n m with
  | some b => some b
  | none => bif Nat.beq n m then some false else bif Nat.beq n 400 && ti_pos g E m then some true else bif Nat.beq m 400 && ti_pos g E n then some false else none
def ti_eq (g : Bool) (E : qm_En) (n m : Nat) : Option Bool := bif Nat.beq n m then some true else bif Nat.beq n 400 && ti_pos g E m then some false else bif Nat.beq m 400 && ti_pos g E n then some false else none
theorem ti_fa_g {r : Nat → Int32} {E : qm_En} {g : Bool} (hs : qm_sat r E) (h0 : r 400 = 0) (hp : ∀ n, ti_pos g E n = true → 0 < r n) {n m : Nat} {b : Bool} (h : ti_fa g E n m = some b) : decide (r n < r m) = b := by
  unfold ti_fa at h
  split at h
  · rename_i c hc
    cases h
    exact ti_ft hs hc
  · cases h1 : Nat.beq n m with
    | true =>
      rw [h1, cond_true] at h
      cases h
      have e := Nat.eq_of_beq_eq_true h1
      subst e
      exact decide_eq_false (ti_irr _)
    | false =>
      rw [h1, cond_false] at h
      cases h2 : Nat.beq n 400 && ti_pos g E m with
      | true =>
        rw [h2, cond_true] at h
        cases h
        rw [Bool.and_eq_true] at h2
        have e := Nat.eq_of_beq_eq_true h2.1
        subst e
        exact decide_eq_true (by rw [h0]; exact hp m h2.2)
      | false =>
        rw [h2, cond_false] at h
        cases h3 : Nat.beq m 400 && ti_pos g E n with
        | true =>
          rw [h3, cond_true] at h
          cases h
          rw [Bool.and_eq_true] at h3
          have e := Nat.eq_of_beq_eq_true h3.1
          subst e
          exact decide_eq_false (by rw [h0]; exact ti_asy (hp n h3.2))
        | false =>
          rw [h3, cond_false] at h
          cases h
theorem ti_eq_g {r : Nat → Int32} {E : qm_En} {g : Bool} (h0 : r 400 = 0) (hp : ∀ n, ti_pos g E n = true → 0 < r n) {n m : Nat} {b : Bool} (h : ti_eq g E n m = some b) : decide (r n = r m) = b := by
  unfold ti_eq at h
  cases h1 : Nat.beq n m with
  | true =>
    rw [h1, cond_true] at h
    cases h
    have e := Nat.eq_of_beq_eq_true h1
    subst e
    exact decide_eq_true rfl
  | false =>
    rw [h1, cond_false] at h
    cases h2 : Nat.beq n 400 && ti_pos g E m with
    | true =>
      rw [h2, cond_true] at h
      cases h
      rw [Bool.and_eq_true] at h2
      have e := Nat.eq_of_beq_eq_true h2.1
      subst e
      exact decide_eq_false (by rw [h0]; exact ti_nel (hp m h2.2))
    | false =>
      rw [h2, cond_false] at h
      cases h3 : Nat.beq m 400 && ti_pos g E n with
      | true =>
        rw [h3, cond_true] at h
        cases h
        rw [Bool.and_eq_true] at h3
        have e := Nat.eq_of_beq_eq_true h3.1
        subst e
        exact decide_eq_false (by rw [h0]; exact fun w => ti_nel (hp n h3.2) w.symm)
      | false =>
        rw [h3, cond_false] at h
        cases h
def ti_dc (g : Bool) (E : qm_En) (q : ClassFile.Cond) (x y : Value) : Option Bool := match x, y with
  | .float n, .float m => bif decide (n = 0) || decide (m = 0) then none else (match q with
    | .lt => ti_fa g E n.toNat m.toNat
    | .ge => (ti_fa g E n.toNat m.toNat).map Bool.not
    | .gt => ti_fa g E m.toNat n.toNat
    | .le => (ti_fa g E m.toNat n.toNat).map Bool.not
    | .eq => ti_eq g E n.toNat m.toNat
    | .ne => (ti_eq g E n.toNat m.toNat).map Bool.not)
  | _, _ => qm_dc E q x y
theorem ti_dc_g {r : Nat → Int32} {E : qm_En} {g : Bool} (hs : qm_sat r E) (h0 : r 400 = 0) (hp : ∀ n, ti_pos g E n = true → 0 < r n) {q : ClassFile.Cond} {x y : Value} {b : Bool} (h : ti_dc g E q x y = some b) : ∃ x' y', qm_sv r x = .int x' ∧ qm_sv r y = .int y' ∧ qm_cc q x' y' = b := by
  unfold ti_dc at h
  split at h
  · rename_i n m
    by_cases hn : n = 0
    · simp [hn] at h
    · by_cases hm : m = 0
      · simp [hm] at h
      · simp only [hn, hm, decide_false, Bool.or_self, cond_false] at h
        refine ⟨r n.toNat, r m.toNat, by simp [qm_sv, hn], by simp [qm_sv, hm], ?_⟩
        cases q with
        | lt => exact ti_fa_g hs h0 hp h
        | gt => exact ti_fa_g hs h0 hp h
        | ge =>
          obtain ⟨c, h1, rfl⟩ := Option.map_eq_some_iff.mp h
          show decide (r m.toNat ≤ r n.toNat) = !c
          rw [ti_le, ti_fa_g hs h0 hp h1]
        | le =>
          obtain ⟨c, h1, rfl⟩ := Option.map_eq_some_iff.mp h
          show decide (r n.toNat ≤ r m.toNat) = !c
          rw [ti_le, ti_fa_g hs h0 hp h1]
        | eq => exact ti_eq_g h0 hp h
        | ne =>
          obtain ⟨c, h1, rfl⟩ := Option.map_eq_some_iff.mp h
          show decide (¬ r n.toNat = r m.toNat) = !c
          rw [decide_not, ti_eq_g h0 hp h1]
  · exact qm_dc_ok hs h
