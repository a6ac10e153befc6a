/-! ops 53 and 54 out of their cases -/
section QZ
variable {xs : Nat → Int32}
theorem qz_fin {ys : Nat → Int32} (h : qm_Ru (some (6, xs)) 12 (qm_cod qm_F 1000) (qm_cs (qm_rho xs ys) qm_c0) (qm_K (some (6, xs)) (qm_rho xs ys) 12 (qm_fx qm_F []))) : qm_Ru (some (6, xs)) 12 cd_law (18, qm_l18, [], qm_fn qm_d2) qm_Qf := by
  rw [qm_cs0] at h
  exact h
theorem qz_53 (h0 : (xs 0 &&& 63).toInt = 53) : qm_Ru (some (6, xs)) 12 cd_law (18, qm_l18, [], qm_fn qm_d2) qm_Qf := by
  have g1 := Int32.le_toInt (xs 1)
  have g2 := Int32.toInt_lt (xs 1)
  have g3 := Int32.le_toInt (xs 2)
  have g4 := Int32.toInt_lt (xs 2)
  have hc : (xs 1).toInt ≤ 0 ∨ (xs 1).toInt = 1 ∨ (xs 1).toInt = 2 ∨ (xs 1).toInt = 3 ∨ (xs 1).toInt = 4 ∨ 5 ≤ (xs 1).toInt := by omega
  rcases hc with h | h | h | h | h | h
  · exact (qz_fin (qz_l0 xs xs (qm_sat2 xs xs h0 (a := (-2147483648, 0)) (b := (-2147483648, 2147483647)) ⟨by dsimp only; omega, by dsimp only; omega⟩ ⟨by dsimp only; omega, by dsimp only; omega⟩)))
  · exact (qz_fin (qz_l1 xs xs (qm_sat2 xs xs h0 (a := (1, 1)) (b := (-2147483648, 2147483647)) ⟨by dsimp only; omega, by dsimp only; omega⟩ ⟨by dsimp only; omega, by dsimp only; omega⟩)))
  · exact (qz_fin (qz_l2 xs xs (qm_sat2 xs xs h0 (a := (2, 2)) (b := (-2147483648, 2147483647)) ⟨by dsimp only; omega, by dsimp only; omega⟩ ⟨by dsimp only; omega, by dsimp only; omega⟩)))
  · exact (qz_fin (qz_l3 xs xs (qm_sat2 xs xs h0 (a := (3, 3)) (b := (-2147483648, 2147483647)) ⟨by dsimp only; omega, by dsimp only; omega⟩ ⟨by dsimp only; omega, by dsimp only; omega⟩)))
  · exact (qz_fin (qz_l4 xs xs (qm_sat2 xs xs h0 (a := (4, 4)) (b := (-2147483648, 2147483647)) ⟨by dsimp only; omega, by dsimp only; omega⟩ ⟨by dsimp only; omega, by dsimp only; omega⟩)))
  · exact (qz_fin (qz_l5 xs xs (qm_sat2 xs xs h0 (a := (5, 2147483647)) (b := (-2147483648, 2147483647)) ⟨by dsimp only; omega, by dsimp only; omega⟩ ⟨by dsimp only; omega, by dsimp only; omega⟩)))
theorem qz_54 (h0 : (xs 0 &&& 63).toInt = 54) : qm_Ru (some (6, xs)) 12 cd_law (18, qm_l18, [], qm_fn qm_d2) qm_Qf := by
  have g1 := Int32.le_toInt (xs 1)
  have g2 := Int32.toInt_lt (xs 1)
  have g3 := Int32.le_toInt (xs 2)
  have g4 := Int32.toInt_lt (xs 2)
  have hc : (xs 1).toInt ≤ 0 ∨ 5 ≤ (xs 1).toInt ∨ (1 ≤ (xs 1).toInt ∧ (xs 1).toInt ≤ 4) := by omega
  rcases hc with h | h | h
  · exact (qz_fin (qz_m0 xs xs (qm_sat2 xs xs h0 (a := (-2147483648, 0)) (b := (-2147483648, 2147483647)) ⟨by dsimp only; omega, by dsimp only; omega⟩ ⟨by dsimp only; omega, by dsimp only; omega⟩)))
  · exact (qz_fin (qz_m5 xs xs (qm_sat2 xs xs h0 (a := (5, 2147483647)) (b := (-2147483648, 2147483647)) ⟨by dsimp only; omega, by dsimp only; omega⟩ ⟨by dsimp only; omega, by dsimp only; omega⟩)))
  · have hd : (xs 2).toInt < 0 ∨ 3 ≤ (xs 2).toInt ∨ (xs 2).toInt = 0 ∨ (xs 2).toInt = 1 ∨ (xs 2).toInt = 2 := by omega
    have he : (xs 1).toInt = 1 ∨ (xs 1).toInt = 2 ∨ (xs 1).toInt = 3 ∨ (xs 1).toInt = 4 := by omega
    rcases hd with z | z | z | z | z
    · exact (qz_fin (qz_mn xs xs (qm_sat2 xs xs h0 (a := (1, 4)) (b := (-2147483648, -1)) ⟨by dsimp only; omega, by dsimp only; omega⟩ ⟨by dsimp only; omega, by dsimp only; omega⟩)))
    · exact (qz_fin (qz_mp xs xs (qm_sat2 xs xs h0 (a := (1, 4)) (b := (3, 2147483647)) ⟨by dsimp only; omega, by dsimp only; omega⟩ ⟨by dsimp only; omega, by dsimp only; omega⟩)))
    · rcases he with w | w | w | w
      · exact (qz_fin (qz_m10 xs xs (qm_sat2 xs xs h0 (a := (1, 1)) (b := (0, 0)) ⟨by dsimp only; omega, by dsimp only; omega⟩ ⟨by dsimp only; omega, by dsimp only; omega⟩)))
      · exact (qz_fin (qz_m20 xs xs (qm_sat2 xs xs h0 (a := (2, 2)) (b := (0, 0)) ⟨by dsimp only; omega, by dsimp only; omega⟩ ⟨by dsimp only; omega, by dsimp only; omega⟩)))
      · exact (qz_fin (qz_m30 xs xs (qm_sat2 xs xs h0 (a := (3, 3)) (b := (0, 0)) ⟨by dsimp only; omega, by dsimp only; omega⟩ ⟨by dsimp only; omega, by dsimp only; omega⟩)))
      · exact (qz_fin (qz_m40 xs xs (qm_sat2 xs xs h0 (a := (4, 4)) (b := (0, 0)) ⟨by dsimp only; omega, by dsimp only; omega⟩ ⟨by dsimp only; omega, by dsimp only; omega⟩)))
    · rcases he with w | w | w | w
      · exact (qz_fin (qz_m11 xs xs (qm_sat2 xs xs h0 (a := (1, 1)) (b := (1, 1)) ⟨by dsimp only; omega, by dsimp only; omega⟩ ⟨by dsimp only; omega, by dsimp only; omega⟩)))
      · exact (qz_fin (qz_m21 xs xs (qm_sat2 xs xs h0 (a := (2, 2)) (b := (1, 1)) ⟨by dsimp only; omega, by dsimp only; omega⟩ ⟨by dsimp only; omega, by dsimp only; omega⟩)))
      · exact (qz_fin (qz_m31 xs xs (qm_sat2 xs xs h0 (a := (3, 3)) (b := (1, 1)) ⟨by dsimp only; omega, by dsimp only; omega⟩ ⟨by dsimp only; omega, by dsimp only; omega⟩)))
      · exact (qz_fin (qz_m41 xs xs (qm_sat2 xs xs h0 (a := (4, 4)) (b := (1, 1)) ⟨by dsimp only; omega, by dsimp only; omega⟩ ⟨by dsimp only; omega, by dsimp only; omega⟩)))
    · rcases he with w | w | w | w
      · exact (qz_fin (qz_m12 xs xs (qm_sat2 xs xs h0 (a := (1, 1)) (b := (2, 2)) ⟨by dsimp only; omega, by dsimp only; omega⟩ ⟨by dsimp only; omega, by dsimp only; omega⟩)))
      · exact (qz_fin (qz_m22 xs xs (qm_sat2 xs xs h0 (a := (2, 2)) (b := (2, 2)) ⟨by dsimp only; omega, by dsimp only; omega⟩ ⟨by dsimp only; omega, by dsimp only; omega⟩)))
      · exact (qz_fin (qz_m32 xs xs (qm_sat2 xs xs h0 (a := (3, 3)) (b := (2, 2)) ⟨by dsimp only; omega, by dsimp only; omega⟩ ⟨by dsimp only; omega, by dsimp only; omega⟩)))
      · exact (qz_fin (qz_m42 xs xs (qm_sat2 xs xs h0 (a := (4, 4)) (b := (2, 2)) ⟨by dsimp only; omega, by dsimp only; omega⟩ ⟨by dsimp only; omega, by dsimp only; omega⟩)))
end QZ
