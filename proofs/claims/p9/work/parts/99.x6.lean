/-! a box taken as aboard for a while, and back -/
theorem pI_sk2 {I : Nat → Nat → Int32} {B o : Nat} {x y : Int32} (h1 : Nat.beq o 150 = false) (h2 : Nat.beq o 151 = false) : pI (qm_up (qm_up I 150 B x) 151 B y) o = pI I o := (pI_sk h2).trans (pI_sk h1)
theorem ru_would {I : Nat → Nat → Int32} (hV : v_R I) {B : Nat} {v : Int32} : hk_ru (qm_up (qm_up I 150 B 1) 151 B v) := by
  refine hk_ru_of ?_ (fun i e => ?_)
  · show sf_R (pI (qm_up (qm_up I 150 B 1) 151 B v) 11) (pI (qm_up (qm_up I 150 B 1) 151 B v) 12) (pI (qm_up (qm_up I 150 B 1) 151 B v) 13) (pI (qm_up (qm_up I 150 B 1) 151 B v) 14)
    rw [pI_sk2 rfl rfl, pI_sk2 rfl rfl, pI_sk2 rfl rfl, pI_sk2 rfl rfl]
    exact hV.2
  · by_cases c : i = B
    · subst c
      rw [hk_ot rfl, hk_same] at e
      have : (1 : Int32).toInt = 1 := by decide
      omega
    · rw [hk_ot rfl, hk_neq c] at e
      rw [hk_neq c, hk_ot rfl]
      exact v_R_rr hV.1 i e
theorem would_back {I I2 : Nat → Nat → Int32} {mod : List Nat} {B : Nat} {x y w s : Int32} (e : ∀ o, mod.contains o = false → ∀ i, I2 o i = qm_up (qm_up I 150 B x) 151 B y o i) (qw : I 150 B = w) (qs : I 151 B = s) : ∀ o, mod.contains o = false → ∀ i, qm_up (qm_up I2 150 B w) 151 B s o i = I o i := by
  intro o ho i
  by_cases c1 : o = 151
  · subst c1
    by_cases c : i = B
    · subst c
      rw [hk_same, qs]
    · rw [hk_neq c, hk_ot rfl, e 151 ho i, hk_neq c, hk_ot rfl]
  · rw [hk_ot (qm_bne c1)]
    by_cases c2 : o = 150
    · subst c2
      by_cases c : i = B
      · subst c
        rw [hk_same, qw]
      · rw [hk_neq c, e 150 ho i, hk_ot rfl, hk_neq c]
    · rw [hk_ot (qm_bne c2), e o ho i, hk_ot (qm_bne c1), hk_ot (qm_bne c2)]
