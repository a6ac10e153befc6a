/-! a job comes: class and reference -/
/-- a job came at row k: all that is kept -/
theorem gJ_ad {tb : Int} {I I2 : Nat → Nat → Int32} {k : Nat} (h : gJ tb I) (hk : (I 118 75).toInt = (k : Int)) (h40 : k < 40) (n2 : (I2 118 75).toInt = (k : Int) + 1) (e51 : I2 51 2 = I2 118 75) (f51 : ∀ i ∈ [8, 9, 10, 11, 12], I2 51 i = I 51 i) (f118 : ∀ i ∈ [85, 91, 92, 93, 94], I2 118 i = I 118 i) (er : ∀ o, 53 ≤ o → o ≤ 97 → o ≠ 53 + k → I2 o = I o) (ec : ∀ o, 173 ≤ o → o ≤ 181 → I2 o = I o) (en : ∀ o, 168 ≤ o → o ≤ 172 → ∀ q, q ≠ k → I2 o q = I o q) (hw : rwC I2 I2 k) (hj : jRw I2 k) : gJ tb I2 := by
  obtain ⟨⟨⟨a1, a2, a3, a4, a5, a6⟩, h2, h3⟩, ⟨⟨g1, g2⟩, g3, g4, g5⟩, hb⟩ := h
  have k1 : ∀ q : Nat, q ≠ k → (q : Int) < (I 118 75).toInt → rwC I2 I2 q := fun q hq hl => by
    have r := h3 q hl
    unfold rwC at r ⊢
    rw [er (53 + q) (by omega) (by omega) (by omega), en 168 (by decide) (by decide) q hq, en 169 (by decide) (by decide) q hq, en 170 (by decide) (by decide) q hq, en 171 (by decide) (by decide) q hq, en 172 (by decide) (by decide) q hq, ec 173 (by decide) (by decide), ec 174 (by decide) (by decide), ec 175 (by decide) (by decide), ec 176 (by decide) (by decide)]
    exact r
  have k2 : ∀ q : Nat, q ≠ k → (q : Int) < (I 118 75).toInt → jRw I2 q := fun q hq hl => by
    have r := g5 q hl
    unfold jRw at r ⊢
    rw [en 168 (by decide) (by decide) q hq, en 169 (by decide) (by decide) q hq, en 170 (by decide) (by decide) q hq, en 172 (by decide) (by decide) q hq, ec 173 (by decide) (by decide), ec 175 (by decide) (by decide)]
    exact r
  refine ⟨⟨⟨e51, (f51 8 (by decide)).trans (a2.trans (f118 85 (by decide)).symm), (f51 9 (by decide)).trans (a3.trans (f118 91 (by decide)).symm), (f51 10 (by decide)).trans (a4.trans (f118 92 (by decide)).symm), (f51 11 (by decide)).trans (a5.trans (f118 93 (by decide)).symm), (f51 12 (by decide)).trans (a6.trans (f118 94 (by decide)).symm)⟩, fun c hc => ?_, fun q hq => ?_⟩, ⟨⟨by rw [n2]; omega, fun c hc => ?_⟩, fun c hc => ?_, fun z => ?_, fun q hq => ?_⟩, ?_⟩
  · rw [er 93 (by decide) (by decide) (by omega), er 94 (by decide) (by decide) (by omega), er 95 (by decide) (by decide) (by omega), er 96 (by decide) (by decide) (by omega), er 97 (by decide) (by decide) (by omega), ec 177 (by decide) (by decide), ec 178 (by decide) (by decide), ec 179 (by decide) (by decide), ec 180 (by decide) (by decide), ec 181 (by decide) (by decide)]
    exact h2 c hc
  · by_cases e : q = k
    · rw [e]
      exact hw
    · exact k1 q e (by omega)
  · rw [ec 177 (by decide) (by decide)]
    exact g2 c hc
  · unfold jCr
    rw [ec 178 (by decide) (by decide), ec 179 (by decide) (by decide), n2]
    rcases g3 c hc with w | ⟨w1, w2, w3⟩
    · exact Or.inl w
    · refine Or.inr ⟨by omega, ?_, w3⟩
      rw [en 172 (by decide) (by decide) _ (by omega)]
      exact w2
  · rw [ec 178 (by decide) (by decide)] at z ⊢
    exact g4 z
  · by_cases e : q = k
    · rw [e]
      exact hj
    · exact k2 q e (by omega)
  · unfold jB at hb ⊢
    rw [f118 85 (by decide)]
    exact hb
/-- what the class writes, what the reference writes -/
noncomputable def adC (I : Nat → Nat → Int32) (k : Nat) (r0 y x r3 n2 : Int32) : Nat → Nat → Int32 := qm_up (qm_up (qm_up (qm_up (qm_up (qm_up (qm_up (qm_up (qm_up I (53 + k) 0 r0) (53 + k) 1 y) (53 + k) 2 x) (53 + k) 3 r3) (53 + k) 4 (-1)) (53 + k) 5 (-100)) (53 + k) 6 (-100)) (53 + k) 7 (-100)) 51 2 n2
noncomputable def adR (I : Nat → Nat → Int32) (k : Nat) (kd a y x n2 : Int32) : Nat → Nat → Int32 := qm_up (qm_up (qm_up (qm_up (qm_up (qm_up I 168 k kd) 169 k a) 170 k y) 171 k x) 172 k 0) 118 75 n2
section AD
variable {I : Nat → Nat → Int32} {k : Nat} {r0 y x r3 n2 kd a m2 : Int32}
theorem adC_o {o : Nat} (h1 : o ≠ 51) (h2 : o ≠ 53 + k) : adC I k r0 y x r3 n2 o = I o := by
  unfold adC
  rw [up_o h1, up_o h2, up_o h2, up_o h2, up_o h2, up_o h2, up_o h2, up_o h2, up_o h2]
theorem adC_51 {i : Nat} : adC I k r0 y x r3 n2 51 i = if i = 2 then n2 else I 51 i := by
  unfold adC
  have h : (51 : Nat) ≠ 53 + k := by omega
  rw [up_1, up_o h, up_o h, up_o h, up_o h, up_o h, up_o h, up_o h, up_o h]
theorem adC_r : adC I k r0 y x r3 n2 (53 + k) 0 = r0 ∧ adC I k r0 y x r3 n2 (53 + k) 1 = y ∧ adC I k r0 y x r3 n2 (53 + k) 2 = x ∧ adC I k r0 y x r3 n2 (53 + k) 3 = r3 ∧ adC I k r0 y x r3 n2 (53 + k) 4 = -1 ∧ adC I k r0 y x r3 n2 (53 + k) 5 = -100 ∧ adC I k r0 y x r3 n2 (53 + k) 6 = -100 ∧ adC I k r0 y x r3 n2 (53 + k) 7 = -100 := by
  unfold adC
  rw [up_o (show 53 + k ≠ 51 by omega)]
  refine ⟨?_, ?_, ?_, ?_, ?_, ?_, ?_, ?_⟩
  · rw [up_1, if_neg (by decide), up_1, if_neg (by decide), up_1, if_neg (by decide), up_1, if_neg (by decide), up_1, if_neg (by decide), up_1, if_neg (by decide), up_1, if_neg (by decide), up_1, if_pos rfl]
  · rw [up_1, if_neg (by decide), up_1, if_neg (by decide), up_1, if_neg (by decide), up_1, if_neg (by decide), up_1, if_neg (by decide), up_1, if_neg (by decide), up_1, if_pos rfl]
  · rw [up_1, if_neg (by decide), up_1, if_neg (by decide), up_1, if_neg (by decide), up_1, if_neg (by decide), up_1, if_neg (by decide), up_1, if_pos rfl]
  · rw [up_1, if_neg (by decide), up_1, if_neg (by decide), up_1, if_neg (by decide), up_1, if_neg (by decide), up_1, if_pos rfl]
  · rw [up_1, if_neg (by decide), up_1, if_neg (by decide), up_1, if_neg (by decide), up_1, if_pos rfl]
  · rw [up_1, if_neg (by decide), up_1, if_neg (by decide), up_1, if_pos rfl]
  · rw [up_1, if_neg (by decide), up_1, if_pos rfl]
  · rw [up_1, if_pos rfl]
theorem adR_o {o : Nat} (h1 : o ≠ 118) (h2 : o < 168 ∨ 172 < o) : adR I k kd a y x n2 o = I o := by
  unfold adR
  rw [up_o h1, up_o (show o ≠ 172 by omega), up_o (show o ≠ 171 by omega), up_o (show o ≠ 170 by omega), up_o (show o ≠ 169 by omega), up_o (show o ≠ 168 by omega)]
theorem adR_118 {i : Nat} : adR I k kd a y x n2 118 i = if i = 75 then n2 else I 118 i := by
  unfold adR
  rw [up_1, up_o (show (118 : Nat) ≠ 172 by decide), up_o (show (118 : Nat) ≠ 171 by decide), up_o (show (118 : Nat) ≠ 170 by decide), up_o (show (118 : Nat) ≠ 169 by decide), up_o (show (118 : Nat) ≠ 168 by decide)]
theorem adR_r {q : Nat} : adR I k kd a y x n2 168 q = (if q = k then kd else I 168 q) ∧ adR I k kd a y x n2 169 q = (if q = k then a else I 169 q) ∧ adR I k kd a y x n2 170 q = (if q = k then y else I 170 q) ∧ adR I k kd a y x n2 171 q = (if q = k then x else I 171 q) ∧ adR I k kd a y x n2 172 q = (if q = k then 0 else I 172 q) := by
  unfold adR
  refine ⟨?_, ?_, ?_, ?_, ?_⟩
  · rw [up_o (show (168 : Nat) ≠ 118 by decide), up_o (show (168 : Nat) ≠ 172 by decide), up_o (show (168 : Nat) ≠ 171 by decide), up_o (show (168 : Nat) ≠ 170 by decide), up_o (show (168 : Nat) ≠ 169 by decide), up_1]
  · rw [up_o (show (169 : Nat) ≠ 118 by decide), up_o (show (169 : Nat) ≠ 172 by decide), up_o (show (169 : Nat) ≠ 171 by decide), up_o (show (169 : Nat) ≠ 170 by decide), up_1, up_o (show (169 : Nat) ≠ 168 by decide)]
  · rw [up_o (show (170 : Nat) ≠ 118 by decide), up_o (show (170 : Nat) ≠ 172 by decide), up_o (show (170 : Nat) ≠ 171 by decide), up_1, up_o (show (170 : Nat) ≠ 169 by decide), up_o (show (170 : Nat) ≠ 168 by decide)]
  · rw [up_o (show (171 : Nat) ≠ 118 by decide), up_o (show (171 : Nat) ≠ 172 by decide), up_1, up_o (show (171 : Nat) ≠ 170 by decide), up_o (show (171 : Nat) ≠ 169 by decide), up_o (show (171 : Nat) ≠ 168 by decide)]
  · rw [up_o (show (172 : Nat) ≠ 118 by decide), up_1, up_o (show (172 : Nat) ≠ 171 by decide), up_o (show (172 : Nat) ≠ 170 by decide), up_o (show (172 : Nat) ≠ 169 by decide), up_o (show (172 : Nat) ≠ 168 by decide)]
end AD
/-- both took the job -/
theorem gJ_add {tb : Int} {I : Nat → Nat → Int32} {k : Nat} {r0 y x r3 n2 kd a m2 : Int32} (h : gJ tb I) (hk : (I 118 75).toInt = (k : Int)) (h40 : k < 40) (hn : n2.toInt = (k : Int) + 1) (hm : m2.toInt = (k : Int) + 1) (hy : 0 ≤ y.toInt ∧ y.toInt ≤ 4) (h0 : kd.toInt = 0 → r0 = a ∧ 0 ≤ a.toInt ∧ a.toInt ≤ 29) (h1 : kd.toInt ≠ 0 → r0.toInt = -1 ∧ r3 = a) : gJ tb (adR (adC I k r0 y x r3 n2) k kd a y x m2) := by
  have z0 : (0 : Int32).toInt = 0 := rfl
  have en : n2 = m2 := hk_eqi.mpr (by omega)
  obtain ⟨c0, c1, c2, c3, c4, c5, c6, c7⟩ := adC_r (I := I) (k := k) (r0 := r0) (y := y) (x := x) (r3 := r3) (n2 := n2)
  obtain ⟨d0, d1, d2, d3, d4⟩ := adR_r (I := adC I k r0 y x r3 n2) (k := k) (kd := kd) (a := a) (y := y) (x := x) (n2 := m2) (q := k)
  rw [if_pos rfl] at d0 d1 d2 d3 d4
  have e75 : adR (adC I k r0 y x r3 n2) k kd a y x m2 118 75 = m2 := by rw [adR_118, if_pos rfl]
  have er : adR (adC I k r0 y x r3 n2) k kd a y x m2 (53 + k) = adC I k r0 y x r3 n2 (53 + k) := adR_o (by omega) (by omega)
  refine gJ_ad (k := k) h hk h40 (by rw [e75, hm]) ?_ (fun i hi => ?_) (fun i hi => ?_) (fun o o1 o2 o3 => ?_) (fun o o1 o2 => ?_) (fun o o1 o2 q hq => ?_) ?_ ?_
  · rw [e75, adR_o (by decide) (by decide), adC_51, if_pos rfl, en]
  · rw [adR_o (by decide) (by decide), adC_51, if_neg ((show ∀ i ∈ [8, 9, 10, 11, 12], i ≠ 2 from by decide) i hi)]
  · rw [adR_118, if_neg ((show ∀ i ∈ [85, 91, 92, 93, 94], i ≠ 75 from by decide) i hi), adC_o (by decide) (by omega)]
  · rw [adR_o (by omega) (by omega), adC_o (by omega) o3]
  · rw [adR_o (by omega) (by omega), adC_o (by omega) (by omega)]
  · obtain ⟨q0, q1, q2, q3, q4⟩ := adR_r (I := adC I k r0 y x r3 n2) (k := k) (kd := kd) (a := a) (y := y) (x := x) (n2 := m2) (q := q)
    rw [if_neg hq] at q0 q1 q2 q3 q4
    have e : ∀ o, 168 ≤ o → o ≤ 172 → adC I k r0 y x r3 n2 o = I o := fun o o1 o2 => adC_o (by omega) (by omega)
    have o5 : o = 168 ∨ o = 169 ∨ o = 170 ∨ o = 171 ∨ o = 172 := by omega
    rcases o5 with rfl | rfl | rfl | rfl | rfl
    · rw [q0, e 168 (by decide) (by decide)]
    · rw [q1, e 169 (by decide) (by decide)]
    · rw [q2, e 170 (by decide) (by decide)]
    · rw [q3, e 171 (by decide) (by decide)]
    · rw [q4, e 172 (by decide) (by decide)]
  · unfold rwC
    rw [er, d0, d1, d2, d3, d4, c0, c1, c2, c3, c4, c5, c6, c7]
    exact ⟨⟨rfl, rfl⟩, fun z => (h0 z).1, fun z => h1 z, fun _ => ⟨rfl, rfl⟩, fun z => absurd rfl z, fun z => absurd z (by decide), fun _ => ⟨rfl, rfl⟩⟩
  · unfold jRw
    rw [d0, d1, d2, d4]
    exact ⟨⟨by decide, by decide⟩, hy, fun z => (h0 z).2, fun z => absurd rfl z, fun z => absurd z (by decide)⟩
theorem ad_e {I : Nat → Nat → Int32} {k : Nat} {r0 y x r3 n2 kd a m2 : Int32} (h40 : k < 40) : (∀ o, (o < 51 ∨ 97 < o) → o ≠ 118 → (o < 168 ∨ 181 < o) → ∀ i, adR (adC I k r0 y x r3 n2) k kd a y x m2 o i = I o i) ∧ ∀ i, [75, 85, 91, 92, 93, 94].contains i = false → adR (adC I k r0 y x r3 n2) k kd a y x m2 118 i = I 118 i := ⟨fun o o1 o2 o3 i => by rw [adR_o o2 (by omega), adC_o (by omega) (by omega)], fun i hi => by
  rw [adR_118, if_neg (fun e => by
    subst e
    cases hi), adC_o (by decide) (by omega)]⟩
/-- is a job taken -/
noncomputable def jlC (n nb B b y x : Int) : Prop := n ≠ 40 ∧ (0 ≤ b ∧ b < nb) ∧ (0 ≤ y ∧ y < B) ∧ 0 ≤ x ∧ x ≤ 3
noncomputable def juC (n B y x g : Int) : Prop := n ≠ 40 ∧ (0 ≤ y ∧ y < B) ∧ (0 ≤ x ∧ x ≤ 3) ∧ -1 ≤ g ∧ g ≤ 3
