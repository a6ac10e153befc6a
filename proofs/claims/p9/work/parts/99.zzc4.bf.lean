/-! jobs and cranes alike in class and reference -/
/-- jobs and cranes are alike; what holds of them; the clock is at most tb -/
noncomputable def gJ (tb : Int) (I : Nat → Nat → Int32) : Prop := zJ I I ∧ jI I ∧ jB tb I
noncomputable def j_objs : List Nat := [53, 54, 55, 56, 57, 58, 59, 60, 61, 62, 63, 64, 65, 66, 67, 68, 69, 70, 71, 72, 73, 74, 75, 76, 77, 78, 79, 80, 81, 82, 83, 84, 85, 86, 87, 88, 89, 90, 91, 92, 93, 94, 95, 96, 97, 168, 169, 170, 171, 172, 173, 174, 175, 176, 177, 178, 179, 180, 181]
theorem j_mem : (∀ o, 53 ≤ o → o ≤ 97 → o ∈ j_objs) ∧ (∀ o, 168 ≤ o → o ≤ 181 → o ∈ j_objs) := ⟨fun o h1 h2 => (show ∀ o, o < 98 → 53 ≤ o → o ∈ j_objs from by decide +kernel) o (by omega) h1, fun o h1 h2 => (show ∀ o, o < 182 → 168 ≤ o → o ∈ j_objs from by decide +kernel) o (by omega) h1⟩
theorem zJ_k {K K2 I : Nat → Nat → Int32} (h : zJ K I) (e : jEq K K2) : zJ K2 I := by
  unfold zJ rwC at h ⊢
  rw [← e.1 168 (by decide) (by decide), ← e.1 169 (by decide) (by decide), ← e.1 170 (by decide) (by decide), ← e.1 171 (by decide) (by decide), ← e.1 172 (by decide) (by decide), ← e.1 173 (by decide) (by decide), ← e.1 174 (by decide) (by decide), ← e.1 175 (by decide) (by decide), ← e.1 176 (by decide) (by decide), ← e.1 177 (by decide) (by decide), ← e.1 178 (by decide) (by decide), ← e.1 179 (by decide) (by decide), ← e.1 180 (by decide) (by decide), ← e.1 181 (by decide) (by decide), ← e.2 75 (by decide), ← e.2 85 (by decide), ← e.2 91 (by decide), ← e.2 92 (by decide), ← e.2 93 (by decide), ← e.2 94 (by decide)]
  exact h
theorem zJ_c {K I I2 : Nat → Nat → Int32} (h : zJ K I) (hj : (K 118 75).toInt ≤ 40) (f : ∀ i ∈ [2, 8, 9, 10, 11, 12], I2 51 i = I 51 i) (e : ∀ o, 53 ≤ o → o ≤ 97 → I2 o = I o) : zJ K I2 := by
  obtain ⟨h1, h2, h3⟩ := h
  refine ⟨by rw [f 2 (by decide), f 8 (by decide), f 9 (by decide), f 10 (by decide), f 11 (by decide), f 12 (by decide)]; exact h1, fun d hd => ?_, fun q hq => ?_⟩
  · rw [e 93 (by decide) (by decide), e 94 (by decide) (by decide), e 95 (by decide) (by decide), e 96 (by decide) (by decide), e 97 (by decide) (by decide)]
    exact h2 d hd
  · unfold rwC
    rw [e (53 + q) (by omega) (by omega)]
    exact h3 q hq
theorem jEq_j {I I2 : Nat → Nat → Int32} (e : ∀ o ∈ j_objs, ∀ i, I2 o i = I o i) (f : ∀ i ∈ [75, 85, 91, 92, 93, 94], I2 118 i = I 118 i) : jEq I I2 := ⟨fun o h1 h2 => funext fun i => (e o (j_mem.2 o h1 h2) i).symm, fun i hi => (f i hi).symm⟩
theorem gJ_cg {tb : Int} {I I2 : Nat → Nat → Int32} (h : gJ tb I) (e : ∀ o ∈ j_objs, ∀ i, I2 o i = I o i) (f51 : ∀ i ∈ [2, 8, 9, 10, 11, 12], I2 51 i = I 51 i) (f118 : ∀ i ∈ [75, 85, 91, 92, 93, 94], I2 118 i = I 118 i) : gJ tb I2 := by
  obtain ⟨h1, h2, h3⟩ := h
  have q := jEq_j e f118
  refine ⟨zJ_k (zJ_c h1 h2.1.1.2 f51 (fun o o1 o2 => funext fun i => e o (j_mem.1 o o1 o2) i)) q, jEq_I h2 q, ?_⟩
  unfold jB
  rw [f118 85 (by decide)]
  exact h3
/-- fields of the works alone are written, alike in both -/
theorem gJ_fl {tb : Int} {I I2 : Nat → Nat → Int32} (h : gJ tb I) (e : ∀ o, o ≠ 51 → o ≠ 118 → I2 o = I o) (z : I2 51 2 = I2 118 75 ∧ I2 51 8 = I2 118 85 ∧ I2 51 9 = I2 118 91 ∧ I2 51 10 = I2 118 92 ∧ I2 51 11 = I2 118 93 ∧ I2 51 12 = I2 118 94) (e75 : I2 118 75 = I 118 75) (e85 : I2 118 85 = I 118 85) : gJ tb I2 := by
  obtain ⟨⟨-, h2, h3⟩, ⟨⟨g1, g2⟩, g3, g4, g5⟩, hb⟩ := h
  refine ⟨⟨z, fun c hc => ?_, fun q hq => ?_⟩, ⟨⟨by rw [e75]; exact g1, fun c hc => ?_⟩, fun c hc => ?_, fun w => ?_, fun q hq => ?_⟩, ?_⟩
  · rw [e 93 (by decide) (by decide), e 94 (by decide) (by decide), e 95 (by decide) (by decide), e 96 (by decide) (by decide), e 97 (by decide) (by decide), e 177 (by decide) (by decide), e 178 (by decide) (by decide), e 179 (by decide) (by decide), e 180 (by decide) (by decide), e 181 (by decide) (by decide)]
    exact h2 c hc
  · rw [e75] at hq
    have q40 : q < 40 := by omega
    have r := h3 q hq
    unfold rwC at r ⊢
    rw [e (53 + q) (by omega) (by omega), e 168 (by decide) (by decide), e 169 (by decide) (by decide), e 170 (by decide) (by decide), e 171 (by decide) (by decide), e 172 (by decide) (by decide), e 173 (by decide) (by decide), e 174 (by decide) (by decide), e 175 (by decide) (by decide), e 176 (by decide) (by decide)]
    exact r
  · rw [e 177 (by decide) (by decide)]
    exact g2 c hc
  · unfold jCr
    rw [e 178 (by decide) (by decide), e 179 (by decide) (by decide), e 172 (by decide) (by decide), e75]
    exact g3 c hc
  · rw [e 178 (by decide) (by decide)] at w ⊢
    exact g4 w
  · rw [e75] at hq
    have r := g5 q hq
    unfold jRw at r ⊢
    rw [e 168 (by decide) (by decide), e 169 (by decide) (by decide), e 170 (by decide) (by decide), e 172 (by decide) (by decide), e 173 (by decide) (by decide), e 175 (by decide) (by decide)]
    exact r
  · unfold jB at hb ⊢
    rw [e85]
    exact hb
theorem gJ_up {tb tb2 : Int} {I : Nat → Nat → Int32} (h : gJ tb I) (hb : tb ≤ tb2) : gJ tb2 I := ⟨h.1, h.2.1, h.2.2.1, Int.le_trans h.2.2.2 hb⟩
