/-! jobs and cranes: the class's cells -/
theorem row_sh {h : qm_H} {k : Nat} (hH : hk_H h) (hk : k < 40) : h.1[53 + k]? = some (0, 8) := hH.1 (53 + k) (0, 8) ((show ∀ k, k < 40 → qa_Psh (53 + k) = some (0, 8) from by decide +kernel) k hk)
theorem row_ref {h : qm_H} {k : Nat} (hH : hk_H h) (hk : k < 40) : h.2.2.2 52 k = some (53 + k) := hH.2 52 k (some (53 + k)) ((show ∀ k, k < 40 → qa_Rt0 52 k = some (some (53 + k)) from by decide +kernel) k hk)
theorem row_ne {k o : Nat} (hk : k < 40) (ho : o < 53 ∨ 92 < o) : Nat.beq (53 + k) o = false ∧ Nat.beq o (53 + k) = false := ⟨qm_bne (by omega), qm_bne (by omega)⟩
theorem row_fr {k : Nat} (hk : k < 40) : [11, 12, 13, 14, 16, 17, 28, 36, 37].contains (53 + k) = false := (show ∀ k, k < 40 → [11, 12, 13, 14, 16, 17, 28, 36, 37].contains (53 + k) = false from by decide +kernel) k hk
theorem xor_nn {x y : Int32} (hx : 0 ≤ x.toInt) (hy : 0 ≤ y.toInt) : 0 ≤ (x ^^^ y).toInt := by
  have h1 : x.toBitVec.msb = false := by
    rw [BitVec.msb_eq_toInt]
    exact decide_eq_false (show ¬ x.toInt < 0 by omega)
  have h2 : y.toBitVec.msb = false := by
    rw [BitVec.msb_eq_toInt]
    exact decide_eq_false (show ¬ y.toInt < 0 by omega)
  have h3 : (x ^^^ y).toBitVec.msb = false := by
    rw [Int32.toBitVec_xor, BitVec.msb_xor, h1, h2]
    rfl
  rw [BitVec.msb_eq_toInt] at h3
  have h4 : ¬ (x ^^^ y).toInt < 0 := of_decide_eq_false h3
  omega
/-- a job's row in the class -/
noncomputable def rwC (K I : Nat → Nat → Int32) (k : Nat) : Prop := (I (53 + k) 1 = K 170 k ∧ I (53 + k) 2 = K 171 k) ∧ ((K 168 k).toInt = 0 → I (53 + k) 0 = K 169 k) ∧ ((K 168 k).toInt ≠ 0 → (I (53 + k) 0).toInt = -1 ∧ I (53 + k) 3 = K 169 k) ∧ ((K 172 k).toInt = 0 → (I (53 + k) 4).toInt = -1 ∧ (I (53 + k) 5).toInt = -100) ∧ ((K 172 k).toInt ≠ 0 → I (53 + k) 4 = K 173 k ∧ I (53 + k) 5 = K 174 k) ∧ ((K 172 k).toInt = 2 → I (53 + k) 6 = K 175 k ∧ I (53 + k) 7 = K 176 k) ∧ ((K 172 k).toInt ≠ 2 → (I (53 + k) 6).toInt = -100 ∧ (I (53 + k) 7).toInt = -100)
/-- the class's jobs and cranes are as the reference's cells K tell -/
noncomputable def zJ (K I : Nat → Nat → Int32) : Prop := (I 51 2 = K 118 75 ∧ I 51 8 = K 118 85 ∧ I 51 9 = K 118 91 ∧ I 51 10 = K 118 92 ∧ I 51 11 = K 118 93 ∧ I 51 12 = K 118 94) ∧ (∀ c : Nat, c < 2 → I 93 c = K 177 c ∧ I 94 c = K 178 c ∧ I 95 c = K 179 c ∧ I 96 c = K 180 c ∧ I 97 c = K 181 c) ∧ ∀ k : Nat, (k : Int) < (K 118 75).toInt → rwC K I k
theorem jI_has {K : Nat → Nat → Int32} {d : Nat} (hI : jI K) (hd : d < 2) : ((K 178 d).toInt = -1 ∨ (0 ≤ (K 178 d).toInt ∧ (K 178 d).toInt < (K 118 75).toInt)) ∧ (0 ≤ (K 118 75).toInt ∧ (K 118 75).toInt ≤ 40) ∧ (0 ≤ (K 179 d).toInt ∧ (K 179 d).toInt ≤ 1) ∧ (-1 ≤ (K 177 d).toInt ∧ (K 177 d).toInt ≤ 4) := by
  refine ⟨?_, hI.1.1, ?_, hI.1.2 d hd⟩
  · rcases hI.2.1 d hd with z | z
    · exact Or.inl z.1
    · exact Or.inr z.1
  · rcases hI.2.1 d hd with z | z
    · omega
    · exact z.2.2
section ZJ
variable {K I I2 : Nat → Nat → Int32} {c k : Nat} {v : Int32}
theorem zJ_cg (h : zJ K I) (hj : (K 118 75).toInt ≤ 40) (e : ∀ o, 51 ≤ o → o ≤ 97 → I2 o = I o) : zJ K I2 := by
  obtain ⟨h1, h2, h3⟩ := h
  refine ⟨by rw [e 51 (by decide) (by decide)]; exact h1, fun d hd => ?_, fun q hq => ?_⟩
  · rw [e 93 (by decide) (by decide), e 94 (by decide) (by decide), e 95 (by decide) (by decide), e 96 (by decide) (by decide), e 97 (by decide) (by decide)]
    exact h2 d hd
  · unfold rwC
    rw [e (53 + q) (by omega) (by omega)]
    exact h3 q hq
theorem zJ_fr {mod : List Nat} (h : zJ K I) (hj : (K 118 75).toInt ≤ 40) (e : ∀ o, mod.contains o = false → ∀ i, I2 o i = I o i) (hm : ∀ o, o < 98 → 51 ≤ o → mod.contains o = false) : zJ K I2 := zJ_cg h hj (fun o h1 h2 => funext fun i => e o (hm o (by omega) h1) i)
/-- one cell of the cranes -/
theorem zJ_cr {o o' : Nat} (ho : (o = 93 ∧ o' = 177) ∨ (o = 94 ∧ o' = 178) ∨ (o = 95 ∧ o' = 179) ∨ (o = 96 ∧ o' = 180) ∨ (o = 97 ∧ o' = 181)) (h : zJ K I) (hj : (K 118 75).toInt ≤ 40) : zJ (qm_up K o' c v) (qm_up I o c v) := by
  obtain ⟨h1, h2, h3⟩ := h
  have a1 : o ≠ 51 ∧ 93 ≤ o ∧ 177 ≤ o' ∧ o' ≤ 181 := by omega
  refine ⟨?_, fun d hd => ?_, fun q hq => ?_⟩
  · rw [up_o (show 51 ≠ o by omega), up_o (show 118 ≠ o' by omega)]
    exact h1
  · obtain ⟨g1, g2, g3, g4, g5⟩ := h2 d hd
    rcases ho with ⟨rfl, rfl⟩ | ⟨rfl, rfl⟩ | ⟨rfl, rfl⟩ | ⟨rfl, rfl⟩ | ⟨rfl, rfl⟩
    · rw [up_1, up_1, up_o (show (94 : Nat) ≠ 93 by decide), up_o (show (95 : Nat) ≠ 93 by decide), up_o (show (96 : Nat) ≠ 93 by decide), up_o (show (97 : Nat) ≠ 93 by decide), up_o (show (178 : Nat) ≠ 177 by decide), up_o (show (179 : Nat) ≠ 177 by decide), up_o (show (180 : Nat) ≠ 177 by decide), up_o (show (181 : Nat) ≠ 177 by decide), g1]
      exact ⟨rfl, g2, g3, g4, g5⟩
    · rw [up_1, up_1, up_o (show (93 : Nat) ≠ 94 by decide), up_o (show (95 : Nat) ≠ 94 by decide), up_o (show (96 : Nat) ≠ 94 by decide), up_o (show (97 : Nat) ≠ 94 by decide), up_o (show (177 : Nat) ≠ 178 by decide), up_o (show (179 : Nat) ≠ 178 by decide), up_o (show (180 : Nat) ≠ 178 by decide), up_o (show (181 : Nat) ≠ 178 by decide), g2]
      exact ⟨g1, rfl, g3, g4, g5⟩
    · rw [up_1, up_1, up_o (show (93 : Nat) ≠ 95 by decide), up_o (show (94 : Nat) ≠ 95 by decide), up_o (show (96 : Nat) ≠ 95 by decide), up_o (show (97 : Nat) ≠ 95 by decide), up_o (show (177 : Nat) ≠ 179 by decide), up_o (show (178 : Nat) ≠ 179 by decide), up_o (show (180 : Nat) ≠ 179 by decide), up_o (show (181 : Nat) ≠ 179 by decide), g3]
      exact ⟨g1, g2, rfl, g4, g5⟩
    · rw [up_1, up_1, up_o (show (93 : Nat) ≠ 96 by decide), up_o (show (94 : Nat) ≠ 96 by decide), up_o (show (95 : Nat) ≠ 96 by decide), up_o (show (97 : Nat) ≠ 96 by decide), up_o (show (177 : Nat) ≠ 180 by decide), up_o (show (178 : Nat) ≠ 180 by decide), up_o (show (179 : Nat) ≠ 180 by decide), up_o (show (181 : Nat) ≠ 180 by decide), g4]
      exact ⟨g1, g2, g3, rfl, g5⟩
    · rw [up_1, up_1, up_o (show (93 : Nat) ≠ 97 by decide), up_o (show (94 : Nat) ≠ 97 by decide), up_o (show (95 : Nat) ≠ 97 by decide), up_o (show (96 : Nat) ≠ 97 by decide), up_o (show (177 : Nat) ≠ 181 by decide), up_o (show (178 : Nat) ≠ 181 by decide), up_o (show (179 : Nat) ≠ 181 by decide), up_o (show (180 : Nat) ≠ 181 by decide), g5]
      exact ⟨g1, g2, g3, g4, rfl⟩
  · rw [up_o (show 118 ≠ o' by omega)] at hq
    unfold rwC
    rw [up_o (show 53 + q ≠ o by omega), up_o (show 170 ≠ o' by omega), up_o (show 171 ≠ o' by omega), up_o (show 168 ≠ o' by omega), up_o (show 169 ≠ o' by omega), up_o (show 172 ≠ o' by omega), up_o (show 173 ≠ o' by omega), up_o (show 174 ≠ o' by omega), up_o (show 175 ≠ o' by omega), up_o (show 176 ≠ o' by omega)]
    exact h3 q hq
/-- the clock -/
theorem zJ_tk (h : zJ K I) (hj : (K 118 75).toInt ≤ 40) : zJ (qm_up K 118 85 v) (qm_up I 51 8 v) := by
  obtain ⟨⟨a1, a2, a3, a4, a5, a6⟩, h2, h3⟩ := h
  refine ⟨⟨(hk_neq (by decide)).trans (a1.trans (hk_neq (by decide)).symm), hk_same.trans hk_same.symm, (hk_neq (by decide)).trans (a3.trans (hk_neq (by decide)).symm), (hk_neq (by decide)).trans (a4.trans (hk_neq (by decide)).symm), (hk_neq (by decide)).trans (a5.trans (hk_neq (by decide)).symm), (hk_neq (by decide)).trans (a6.trans (hk_neq (by decide)).symm)⟩, fun d hd => ?_, fun q hq => ?_⟩
  · rw [up_o (show (93 : Nat) ≠ 51 by decide), up_o (show (94 : Nat) ≠ 51 by decide), up_o (show (95 : Nat) ≠ 51 by decide), up_o (show (96 : Nat) ≠ 51 by decide), up_o (show (97 : Nat) ≠ 51 by decide), up_o (show (177 : Nat) ≠ 118 by decide), up_o (show (178 : Nat) ≠ 118 by decide), up_o (show (179 : Nat) ≠ 118 by decide), up_o (show (180 : Nat) ≠ 118 by decide), up_o (show (181 : Nat) ≠ 118 by decide)]
    exact h2 d hd
  · rw [show qm_up K 118 85 v 118 75 = K 118 75 from hk_neq (by decide)] at hq
    unfold rwC
    rw [up_o (show 53 + q ≠ 51 by omega), up_o (show (170 : Nat) ≠ 118 by decide), up_o (show (171 : Nat) ≠ 118 by decide), up_o (show (168 : Nat) ≠ 118 by decide), up_o (show (169 : Nat) ≠ 118 by decide), up_o (show (172 : Nat) ≠ 118 by decide), up_o (show (173 : Nat) ≠ 118 by decide), up_o (show (174 : Nat) ≠ 118 by decide), up_o (show (175 : Nat) ≠ 118 by decide), up_o (show (176 : Nat) ≠ 118 by decide)]
    exact h3 q hq
/-- a job is taken -/
theorem zJ_seek {kk cc tk : Int32} (hc : c < 2) (h : zJ K I) (hI : jI K) (hk : (k : Int) < (K 118 75).toInt) (hf : (K 172 k).toInt = 0) (hn : (K 178 c).toInt = -1) (ek : Int32.ofInt (k : Int) = kk) (ec : Int32.ofInt (c : Int) = cc) (et : K 118 85 = tk) : zJ (jT1 K c k) (qm_up (qm_up (qm_up I (53 + k) 4 cc) (53 + k) 5 tk) 94 c kk) := by
  obtain ⟨h1, h2, h3⟩ := h
  obtain ⟨e, e178, e179, e172, e173, e174⟩ := jT1_at (K := K) (c := c) (k := k)
  have hj := hI.1.1
  have g : ∀ o, o ≠ 178 → o ≠ 179 → o ≠ 172 → o ≠ 173 → o ≠ 174 → jT1 K c k o = K o := e
  have f : ∀ o, o ≠ 94 → o ≠ 53 + k → (qm_up (qm_up (qm_up I (53 + k) 4 cc) (53 + k) 5 tk) 94 c kk) o = I o := fun o o1 o2 => by rw [up_o o1, up_o o2, up_o o2]
  refine ⟨?_, fun d hd => ?_, fun q hq => ?_⟩
  · rw [f 51 (by decide) (by omega), g 118 (by decide) (by decide) (by decide) (by decide) (by decide)]
    exact h1
  · obtain ⟨g1, g2, g3, g4, g5⟩ := h2 d hd
    rw [f 93 (by decide) (by omega), f 95 (by decide) (by omega), f 96 (by decide) (by omega), f 97 (by decide) (by omega), g 177 (by decide) (by decide) (by decide) (by decide) (by decide), g 180 (by decide) (by decide) (by decide) (by decide) (by decide), g 181 (by decide) (by decide) (by decide) (by decide) (by decide), e178, e179, up_1]
    refine ⟨g1, ?_, ?_, g4, g5⟩
    · by_cases q : d = c
      · rw [if_pos q, if_pos q]
        exact ek.symm
      · rw [if_neg q, if_neg q, up_o (show (94 : Nat) ≠ 53 + k by omega), up_o (show (94 : Nat) ≠ 53 + k by omega)]
        exact g2
    · by_cases q : d = c
      · rw [if_pos q, g3, q]
        have z : (K 179 c).toInt = 0 := by
          rcases hI.2.1 c hc with w | w
          · exact w.2
          · have := w.1.1
            omega
        exact hk_eqi.mpr (by rw [z]; rfl)
      · rw [if_neg q]
        exact g3
  · rw [g 118 (by decide) (by decide) (by decide) (by decide) (by decide)] at hq
    have r := h3 q hq
    unfold rwC at r ⊢
    rw [g 170 (by decide) (by decide) (by decide) (by decide) (by decide), g 171 (by decide) (by decide) (by decide) (by decide) (by decide), g 168 (by decide) (by decide) (by decide) (by decide) (by decide), g 169 (by decide) (by decide) (by decide) (by decide) (by decide), g 175 (by decide) (by decide) (by decide) (by decide) (by decide), g 176 (by decide) (by decide) (by decide) (by decide) (by decide), e172, e173, e174]
    by_cases w : q = k
    · subst w
      have c1 : ∀ j, j ≠ 4 → j ≠ 5 → (qm_up (qm_up (qm_up I (53 + q) 4 cc) (53 + q) 5 tk) 94 c kk) (53 + q) j = I (53 + q) j := fun j a b => by rw [up_o (show 53 + q ≠ 94 by omega), up_1, if_neg b, up_1, if_neg a]
      have c4 : (qm_up (qm_up (qm_up I (53 + q) 4 cc) (53 + q) 5 tk) 94 c kk) (53 + q) 4 = cc := by rw [up_o (show 53 + q ≠ 94 by omega), up_1, if_neg (by decide), up_1, if_pos rfl]
      have c5 : (qm_up (qm_up (qm_up I (53 + q) 4 cc) (53 + q) 5 tk) 94 c kk) (53 + q) 5 = tk := by rw [up_o (show 53 + q ≠ 94 by omega), up_1, if_pos rfl]
      rw [if_pos rfl, if_pos rfl, if_pos rfl, c4, c5, c1 1 (by decide) (by decide), c1 2 (by decide) (by decide), c1 0 (by decide) (by decide), c1 3 (by decide) (by decide), c1 6 (by decide) (by decide), c1 7 (by decide) (by decide)]
      exact ⟨r.1, r.2.1, r.2.2.1, fun z => absurd z (by decide), fun _ => ⟨ec.symm, et.symm⟩, fun z => absurd z (by decide), fun _ => r.2.2.2.2.2.2 (by omega)⟩
    · rw [if_neg w, if_neg w, if_neg w, f (53 + q) (by omega) (by omega)]
      exact r
/-- a job is done: its row -/
theorem zJ_row {tk : Int32} (h : zJ K I) (hk : k < 40) (hf : (K 172 k).toInt ≠ 0) : zJ (qm_up (qm_up (qm_up K 176 k v) 172 k 2) 175 k tk) (qm_up (qm_up I (53 + k) 7 v) (53 + k) 6 tk) := by
  obtain ⟨h1, h2, h3⟩ := h
  have g : ∀ o, o ≠ 176 → o ≠ 172 → o ≠ 175 → (qm_up (qm_up (qm_up K 176 k v) 172 k 2) 175 k tk) o = K o := fun o o1 o2 o3 => by rw [up_o o3, up_o o2, up_o o1]
  have e172 : ∀ q, (qm_up (qm_up (qm_up K 176 k v) 172 k 2) 175 k tk) 172 q = if q = k then 2 else K 172 q := fun q => by rw [up_o (show (172 : Nat) ≠ 175 by decide), up_1, up_o (show (172 : Nat) ≠ 176 by decide)]
  have e175 : ∀ q, (qm_up (qm_up (qm_up K 176 k v) 172 k 2) 175 k tk) 175 q = if q = k then tk else K 175 q := fun q => by rw [up_1, up_o (show (175 : Nat) ≠ 172 by decide), up_o (show (175 : Nat) ≠ 176 by decide)]
  have e176 : ∀ q, (qm_up (qm_up (qm_up K 176 k v) 172 k 2) 175 k tk) 176 q = if q = k then v else K 176 q := fun q => by rw [up_o (show (176 : Nat) ≠ 175 by decide), up_o (show (176 : Nat) ≠ 172 by decide), up_1]
  have f : ∀ o, o ≠ 53 + k → (qm_up (qm_up I (53 + k) 7 v) (53 + k) 6 tk) o = I o := fun o o2 => by rw [up_o o2, up_o o2]
  refine ⟨?_, fun d hd => ?_, fun q hq => ?_⟩
  · rw [f 51 (by omega), g 118 (by decide) (by decide) (by decide)]
    exact h1
  · rw [f 93 (by omega), f 94 (by omega), f 95 (by omega), f 96 (by omega), f 97 (by omega), g 177 (by decide) (by decide) (by decide), g 178 (by decide) (by decide) (by decide), g 179 (by decide) (by decide) (by decide), g 180 (by decide) (by decide) (by decide), g 181 (by decide) (by decide) (by decide)]
    exact h2 d hd
  · rw [g 118 (by decide) (by decide) (by decide)] at hq
    have r := h3 q hq
    unfold rwC at r ⊢
    rw [g 170 (by decide) (by decide) (by decide), g 171 (by decide) (by decide) (by decide), g 168 (by decide) (by decide) (by decide), g 169 (by decide) (by decide) (by decide), g 173 (by decide) (by decide) (by decide), g 174 (by decide) (by decide) (by decide), e172, e175, e176]
    by_cases w : q = k
    · subst w
      have c1 : ∀ j, j ≠ 7 → j ≠ 6 → (qm_up (qm_up I (53 + q) 7 v) (53 + q) 6 tk) (53 + q) j = I (53 + q) j := fun j a b => by rw [up_1, if_neg b, up_1, if_neg a]
      have c7 : (qm_up (qm_up I (53 + q) 7 v) (53 + q) 6 tk) (53 + q) 7 = v := by rw [up_1, if_neg (by decide), up_1, if_pos rfl]
      have c6 : (qm_up (qm_up I (53 + q) 7 v) (53 + q) 6 tk) (53 + q) 6 = tk := by rw [up_1, if_pos rfl]
      rw [if_pos rfl, if_pos rfl, if_pos rfl, c6, c7, c1 1 (by decide) (by decide), c1 2 (by decide) (by decide), c1 0 (by decide) (by decide), c1 3 (by decide) (by decide), c1 4 (by decide) (by decide), c1 5 (by decide) (by decide)]
      exact ⟨r.1, r.2.1, r.2.2.1, fun z => absurd z (by decide), fun _ => r.2.2.2.2.1 hf, fun _ => ⟨rfl, rfl⟩, fun z => absurd rfl z⟩
    · rw [if_neg w, if_neg w, if_neg w, f (53 + q) (by omega)]
      exact r
end ZJ
