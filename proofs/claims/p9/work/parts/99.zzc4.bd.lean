/-! jobs and cranes: what a tick's work does, as functions of the reference's cells K, and of boxes and ship A -/
theorem up_o {K : Nat → Nat → Int32} {o i o' : Nat} {v : Int32} (h : o' ≠ o) : qm_up K o i v o' = K o' := funext fun _ => hk_on h
theorem up_1 {K : Nat → Nat → Int32} {o i j : Nat} {v : Int32} : qm_up K o i v o j = if j = i then v else K o j := by
  by_cases c : j = i
  · rw [if_pos c]
    exact hk_equ c
  · rw [if_neg c]
    exact hk_neq c
/-- a bay is on the crane's own side -/
noncomputable def jSd (K : Nat → Nat → Int32) (c : Nat) (y : Int) : Prop := if c = 0 then y < (K 177 1).toInt ∧ ((K 178 1).toInt = -1 ∨ y < (K 170 (K 178 1).toInt.toNat).toInt) else (K 177 0).toInt < y ∧ ((K 178 0).toInt = -1 ∨ (K 170 (K 178 0).toInt.toNat).toInt < y)
theorem jSd_0 {K : Nat → Nat → Int32} {y : Int} : jSd K 0 y ↔ (y < (K 177 1).toInt ∧ ((K 178 1).toInt = -1 ∨ y < (K 170 (K 178 1).toInt.toNat).toInt)) := Iff.rfl
theorem jSd_1 {K : Nat → Nat → Int32} {y : Int} : jSd K 1 y ↔ ((K 177 0).toInt < y ∧ ((K 178 0).toInt = -1 ∨ (K 170 (K 178 0).toInt.toNat).toInt < y)) := Iff.rfl
/-- a job is free for a crane -/
noncomputable def jFr (K : Nat → Nat → Int32) (c k : Nat) : Prop := (K 172 k).toInt = 0 ∧ jSd K c (K 170 k).toInt
/-- the first of m from k on -/
noncomputable def jFs (p : Nat → Prop) : Nat → Nat → Nat
  | 0, k => k
  | m + 1, k => bif okb (p k) then k else jFs p m (k + 1)
theorem jFs_1 {p : Nat → Prop} {m k : Nat} (h : p k) : jFs p (m + 1) k = k := by
  show (bif okb (p k) then k else jFs p m (k + 1)) = k
  rw [okb_t h]
  rfl
theorem jFs_0 {p : Nat → Prop} {m k : Nat} (h : ¬ p k) : jFs p (m + 1) k = jFs p m (k + 1) := by
  show (bif okb (p k) then k else jFs p m (k + 1)) = _
  rw [okb_f h]
  rfl
theorem jFs_p {p : Nat → Prop} : ∀ {m k : Nat}, jFs p m k < k + m → p (jFs p m k) ∧ k ≤ jFs p m k
  | 0, k, h => absurd h (Nat.lt_irrefl k)
  | m + 1, k, h => by
    by_cases c : p k
    · rw [jFs_1 c]
      exact ⟨c, Nat.le_refl k⟩
    · rw [jFs_0 c] at h ⊢
      have ih := jFs_p (p := p) (m := m) (k := k + 1) (by omega)
      exact ⟨ih.1, by omega⟩
noncomputable def jNx (K : Nat → Nat → Int32) (c : Nat) : Nat := jFs (jFr K c) (K 118 75).toInt.toNat 0
noncomputable def jT1 (K : Nat → Nat → Int32) (c k : Nat) : Nat → Nat → Int32 := qm_up (qm_up (qm_up (qm_up (qm_up K 178 c (Int32.ofInt (k : Int))) 179 c 0) 172 k 1) 173 k (Int32.ofInt (c : Int))) 174 k (K 118 85)
noncomputable def jTk (K : Nat → Nat → Int32) (c : Nat) : Nat → Nat → Int32 := bif okb (jNx K c < (K 118 75).toInt.toNat) then jT1 K c (jNx K c) else K
theorem jTk_1 {K : Nat → Nat → Int32} {c : Nat} (h : jNx K c < (K 118 75).toInt.toNat) : jTk K c = jT1 K c (jNx K c) := by
  unfold jTk
  rw [okb_t h]
  rfl
theorem jTk_0 {K : Nat → Nat → Int32} {c : Nat} (h : ¬ jNx K c < (K 118 75).toInt.toNat) : jTk K c = K := by
  unfold jTk
  rw [okb_f h]
  rfl
/-- where the crane goes; is it windy; what loading or unloading answers, and leaves -/
noncomputable def jMv (K : Nat → Nat → Int32) (c : Nat) : Int32 := bif okb ((K 177 c).toInt < (K 170 (K 178 c).toInt.toNat).toInt) then K 177 c + 1 else K 177 c - 1
noncomputable def jWn (K : Nat → Nat → Int32) : Prop := (K 118 91).toInt ≤ (K 118 85).toInt ∧ (K 118 85).toInt ≤ (K 118 92).toInt
noncomputable def jRe (s : Nat) (A : Nat → Nat → Int) (K : Nat → Nat → Int32) (k : Nat) : Int := bif okb ((K 168 k).toInt = 0) then ldV s A (K 169 k) (K 170 k) (K 171 k) else ulV s A (K 170 k) (K 171 k) (K 169 k)
noncomputable def jSh (s : Nat) (A : Nat → Nat → Int) (K : Nat → Nat → Int32) (k : Nat) : Nat → Nat → Int := bif okb ((K 168 k).toInt = 0) then ldS s A (K 169 k) (K 170 k) (K 171 k) else ulS s A (K 170 k) (K 171 k) (K 169 k)
noncomputable def jMo (K : Nat → Nat → Int32) (c : Nat) : Nat → Nat → Int32 := qm_up (qm_up K 177 c (jMv K c)) 180 c (K 180 c + 1)
noncomputable def jLi (K : Nat → Nat → Int32) (c : Nat) : Nat → Nat → Int32 := qm_up K 179 c (K 179 c + 1)
noncomputable def jFi (K : Nat → Nat → Int32) (c k : Nat) (v : Int32) : Nat → Nat → Int32 := qm_up (qm_up (qm_up (qm_up (qm_up (qm_up (qm_up K 179 c (K 179 c + 1)) 176 k v) 172 k 2) 175 k (K 118 85)) 178 c (-1)) 179 c 0) 181 c (K 181 c + 1)
/-- a crane's work, its job taken -/
noncomputable def jGo (s : Nat) (A : Nat → Nat → Int) (K : Nat → Nat → Int32) (c : Nat) : (Nat → Nat → Int) × (Nat → Nat → Int32) :=
  bif okb ((K 178 c).toInt = -1) then (A, K) else
  bif okb (K 177 c = K 170 (K 178 c).toInt.toNat) then
    (bif okb (jWn K) then (A, K) else
      bif okb ((K 179 c + 1).toInt < 2) then (A, jLi K c) else (jSh s A K (K 178 c).toInt.toNat, jFi K c (K 178 c).toInt.toNat (Int32.ofInt (jRe s A K (K 178 c).toInt.toNat))))
  else bif okb (jMv K c = K 177 (1 - c)) then (A, K) else (A, jMo K c)
section JG
variable {s : Nat} {A : Nat → Nat → Int} {K : Nat → Nat → Int32} {c : Nat}
theorem jGo_n (h : (K 178 c).toInt = -1) : jGo s A K c = (A, K) := by
  unfold jGo
  rw [okb_t h]
  rfl
theorem jGo_b (h : (K 178 c).toInt ≠ -1) (h2 : K 177 c ≠ K 170 (K 178 c).toInt.toNat) (h3 : jMv K c = K 177 (1 - c)) : jGo s A K c = (A, K) := by
  unfold jGo
  rw [okb_f h, okb_f h2, okb_t h3]
  rfl
theorem jGo_m (h : (K 178 c).toInt ≠ -1) (h2 : K 177 c ≠ K 170 (K 178 c).toInt.toNat) (h3 : jMv K c ≠ K 177 (1 - c)) : jGo s A K c = (A, jMo K c) := by
  unfold jGo
  rw [okb_f h, okb_f h2, okb_f h3]
  rfl
theorem jGo_w (h : (K 178 c).toInt ≠ -1) (h2 : K 177 c = K 170 (K 178 c).toInt.toNat) (h3 : jWn K) : jGo s A K c = (A, K) := by
  unfold jGo
  rw [okb_f h, okb_t h2, okb_t h3]
  rfl
theorem jGo_l (h : (K 178 c).toInt ≠ -1) (h2 : K 177 c = K 170 (K 178 c).toInt.toNat) (h3 : ¬ jWn K) (h4 : (K 179 c + 1).toInt < 2) : jGo s A K c = (A, jLi K c) := by
  unfold jGo
  rw [okb_f h, okb_t h2, okb_f h3, okb_t h4]
  rfl
theorem jGo_f (h : (K 178 c).toInt ≠ -1) (h2 : K 177 c = K 170 (K 178 c).toInt.toNat) (h3 : ¬ jWn K) (h4 : ¬ (K 179 c + 1).toInt < 2) : jGo s A K c = (jSh s A K (K 178 c).toInt.toNat, jFi K c (K 178 c).toInt.toNat (Int32.ofInt (jRe s A K (K 178 c).toInt.toNat))) := by
  unfold jGo
  rw [okb_f h, okb_t h2, okb_f h3, okb_f h4]
  rfl
end JG
/-- a crane's tick; a tick; so many ticks -/
noncomputable def jSt (s : Nat) (p : (Nat → Nat → Int) × (Nat → Nat → Int32)) (c : Nat) : (Nat → Nat → Int) × (Nat → Nat → Int32) := jGo s p.1 (bif okb ((p.2 178 c).toInt = -1) then jTk p.2 c else p.2) c
noncomputable def jRs (K : Nat → Nat → Int32) : Prop := 0 < (K 118 93).toInt ∧ (K 118 93).toInt ≤ (K 118 85).toInt % ((K 118 93).toInt + (K 118 94).toInt)
noncomputable def jCk (p : (Nat → Nat → Int) × (Nat → Nat → Int32)) : (Nat → Nat → Int) × (Nat → Nat → Int32) := (p.1, qm_up p.2 118 85 (p.2 118 85 + 1))
noncomputable def jTi (s : Nat) (p : (Nat → Nat → Int) × (Nat → Nat → Int32)) : (Nat → Nat → Int) × (Nat → Nat → Int32) := jCk (bif okb (jRs p.2) then p else jSt s (jSt s p 0) 1)
noncomputable def jRn (s : Nat) : Nat → (Nat → Nat → Int) × (Nat → Nat → Int32) → (Nat → Nat → Int) × (Nat → Nat → Int32)
  | 0, p => p
  | n + 1, p => jRn s n (jTi s p)
/-- what holds of jobs and cranes -/
noncomputable def jCr (K : Nat → Nat → Int32) (c : Nat) : Prop := ((K 178 c).toInt = -1 ∧ (K 179 c).toInt = 0) ∨ ((0 ≤ (K 178 c).toInt ∧ (K 178 c).toInt < (K 118 75).toInt) ∧ (K 172 (K 178 c).toInt.toNat).toInt = 1 ∧ 0 ≤ (K 179 c).toInt ∧ (K 179 c).toInt ≤ 1)
noncomputable def jRw (K : Nat → Nat → Int32) (k : Nat) : Prop := (0 ≤ (K 172 k).toInt ∧ (K 172 k).toInt ≤ 2) ∧ (0 ≤ (K 170 k).toInt ∧ (K 170 k).toInt ≤ 4) ∧ ((K 168 k).toInt = 0 → 0 ≤ (K 169 k).toInt ∧ (K 169 k).toInt ≤ 29) ∧ ((K 172 k).toInt ≠ 0 → 0 ≤ (K 173 k).toInt ∧ (K 173 k).toInt ≤ 1) ∧ ((K 172 k).toInt = 2 → 0 ≤ (K 175 k).toInt)
noncomputable def jI (K : Nat → Nat → Int32) : Prop := ((0 ≤ (K 118 75).toInt ∧ (K 118 75).toInt ≤ 40) ∧ ∀ c : Nat, c < 2 → -1 ≤ (K 177 c).toInt ∧ (K 177 c).toInt ≤ 4) ∧ (∀ c : Nat, c < 2 → jCr K c) ∧ ((K 178 0).toInt = (K 178 1).toInt → (K 178 0).toInt = -1) ∧ ∀ k : Nat, (k : Int) < (K 118 75).toInt → jRw K k
noncomputable def jB (tb : Int) (K : Nat → Nat → Int32) : Prop := 0 ≤ (K 118 85).toInt ∧ (K 118 85).toInt ≤ tb
theorem i32_n {x : Int32} (h : 0 ≤ x.toInt) : Int32.ofInt ((x.toInt.toNat : Nat) : Int) = x := by
  rw [show ((x.toInt.toNat : Nat) : Int) = x.toInt by omega]
  exact Int32.ofInt_toInt x
theorem i32_o {n : Int} (h0 : 0 ≤ n) (h1 : n ≤ 1000) : (Int32.ofInt n).toInt = n := Int32.toInt_ofInt_of_le (by omega) (by omega)
section JI
variable {K : Nat → Nat → Int32} {c k : Nat} {v : Int32}
theorem jT1_at : (∀ o, o ≠ 178 → o ≠ 179 → o ≠ 172 → o ≠ 173 → o ≠ 174 → jT1 K c k o = K o) ∧ (∀ i, jT1 K c k 178 i = if i = c then Int32.ofInt (k : Int) else K 178 i) ∧ (∀ i, jT1 K c k 179 i = if i = c then 0 else K 179 i) ∧ (∀ i, jT1 K c k 172 i = if i = k then 1 else K 172 i) ∧ (∀ i, jT1 K c k 173 i = if i = k then Int32.ofInt (c : Int) else K 173 i) ∧ (∀ i, jT1 K c k 174 i = if i = k then K 118 85 else K 174 i) := by
  unfold jT1
  refine ⟨fun o h1 h2 h3 h4 h5 => ?_, fun i => ?_, fun i => ?_, fun i => ?_, fun i => ?_, fun i => ?_⟩
  · rw [up_o h5, up_o h4, up_o h3, up_o h2, up_o h1]
  · rw [up_o (show (178 : Nat) ≠ 174 by decide), up_o (show (178 : Nat) ≠ 173 by decide), up_o (show (178 : Nat) ≠ 172 by decide), up_o (show (178 : Nat) ≠ 179 by decide), up_1]
  · rw [up_o (show (179 : Nat) ≠ 174 by decide), up_o (show (179 : Nat) ≠ 173 by decide), up_o (show (179 : Nat) ≠ 172 by decide), up_1, up_o (show (179 : Nat) ≠ 178 by decide)]
  · rw [up_o (show (172 : Nat) ≠ 174 by decide), up_o (show (172 : Nat) ≠ 173 by decide), up_1, up_o (show (172 : Nat) ≠ 179 by decide), up_o (show (172 : Nat) ≠ 178 by decide)]
  · rw [up_o (show (173 : Nat) ≠ 174 by decide), up_1, up_o (show (173 : Nat) ≠ 172 by decide), up_o (show (173 : Nat) ≠ 179 by decide), up_o (show (173 : Nat) ≠ 178 by decide)]
  · rw [up_1, up_o (show (174 : Nat) ≠ 173 by decide), up_o (show (174 : Nat) ≠ 172 by decide), up_o (show (174 : Nat) ≠ 179 by decide), up_o (show (174 : Nat) ≠ 178 by decide)]
theorem jFi_at : (∀ o, o ≠ 172 → o ≠ 175 → o ≠ 176 → o ≠ 178 → o ≠ 179 → o ≠ 181 → jFi K c k v o = K o) ∧ (∀ i, jFi K c k v 172 i = if i = k then 2 else K 172 i) ∧ (∀ i, jFi K c k v 175 i = if i = k then K 118 85 else K 175 i) ∧ (∀ i, jFi K c k v 176 i = if i = k then v else K 176 i) ∧ (∀ i, jFi K c k v 178 i = if i = c then -1 else K 178 i) ∧ (∀ i, jFi K c k v 179 i = if i = c then 0 else K 179 i) ∧ (∀ i, jFi K c k v 181 i = if i = c then K 181 c + 1 else K 181 i) := by
  unfold jFi
  refine ⟨fun o h1 h2 h3 h4 h5 h6 => ?_, fun i => ?_, fun i => ?_, fun i => ?_, fun i => ?_, fun i => ?_, fun i => ?_⟩
  · rw [up_o h6, up_o h5, up_o h4, up_o h2, up_o h1, up_o h3, up_o h5]
  · rw [up_o (show (172 : Nat) ≠ 181 by decide), up_o (show (172 : Nat) ≠ 179 by decide), up_o (show (172 : Nat) ≠ 178 by decide), up_o (show (172 : Nat) ≠ 175 by decide), up_1, up_o (show (172 : Nat) ≠ 176 by decide), up_o (show (172 : Nat) ≠ 179 by decide)]
  · rw [up_o (show (175 : Nat) ≠ 181 by decide), up_o (show (175 : Nat) ≠ 179 by decide), up_o (show (175 : Nat) ≠ 178 by decide), up_1, up_o (show (175 : Nat) ≠ 172 by decide), up_o (show (175 : Nat) ≠ 176 by decide), up_o (show (175 : Nat) ≠ 179 by decide)]
  · rw [up_o (show (176 : Nat) ≠ 181 by decide), up_o (show (176 : Nat) ≠ 179 by decide), up_o (show (176 : Nat) ≠ 178 by decide), up_o (show (176 : Nat) ≠ 175 by decide), up_o (show (176 : Nat) ≠ 172 by decide), up_1, up_o (show (176 : Nat) ≠ 179 by decide)]
  · rw [up_o (show (178 : Nat) ≠ 181 by decide), up_o (show (178 : Nat) ≠ 179 by decide), up_1, up_o (show (178 : Nat) ≠ 175 by decide), up_o (show (178 : Nat) ≠ 172 by decide), up_o (show (178 : Nat) ≠ 176 by decide), up_o (show (178 : Nat) ≠ 179 by decide)]
  · rw [up_o (show (179 : Nat) ≠ 181 by decide), up_1, up_o (show (179 : Nat) ≠ 178 by decide), up_o (show (179 : Nat) ≠ 175 by decide), up_o (show (179 : Nat) ≠ 172 by decide), up_o (show (179 : Nat) ≠ 176 by decide), up_1]
    by_cases e : i = c
    · rw [if_pos e, if_pos e]
    · rw [if_neg e, if_neg e, if_neg e]
  · rw [up_1, up_o (show (181 : Nat) ≠ 179 by decide), up_o (show (181 : Nat) ≠ 178 by decide), up_o (show (181 : Nat) ≠ 175 by decide), up_o (show (181 : Nat) ≠ 172 by decide), up_o (show (181 : Nat) ≠ 176 by decide), up_o (show (181 : Nat) ≠ 179 by decide)]
/-- a job is taken -/
theorem jT1_I (hc : c < 2) (h : jI K) (hk : (k : Int) < (K 118 75).toInt) (hf : (K 172 k).toInt = 0) : jI (jT1 K c k) := by
  obtain ⟨⟨h1, h2⟩, h3, h4, h5⟩ := h
  obtain ⟨e, e178, e179, e172, e173, e174⟩ := jT1_at (K := K) (c := c) (k := k)
  have e118 : jT1 K c k 118 = K 118 := e 118 (by decide) (by decide) (by decide) (by decide) (by decide)
  have e177 : jT1 K c k 177 = K 177 := e 177 (by decide) (by decide) (by decide) (by decide) (by decide)
  have ik : (Int32.ofInt (k : Int)).toInt = (k : Int) := i32_o (by omega) (by omega)
  have ic : (Int32.ofInt (c : Int)).toInt = (c : Int) := i32_o (by omega) (by omega)
  have u : ∀ d, d < 2 → (K 178 d).toInt ≠ (k : Int) := fun d hd z => by
    rcases h3 d hd with ⟨q, _⟩ | ⟨q1, q2, _⟩
    · omega
    · rw [z, show ((k : Int)).toNat = k by omega, hf] at q2
      omega
  refine ⟨⟨by rw [e118]; exact h1, fun d hd => by rw [e177]; exact h2 d hd⟩, fun d hd => ?_, fun z => ?_, fun q hq => ?_⟩
  · unfold jCr
    rw [e178, e179, e118]
    by_cases q : d = c
    · rw [if_pos q, if_pos q, ik]
      refine Or.inr ⟨⟨by omega, hk⟩, ?_, by decide, by decide⟩
      rw [e172, if_pos (by omega)]
      rfl
    · rw [if_neg q, if_neg q]
      rcases h3 d hd with w | ⟨w1, w2, w3⟩
      · exact Or.inl w
      · refine Or.inr ⟨w1, ?_, w3⟩
        rw [e172]
        split
        · rfl
        · exact w2
  · rw [e178, e178] at z
    rw [e178]
    have c2 : c = 0 ∨ c = 1 := by omega
    rcases c2 with rfl | rfl
    · rw [if_pos rfl, if_neg (by decide), ik] at z
      exact absurd z.symm (u 1 (by decide))
    · rw [if_neg (by decide), if_pos rfl, ik] at z
      exact absurd z (u 0 (by decide))
  · have hq : (q : Int) < (K 118 75).toInt := by
      rw [e118] at hq
      exact hq
    have r := h5 q hq
    unfold jRw at r ⊢
    rw [e172, e173, e 168 (by decide) (by decide) (by decide) (by decide) (by decide), e 169 (by decide) (by decide) (by decide) (by decide) (by decide), e 170 (by decide) (by decide) (by decide) (by decide) (by decide), e 175 (by decide) (by decide) (by decide) (by decide) (by decide)]
    by_cases w : q = k
    · subst w
      rw [if_pos rfl, if_pos rfl, ic]
      exact ⟨⟨by decide, by decide⟩, r.2.1, r.2.2.1, fun _ => ⟨by omega, by omega⟩, fun z => absurd z (by decide)⟩
    · rw [if_neg w, if_neg w]
      exact r
theorem jTk_I (hc : c < 2) (h : jI K) : jI (jTk K c) := by
  by_cases q : jNx K c < (K 118 75).toInt.toNat
  · rw [jTk_1 q]
    have p := jFs_p (p := jFr K c) (m := (K 118 75).toInt.toNat) (k := 0) (by unfold jNx at q; omega)
    exact jT1_I hc h (by omega) p.1.1
  · rw [jTk_0 q]
    exact h
/-- a job is done -/
theorem jFi_I (hc : c < 2) (h : jI K) (hs : (K 178 c).toInt ≠ -1) (hk : k = (K 178 c).toInt.toNat) (ht : 0 ≤ (K 118 85).toInt) : jI (jFi K c k v) := by
  obtain ⟨⟨h1, h2⟩, h3, h4, h5⟩ := h
  obtain ⟨e, e172, e175, e176, e178, e179, e181⟩ := jFi_at (K := K) (c := c) (k := k) (v := v)
  have g : ∀ o, o ≠ 172 → o ≠ 175 → o ≠ 176 → o ≠ 178 → o ≠ 179 → o ≠ 181 → jFi K c k v o = K o := e
  have e118 : jFi K c k v 118 = K 118 := e 118 (by decide) (by decide) (by decide) (by decide) (by decide) (by decide)
  have e177 : jFi K c k v 177 = K 177 := e 177 (by decide) (by decide) (by decide) (by decide) (by decide) (by decide)
  have b := (h3 c hc).resolve_left (fun z => hs z.1)
  have u : ∀ d, d < 2 → d ≠ c → (K 178 d).toInt ≠ -1 → (K 178 d).toInt ≠ (K 178 c).toInt := fun d hd hn hm z => by
    have d2 : (d = 0 ∧ c = 1) ∨ (d = 1 ∧ c = 0) := by omega
    rcases d2 with ⟨rfl, rfl⟩ | ⟨rfl, rfl⟩
    · exact hm (h4 z)
    · exact hs (h4 z.symm)
  refine ⟨⟨by rw [e118]; exact h1, fun d hd => by rw [e177]; exact h2 d hd⟩, fun d hd => ?_, fun z => ?_, fun q hq => ?_⟩
  · unfold jCr
    rw [e178, e179, e118]
    by_cases q : d = c
    · rw [if_pos q, if_pos q]
      exact Or.inl ⟨rfl, rfl⟩
    · rw [if_neg q, if_neg q]
      rcases h3 d hd with w | ⟨w1, w2, w3⟩
      · exact Or.inl w
      · refine Or.inr ⟨w1, ?_, w3⟩
        have n := u d hd q (by omega)
        rw [e172, if_neg (by omega)]
        exact w2
  · rw [e178, e178] at z
    rw [e178]
    have c2 : c = 0 ∨ c = 1 := by omega
    rcases c2 with rfl | rfl
    · rw [if_pos rfl]
      rfl
    · rw [if_neg (by decide), if_pos rfl] at z
      rw [if_neg (by decide)]
      exact z
  · have hq : (q : Int) < (K 118 75).toInt := by
      rw [e118] at hq
      exact hq
    have r := h5 q hq
    unfold jRw at r ⊢
    rw [e172, e175, g 168 (by decide) (by decide) (by decide) (by decide) (by decide) (by decide), g 169 (by decide) (by decide) (by decide) (by decide) (by decide) (by decide), g 170 (by decide) (by decide) (by decide) (by decide) (by decide) (by decide), g 173 (by decide) (by decide) (by decide) (by decide) (by decide) (by decide)]
    by_cases w : q = k
    · rw [if_pos w, if_pos w]
      have b1 : (K 172 q).toInt ≠ 0 := by
        rw [w, hk, b.2.1]
        decide
      exact ⟨⟨by decide, by decide⟩, r.2.1, r.2.2.1, fun _ => r.2.2.2.1 b1, fun _ => ht⟩
    · rw [if_neg w, if_neg w]
      exact r
/-- cranes alone are touched -/
theorem jI_cr {K2 : Nat → Nat → Int32} (h : jI K) (e : ∀ o, o ≠ 177 → o ≠ 179 → o ≠ 180 → K2 o = K o) (h2 : ∀ d, d < 2 → -1 ≤ (K2 177 d).toInt ∧ (K2 177 d).toInt ≤ 4) (h3 : ∀ d, d < 2 → K2 179 d = K 179 d ∨ ((K 178 d).toInt ≠ -1 ∧ 0 ≤ (K2 179 d).toInt ∧ (K2 179 d).toInt ≤ 1)) : jI K2 := by
  obtain ⟨⟨h1, -⟩, g3, h4, h5⟩ := h
  refine ⟨⟨by rw [e 118 (by decide) (by decide) (by decide)]; exact h1, h2⟩, fun d hd => ?_, by rw [e 178 (by decide) (by decide) (by decide)]; exact h4, fun q hq => ?_⟩
  · unfold jCr
    rw [e 178 (by decide) (by decide) (by decide), e 118 (by decide) (by decide) (by decide), e 172 (by decide) (by decide) (by decide)]
    rcases h3 d hd with w | ⟨w1, w2⟩
    · rw [w]
      exact g3 d hd
    · have b := (g3 d hd).resolve_left (fun z => w1 z.1)
      exact Or.inr ⟨b.1, b.2.1, w2⟩
  · rw [e 118 (by decide) (by decide) (by decide)] at hq
    unfold jRw
    rw [e 172 (by decide) (by decide) (by decide), e 170 (by decide) (by decide) (by decide), e 168 (by decide) (by decide) (by decide), e 169 (by decide) (by decide) (by decide), e 173 (by decide) (by decide) (by decide), e 175 (by decide) (by decide) (by decide)]
    exact h5 q hq
theorem jMo_I (hc : c < 2) (h : jI K) (hs : (K 178 c).toInt ≠ -1) (hn : K 177 c ≠ K 170 (K 178 c).toInt.toNat) : jI (jMo K c) := by
  have h0 := h
  obtain ⟨⟨h1, h2⟩, h3, h4, h5⟩ := h
  have b := (h3 c hc).resolve_left (fun z => hs z.1)
  have r := (h5 (K 178 c).toInt.toNat (by omega)).2.1
  have q := h2 c hc
  have n : (K 177 c).toInt ≠ (K 170 (K 178 c).toInt.toNat).toInt := fun z => hn (hk_eqi.mpr z)
  have m : -1 ≤ (jMv K c).toInt ∧ (jMv K c).toInt ≤ 4 := by
    unfold jMv
    by_cases w : (K 177 c).toInt < (K 170 (K 178 c).toInt.toNat).toInt
    · rw [okb_t w]
      obtain ⟨z, z1, z2⟩ := hk_add (x := K 177 c) (y := 1) (a := (K 177 c).toInt) (b := 1) rfl rfl (by omega) (by omega)
      show -1 ≤ (K 177 c + 1).toInt ∧ (K 177 c + 1).toInt ≤ 4
      rw [z1]
      omega
    · rw [okb_f w]
      obtain ⟨z, z1, z2⟩ := hk_sub (x := K 177 c) (y := 1) (a := (K 177 c).toInt) (b := 1) rfl rfl (by omega) (by omega)
      show -1 ≤ (K 177 c - 1).toInt ∧ (K 177 c - 1).toInt ≤ 4
      rw [z1]
      omega
  unfold jMo
  refine jI_cr h0 (fun o o1 o2 o3 => by rw [up_o o3, up_o o1]) (fun d hd => ?_) (fun d hd => Or.inl ?_)
  · rw [up_o (show (177 : Nat) ≠ 180 by decide), up_1]
    split
    · exact m
    · exact h2 d hd
  · rw [up_o (show (179 : Nat) ≠ 180 by decide), up_o (show (179 : Nat) ≠ 177 by decide)]
theorem jLi_I (hc : c < 2) (h : jI K) (hs : (K 178 c).toInt ≠ -1) (hl : (K 179 c + 1).toInt < 2) : jI (jLi K c) := by
  have h0 := h
  obtain ⟨⟨h1, h2⟩, h3, h4, h5⟩ := h
  have b := (h3 c hc).resolve_left (fun z => hs z.1)
  obtain ⟨z, z1, z2⟩ := hk_add (x := K 179 c) (y := 1) (a := (K 179 c).toInt) (b := 1) rfl rfl (by omega) (by omega)
  rw [z1] at hl
  unfold jLi
  refine jI_cr h0 (fun o o1 o2 o3 => by rw [up_o o2]) (fun d hd => by rw [up_o (show (177 : Nat) ≠ 179 by decide)]; exact h2 d hd) (fun d hd => ?_)
  rw [up_1]
  by_cases e : d = c
  · rw [if_pos e, z1, e]
    exact Or.inr ⟨hs, by omega, by omega⟩
  · rw [if_neg e]
    exact Or.inl rfl
end JI
theorem jGo_I {s : Nat} {A : Nat → Nat → Int} {K : Nat → Nat → Int32} {c : Nat} (hc : c < 2) (h : jI K) (ht : 0 ≤ (K 118 85).toInt) : jI (jGo s A K c).2 := by
  by_cases c1 : (K 178 c).toInt = -1
  · rw [jGo_n c1]
    exact h
  · by_cases c2 : K 177 c = K 170 (K 178 c).toInt.toNat
    · by_cases c3 : jWn K
      · rw [jGo_w c1 c2 c3]
        exact h
      · by_cases c4 : (K 179 c + 1).toInt < 2
        · rw [jGo_l c1 c2 c3 c4]
          exact jLi_I hc h c1 c4
        · rw [jGo_f c1 c2 c3 c4]
          exact jFi_I hc h c1 rfl ht
    · by_cases c3 : jMv K c = K 177 (1 - c)
      · rw [jGo_b c1 c2 c3]
        exact h
      · rw [jGo_m c1 c2 c3]
        exact jMo_I hc h c1 c2
/-- clock, wind, shifts, how many jobs: no crane touches them; rows as told stay -/
theorem jTk_118 {K : Nat → Nat → Int32} {c : Nat} : jTk K c 118 = K 118 := by
  by_cases q : jNx K c < (K 118 75).toInt.toNat
  · rw [jTk_1 q]
    exact jT1_at.1 118 (by decide) (by decide) (by decide) (by decide) (by decide)
  · rw [jTk_0 q]
theorem jGo_118 {s : Nat} {A : Nat → Nat → Int} {K : Nat → Nat → Int32} {c : Nat} : (jGo s A K c).2 118 = K 118 := by
  by_cases c1 : (K 178 c).toInt = -1
  · rw [jGo_n c1]
  · by_cases c2 : K 177 c = K 170 (K 178 c).toInt.toNat
    · by_cases c3 : jWn K
      · rw [jGo_w c1 c2 c3]
      · by_cases c4 : (K 179 c + 1).toInt < 2
        · rw [jGo_l c1 c2 c3 c4]
          show qm_up K 179 c (K 179 c + 1) 118 = K 118
          exact up_o (show (118 : Nat) ≠ 179 by decide)
        · rw [jGo_f c1 c2 c3 c4]
          show jFi K c (K 178 c).toInt.toNat (Int32.ofInt (jRe s A K (K 178 c).toInt.toNat)) 118 = K 118
          exact jFi_at.1 118 (by decide) (by decide) (by decide) (by decide) (by decide) (by decide)
    · by_cases c3 : jMv K c = K 177 (1 - c)
      · rw [jGo_b c1 c2 c3]
      · rw [jGo_m c1 c2 c3]
        show qm_up (qm_up K 177 c (jMv K c)) 180 c (K 180 c + 1) 118 = K 118
        rw [up_o (show (118 : Nat) ≠ 180 by decide), up_o (show (118 : Nat) ≠ 177 by decide)]
/-- what holds of all, for both -/
noncomputable def jP (s : Nat) (p : (Nat → Nat → Int) × (Nat → Nat → Int32)) : Prop := zI s p.1 ∧ zK p.1 ∧ p.1 118 18 = (s : Int) ∧ jI p.2 ∧ 0 ≤ (p.2 118 85).toInt
theorem ldS_118 {s : Nat} {A : Nat → Nat → Int} {b y x : Int32} : ldS s A b y x 118 = A 118 := by
  unfold ldS
  split <;> rfl
theorem ulS_118 {s : Nat} {A : Nat → Nat → Int} {y x g : Int32} : ulS s A y x g 118 = A 118 := by
  unfold ulS
  split
  · rfl
  · split <;> rfl
theorem jSh_P {s : Nat} {A : Nat → Nat → Int} {K : Nat → Nat → Int32} {k : Nat} (h1 : zI s A) (h2 : zK A) (h3 : A 118 18 = (s : Int)) (hb : (K 168 k).toInt = 0 → (K 169 k).toInt ≤ 29) : zI s (jSh s A K k) ∧ zK (jSh s A K k) ∧ jSh s A K k 118 18 = (s : Int) := by
  unfold jSh
  by_cases c : (K 168 k).toInt = 0
  · rw [okb_t c]
    refine ⟨ld_zI h1 (hb c), ldS_K h1 h2, ?_⟩
    show ldS s A (K 169 k) (K 170 k) (K 171 k) 118 18 = _
    rw [ldS_118]
    exact h3
  · rw [okb_f c]
    refine ⟨ul_zI h1, ulS_K h1 h2, ?_⟩
    show ulS s A (K 170 k) (K 171 k) (K 169 k) 118 18 = _
    rw [ulS_118]
    exact h3
theorem jGo_P {s : Nat} {A : Nat → Nat → Int} {K : Nat → Nat → Int32} {c : Nat} (hc : c < 2) (h : jP s (A, K)) : jP s (jGo s A K c) := by
  obtain ⟨h1, h2, h3, h4, h5⟩ := h
  have h4 : jI K := h4
  have i := jGo_I (s := s) (A := A) hc h4 h5
  have t : 0 ≤ ((jGo s A K c).2 118 85).toInt := by
    rw [jGo_118]
    exact h5
  suffices h : zI s (jGo s A K c).1 ∧ zK (jGo s A K c).1 ∧ (jGo s A K c).1 118 18 = (s : Int) from ⟨h.1, h.2.1, h.2.2, i, t⟩
  by_cases c1 : (K 178 c).toInt = -1
  · rw [jGo_n c1]
    exact ⟨h1, h2, h3⟩
  · by_cases c2 : K 177 c = K 170 (K 178 c).toInt.toNat
    · by_cases c3 : jWn K
      · rw [jGo_w c1 c2 c3]
        exact ⟨h1, h2, h3⟩
      · by_cases c4 : (K 179 c + 1).toInt < 2
        · rw [jGo_l c1 c2 c3 c4]
          exact ⟨h1, h2, h3⟩
        · rw [jGo_f c1 c2 c3 c4]
          have b := (h4.2.1 c hc).resolve_left (fun z => c1 z.1)
          exact jSh_P h1 h2 h3 (fun z => ((h4.2.2.2 (K 178 c).toInt.toNat (by omega)).2.2.1 z).2)
    · by_cases c3 : jMv K c = K 177 (1 - c)
      · rw [jGo_b c1 c2 c3]
        exact ⟨h1, h2, h3⟩
      · rw [jGo_m c1 c2 c3]
        exact ⟨h1, h2, h3⟩
/-- the same in the cells that matter -/
noncomputable def jEq (K I : Nat → Nat → Int32) : Prop := (∀ o, 168 ≤ o → o ≤ 181 → K o = I o) ∧ ∀ f ∈ [75, 85, 91, 92, 93, 94], K 118 f = I 118 f
theorem jEq_up {K I : Nat → Nat → Int32} {o i : Nat} {v : Int32} (h : jEq K I) : jEq (qm_up K o i v) (qm_up I o i v) := by
  refine ⟨fun q q1 q2 => funext fun j => ?_, fun f hf => ?_⟩
  · by_cases c : q = o
    · subst c
      rw [up_1, up_1, h.1 q q1 q2]
    · rw [up_o c, up_o c, h.1 q q1 q2]
  · by_cases c : 118 = o
    · subst c
      rw [up_1, up_1, h.2 f hf]
    · rw [up_o c, up_o c, h.2 f hf]
theorem jEq_fr {K I I2 : Nat → Nat → Int32} {mod : List Nat} (h : jEq K I) (e : ∀ o, mod.contains o = false → ∀ i, I2 o i = I o i) (hm : ∀ o ∈ [118, 168, 169, 170, 171, 172, 173, 174, 175, 176, 177, 178, 179, 180, 181], mod.contains o = false) : jEq K I2 := ⟨fun q q1 q2 => (h.1 q q1 q2).trans (funext fun j => (e q (hm q (by
  have : ∀ q, q < 182 → 168 ≤ q → q ∈ [118, 168, 169, 170, 171, 172, 173, 174, 175, 176, 177, 178, 179, 180, 181] := by decide +kernel
  exact this q (by omega) q1)) j).symm), fun f hf => (h.2 f hf).trans (e 118 (hm 118 (by decide)) f).symm⟩
theorem jEq_nx {K I : Nat → Nat → Int32} {c : Nat} (h : jEq K I) : jNx K c = jNx I c := by
  have p : jFr K c = jFr I c := funext fun k => by
    unfold jFr jSd
    rw [h.1 172 (by decide) (by decide), h.1 170 (by decide) (by decide), h.1 177 (by decide) (by decide), h.1 178 (by decide) (by decide)]
  unfold jNx
  rw [p, h.2 75 (by decide)]
theorem jEq_tk {K I : Nat → Nat → Int32} {c : Nat} (h : jEq K I) : jEq (jTk K c) (jTk I c) := by
  by_cases q : jNx K c < (K 118 75).toInt.toNat
  · rw [jTk_1 q, jTk_1 (by rw [← jEq_nx h, ← h.2 75 (by decide)]; exact q), ← jEq_nx h]
    unfold jT1
    rw [h.2 85 (by decide)]
    exact jEq_up (jEq_up (jEq_up (jEq_up (jEq_up h))))
  · rw [jTk_0 q, jTk_0 (by rw [← jEq_nx h, ← h.2 75 (by decide)]; exact q)]
    exact h
theorem jEq_I {K I : Nat → Nat → Int32} (h : jI K) (e : jEq K I) : jI I := by
  unfold jI jCr jRw at h ⊢
  rw [← e.1 177 (by decide) (by decide), ← e.1 178 (by decide) (by decide), ← e.1 179 (by decide) (by decide), ← e.1 172 (by decide) (by decide), ← e.1 170 (by decide) (by decide), ← e.1 168 (by decide) (by decide), ← e.1 169 (by decide) (by decide), ← e.1 173 (by decide) (by decide), ← e.1 175 (by decide) (by decide), ← e.2 75 (by decide)]
  exact h
