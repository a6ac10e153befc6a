/-! read: boxes, ship, yard and the text in force behind both reads -/
variable {tb : Int}
theorem nS_pos {f : Nat → Int} : ∀ {n : Nat}, 0 < nS f n → ∃ i, i < n ∧ 0 < f i
  | 0, h => absurd h (Int.lt_irrefl 0)
  | n + 1, h => by
    have h : 0 < nS f n + f n := h
    by_cases c : 0 < f n
    · exact ⟨n, Nat.lt_succ_self n, c⟩
    · obtain ⟨i, h1, h2⟩ := nS_pos (f := f) (n := n) (by omega)
      exact ⟨i, by omega, h2⟩
theorem nS_le {f : Nat → Int} : ∀ {n : Nat}, (∀ i, i < n → 0 ≤ f i) → 0 ≤ nS f n ∧ ∀ i, i < n → f i ≤ nS f n
  | 0, _ => ⟨Int.le_refl 0, fun i h => absurd h (Nat.not_lt_zero i)⟩
  | n + 1, h => by
    obtain ⟨h1, h2⟩ := nS_le (f := f) (n := n) (fun i hi => h i (by omega))
    have h3 := h n (Nat.lt_succ_self n)
    refine ⟨show 0 ≤ nS f n + f n by omega, fun i hi => ?_⟩
    show f i ≤ nS f n + f n
    by_cases e : i = n
    · subst e
      omega
    · have := h2 i (by omega)
      omega
/-- do boxes stand beyond: as the class asks, and as the reference -/
theorem stB {s : Nat} {A : Nat → Nat → Int} {I : Nat → Nat → Int32} {b : Int} (hi : zI s A) (hc : zC A I) (hk : zK A) (h0 : 0 ≤ b) : (∃ c : Nat, b ≤ (c : Int) ∧ c < 5 ∧ 0 < (I 37 c).toInt) ↔ ∃ y : Nat, 16 * b ≤ (y : Int) ∧ y < 80 ∧ A 152 y ≠ -1 := by
  obtain ⟨⟨⟨hA, hC, hE, hD⟩, -⟩, ⟨k1, k2, k3, k4, k5, k6⟩, hn, -⟩ := hi
  have w0 : ∀ c : Nat, ∀ i, i < (A 118 44).toNat → 0 ≤ wF (pB c) (A 146) (A 150) (A 151) i := fun c i _ => by
    have := k1 i
    unfold wF pB
    split
    · split <;> omega
    · omega
  refine ⟨fun ⟨c, c1, c2, c3⟩ => ?_, fun ⟨y, y1, y2, y3⟩ => ?_⟩
  · have e : (I 37 c).toInt = zB (A 146) (A 150) (A 151) (A 118 44).toNat c := hc.2.2.2.2.2 c c2
    rw [e] at c3
    obtain ⟨i, i1, i2⟩ := nS_pos (show 0 < nS (wF (pB c) (A 146) (A 150) (A 151)) (A 118 44).toNat from c3)
    unfold wF pB at i2
    by_cases q1 : A 150 i = 1
    · rw [if_pos q1] at i2
      by_cases q2 : A 151 i / 16 = (c : Int)
      · have o := hk.2.2 i q1
        have b3 := k3 i
        exact ⟨(A 151 i).toNat, by omega, by omega, by omega⟩
      · rw [if_neg q2] at i2
        omega
    · rw [if_neg q1] at i2
      omega
  · have b4 := k4 y
    obtain ⟨a1, a2⟩ := hA y y2 (by omega)
    have d := hD (A 152 y).toNat (by omega)
    have w := hk.2.1 (A 152 y).toNat d
    refine ⟨y / 16, by omega, by omega, ?_⟩
    have e : (I 37 (y / 16)).toInt = zB (A 146) (A 150) (A 151) (A 118 44).toNat (y / 16) := hc.2.2.2.2.2 (y / 16) (by omega)
    rw [e]
    have l := (nS_le (f := wF (pB ((y / 16 : Nat) : Int)) (A 146) (A 150) (A 151)) (n := (A 118 44).toNat) (w0 (y / 16))).2 (A 152 y).toNat (by omega)
    have v : wF (pB ((y / 16 : Nat) : Int)) (A 146) (A 150) (A 151) (A 152 y).toNat = A 146 (A 152 y).toNat := by
      unfold wF pB
      rw [if_pos a1, if_pos (by rw [a2]; omega)]
    rw [v] at l
    show 0 < nS (wF (pB ((y / 16 : Nat) : Int)) (A 146) (A 150) (A 151)) (A 118 44).toNat
    omega
/-- both take the text, or neither does; the answers are alike -/
theorem rd_1 {h h1 : qm_H} {B2 st : Nat → Int32} {v w pv b l t e y p z : Int32} {s t1 : Nat} (hc : zC (pI h.2.1) h.2.1) (hk : zK (pI h.2.1)) (hi : zI s (pI h.2.1)) (hb : ∀ i : Nat, i < (h.2.1 1 1).toInt.toNat → h.2.1 2 i = B2 i) (hst : ∀ y, st y = h.2.1 152 y) (hp : 0 ≤ b.toInt) (ho : rOut B2 (h.2.1 1 1).toInt.toNat st w pv b l t e y p z) (c : cO1 t1 h h1 v) : v.toInt = w.toInt ∧ w.toInt ≠ 0 := by
  obtain ⟨c1, c2, f, fp, lf, lp, b', li, tr, be, lt, pr, pl, hr, q⟩ := c
  obtain ⟨f', fp', lf', lp', b2, li', tr', be', lt', pr', pl', hr2, q2⟩ := ho
  obtain ⟨rfl, rfl, rfl, rfl, rfl, rfl, rfl, rfl, rfl, rfl, rfl⟩ := tRes_uq hr (tRes_cg (fun i hi => (hb i hi).symm) hr2)
  rcases q2 with ⟨d1, d2, d3⟩ | ⟨d1, d2, d3, d4⟩ | ⟨d1, d2, d3, ⟨d4, -⟩, d5⟩
  · rcases q with ⟨q1, q2⟩ | ⟨q1, q2, q3⟩ | ⟨q1, q2, q3, q4⟩ <;> omega
  · rcases q with ⟨q1, q2⟩ | ⟨q1, q2, q3⟩ | ⟨q1, q2, q3, q4⟩ <;> omega
  · rcases q with ⟨q1, q2⟩ | ⟨q1, q2, q3⟩ | ⟨q1, q2, q3, q4⟩
    · omega
    · omega
    · rcases d5 with ⟨d6, d7⟩ | ⟨d6, d7⟩
      · omega
      · obtain ⟨y, y1, y2, y3⟩ := (stB hi hc hk (by omega)).mp q4
        refine absurd ?_ y3
        have k := d7 y y1 y2
        rw [hst y] at k
        exact k
theorem rd_2 {h h1 : qm_H} {B2 st : Nat → Int32} {v w pv b l t e y p z : Int32} {s t2 : Nat} (hc : zC (pI h.2.1) h.2.1) (hk : zK (pI h.2.1)) (hi : zI s (pI h.2.1)) (hb : ∀ i : Nat, i < (h.2.1 1 1).toInt.toNat → h.2.1 2 i = B2 i) (hst : ∀ y, st y = h.2.1 152 y) (hp : 0 ≤ b.toInt) (ho : rOut B2 (h.2.1 1 1).toInt.toNat st w pv b l t e y p z) (c : cO2 t2 h h1 v) : v.toInt = w.toInt ∧ w.toInt = 0 ∧ (h1.2.1 t2 0).toInt = b.toInt ∧ (h1.2.1 t2 1).toInt = l.toInt ∧ (h1.2.1 t2 2).toInt = t.toInt ∧ (h1.2.1 t2 3).toInt = e.toInt ∧ (h1.2.1 t2 4).toInt = y.toInt ∧ (h1.2.1 t2 6).toInt = p.toInt ∧ (h1.2.1 t2 7).toInt = z.toInt := by
  obtain ⟨c2, f, fp, lf, lp, b', li, tr, be, lt, pr, pl, hr, q1, q2, ⟨g0, g1, g2, g3, g4, g6, g7⟩, q4⟩ := c
  obtain ⟨f', fp', lf', lp', b2, li', tr', be', lt', pr', pl', hr2, q⟩ := ho
  obtain ⟨rfl, rfl, rfl, rfl, rfl, rfl, rfl, rfl, rfl, rfl, rfl⟩ := tRes_uq hr (tRes_cg (fun i hi => (hb i hi).symm) hr2)
  rcases q with ⟨d1, d2, d3⟩ | ⟨d1, d2, d3, d4⟩ | ⟨d1, d2, d3, ⟨u0, u1, u2, u3, u4, u6, u7⟩, d5⟩
  · omega
  · omega
  · have w0 : w.toInt = 0 := by
      rcases d5 with ⟨d6, y, y1, y2, y3⟩ | ⟨d6, d7⟩
      · rw [hst y] at y3
        obtain ⟨c, c3, c4, c5⟩ := (stB hi hc hk (b := b') (by omega)).mpr ⟨y, y1, y2, y3⟩
        exact absurd c5 (q4 c c3 c4)
      · exact d6
    exact ⟨by omega, w0, by omega, by omega, by omega, by omega, by omega, by omega, by omega⟩
theorem rd_M1 {t s sd : Nat} {h h1 : qm_H} {I : Nat → Nat → Int32} {w b l t' e y p z : Int32} (hm : zM t s (pI h.2.1) h.2.1) (c1 : ∀ i, h1.2.1 t i = h.2.1 t i) (et : ∀ i, I t i = h1.2.1 t i) (g : rE sd s h1.2.1 I w b l t' e y p z) (hw : w.toInt ≠ 0) (e1 : ∀ o ∈ [127, 128, 129, 131, 132], ∀ i, h1.2.1 o i = h.2.1 o i) : zM t s (pI I) I := by
  obtain ⟨ms, m0, m1, m2, m3, m4, m6, m7⟩ := hm
  obtain ⟨-, g1, -, ⟨r0, r1, r2, r3, r4, r6, r7⟩, -, -⟩ := g
  have f : ∀ o ∈ [127, 128, 129, 131, 132], ∀ i, I o i = h1.2.1 o i → pI I o i = pI h.2.1 o i := fun o ho i q => congrArg Int32.toInt (q.trans (e1 o ho i))
  refine ⟨g1 hw, ?_, ?_, ?_, ?_, ?_, ?_, ?_⟩
  · rw [et 0, c1 0, f 127 (by decide) s r0]
    exact m0
  · rw [et 1, c1 1, f 128 (by decide) (3 * s) r1]
    exact m1
  · rw [et 2, c1 2, f 128 (by decide) (3 * s + 1) r2]
    exact m2
  · rw [et 3, c1 3, f 128 (by decide) (3 * s + 2) r3]
    exact m3
  · rw [et 4, c1 4, f 129 (by decide) s r4]
    exact m4
  · rw [et 6, c1 6, f 131 (by decide) s r6]
    exact m6
  · rw [et 7, c1 7, f 132 (by decide) s r7]
    exact m7
theorem rd_M2 {t s sd : Nat} {h1 : qm_H} {I : Nat → Nat → Int32} {w b l t' e y p z : Int32} (et : ∀ i, I t i = h1.2.1 t i) (g : rE sd s h1.2.1 I w b l t' e y p z) (hw : w.toInt = 0) (c : (h1.2.1 t 0).toInt = b.toInt ∧ (h1.2.1 t 1).toInt = l.toInt ∧ (h1.2.1 t 2).toInt = t'.toInt ∧ (h1.2.1 t 3).toInt = e.toInt ∧ (h1.2.1 t 4).toInt = y.toInt ∧ (h1.2.1 t 6).toInt = p.toInt ∧ (h1.2.1 t 7).toInt = z.toInt) : zM t sd (pI I) I := by
  obtain ⟨g0, -, ⟨r0, r1, r2, r3, r4, r6, r7⟩, -, -, -⟩ := g
  obtain ⟨c0, c1, c2, c3, c4, c6, c7⟩ := c
  refine ⟨g0 hw, ?_, ?_, ?_, ?_, ?_, ?_, ?_⟩
  · rw [et 0, c0, ← r0]
    rfl
  · rw [et 1, c1, ← r1]
    rfl
  · rw [et 2, c2, ← r2]
    rfl
  · rw [et 3, c3, ← r3]
    rfl
  · rw [et 4, c4, ← r4]
    rfl
  · rw [et 6, c6, ← r6]
    rfl
  · rw [et 7, c7, ← r7]
    rfl
noncomputable def zc_objs : List Nat := [6, 7, 8, 9, 10, 11, 12, 13, 14, 16, 17, 28, 36, 37, 146, 147, 148, 149, 150, 151, 152, 153, 154]
theorem zCK_cg {I0 I : Nat → Nat → Int32} (hc : zC (pI I0) I0) (hk : zK (pI I0)) (e : ∀ o ∈ zc_objs, ∀ i, I o i = I0 o i) (e44 : I 118 44 = I0 118 44) (e54 : I 118 54 = I0 118 54) : zC (pI I) I ∧ zK (pI I) := by
  have f : ∀ o ∈ zc_objs, pI I o = pI I0 o := fun o ho => funext fun i => congrArg Int32.toInt (e o ho i)
  have g44 : pI I 118 44 = pI I0 118 44 := congrArg Int32.toInt e44
  have g54 : pI I 118 54 = pI I0 118 54 := congrArg Int32.toInt e54
  obtain ⟨⟨c1, c2, c3, c4, c5, c6, c7, c8⟩, ⟨c9, c10⟩, hp, hs⟩ := hc
  refine ⟨⟨⟨?_, ?_, ?_, ?_, ?_, ?_, ?_, ?_⟩, ⟨?_, ?_⟩, ?_, ?_⟩, ?_, ?_, ?_⟩
  · rw [f 7 (by decide), f 146 (by decide)]; exact c1
  · rw [f 8 (by decide), f 147 (by decide)]; exact c2
  · rw [f 9 (by decide), f 148 (by decide)]; exact c3
  · rw [f 10 (by decide), f 149 (by decide)]; exact c4
  · rw [f 11 (by decide), f 150 (by decide)]; exact c5
  · rw [f 36 (by decide), f 152 (by decide)]; exact c6
  · rw [f 16 (by decide), f 153 (by decide)]; exact c7
  · rw [f 17 (by decide), f 154 (by decide)]; exact c8
  · rw [e 28 (by decide) 4, g54]; exact c9
  · rw [e 6 (by decide) 0, g44]; exact c10
  · rw [f 150 (by decide), f 151 (by decide), f 12 (by decide), f 13 (by decide), f 14 (by decide), g44]; exact hp
  · rw [f 146 (by decide), f 150 (by decide), f 151 (by decide), f 37 (by decide), e 28 (by decide) 5, e 28 (by decide) 6, g44]; exact hs
  · intro b hb
    rw [f 149 (by decide)]
    rw [g44] at hb
    exact hk.1 b hb
  · intro b hb
    rw [f 146 (by decide)]
    rw [g44] at hb
    exact hk.2.1 b hb
  · rw [f 150 (by decide), f 151 (by decide), f 152 (by decide)]
    exact hk.2.2
/-- what the class's read tells: the text in force stays, or it is the new one -/
noncomputable def rdQ (h h1 : qm_H) (v : Int32) : Prop := ((h.2.2.2 28 2 = some 29 ∧ h1.2.2.2 28 2 = some 29 ∧ cO1 29 h h1 v ∧ cJ1 h h1) ∨ (h.2.2.2 28 2 = some 111 ∧ h1.2.2.2 28 2 = some 111 ∧ cO1 111 h h1 v ∧ cJ1 h h1)) ∨ ((h.2.2.2 28 2 = some 29 ∧ h1.2.2.2 28 2 = some 111 ∧ cO2 111 h h1 v ∧ jC0 (h1.2.1 111 0) h1.2.1) ∨ (h.2.2.2 28 2 = some 111 ∧ h1.2.2.2 28 2 = some 29 ∧ cO2 29 h h1 v ∧ jC0 (h1.2.1 29 0) h1.2.1))
/-- work begins anew in both -/
theorem gJ_new {I I1 : Nat → Nat → Int32} {b b' : Int32} (hc : jC0 b' I1) (e : ∀ o ∈ [51, 93, 94, 95, 96, 97], ∀ i, I o i = I1 o i) (hr : jR0 b I) (eb : b'.toInt = b.toInt) (hb : 2 ≤ b.toInt ∧ b.toInt ≤ 5) (h0 : 0 ≤ tb) : gJ tb I := by
  obtain ⟨⟨c1, c2, c3, c4, c5, c6⟩, ⟨c7, c8⟩, ⟨c9, ca⟩, ⟨cb, cc⟩, ⟨cd, ce⟩, ⟨cf, cg⟩⟩ := hc
  obtain ⟨⟨r1, r2, r3, r4, r5, r6⟩, ⟨r7, r8⟩, ⟨r9, ra⟩, ⟨rb, rc⟩, ⟨rd, re⟩, ⟨rf, rg⟩⟩ := hr
  have z0 : (0 : Int32).toInt = 0 := rfl
  have zm : (-1 : Int32).toInt = -1 := rfl
  have d2 : ∀ d : Nat, d < 2 → d = 0 ∨ d = 1 := fun d hd => by omega
  refine ⟨⟨⟨(e 51 (by decide) 2).trans (c1.trans r1.symm), (e 51 (by decide) 8).trans (c2.trans r2.symm), (e 51 (by decide) 9).trans (c3.trans r3.symm), (e 51 (by decide) 10).trans (c4.trans r4.symm), (e 51 (by decide) 11).trans (c5.trans r5.symm), (e 51 (by decide) 12).trans (c6.trans r6.symm)⟩, fun d hd => ?_, fun k hk => ?_⟩, ⟨⟨by rw [r1, z0]; omega, fun d hd => ?_⟩, fun d hd => ?_, fun _ => by rw [r9, zm], fun k hk => ?_⟩, ?_⟩
  · rcases d2 d hd with rfl | rfl
    · exact ⟨(e 93 (by decide) 0).trans (c7.trans r7.symm), (e 94 (by decide) 0).trans (c9.trans r9.symm), (e 95 (by decide) 0).trans (cb.trans rb.symm), (e 96 (by decide) 0).trans (cd.trans rd.symm), (e 97 (by decide) 0).trans (cf.trans rf.symm)⟩
    · exact ⟨(e 93 (by decide) 1).trans (hk_eqi.mpr (by omega)), (e 94 (by decide) 1).trans (ca.trans ra.symm), (e 95 (by decide) 1).trans (cc.trans rc.symm), (e 96 (by decide) 1).trans (ce.trans re.symm), (e 97 (by decide) 1).trans (cg.trans rg.symm)⟩
  · rw [r1, z0] at hk
    omega
  · rcases d2 d hd with rfl | rfl
    · rw [r7, z0]
      omega
    · omega
  · rcases d2 d hd with rfl | rfl
    · exact Or.inl ⟨by rw [r9, zm], by rw [rb, z0]⟩
    · exact Or.inl ⟨by rw [ra, zm], by rw [rc, z0]⟩
  · rw [r1, z0] at hk
    omega
  · unfold jB
    rw [r2, z0]
    omega
/-- behind both reads: the answers, and all that is kept -/
theorem rd_gZ {h h1 : qm_H} {I : Nat → Nat → Int32} {J : Nat → Nat → Int64} {B2 st : Nat → Int32} {v w pv b l t e y p z : Int32} (hB : hk_B h.2.1) (hBI : hk_B I) (hS : gS h) (hZ : (gZB tb) h) (hb : ∀ i : Nat, i < (h.2.1 1 1).toInt.toNat → h.2.1 2 i = B2 i) (hst : ∀ y, st y = h.2.1 152 y) (ho : rOut B2 (h.2.1 1 1).toInt.toNat st w pv b l t e y p z) (g0 : (h1.2.1 118 18).toInt = 0 → rE 1 0 h1.2.1 I w b l t e y p z) (g1 : (h1.2.1 118 18).toInt = 1 → rE 0 1 h1.2.1 I w b l t e y p z) (c : rdQ h h1 v) (f18 : h1.2.1 118 18 = h.2.1 118 18) (f : ∀ o ∈ [127, 128, 129, 131, 132], ∀ i, h1.2.1 o i = h.2.1 o i) (et : ∀ o ∈ [29, 111], ∀ i, I o i = h1.2.1 o i) (e : ∀ o ∈ zc_objs, ∀ i, I o i = h.2.1 o i) (e44 : I 118 44 = h.2.1 118 44) (e54 : I 118 54 = h.2.1 118 54) (j1 : ∀ o ∈ [177, 178, 179, 180, 181], ∀ i, h1.2.1 o i = h.2.1 o i) (j2 : ∀ f ∈ [75, 85, 91, 92, 93, 94], h1.2.1 118 f = h.2.1 118 f) (j3 : ∀ o ∈ [51, 93, 94, 95, 96, 97], ∀ i, I o i = h1.2.1 o i) (j4 : ∀ o, (53 ≤ o ∧ o ≤ 92) ∨ (168 ≤ o ∧ o ≤ 176) → ∀ i, I o i = h.2.1 o i) : v = w ∧ (gZB tb) (h1.1, I, J, h1.2.2.2) := by
  have hZ0 := hZ
  obtain ⟨hm, hc, hk, hj⟩ := hZ
  have n := zCK_cg hc hk e e44 e54
  have t0 : 0 ≤ tb := by
    have := hj.2.2
    unfold jB at this
    omega
  have kp : cJ1 h h1 → jKp h1.2.1 I → gJ tb I := fun a b => gJ_cg hj (fun o ho i => by
    by_cases q : (53 ≤ o ∧ o ≤ 92) ∨ (168 ≤ o ∧ o ≤ 176)
    · exact j4 o q i
    · have q2 := (show ∀ o ∈ j_objs, ((53 ≤ o ∧ o ≤ 92) ∨ (168 ≤ o ∧ o ≤ 176)) ∨ o ∈ [93, 94, 95, 96, 97] ∨ o ∈ [177, 178, 179, 180, 181] from by decide) o ho
      rcases q2 with q2 | q2 | q2
      · exact absurd q2 q
      · exact (j3 o (List.mem_cons_of_mem _ q2) i).trans (a o (List.mem_cons_of_mem _ q2) i)
      · exact (b.1 o q2 i).trans (j1 o q2 i)) (fun i _ => (j3 51 (by decide) i).trans (a 51 (by decide) i)) (fun i hi => (b.2 i hi).trans (j2 i hi))
  have hp : 0 ≤ b.toInt := by
    by_cases q : (h1.2.1 118 18).toInt = 0
    · rw [← (g0 q).2.2.1.1]
      exact (hBI 127 1).1
    · have q18 : (h1.2.1 118 18).toInt = 1 := by
        rcases hm with ⟨-, m⟩ | ⟨-, m⟩
        · have := m.1
          rw [f18] at q
          exact absurd this q
        · rw [f18]
          exact m.1
      rw [← (g1 q18).2.2.1.1]
      exact (hBI 127 0).1
  rcases c with (⟨r, r1, c, cj⟩ | ⟨r, r1, c, cj⟩) | (⟨r, r1, c, cj⟩ | ⟨r, r1, c, cj⟩)
  · have m := gZ_a hZ0 r
    have q := rd_1 hc hk (zI_of (Or.inl ⟨rfl, rfl⟩) hB hS hc m) hb hst hp ho c
    exact ⟨hk_eqi.mpr q.1, Or.inl ⟨r1, rd_M1 m c.1 (et 29 (by decide)) (g0 (by rw [f18]; exact m.1)) q.2 f⟩, n.1, n.2, kp cj ((g0 (by rw [f18]; exact m.1)).2.2.2.2.1 q.2)⟩
  · have m := gZ_b hZ0 r
    have q := rd_1 hc hk (zI_of (Or.inr ⟨rfl, rfl⟩) hB hS hc m) hb hst hp ho c
    exact ⟨hk_eqi.mpr q.1, Or.inr ⟨r1, rd_M1 m c.1 (et 111 (by decide)) (g1 (by rw [f18]; exact m.1)) q.2 f⟩, n.1, n.2, kp cj ((g1 (by rw [f18]; exact m.1)).2.2.2.2.1 q.2)⟩
  · have m := gZ_a hZ0 r
    have q := rd_2 hc hk (zI_of (Or.inl ⟨rfl, rfl⟩) hB hS hc m) hb hst hp ho c
    have bb : 2 ≤ (I 111 0).toInt ∧ (I 111 0).toInt ≤ 5 := hBI 111 0
    rw [et 111 (by decide) 0, q.2.2.1] at bb
    exact ⟨hk_eqi.mpr q.1, Or.inr ⟨r1, rd_M2 (et 111 (by decide)) (g0 (by rw [f18]; exact m.1)) q.2.1 q.2.2⟩, n.1, n.2, gJ_new cj j3 ((g0 (by rw [f18]; exact m.1)).2.2.2.2.2 q.2.1) q.2.2.1 bb t0⟩
  · have m := gZ_b hZ0 r
    have q := rd_2 hc hk (zI_of (Or.inr ⟨rfl, rfl⟩) hB hS hc m) hb hst hp ho c
    have bb : 2 ≤ (I 29 0).toInt ∧ (I 29 0).toInt ≤ 5 := hBI 29 0
    rw [et 29 (by decide) 0, q.2.2.1] at bb
    exact ⟨hk_eqi.mpr q.1, Or.inl ⟨r1, rd_M2 (et 29 (by decide)) (g1 (by rw [f18]; exact m.1)) q.2.1 q.2.2⟩, n.1, n.2, gJ_new cj j3 ((g1 (by rw [f18]; exact m.1)).2.2.2.2.2 q.2.1) q.2.2.1 bb t0⟩
