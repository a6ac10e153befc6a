/-! loading, unloading: given runs and what they leave -/
theorem pz_cload29 {X : Option (Nat × (Nat → Int32))} {Z : Option Value → qm_H → Prop} {h : qm_H} {fu : Nat} {A : Nat → Nat → Int} {b y x : Int32} (hH : hk_H h) (hT2 : h.2.2.2 28 2 = some 29) (hi : zI 0 A) (hc : zC A h.2.1) (hm : zM 29 0 A h.2.1) (k : ∀ (I : Nat → Nat → Int32) (v : Int32), (∀ o, [11, 12, 13, 14, 16, 17, 28, 36, 37].contains o = false → ∀ i, I o i = h.2.1 o i) → zC (ldS 0 A b y x) I → v.toInt = ldV 0 A b y x → Z (some (.int v)) (h.1, I, h.2.2.1, h.2.2.2)) : qm_Rp fu X cd_86 (qm_ent 5 [.ref 28, .int b, .int y, .int x] h) Z := by
  have hcc := hc
  obtain ⟨⟨c1, c2, c3, c4, c5, c6, c7, c8⟩, ⟨c9, c10⟩, hp, hs⟩ := hc
  obtain ⟨ms, m0, m1, m2, m3, m4, m6, m7⟩ := hm
  have nA := hi.2.2.1
  have z1 : -3600 ≤ (h.2.1 28 5).toInt ∧ (h.2.1 28 5).toInt ≤ 3600 := by
    rw [hs.1]
    exact zL_in hi.2.1.1 (by omega)
  have z2 : 0 ≤ (h.2.1 28 6).toInt ∧ (h.2.1 28 6).toInt ≤ 1200 := by
    rw [hs.2.1]
    exact zA_in (sp := A 151) hi.2.1.1 (by omega)
  have z3 : ∀ c, c < 5 → 0 ≤ pI h.2.1 37 c ∧ pI h.2.1 37 c ≤ 1200 := fun c hc => by
    rw [hs.2.2 c hc]
    exact zB_in hi.2.1.1 (by omega)
  have e := ld_C (b := b) (y := y) (x := x) (n := h.2.1 6 0) (B := h.2.1 29 0) (g0 := h.2.1 29 1) (g1 := h.2.1 29 2) (g2 := h.2.1 29 3) (l := h.2.1 29 4) (cv := h.2.1 28 4) hi hp hs c10 m0 m1 m2 m3 m4 c9
  have ef : frV (h.2.1 28 4) y x.toInt (A 152) = frA A y x.toInt := by
    unfold frA
    rw [← c9, Int32.ofInt_toInt]
  exact px_cload29 (X := X) hH (n := h.2.1 6 0) rfl (by rw [c10]; exact nA) c1 c5 rfl rfl rfl c6 c7 c8 rfl hi.2.1.1 hi.2.1.2.1 hi.2.1.2.2.2.1 hi.2.1.2.2.2.2.2 hi.2.1.2.2.2.2.1 z3 rfl z1 rfl z2 rfl hT2 rfl (by rw [m0]; exact hi.2.2.2) rfl rfl rfl rfl (fun b hb => ((hp b).2.1 hb).2.2.1) (fun r e1 e2 => k h.2.1 r (fun _ _ _ => rfl) (ld_zC0 hcc (by rw [← e, ← e1]; exact e2)) (e1.trans e)) (fun I r l2 w2 f x28 q5 q6 e1 e2 x5 x6 x11 x12 x13 x14 x36 x16 x17 x37 => k I r f (ld_zC1 hi hcc (by rw [← e, ← e1]; exact e2) (funext fun i => congrArg Int32.toInt (f 7 rfl i)) (funext fun i => congrArg Int32.toInt (f 8 rfl i)) (funext fun i => congrArg Int32.toInt (f 9 rfl i)) (funext fun i => congrArg Int32.toInt (f 10 rfl i)) (x28 4 rfl) (f 6 rfl 0) q5 q6 x5 x6 x11 x12 x13 (by rw [← ef]; exact x14) (by rw [← ef]; exact x36) x16 x17 x37) (e1.trans e))
theorem pz_cload111 {X : Option (Nat × (Nat → Int32))} {Z : Option Value → qm_H → Prop} {h : qm_H} {fu : Nat} {A : Nat → Nat → Int} {b y x : Int32} (hH : hk_H h) (hT2 : h.2.2.2 28 2 = some 111) (hi : zI 1 A) (hc : zC A h.2.1) (hm : zM 111 1 A h.2.1) (k : ∀ (I : Nat → Nat → Int32) (v : Int32), (∀ o, [11, 12, 13, 14, 16, 17, 28, 36, 37].contains o = false → ∀ i, I o i = h.2.1 o i) → zC (ldS 1 A b y x) I → v.toInt = ldV 1 A b y x → Z (some (.int v)) (h.1, I, h.2.2.1, h.2.2.2)) : qm_Rp fu X cd_86 (qm_ent 5 [.ref 28, .int b, .int y, .int x] h) Z := by
  have hcc := hc
  obtain ⟨⟨c1, c2, c3, c4, c5, c6, c7, c8⟩, ⟨c9, c10⟩, hp, hs⟩ := hc
  obtain ⟨ms, m0, m1, m2, m3, m4, m6, m7⟩ := hm
  have nA := hi.2.2.1
  have z1 : -3600 ≤ (h.2.1 28 5).toInt ∧ (h.2.1 28 5).toInt ≤ 3600 := by
    rw [hs.1]
    exact zL_in hi.2.1.1 (by omega)
  have z2 : 0 ≤ (h.2.1 28 6).toInt ∧ (h.2.1 28 6).toInt ≤ 1200 := by
    rw [hs.2.1]
    exact zA_in (sp := A 151) hi.2.1.1 (by omega)
  have z3 : ∀ c, c < 5 → 0 ≤ pI h.2.1 37 c ∧ pI h.2.1 37 c ≤ 1200 := fun c hc => by
    rw [hs.2.2 c hc]
    exact zB_in hi.2.1.1 (by omega)
  have e := ld_C (b := b) (y := y) (x := x) (n := h.2.1 6 0) (B := h.2.1 111 0) (g0 := h.2.1 111 1) (g1 := h.2.1 111 2) (g2 := h.2.1 111 3) (l := h.2.1 111 4) (cv := h.2.1 28 4) hi hp hs c10 m0 m1 m2 m3 m4 c9
  have ef : frV (h.2.1 28 4) y x.toInt (A 152) = frA A y x.toInt := by
    unfold frA
    rw [← c9, Int32.ofInt_toInt]
  exact px_cload111 (X := X) hH (n := h.2.1 6 0) rfl (by rw [c10]; exact nA) c1 c5 rfl rfl rfl c6 c7 c8 rfl hi.2.1.1 hi.2.1.2.1 hi.2.1.2.2.2.1 hi.2.1.2.2.2.2.2 hi.2.1.2.2.2.2.1 z3 rfl z1 rfl z2 rfl hT2 rfl (by rw [m0]; exact hi.2.2.2) rfl rfl rfl rfl (fun b hb => ((hp b).2.1 hb).2.2.1) (fun r e1 e2 => k h.2.1 r (fun _ _ _ => rfl) (ld_zC0 hcc (by rw [← e, ← e1]; exact e2)) (e1.trans e)) (fun I r l2 w2 f x28 q5 q6 e1 e2 x5 x6 x11 x12 x13 x14 x36 x16 x17 x37 => k I r f (ld_zC1 hi hcc (by rw [← e, ← e1]; exact e2) (funext fun i => congrArg Int32.toInt (f 7 rfl i)) (funext fun i => congrArg Int32.toInt (f 8 rfl i)) (funext fun i => congrArg Int32.toInt (f 9 rfl i)) (funext fun i => congrArg Int32.toInt (f 10 rfl i)) (x28 4 rfl) (f 6 rfl 0) q5 q6 x5 x6 x11 x12 x13 (by rw [← ef]; exact x14) (by rw [← ef]; exact x36) x16 x17 x37) (e1.trans e))
theorem pz_cunl29 {X : Option (Nat × (Nat → Int32))} {Z : Option Value → qm_H → Prop} {h : qm_H} {fu : Nat} {A : Nat → Nat → Int} {y x g : Int32} (hH : hk_H h) (hT2 : h.2.2.2 28 2 = some 29) (hi : zI 0 A) (hc : zC A h.2.1) (hm : zM 29 0 A h.2.1) (k : ∀ (I : Nat → Nat → Int32) (v : Int32), (∀ o, [11, 12, 13, 14, 16, 17, 28, 36, 37].contains o = false → ∀ i, I o i = h.2.1 o i) → zC (ulS 0 A y x g) I → v.toInt = ulV 0 A y x g → Z (some (.int v)) (h.1, I, h.2.2.1, h.2.2.2)) : qm_Rp fu X cd_102 (qm_ent (qm_F 102).1 [.ref 28, .int y, .int x, .int g] h) Z := by
  have hcc := hc
  obtain ⟨⟨c1, c2, c3, c4, c5, c6, c7, c8⟩, ⟨c9, c10⟩, hp, hs⟩ := hc
  obtain ⟨ms, m0, m1, m2, m3, m4, m6, m7⟩ := hm
  have nA := hi.2.2.1
  have z1 : -3600 ≤ (h.2.1 28 5).toInt ∧ (h.2.1 28 5).toInt ≤ 3600 := by
    rw [hs.1]
    exact zL_in hi.2.1.1 (by omega)
  have z2 : 0 ≤ (h.2.1 28 6).toInt ∧ (h.2.1 28 6).toInt ≤ 1200 := by
    rw [hs.2.1]
    exact zA_in (sp := A 151) hi.2.1.1 (by omega)
  have z3 : ∀ c, c < 5 → 0 ≤ pI h.2.1 37 c ∧ pI h.2.1 37 c ≤ 1200 := fun c hc => by
    rw [hs.2.2 c hc]
    exact zB_in hi.2.1.1 (by omega)
  have e := ul_C (y := y) (x := x) (g := g) (B := h.2.1 29 0) (g0 := h.2.1 29 1) (g1 := h.2.1 29 2) (g2 := h.2.1 29 3) (l := h.2.1 29 4) (cv := h.2.1 28 4) hi hs m0 m1 m2 m3 m4 c9
  have ef : lowV (h.2.1 28 4) y x.toInt = loA A y x.toInt := by
    unfold loA
    rw [← c9, Int32.ofInt_toInt]
  have hA : ∀ k : Nat, k < 80 → 0 ≤ A 152 k → A 150 (A 152 k).toNat = 1 ∧ 16 * pI h.2.1 12 (A 152 k).toNat + 4 * pI h.2.1 13 (A 152 k).toNat + pI h.2.1 14 (A 152 k).toNat = (k : Int) := fun k hk h0 => by
    have a := hi.1.1.1 k hk h0
    have p := (hp (A 152 k).toNat).1 a.1
    exact ⟨a.1, by omega⟩
  refine px_cunl29 (X := X) hH (n := h.2.1 6 0) rfl (by rw [c10]; exact nA) c1 c5 rfl rfl rfl c6 c7 c8 rfl hi.2.1.1 hi.2.1.2.1 hi.2.1.2.2.2.1 hi.2.1.2.2.2.2.2 hi.2.1.2.2.2.2.1 z3 rfl z1 rfl z2 rfl hT2 rfl (by rw [m0]; exact hi.2.2.2) rfl rfl rfl rfl c4 hA (fun b hb => ((hp b).1 hb).2) hi.1.2 (fun r e1 e2 => k h.2.1 r (fun _ _ _ => rfl) (by rw [ulS_0 (by rw [← e, ← e1]; exact e2)]; exact hcc) (e1.trans e)) (fun I l2 w2 f x28 q5 q6 e1 x5 x6 x11 x12 x13 x14 x36 x16 x17 x37 => k I 1 f ?_ (e1.trans e)) (fun I l2 w2 f x28 q5 q6 e1 x5 x6 x11 x12 x13 x14 x36 x16 x17 x37 => k I 2 f ?_ (e1.trans e))
  · have e3 := (e1.trans e).symm
    have hB := hi.2.2.2
    obtain ⟨c, l, hk, q⟩ := ul_inv hi (show 0 < ulV 0 A y x g by omega)
    have kb := kV_b (A 152) (loA A y x.toInt)
    rw [ulS_1 e3]
    rw [ef] at x5 x6 x11 x12 x13 x14 x36 x16 x37
    exact ul_zC1 hi hcc ⟨c.1, by omega⟩ ⟨c.2.2.1, c.2.2.2.1⟩ ⟨c.2.2.2.2.1, c.2.2.2.2.2⟩ (by omega) hk (q.elim (fun z => z.2) (fun z => by omega)) (funext fun i => congrArg Int32.toInt (f 7 rfl i)) (funext fun i => congrArg Int32.toInt (f 8 rfl i)) (funext fun i => congrArg Int32.toInt (f 9 rfl i)) (funext fun i => congrArg Int32.toInt (f 10 rfl i)) (x28 4 rfl) (f 6 rfl 0) q5 q6 x5 x6 x11 x12 x13 x14 x36 x16 x17 x37
  · have e3 := (e1.trans e).symm
    have hB := hi.2.2.2
    obtain ⟨c, l, hk, q⟩ := ul_inv hi (show 0 < ulV 0 A y x g by omega)
    rw [ulS_2 e3]
    rw [ef] at x5 x6 x11 x12 x13 x14 x36 x16 x37
    obtain ⟨-, q2, q3, q4⟩ := q.resolve_left (fun z => by omega)
    exact ul_zC2 hi hcc ⟨c.1, by omega⟩ ⟨c.2.2.1, c.2.2.2.1⟩ ⟨c.2.2.2.2.1, c.2.2.2.2.2⟩ l.1 q3 q4 q2 (funext fun i => congrArg Int32.toInt (f 7 rfl i)) (funext fun i => congrArg Int32.toInt (f 8 rfl i)) (funext fun i => congrArg Int32.toInt (f 9 rfl i)) (funext fun i => congrArg Int32.toInt (f 10 rfl i)) (x28 4 rfl) (f 6 rfl 0) q5 q6 x5 x6 x11 x12 x13 x14 x36 x16 x17 x37
theorem pz_cunl111 {X : Option (Nat × (Nat → Int32))} {Z : Option Value → qm_H → Prop} {h : qm_H} {fu : Nat} {A : Nat → Nat → Int} {y x g : Int32} (hH : hk_H h) (hT2 : h.2.2.2 28 2 = some 111) (hi : zI 1 A) (hc : zC A h.2.1) (hm : zM 111 1 A h.2.1) (k : ∀ (I : Nat → Nat → Int32) (v : Int32), (∀ o, [11, 12, 13, 14, 16, 17, 28, 36, 37].contains o = false → ∀ i, I o i = h.2.1 o i) → zC (ulS 1 A y x g) I → v.toInt = ulV 1 A y x g → Z (some (.int v)) (h.1, I, h.2.2.1, h.2.2.2)) : qm_Rp fu X cd_102 (qm_ent (qm_F 102).1 [.ref 28, .int y, .int x, .int g] h) Z := by
  have hcc := hc
  obtain ⟨⟨c1, c2, c3, c4, c5, c6, c7, c8⟩, ⟨c9, c10⟩, hp, hs⟩ := hc
  obtain ⟨ms, m0, m1, m2, m3, m4, m6, m7⟩ := hm
  have nA := hi.2.2.1
  have z1 : -3600 ≤ (h.2.1 28 5).toInt ∧ (h.2.1 28 5).toInt ≤ 3600 := by
    rw [hs.1]
    exact zL_in hi.2.1.1 (by omega)
  have z2 : 0 ≤ (h.2.1 28 6).toInt ∧ (h.2.1 28 6).toInt ≤ 1200 := by
    rw [hs.2.1]
    exact zA_in (sp := A 151) hi.2.1.1 (by omega)
  have z3 : ∀ c, c < 5 → 0 ≤ pI h.2.1 37 c ∧ pI h.2.1 37 c ≤ 1200 := fun c hc => by
    rw [hs.2.2 c hc]
    exact zB_in hi.2.1.1 (by omega)
  have e := ul_C (y := y) (x := x) (g := g) (B := h.2.1 111 0) (g0 := h.2.1 111 1) (g1 := h.2.1 111 2) (g2 := h.2.1 111 3) (l := h.2.1 111 4) (cv := h.2.1 28 4) hi hs m0 m1 m2 m3 m4 c9
  have ef : lowV (h.2.1 28 4) y x.toInt = loA A y x.toInt := by
    unfold loA
    rw [← c9, Int32.ofInt_toInt]
  have hA : ∀ k : Nat, k < 80 → 0 ≤ A 152 k → A 150 (A 152 k).toNat = 1 ∧ 16 * pI h.2.1 12 (A 152 k).toNat + 4 * pI h.2.1 13 (A 152 k).toNat + pI h.2.1 14 (A 152 k).toNat = (k : Int) := fun k hk h0 => by
    have a := hi.1.1.1 k hk h0
    have p := (hp (A 152 k).toNat).1 a.1
    exact ⟨a.1, by omega⟩
  refine px_cunl111 (X := X) hH (n := h.2.1 6 0) rfl (by rw [c10]; exact nA) c1 c5 rfl rfl rfl c6 c7 c8 rfl hi.2.1.1 hi.2.1.2.1 hi.2.1.2.2.2.1 hi.2.1.2.2.2.2.2 hi.2.1.2.2.2.2.1 z3 rfl z1 rfl z2 rfl hT2 rfl (by rw [m0]; exact hi.2.2.2) rfl rfl rfl rfl c4 hA (fun b hb => ((hp b).1 hb).2) hi.1.2 (fun r e1 e2 => k h.2.1 r (fun _ _ _ => rfl) (by rw [ulS_0 (by rw [← e, ← e1]; exact e2)]; exact hcc) (e1.trans e)) (fun I l2 w2 f x28 q5 q6 e1 x5 x6 x11 x12 x13 x14 x36 x16 x17 x37 => k I 1 f ?_ (e1.trans e)) (fun I l2 w2 f x28 q5 q6 e1 x5 x6 x11 x12 x13 x14 x36 x16 x17 x37 => k I 2 f ?_ (e1.trans e))
  · have e3 := (e1.trans e).symm
    have hB := hi.2.2.2
    obtain ⟨c, l, hk, q⟩ := ul_inv hi (show 0 < ulV 1 A y x g by omega)
    have kb := kV_b (A 152) (loA A y x.toInt)
    rw [ulS_1 e3]
    rw [ef] at x5 x6 x11 x12 x13 x14 x36 x16 x37
    exact ul_zC1 hi hcc ⟨c.1, by omega⟩ ⟨c.2.2.1, c.2.2.2.1⟩ ⟨c.2.2.2.2.1, c.2.2.2.2.2⟩ (by omega) hk (q.elim (fun z => z.2) (fun z => by omega)) (funext fun i => congrArg Int32.toInt (f 7 rfl i)) (funext fun i => congrArg Int32.toInt (f 8 rfl i)) (funext fun i => congrArg Int32.toInt (f 9 rfl i)) (funext fun i => congrArg Int32.toInt (f 10 rfl i)) (x28 4 rfl) (f 6 rfl 0) q5 q6 x5 x6 x11 x12 x13 x14 x36 x16 x17 x37
  · have e3 := (e1.trans e).symm
    have hB := hi.2.2.2
    obtain ⟨c, l, hk, q⟩ := ul_inv hi (show 0 < ulV 1 A y x g by omega)
    rw [ulS_2 e3]
    rw [ef] at x5 x6 x11 x12 x13 x14 x36 x16 x37
    obtain ⟨-, q2, q3, q4⟩ := q.resolve_left (fun z => by omega)
    exact ul_zC2 hi hcc ⟨c.1, by omega⟩ ⟨c.2.2.1, c.2.2.2.1⟩ ⟨c.2.2.2.2.1, c.2.2.2.2.2⟩ l.1 q3 q4 q2 (funext fun i => congrArg Int32.toInt (f 7 rfl i)) (funext fun i => congrArg Int32.toInt (f 8 rfl i)) (funext fun i => congrArg Int32.toInt (f 9 rfl i)) (funext fun i => congrArg Int32.toInt (f 10 rfl i)) (x28 4 rfl) (f 6 rfl 0) q5 q6 x5 x6 x11 x12 x13 x14 x36 x16 x17 x37
theorem pz_rload0 {X : Option (Nat × (Nat → Int32))} {Z : Option Value → qm_H → Prop} {h : qm_H} {fu : Nat} {A : Nat → Nat → Int} {b y x : Int32} (hH : hk_H h) (hi : zI 0 A) (hr : zR A h.2.1) (hl : A 118 18 = 0) (k : ∀ (I : Nat → Nat → Int32) (v : Int32), (∀ o, [150, 151, 152, 153, 154, 155, 156].contains o = false → ∀ i, I o i = h.2.1 o i) → zR (ldS 0 A b y x) I → v.toInt = ldV 0 A b y x → Z (some (.int v)) (h.1, I, h.2.2.1, h.2.2.2)) : qm_Rp fu X cd_284 (qm_ent 7 [.ref 118, .int b, .int y, .int x] h) Z := by
  have nA := zR_n0 hi hr
  have hE := hi.1.1.2.2.1
  obtain ⟨⟨r46, r47, r48, r49, r50, r51, r52, r53, r54⟩, ⟨n1, n2, n3⟩, ⟨t27, t28, t29, t31, t32⟩⟩ := hr
  have g1 : h.2.1 118 18 = 0 := hk_eqi.mpr (n3.trans hl)
  have fB : (h.2.1 127 0).toInt = A 127 0 := congrFun t27 0
  have f0 : (h.2.1 128 0).toInt = A 128 (3 * 0) := congrFun t28 0
  have f1 : (h.2.1 128 1).toInt = A 128 (3 * 0 + 1) := congrFun t28 1
  have f2 : (h.2.1 128 2).toInt = A 128 (3 * 0 + 2) := congrFun t28 2
  have fl : (h.2.1 129 0).toInt = A 129 0 := congrFun t29 0
  have ef : frV (h.2.1 118 54) y x.toInt (A 152) = frA A y x.toInt := by
    unfold frA
    rw [← n2, Int32.ofInt_toInt]
  have e : tryV (h.2.1 118 44).toInt b.toInt (okb (A 150 b.toInt.toNat = 0 ∨ (A 150 b.toInt.toNat = 2 ∧ A 151 b.toInt.toNat % 4 = A 154 (A 151 b.toInt.toNat / 4).toNat - 1))) y.toInt x.toInt (h.2.1 127 0).toInt (frV (h.2.1 118 54) y x.toInt (A 152)) (A 146 b.toInt.toNat) (h.2.1 129 0).toInt (okb (mayP (h.2.1 127 0).toInt (h.2.1 128 0).toInt (h.2.1 128 1).toInt (h.2.1 128 2).toInt (ab (zL (A 146) (A 150) (A 151) (h.2.1 118 44).toInt.toNat)) (ab (zT (h.2.1 127 0).toInt (A 146) (A 150) (A 151) (h.2.1 118 44).toInt.toNat)) (zD (h.2.1 127 0).toInt (A 146) (A 150) (A 151) (h.2.1 118 44).toInt.toNat) (A 146) (fu_up (A 150) b.toInt.toNat 1) (fu_up (A 151) b.toInt.toNat (frV (h.2.1 118 54) y x.toInt (A 152))) (h.2.1 118 44).toInt.toNat)) = ldV 0 A b y x := by
    rw [ef, n1, fB, f0, f1, f2, fl]
    rfl
  have y0 : 0 ≤ b.toInt → A 150 b.toInt.toNat = 2 → A 153 (A 151 b.toInt.toNat).toNat = b.toInt := fun c z => by
    obtain ⟨g, i, g1, i1, k1, k2, k3⟩ := hE b.toInt.toNat z
    rw [show (A 151 b.toInt.toNat).toNat = 4 * g + i by omega, k3]
    omega
  refine px_load0 (X := X) hH r46 r50 r51 rfl nA.1 hi.2.1.1 hi.2.1.2.2.1 g1 rfl (by rw [fB]; exact hi.2.2.2) rfl rfl rfl r52 r53 r54 hi.2.1.2.2.2.2.2 rfl rfl y0 (fun I v f e1 e2 x50 x51 x52 x53 x54 => k I v f ?_ (e1.trans e)) (fun I v f e1 e2 x50 x51 x52 x53 x54 => k I v f ?_ (e1.trans e))
  · have e3 := e1.trans e
    unfold ldS
    rw [if_neg (by omega)]
    rw [ef, e3] at x51
    exact ⟨⟨(funext fun i => congrArg Int32.toInt (f 146 rfl i)).trans r46, (funext fun i => congrArg Int32.toInt (f 147 rfl i)).trans r47, (funext fun i => congrArg Int32.toInt (f 148 rfl i)).trans r48, (funext fun i => congrArg Int32.toInt (f 149 rfl i)).trans r49, x50, x51, x52, x53, x54⟩, ⟨(congrArg Int32.toInt (f 118 rfl 44)).trans n1, (congrArg Int32.toInt (f 118 rfl 54)).trans n2, (congrArg Int32.toInt (f 118 rfl 18)).trans n3⟩, ⟨(funext fun i => congrArg Int32.toInt (f 127 rfl i)).trans t27, (funext fun i => congrArg Int32.toInt (f 128 rfl i)).trans t28, (funext fun i => congrArg Int32.toInt (f 129 rfl i)).trans t29, (funext fun i => congrArg Int32.toInt (f 131 rfl i)).trans t31, (funext fun i => congrArg Int32.toInt (f 132 rfl i)).trans t32⟩⟩
  · have e3 := e1.trans e
    unfold ldS
    rw [if_pos (by omega)]
    rw [ef] at x51 x52
    exact ⟨⟨(funext fun i => congrArg Int32.toInt (f 146 rfl i)).trans r46, (funext fun i => congrArg Int32.toInt (f 147 rfl i)).trans r47, (funext fun i => congrArg Int32.toInt (f 148 rfl i)).trans r48, (funext fun i => congrArg Int32.toInt (f 149 rfl i)).trans r49, x50, x51, x52, x53, x54⟩, ⟨(congrArg Int32.toInt (f 118 rfl 44)).trans n1, (congrArg Int32.toInt (f 118 rfl 54)).trans n2, (congrArg Int32.toInt (f 118 rfl 18)).trans n3⟩, ⟨(funext fun i => congrArg Int32.toInt (f 127 rfl i)).trans t27, (funext fun i => congrArg Int32.toInt (f 128 rfl i)).trans t28, (funext fun i => congrArg Int32.toInt (f 129 rfl i)).trans t29, (funext fun i => congrArg Int32.toInt (f 131 rfl i)).trans t31, (funext fun i => congrArg Int32.toInt (f 132 rfl i)).trans t32⟩⟩
theorem pz_rload1 {X : Option (Nat × (Nat → Int32))} {Z : Option Value → qm_H → Prop} {h : qm_H} {fu : Nat} {A : Nat → Nat → Int} {b y x : Int32} (hH : hk_H h) (hi : zI 1 A) (hr : zR A h.2.1) (hl : A 118 18 = 1) (k : ∀ (I : Nat → Nat → Int32) (v : Int32), (∀ o, [150, 151, 152, 153, 154, 155, 156].contains o = false → ∀ i, I o i = h.2.1 o i) → zR (ldS 1 A b y x) I → v.toInt = ldV 1 A b y x → Z (some (.int v)) (h.1, I, h.2.2.1, h.2.2.2)) : qm_Rp fu X cd_284 (qm_ent 7 [.ref 118, .int b, .int y, .int x] h) Z := by
  have nA := zR_n0 hi hr
  have hE := hi.1.1.2.2.1
  obtain ⟨⟨r46, r47, r48, r49, r50, r51, r52, r53, r54⟩, ⟨n1, n2, n3⟩, ⟨t27, t28, t29, t31, t32⟩⟩ := hr
  have g1 : h.2.1 118 18 = 1 := hk_eqi.mpr (n3.trans hl)
  have fB : (h.2.1 127 1).toInt = A 127 1 := congrFun t27 1
  have f0 : (h.2.1 128 3).toInt = A 128 (3 * 1) := congrFun t28 3
  have f1 : (h.2.1 128 4).toInt = A 128 (3 * 1 + 1) := congrFun t28 4
  have f2 : (h.2.1 128 5).toInt = A 128 (3 * 1 + 2) := congrFun t28 5
  have fl : (h.2.1 129 1).toInt = A 129 1 := congrFun t29 1
  have ef : frV (h.2.1 118 54) y x.toInt (A 152) = frA A y x.toInt := by
    unfold frA
    rw [← n2, Int32.ofInt_toInt]
  have e : tryV (h.2.1 118 44).toInt b.toInt (okb (A 150 b.toInt.toNat = 0 ∨ (A 150 b.toInt.toNat = 2 ∧ A 151 b.toInt.toNat % 4 = A 154 (A 151 b.toInt.toNat / 4).toNat - 1))) y.toInt x.toInt (h.2.1 127 1).toInt (frV (h.2.1 118 54) y x.toInt (A 152)) (A 146 b.toInt.toNat) (h.2.1 129 1).toInt (okb (mayP (h.2.1 127 1).toInt (h.2.1 128 3).toInt (h.2.1 128 4).toInt (h.2.1 128 5).toInt (ab (zL (A 146) (A 150) (A 151) (h.2.1 118 44).toInt.toNat)) (ab (zT (h.2.1 127 1).toInt (A 146) (A 150) (A 151) (h.2.1 118 44).toInt.toNat)) (zD (h.2.1 127 1).toInt (A 146) (A 150) (A 151) (h.2.1 118 44).toInt.toNat) (A 146) (fu_up (A 150) b.toInt.toNat 1) (fu_up (A 151) b.toInt.toNat (frV (h.2.1 118 54) y x.toInt (A 152))) (h.2.1 118 44).toInt.toNat)) = ldV 1 A b y x := by
    rw [ef, n1, fB, f0, f1, f2, fl]
    rfl
  have y0 : 0 ≤ b.toInt → A 150 b.toInt.toNat = 2 → A 153 (A 151 b.toInt.toNat).toNat = b.toInt := fun c z => by
    obtain ⟨g, i, g1, i1, k1, k2, k3⟩ := hE b.toInt.toNat z
    rw [show (A 151 b.toInt.toNat).toNat = 4 * g + i by omega, k3]
    omega
  refine px_load1 (X := X) hH r46 r50 r51 rfl nA.1 hi.2.1.1 hi.2.1.2.2.1 g1 rfl (by rw [fB]; exact hi.2.2.2) rfl rfl rfl r52 r53 r54 hi.2.1.2.2.2.2.2 rfl rfl y0 (fun I v f e1 e2 x50 x51 x52 x53 x54 => k I v f ?_ (e1.trans e)) (fun I v f e1 e2 x50 x51 x52 x53 x54 => k I v f ?_ (e1.trans e))
  · have e3 := e1.trans e
    unfold ldS
    rw [if_neg (by omega)]
    rw [ef, e3] at x51
    exact ⟨⟨(funext fun i => congrArg Int32.toInt (f 146 rfl i)).trans r46, (funext fun i => congrArg Int32.toInt (f 147 rfl i)).trans r47, (funext fun i => congrArg Int32.toInt (f 148 rfl i)).trans r48, (funext fun i => congrArg Int32.toInt (f 149 rfl i)).trans r49, x50, x51, x52, x53, x54⟩, ⟨(congrArg Int32.toInt (f 118 rfl 44)).trans n1, (congrArg Int32.toInt (f 118 rfl 54)).trans n2, (congrArg Int32.toInt (f 118 rfl 18)).trans n3⟩, ⟨(funext fun i => congrArg Int32.toInt (f 127 rfl i)).trans t27, (funext fun i => congrArg Int32.toInt (f 128 rfl i)).trans t28, (funext fun i => congrArg Int32.toInt (f 129 rfl i)).trans t29, (funext fun i => congrArg Int32.toInt (f 131 rfl i)).trans t31, (funext fun i => congrArg Int32.toInt (f 132 rfl i)).trans t32⟩⟩
  · have e3 := e1.trans e
    unfold ldS
    rw [if_pos (by omega)]
    rw [ef] at x51 x52
    exact ⟨⟨(funext fun i => congrArg Int32.toInt (f 146 rfl i)).trans r46, (funext fun i => congrArg Int32.toInt (f 147 rfl i)).trans r47, (funext fun i => congrArg Int32.toInt (f 148 rfl i)).trans r48, (funext fun i => congrArg Int32.toInt (f 149 rfl i)).trans r49, x50, x51, x52, x53, x54⟩, ⟨(congrArg Int32.toInt (f 118 rfl 44)).trans n1, (congrArg Int32.toInt (f 118 rfl 54)).trans n2, (congrArg Int32.toInt (f 118 rfl 18)).trans n3⟩, ⟨(funext fun i => congrArg Int32.toInt (f 127 rfl i)).trans t27, (funext fun i => congrArg Int32.toInt (f 128 rfl i)).trans t28, (funext fun i => congrArg Int32.toInt (f 129 rfl i)).trans t29, (funext fun i => congrArg Int32.toInt (f 131 rfl i)).trans t31, (funext fun i => congrArg Int32.toInt (f 132 rfl i)).trans t32⟩⟩
theorem pz_runl0 {X : Option (Nat × (Nat → Int32))} {Z : Option Value → qm_H → Prop} {h : qm_H} {fu : Nat} {A : Nat → Nat → Int} {y x g : Int32} (hH : hk_H h) (hi : zI 0 A) (hr : zR A h.2.1) (hl : A 118 18 = 0) (k : ∀ (I : Nat → Nat → Int32) (v : Int32), (∀ o, [150, 151, 152, 153, 154, 155, 156].contains o = false → ∀ i, I o i = h.2.1 o i) → zR (ulS 0 A y x g) I → v.toInt = ulV 0 A y x g → Z (some (.int v)) (h.1, I, h.2.2.1, h.2.2.2)) : qm_Rp fu X cd_298 (qm_ent (qm_F 298).1 [.ref 118, .int y, .int x, .int g] h) Z := by
  have nA := zR_n0 hi hr
  obtain ⟨⟨r46, r47, r48, r49, r50, r51, r52, r53, r54⟩, ⟨n1, n2, n3⟩, ⟨t27, t28, t29, t31, t32⟩⟩ := hr
  have g1 : h.2.1 118 18 = 0 := hk_eqi.mpr (n3.trans hl)
  have fB : (h.2.1 127 0).toInt = A 127 0 := congrFun t27 0
  have f0 : (h.2.1 128 0).toInt = A 128 (3 * 0) := congrFun t28 0
  have f1 : (h.2.1 128 1).toInt = A 128 (3 * 0 + 1) := congrFun t28 1
  have f2 : (h.2.1 128 2).toInt = A 128 (3 * 0 + 2) := congrFun t28 2
  have fl : (h.2.1 129 0).toInt = A 129 0 := congrFun t29 0
  have ef : lowV (h.2.1 118 54) y x.toInt = loA A y x.toInt := by
    unfold loA
    rw [← n2, Int32.ofInt_toInt]
  have e : unlV y.toInt (h.2.1 127 0).toInt x.toInt g.toInt (lowV (h.2.1 118 54) y x.toInt) (A 152) (A 149) (A 146) (A 154) (h.2.1 129 0).toInt (okb (mayP (h.2.1 127 0).toInt (h.2.1 128 0).toInt (h.2.1 128 1).toInt (h.2.1 128 2).toInt (ab (zL (A 146) (A 150) (A 151) (h.2.1 118 44).toInt.toNat)) (ab (zT (h.2.1 127 0).toInt (A 146) (A 150) (A 151) (h.2.1 118 44).toInt.toNat)) (zD (h.2.1 127 0).toInt (A 146) (A 150) (A 151) (h.2.1 118 44).toInt.toNat) (A 146) (whU (A 152) (A 149) (A 150) (lowV (h.2.1 118 54) y x.toInt)) (A 151) (h.2.1 118 44).toInt.toNat)) = ulV 0 A y x g := by
    rw [ef, n1, fB, f0, f1, f2, fl]
    rfl
  refine px_unl0 (X := X) hH r46 r50 r51 rfl nA.1 hi.2.1.1 hi.2.1.2.2.1 g1 rfl (by rw [fB]; exact hi.2.2.2) rfl rfl rfl r52 r53 r54 hi.2.1.2.2.2.2.2 r49 rfl rfl hi.2.1.2.2.2.1 hi.1.1.1 hi.1.2 (fun I v f e1 e2 x50 x51 x52 x53 x54 => k I v f ?_ (e1.trans e)) (fun I f e1 x50 x51 x52 x53 x54 => k I 1 f ?_ (e1.trans e)) (fun I f e1 x50 x51 x52 x53 x54 => k I 2 f ?_ (e1.trans e))
  · rw [ulS_0 (by rw [← e, ← e1]; exact e2)]
    exact ⟨⟨(funext fun i => congrArg Int32.toInt (f 146 rfl i)).trans r46, (funext fun i => congrArg Int32.toInt (f 147 rfl i)).trans r47, (funext fun i => congrArg Int32.toInt (f 148 rfl i)).trans r48, (funext fun i => congrArg Int32.toInt (f 149 rfl i)).trans r49, x50, x51, x52, x53, x54⟩, ⟨(congrArg Int32.toInt (f 118 rfl 44)).trans n1, (congrArg Int32.toInt (f 118 rfl 54)).trans n2, (congrArg Int32.toInt (f 118 rfl 18)).trans n3⟩, ⟨(funext fun i => congrArg Int32.toInt (f 127 rfl i)).trans t27, (funext fun i => congrArg Int32.toInt (f 128 rfl i)).trans t28, (funext fun i => congrArg Int32.toInt (f 129 rfl i)).trans t29, (funext fun i => congrArg Int32.toInt (f 131 rfl i)).trans t31, (funext fun i => congrArg Int32.toInt (f 132 rfl i)).trans t32⟩⟩
  · rw [ulS_1 (e1.trans e).symm]
    rw [ef] at x50 x51 x52 x53
    exact ⟨⟨(funext fun i => congrArg Int32.toInt (f 146 rfl i)).trans r46, (funext fun i => congrArg Int32.toInt (f 147 rfl i)).trans r47, (funext fun i => congrArg Int32.toInt (f 148 rfl i)).trans r48, (funext fun i => congrArg Int32.toInt (f 149 rfl i)).trans r49, x50, x51, x52, x53, x54⟩, ⟨(congrArg Int32.toInt (f 118 rfl 44)).trans n1, (congrArg Int32.toInt (f 118 rfl 54)).trans n2, (congrArg Int32.toInt (f 118 rfl 18)).trans n3⟩, ⟨(funext fun i => congrArg Int32.toInt (f 127 rfl i)).trans t27, (funext fun i => congrArg Int32.toInt (f 128 rfl i)).trans t28, (funext fun i => congrArg Int32.toInt (f 129 rfl i)).trans t29, (funext fun i => congrArg Int32.toInt (f 131 rfl i)).trans t31, (funext fun i => congrArg Int32.toInt (f 132 rfl i)).trans t32⟩⟩
  · rw [ulS_2 (e1.trans e).symm]
    rw [ef] at x50 x51 x52 x53
    exact ⟨⟨(funext fun i => congrArg Int32.toInt (f 146 rfl i)).trans r46, (funext fun i => congrArg Int32.toInt (f 147 rfl i)).trans r47, (funext fun i => congrArg Int32.toInt (f 148 rfl i)).trans r48, (funext fun i => congrArg Int32.toInt (f 149 rfl i)).trans r49, x50, x51, x52, x53, x54⟩, ⟨(congrArg Int32.toInt (f 118 rfl 44)).trans n1, (congrArg Int32.toInt (f 118 rfl 54)).trans n2, (congrArg Int32.toInt (f 118 rfl 18)).trans n3⟩, ⟨(funext fun i => congrArg Int32.toInt (f 127 rfl i)).trans t27, (funext fun i => congrArg Int32.toInt (f 128 rfl i)).trans t28, (funext fun i => congrArg Int32.toInt (f 129 rfl i)).trans t29, (funext fun i => congrArg Int32.toInt (f 131 rfl i)).trans t31, (funext fun i => congrArg Int32.toInt (f 132 rfl i)).trans t32⟩⟩
theorem pz_runl1 {X : Option (Nat × (Nat → Int32))} {Z : Option Value → qm_H → Prop} {h : qm_H} {fu : Nat} {A : Nat → Nat → Int} {y x g : Int32} (hH : hk_H h) (hi : zI 1 A) (hr : zR A h.2.1) (hl : A 118 18 = 1) (k : ∀ (I : Nat → Nat → Int32) (v : Int32), (∀ o, [150, 151, 152, 153, 154, 155, 156].contains o = false → ∀ i, I o i = h.2.1 o i) → zR (ulS 1 A y x g) I → v.toInt = ulV 1 A y x g → Z (some (.int v)) (h.1, I, h.2.2.1, h.2.2.2)) : qm_Rp fu X cd_298 (qm_ent (qm_F 298).1 [.ref 118, .int y, .int x, .int g] h) Z := by
  have nA := zR_n0 hi hr
  obtain ⟨⟨r46, r47, r48, r49, r50, r51, r52, r53, r54⟩, ⟨n1, n2, n3⟩, ⟨t27, t28, t29, t31, t32⟩⟩ := hr
  have g1 : h.2.1 118 18 = 1 := hk_eqi.mpr (n3.trans hl)
  have fB : (h.2.1 127 1).toInt = A 127 1 := congrFun t27 1
  have f0 : (h.2.1 128 3).toInt = A 128 (3 * 1) := congrFun t28 3
  have f1 : (h.2.1 128 4).toInt = A 128 (3 * 1 + 1) := congrFun t28 4
  have f2 : (h.2.1 128 5).toInt = A 128 (3 * 1 + 2) := congrFun t28 5
  have fl : (h.2.1 129 1).toInt = A 129 1 := congrFun t29 1
  have ef : lowV (h.2.1 118 54) y x.toInt = loA A y x.toInt := by
    unfold loA
    rw [← n2, Int32.ofInt_toInt]
  have e : unlV y.toInt (h.2.1 127 1).toInt x.toInt g.toInt (lowV (h.2.1 118 54) y x.toInt) (A 152) (A 149) (A 146) (A 154) (h.2.1 129 1).toInt (okb (mayP (h.2.1 127 1).toInt (h.2.1 128 3).toInt (h.2.1 128 4).toInt (h.2.1 128 5).toInt (ab (zL (A 146) (A 150) (A 151) (h.2.1 118 44).toInt.toNat)) (ab (zT (h.2.1 127 1).toInt (A 146) (A 150) (A 151) (h.2.1 118 44).toInt.toNat)) (zD (h.2.1 127 1).toInt (A 146) (A 150) (A 151) (h.2.1 118 44).toInt.toNat) (A 146) (whU (A 152) (A 149) (A 150) (lowV (h.2.1 118 54) y x.toInt)) (A 151) (h.2.1 118 44).toInt.toNat)) = ulV 1 A y x g := by
    rw [ef, n1, fB, f0, f1, f2, fl]
    rfl
  refine px_unl1 (X := X) hH r46 r50 r51 rfl nA.1 hi.2.1.1 hi.2.1.2.2.1 g1 rfl (by rw [fB]; exact hi.2.2.2) rfl rfl rfl r52 r53 r54 hi.2.1.2.2.2.2.2 r49 rfl rfl hi.2.1.2.2.2.1 hi.1.1.1 hi.1.2 (fun I v f e1 e2 x50 x51 x52 x53 x54 => k I v f ?_ (e1.trans e)) (fun I f e1 x50 x51 x52 x53 x54 => k I 1 f ?_ (e1.trans e)) (fun I f e1 x50 x51 x52 x53 x54 => k I 2 f ?_ (e1.trans e))
  · rw [ulS_0 (by rw [← e, ← e1]; exact e2)]
    exact ⟨⟨(funext fun i => congrArg Int32.toInt (f 146 rfl i)).trans r46, (funext fun i => congrArg Int32.toInt (f 147 rfl i)).trans r47, (funext fun i => congrArg Int32.toInt (f 148 rfl i)).trans r48, (funext fun i => congrArg Int32.toInt (f 149 rfl i)).trans r49, x50, x51, x52, x53, x54⟩, ⟨(congrArg Int32.toInt (f 118 rfl 44)).trans n1, (congrArg Int32.toInt (f 118 rfl 54)).trans n2, (congrArg Int32.toInt (f 118 rfl 18)).trans n3⟩, ⟨(funext fun i => congrArg Int32.toInt (f 127 rfl i)).trans t27, (funext fun i => congrArg Int32.toInt (f 128 rfl i)).trans t28, (funext fun i => congrArg Int32.toInt (f 129 rfl i)).trans t29, (funext fun i => congrArg Int32.toInt (f 131 rfl i)).trans t31, (funext fun i => congrArg Int32.toInt (f 132 rfl i)).trans t32⟩⟩
  · rw [ulS_1 (e1.trans e).symm]
    rw [ef] at x50 x51 x52 x53
    exact ⟨⟨(funext fun i => congrArg Int32.toInt (f 146 rfl i)).trans r46, (funext fun i => congrArg Int32.toInt (f 147 rfl i)).trans r47, (funext fun i => congrArg Int32.toInt (f 148 rfl i)).trans r48, (funext fun i => congrArg Int32.toInt (f 149 rfl i)).trans r49, x50, x51, x52, x53, x54⟩, ⟨(congrArg Int32.toInt (f 118 rfl 44)).trans n1, (congrArg Int32.toInt (f 118 rfl 54)).trans n2, (congrArg Int32.toInt (f 118 rfl 18)).trans n3⟩, ⟨(funext fun i => congrArg Int32.toInt (f 127 rfl i)).trans t27, (funext fun i => congrArg Int32.toInt (f 128 rfl i)).trans t28, (funext fun i => congrArg Int32.toInt (f 129 rfl i)).trans t29, (funext fun i => congrArg Int32.toInt (f 131 rfl i)).trans t31, (funext fun i => congrArg Int32.toInt (f 132 rfl i)).trans t32⟩⟩
  · rw [ulS_2 (e1.trans e).symm]
    rw [ef] at x50 x51 x52 x53
    exact ⟨⟨(funext fun i => congrArg Int32.toInt (f 146 rfl i)).trans r46, (funext fun i => congrArg Int32.toInt (f 147 rfl i)).trans r47, (funext fun i => congrArg Int32.toInt (f 148 rfl i)).trans r48, (funext fun i => congrArg Int32.toInt (f 149 rfl i)).trans r49, x50, x51, x52, x53, x54⟩, ⟨(congrArg Int32.toInt (f 118 rfl 44)).trans n1, (congrArg Int32.toInt (f 118 rfl 54)).trans n2, (congrArg Int32.toInt (f 118 rfl 18)).trans n3⟩, ⟨(funext fun i => congrArg Int32.toInt (f 127 rfl i)).trans t27, (funext fun i => congrArg Int32.toInt (f 128 rfl i)).trans t28, (funext fun i => congrArg Int32.toInt (f 129 rfl i)).trans t29, (funext fun i => congrArg Int32.toInt (f 131 rfl i)).trans t31, (funext fun i => congrArg Int32.toInt (f 132 rfl i)).trans t32⟩⟩
