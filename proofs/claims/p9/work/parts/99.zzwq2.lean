theorem ulS_0 {A : Nat → Nat → Int} {s : Nat} {y x g : Int32} (h : ulV s A y x g < 0) : ulS s A y x g = A := by
  unfold ulS
  rw [if_neg (by omega), if_neg (by omega)]
theorem ulS_1 {A : Nat → Nat → Int} {s : Nat} {y x g : Int32} (h : ulV s A y x g = 1) : ulS s A y x g = ulS1 A (loA A y x.toInt) g := by
  unfold ulS
  rw [if_pos h]
theorem ulS_2 {A : Nat → Nat → Int} {s : Nat} {y x g : Int32} (h : ulV s A y x g = 2) : ulS s A y x g = ulS2 A (loA A y x.toInt) g := by
  unfold ulS
  rw [if_neg (by omega), if_pos h]
theorem hz_cunl29 {L : Nat} {xs : Nat → Int32} {Z : Option Value → qm_H → Prop} {h : qm_H} {d : Nat} {A : Nat → Nat → Int} {y x g : Int32} (h6 : 6 ≤ L) (hH : hk_H h) (hT : h.2.2.2 0 9 = some 111 ∧ h.2.2.2 28 2 = some 29) (hB : hk_B h.2.1) (hV : v_C h.2.1) (hi : zI 0 A) (hc : zC A h.2.1) (hm : zM 29 0 A h.2.1) (hd : 40 ≤ d) (k : ∀ (I : Nat → Nat → Int32) (v : Int32), hk_B I → v_C I → (∀ o, [6, 7, 8, 9, 10, 11, 12, 13, 14, 16, 17, 28, 36, 37].contains o = false → ∀ i, I o i = h.2.1 o i) → zC (ulS 0 A y x g) I → v.toInt = ulV 0 A y x g → Z (some (.int v)) (h.1, I, h.2.2.1, h.2.2.2)) : qm_Ru (some (L, xs)) d (qm_F 102).2 (qm_ent (qm_F 102).1 [.ref 28, .int y, .int x, .int g] h) Z := by
  have w := hc_unloading29 L xs d (fun r h' => ∃ (I : Nat → Nat → Int32) (J : Nat → Nat → Int64), h' = (h.1, I, J, h.2.2.2) ∧ hk_B I ∧ v_C I ∧ (∀ o, [6, 7, 8, 9, 10, 11, 12, 13, 14, 16, 17, 28, 36, 37].contains o = false → ∀ i, I o i = h.2.1 o i)) h [.ref 28, .int y, .int x, .int g] h6 hH hT hB hV ⟨y, x, g, rfl⟩ hd (fun r I J _ hB' hV' e => ⟨I, J, rfl, hB', hV', e⟩)
  have hcc := hc
  obtain ⟨⟨c1, c2, c3, c4, c5, c6, c7, c8⟩, ⟨c9, c10⟩, hp, hs⟩ := hc
  obtain ⟨ms, m0, m1, m2, m3, m4, m6, m7⟩ := hm
  have nA := hi.2.2.1
  have z1 : -3600 ≤ (h.2.1 28 5).toInt ∧ (h.2.1 28 5).toInt ≤ 3600 := by
    rw [hs.1]
    exact zL_in hi.2.1.1 (by omega)
  have z2 : 0 ≤ (h.2.1 28 6).toInt ∧ (h.2.1 28 6).toInt ≤ 1200 := by
    rw [hs.2.1]
    exact zA_in (sp := A 151) hi.2.1.1 (by omega)
  have z3 : ∀ c, c < 5 → 0 ≤ pI h.2.1 37 c ∧ pI h.2.1 37 c ≤ 1200 := fun c hc => by
    rw [hs.2.2 c hc]
    exact zB_in hi.2.1.1 (by omega)
  have e := ul_C (y := y) (x := x) (g := g) (B := h.2.1 29 0) (g0 := h.2.1 29 1) (g1 := h.2.1 29 2) (g2 := h.2.1 29 3) (l := h.2.1 29 4) (cv := h.2.1 28 4) hi hs m0 m1 m2 m3 m4 c9
  have ef : lowV (h.2.1 28 4) y x.toInt = loA A y x.toInt := by
    unfold loA
    rw [← c9, Int32.ofInt_toInt]
  have hA : ∀ k : Nat, k < 80 → 0 ≤ A 152 k → A 150 (A 152 k).toNat = 1 ∧ 16 * pI h.2.1 12 (A 152 k).toNat + 4 * pI h.2.1 13 (A 152 k).toNat + pI h.2.1 14 (A 152 k).toNat = (k : Int) := fun k hk h0 => by
    have a := hi.1.1.1 k hk h0
    have p := (hp (A 152 k).toNat).1 a.1
    exact ⟨a.1, by omega⟩
  have g := w.both (Q2 := fun r h' => ∃ (I : Nat → Nat → Int32) (v : Int32), h' = (h.1, I, h.2.2.1, h.2.2.2) ∧ r = some (.int v) ∧ zC (ulS 0 A y x g) I ∧ v.toInt = ulV 0 A y x g) (fun fu => px_cunl29 (X := some (L, xs)) hH (n := h.2.1 6 0) rfl (by rw [c10]; exact nA) c1 c5 rfl rfl rfl c6 c7 c8 rfl hi.2.1.1 hi.2.1.2.1 hi.2.1.2.2.2.1 hi.2.1.2.2.2.2.2 hi.2.1.2.2.2.2.1 z3 rfl z1 rfl z2 rfl hT.2 rfl (by rw [m0]; exact hi.2.2.2) rfl rfl rfl rfl c4 hA (fun b hb => ((hp b).1 hb).2) hi.1.2 (fun r e1 e2 => ⟨h.2.1, r, rfl, rfl, by rw [ulS_0 (by rw [← e, ← e1]; exact e2)]; exact hcc, e1.trans e⟩) (fun I l2 w2 f x28 q5 q6 e1 x5 x6 x11 x12 x13 x14 x36 x16 x17 x37 => ⟨I, 1, rfl, rfl, ?_, e1.trans e⟩) (fun I l2 w2 f x28 q5 q6 e1 x5 x6 x11 x12 x13 x14 x36 x16 x17 x37 => ⟨I, 2, rfl, rfl, ?_, e1.trans e⟩))
  · refine g.mono (fun r h' q => ?_)
    obtain ⟨⟨I, J, rfl, b1, b2, b3⟩, I', v, e1, rfl, b4, b5⟩ := q
    obtain ⟨rfl, rfl⟩ := hp_uq e1
    exact k I v b1 b2 b3 b4 b5
  · have e3 := (e1.trans e).symm
    have hB := hi.2.2.2
    obtain ⟨c, l, hk, q⟩ := ul_inv hi (show 0 < ulV 0 A y x g by omega)
    have kb := kV_b (A 152) (loA A y x.toInt)
    rw [ulS_1 e3]
    rw [ef] at x5 x6 x11 x12 x13 x14 x36 x16 x37
    exact ul_zC1 hi hcc ⟨c.1, by omega⟩ ⟨c.2.2.1, c.2.2.2.1⟩ ⟨c.2.2.2.2.1, c.2.2.2.2.2⟩ (by omega) hk (q.elim (fun z => z.2) (fun z => by omega)) (funext fun i => congrArg Int32.toInt (f 7 rfl i)) (funext fun i => congrArg Int32.toInt (f 8 rfl i)) (funext fun i => congrArg Int32.toInt (f 9 rfl i)) (funext fun i => congrArg Int32.toInt (f 10 rfl i)) (x28 4 rfl) (f 6 rfl 0) q5 q6 x5 x6 x11 x12 x13 x14 x36 x16 x17 x37
  · have e3 := (e1.trans e).symm
    have hB := hi.2.2.2
    obtain ⟨c, l, hk, q⟩ := ul_inv hi (show 0 < ulV 0 A y x g by omega)
    rw [ulS_2 e3]
    rw [ef] at x5 x6 x11 x12 x13 x14 x36 x16 x37
    obtain ⟨-, q2, q3, q4⟩ := q.resolve_left (fun z => by omega)
    exact ul_zC2 hi hcc ⟨c.1, by omega⟩ ⟨c.2.2.1, c.2.2.2.1⟩ ⟨c.2.2.2.2.1, c.2.2.2.2.2⟩ l.1 q3 q4 q2 (funext fun i => congrArg Int32.toInt (f 7 rfl i)) (funext fun i => congrArg Int32.toInt (f 8 rfl i)) (funext fun i => congrArg Int32.toInt (f 9 rfl i)) (funext fun i => congrArg Int32.toInt (f 10 rfl i)) (x28 4 rfl) (f 6 rfl 0) q5 q6 x5 x6 x11 x12 x13 x14 x36 x16 x17 x37
theorem hz_cunl111 {L : Nat} {xs : Nat → Int32} {Z : Option Value → qm_H → Prop} {h : qm_H} {d : Nat} {A : Nat → Nat → Int} {y x g : Int32} (h6 : 6 ≤ L) (hH : hk_H h) (hT : h.2.2.2 0 9 = some 29 ∧ h.2.2.2 28 2 = some 111) (hB : hk_B h.2.1) (hV : v_C h.2.1) (hi : zI 1 A) (hc : zC A h.2.1) (hm : zM 111 1 A h.2.1) (hd : 40 ≤ d) (k : ∀ (I : Nat → Nat → Int32) (v : Int32), hk_B I → v_C I → (∀ o, [6, 7, 8, 9, 10, 11, 12, 13, 14, 16, 17, 28, 36, 37].contains o = false → ∀ i, I o i = h.2.1 o i) → zC (ulS 1 A y x g) I → v.toInt = ulV 1 A y x g → Z (some (.int v)) (h.1, I, h.2.2.1, h.2.2.2)) : qm_Ru (some (L, xs)) d (qm_F 102).2 (qm_ent (qm_F 102).1 [.ref 28, .int y, .int x, .int g] h) Z := by
  have w := hc_unloading111 L xs d (fun r h' => ∃ (I : Nat → Nat → Int32) (J : Nat → Nat → Int64), h' = (h.1, I, J, h.2.2.2) ∧ hk_B I ∧ v_C I ∧ (∀ o, [6, 7, 8, 9, 10, 11, 12, 13, 14, 16, 17, 28, 36, 37].contains o = false → ∀ i, I o i = h.2.1 o i)) h [.ref 28, .int y, .int x, .int g] h6 hH hT hB hV ⟨y, x, g, rfl⟩ hd (fun r I J _ hB' hV' e => ⟨I, J, rfl, hB', hV', e⟩)
  have hcc := hc
  obtain ⟨⟨c1, c2, c3, c4, c5, c6, c7, c8⟩, ⟨c9, c10⟩, hp, hs⟩ := hc
  obtain ⟨ms, m0, m1, m2, m3, m4, m6, m7⟩ := hm
  have nA := hi.2.2.1
  have z1 : -3600 ≤ (h.2.1 28 5).toInt ∧ (h.2.1 28 5).toInt ≤ 3600 := by
    rw [hs.1]
    exact zL_in hi.2.1.1 (by omega)
  have z2 : 0 ≤ (h.2.1 28 6).toInt ∧ (h.2.1 28 6).toInt ≤ 1200 := by
    rw [hs.2.1]
    exact zA_in (sp := A 151) hi.2.1.1 (by omega)
  have z3 : ∀ c, c < 5 → 0 ≤ pI h.2.1 37 c ∧ pI h.2.1 37 c ≤ 1200 := fun c hc => by
    rw [hs.2.2 c hc]
    exact zB_in hi.2.1.1 (by omega)
  have e := ul_C (y := y) (x := x) (g := g) (B := h.2.1 111 0) (g0 := h.2.1 111 1) (g1 := h.2.1 111 2) (g2 := h.2.1 111 3) (l := h.2.1 111 4) (cv := h.2.1 28 4) hi hs m0 m1 m2 m3 m4 c9
  have ef : lowV (h.2.1 28 4) y x.toInt = loA A y x.toInt := by
    unfold loA
    rw [← c9, Int32.ofInt_toInt]
  have hA : ∀ k : Nat, k < 80 → 0 ≤ A 152 k → A 150 (A 152 k).toNat = 1 ∧ 16 * pI h.2.1 12 (A 152 k).toNat + 4 * pI h.2.1 13 (A 152 k).toNat + pI h.2.1 14 (A 152 k).toNat = (k : Int) := fun k hk h0 => by
    have a := hi.1.1.1 k hk h0
    have p := (hp (A 152 k).toNat).1 a.1
    exact ⟨a.1, by omega⟩
  have g := w.both (Q2 := fun r h' => ∃ (I : Nat → Nat → Int32) (v : Int32), h' = (h.1, I, h.2.2.1, h.2.2.2) ∧ r = some (.int v) ∧ zC (ulS 1 A y x g) I ∧ v.toInt = ulV 1 A y x g) (fun fu => px_cunl111 (X := some (L, xs)) hH (n := h.2.1 6 0) rfl (by rw [c10]; exact nA) c1 c5 rfl rfl rfl c6 c7 c8 rfl hi.2.1.1 hi.2.1.2.1 hi.2.1.2.2.2.1 hi.2.1.2.2.2.2.2 hi.2.1.2.2.2.2.1 z3 rfl z1 rfl z2 rfl hT.2 rfl (by rw [m0]; exact hi.2.2.2) rfl rfl rfl rfl c4 hA (fun b hb => ((hp b).1 hb).2) hi.1.2 (fun r e1 e2 => ⟨h.2.1, r, rfl, rfl, by rw [ulS_0 (by rw [← e, ← e1]; exact e2)]; exact hcc, e1.trans e⟩) (fun I l2 w2 f x28 q5 q6 e1 x5 x6 x11 x12 x13 x14 x36 x16 x17 x37 => ⟨I, 1, rfl, rfl, ?_, e1.trans e⟩) (fun I l2 w2 f x28 q5 q6 e1 x5 x6 x11 x12 x13 x14 x36 x16 x17 x37 => ⟨I, 2, rfl, rfl, ?_, e1.trans e⟩))
  · refine g.mono (fun r h' q => ?_)
    obtain ⟨⟨I, J, rfl, b1, b2, b3⟩, I', v, e1, rfl, b4, b5⟩ := q
    obtain ⟨rfl, rfl⟩ := hp_uq e1
    exact k I v b1 b2 b3 b4 b5
  · have e3 := (e1.trans e).symm
    have hB := hi.2.2.2
    obtain ⟨c, l, hk, q⟩ := ul_inv hi (show 0 < ulV 1 A y x g by omega)
    have kb := kV_b (A 152) (loA A y x.toInt)
    rw [ulS_1 e3]
    rw [ef] at x5 x6 x11 x12 x13 x14 x36 x16 x37
    exact ul_zC1 hi hcc ⟨c.1, by omega⟩ ⟨c.2.2.1, c.2.2.2.1⟩ ⟨c.2.2.2.2.1, c.2.2.2.2.2⟩ (by omega) hk (q.elim (fun z => z.2) (fun z => by omega)) (funext fun i => congrArg Int32.toInt (f 7 rfl i)) (funext fun i => congrArg Int32.toInt (f 8 rfl i)) (funext fun i => congrArg Int32.toInt (f 9 rfl i)) (funext fun i => congrArg Int32.toInt (f 10 rfl i)) (x28 4 rfl) (f 6 rfl 0) q5 q6 x5 x6 x11 x12 x13 x14 x36 x16 x17 x37
  · have e3 := (e1.trans e).symm
    have hB := hi.2.2.2
    obtain ⟨c, l, hk, q⟩ := ul_inv hi (show 0 < ulV 1 A y x g by omega)
    rw [ulS_2 e3]
    rw [ef] at x5 x6 x11 x12 x13 x14 x36 x16 x37
    obtain ⟨-, q2, q3, q4⟩ := q.resolve_left (fun z => by omega)
    exact ul_zC2 hi hcc ⟨c.1, by omega⟩ ⟨c.2.2.1, c.2.2.2.1⟩ ⟨c.2.2.2.2.1, c.2.2.2.2.2⟩ l.1 q3 q4 q2 (funext fun i => congrArg Int32.toInt (f 7 rfl i)) (funext fun i => congrArg Int32.toInt (f 8 rfl i)) (funext fun i => congrArg Int32.toInt (f 9 rfl i)) (funext fun i => congrArg Int32.toInt (f 10 rfl i)) (x28 4 rfl) (f 6 rfl 0) q5 q6 x5 x6 x11 x12 x13 x14 x36 x16 x17 x37
theorem hz_runl0 {L : Nat} {xs : Nat → Int32} {Z : Option Value → qm_H → Prop} {h : qm_H} {d : Nat} {A : Nat → Nat → Int} {y x g : Int32} (h6 : 6 ≤ L) (hH : hk_H h) (hB : hk_B h.2.1) (hV : v_S h.2.1) (hi : zI 0 A) (hr : zR A h.2.1) (hl : A 118 18 = 0) (hd : 60 ≤ d) (k : ∀ (I : Nat → Nat → Int32) (v : Int32), hk_B I → v_S I → (∀ o, [150, 151, 152, 153, 154, 155, 156].contains o = false → ∀ i, I o i = h.2.1 o i) → zR (ulS 0 A y x g) I → v.toInt = ulV 0 A y x g → Z (some (.int v)) (h.1, I, h.2.2.1, h.2.2.2)) : qm_Ru (some (L, xs)) d (qm_F 298).2 (qm_ent (qm_F 298).1 [.ref 118, .int y, .int x, .int g] h) Z := by
  have w := hcS_runload L xs d (fun r h' => ∃ (I : Nat → Nat → Int32) (J : Nat → Nat → Int64), h' = (h.1, I, J, h.2.2.2) ∧ hk_B I ∧ v_S I ∧ (∀ o, [146, 147, 148, 149, 150, 151, 152, 153, 154, 155, 156].contains o = false → ∀ i, I o i = h.2.1 o i)) h [.ref 118, .int y, .int x, .int g] h6 hH trivial hB hV ⟨y, x, g, rfl⟩ hd (fun r I J _ hB' hV' e => ⟨I, J, rfl, hB', hV', e⟩)
  have nA := zR_n0 hi hr
  obtain ⟨⟨r46, r47, r48, r49, r50, r51, r52, r53, r54⟩, ⟨n1, n2, n3⟩, ⟨t27, t28, t29, t31, t32⟩⟩ := hr
  have g1 : h.2.1 118 18 = 0 := hk_eqi.mpr (n3.trans hl)
  have fB : (h.2.1 127 0).toInt = A 127 0 := congrFun t27 0
  have f0 : (h.2.1 128 0).toInt = A 128 (3 * 0) := congrFun t28 0
  have f1 : (h.2.1 128 1).toInt = A 128 (3 * 0 + 1) := congrFun t28 1
  have f2 : (h.2.1 128 2).toInt = A 128 (3 * 0 + 2) := congrFun t28 2
  have fl : (h.2.1 129 0).toInt = A 129 0 := congrFun t29 0
  have ef : lowV (h.2.1 118 54) y x.toInt = loA A y x.toInt := by
    unfold loA
    rw [← n2, Int32.ofInt_toInt]
  have e : unlV y.toInt (h.2.1 127 0).toInt x.toInt g.toInt (lowV (h.2.1 118 54) y x.toInt) (A 152) (A 149) (A 146) (A 154) (h.2.1 129 0).toInt (okb (mayP (h.2.1 127 0).toInt (h.2.1 128 0).toInt (h.2.1 128 1).toInt (h.2.1 128 2).toInt (ab (zL (A 146) (A 150) (A 151) (h.2.1 118 44).toInt.toNat)) (ab (zT (h.2.1 127 0).toInt (A 146) (A 150) (A 151) (h.2.1 118 44).toInt.toNat)) (zD (h.2.1 127 0).toInt (A 146) (A 150) (A 151) (h.2.1 118 44).toInt.toNat) (A 146) (whU (A 152) (A 149) (A 150) (lowV (h.2.1 118 54) y x.toInt)) (A 151) (h.2.1 118 44).toInt.toNat)) = ulV 0 A y x g := by
    rw [ef, n1, fB, f0, f1, f2, fl]
    rfl
  have q := w.both (Q2 := fun r h' => ∃ (I : Nat → Nat → Int32) (v : Int32), h' = (h.1, I, h.2.2.1, h.2.2.2) ∧ r = some (.int v) ∧ (∀ o, [150, 151, 152, 153, 154, 155, 156].contains o = false → ∀ i, I o i = h.2.1 o i) ∧ zR (ulS 0 A y x g) I ∧ v.toInt = ulV 0 A y x g) (fun fu => px_unl0 (X := some (L, xs)) hH r46 r50 r51 rfl nA.1 hi.2.1.1 hi.2.1.2.2.1 g1 rfl (by rw [fB]; exact hi.2.2.2) rfl rfl rfl r52 r53 r54 hi.2.1.2.2.2.2.2 r49 rfl rfl hi.2.1.2.2.2.1 hi.1.1.1 hi.1.2 (fun I v f e1 e2 x50 x51 x52 x53 x54 => ⟨I, v, rfl, rfl, f, ?_, e1.trans e⟩) (fun I f e1 x50 x51 x52 x53 x54 => ⟨I, 1, rfl, rfl, f, ?_, e1.trans e⟩) (fun I f e1 x50 x51 x52 x53 x54 => ⟨I, 2, rfl, rfl, f, ?_, e1.trans e⟩))
  · refine q.mono (fun r h' q => ?_)
    obtain ⟨⟨I, J, rfl, b1, b2, b3⟩, I', v, e1, rfl, b4, b5, b6⟩ := q
    obtain ⟨rfl, rfl⟩ := hp_uq e1
    exact k I v b1 b2 b4 b5 b6
  · rw [ulS_0 (by rw [← e, ← e1]; exact e2)]
    exact ⟨⟨(funext fun i => congrArg Int32.toInt (f 146 rfl i)).trans r46, (funext fun i => congrArg Int32.toInt (f 147 rfl i)).trans r47, (funext fun i => congrArg Int32.toInt (f 148 rfl i)).trans r48, (funext fun i => congrArg Int32.toInt (f 149 rfl i)).trans r49, x50, x51, x52, x53, x54⟩, ⟨(congrArg Int32.toInt (f 118 rfl 44)).trans n1, (congrArg Int32.toInt (f 118 rfl 54)).trans n2, (congrArg Int32.toInt (f 118 rfl 18)).trans n3⟩, ⟨(funext fun i => congrArg Int32.toInt (f 127 rfl i)).trans t27, (funext fun i => congrArg Int32.toInt (f 128 rfl i)).trans t28, (funext fun i => congrArg Int32.toInt (f 129 rfl i)).trans t29, (funext fun i => congrArg Int32.toInt (f 131 rfl i)).trans t31, (funext fun i => congrArg Int32.toInt (f 132 rfl i)).trans t32⟩⟩
  · rw [ulS_1 (e1.trans e).symm]
    rw [ef] at x50 x51 x52 x53
    exact ⟨⟨(funext fun i => congrArg Int32.toInt (f 146 rfl i)).trans r46, (funext fun i => congrArg Int32.toInt (f 147 rfl i)).trans r47, (funext fun i => congrArg Int32.toInt (f 148 rfl i)).trans r48, (funext fun i => congrArg Int32.toInt (f 149 rfl i)).trans r49, x50, x51, x52, x53, x54⟩, ⟨(congrArg Int32.toInt (f 118 rfl 44)).trans n1, (congrArg Int32.toInt (f 118 rfl 54)).trans n2, (congrArg Int32.toInt (f 118 rfl 18)).trans n3⟩, ⟨(funext fun i => congrArg Int32.toInt (f 127 rfl i)).trans t27, (funext fun i => congrArg Int32.toInt (f 128 rfl i)).trans t28, (funext fun i => congrArg Int32.toInt (f 129 rfl i)).trans t29, (funext fun i => congrArg Int32.toInt (f 131 rfl i)).trans t31, (funext fun i => congrArg Int32.toInt (f 132 rfl i)).trans t32⟩⟩
  · rw [ulS_2 (e1.trans e).symm]
    rw [ef] at x50 x51 x52 x53
    exact ⟨⟨(funext fun i => congrArg Int32.toInt (f 146 rfl i)).trans r46, (funext fun i => congrArg Int32.toInt (f 147 rfl i)).trans r47, (funext fun i => congrArg Int32.toInt (f 148 rfl i)).trans r48, (funext fun i => congrArg Int32.toInt (f 149 rfl i)).trans r49, x50, x51, x52, x53, x54⟩, ⟨(congrArg Int32.toInt (f 118 rfl 44)).trans n1, (congrArg Int32.toInt (f 118 rfl 54)).trans n2, (congrArg Int32.toInt (f 118 rfl 18)).trans n3⟩, ⟨(funext fun i => congrArg Int32.toInt (f 127 rfl i)).trans t27, (funext fun i => congrArg Int32.toInt (f 128 rfl i)).trans t28, (funext fun i => congrArg Int32.toInt (f 129 rfl i)).trans t29, (funext fun i => congrArg Int32.toInt (f 131 rfl i)).trans t31, (funext fun i => congrArg Int32.toInt (f 132 rfl i)).trans t32⟩⟩
theorem hz_runl1 {L : Nat} {xs : Nat → Int32} {Z : Option Value → qm_H → Prop} {h : qm_H} {d : Nat} {A : Nat → Nat → Int} {y x g : Int32} (h6 : 6 ≤ L) (hH : hk_H h) (hB : hk_B h.2.1) (hV : v_S h.2.1) (hi : zI 1 A) (hr : zR A h.2.1) (hl : A 118 18 = 1) (hd : 60 ≤ d) (k : ∀ (I : Nat → Nat → Int32) (v : Int32), hk_B I → v_S I → (∀ o, [150, 151, 152, 153, 154, 155, 156].contains o = false → ∀ i, I o i = h.2.1 o i) → zR (ulS 1 A y x g) I → v.toInt = ulV 1 A y x g → Z (some (.int v)) (h.1, I, h.2.2.1, h.2.2.2)) : qm_Ru (some (L, xs)) d (qm_F 298).2 (qm_ent (qm_F 298).1 [.ref 118, .int y, .int x, .int g] h) Z := by
  have w := hcS_runload L xs d (fun r h' => ∃ (I : Nat → Nat → Int32) (J : Nat → Nat → Int64), h' = (h.1, I, J, h.2.2.2) ∧ hk_B I ∧ v_S I ∧ (∀ o, [146, 147, 148, 149, 150, 151, 152, 153, 154, 155, 156].contains o = false → ∀ i, I o i = h.2.1 o i)) h [.ref 118, .int y, .int x, .int g] h6 hH trivial hB hV ⟨y, x, g, rfl⟩ hd (fun r I J _ hB' hV' e => ⟨I, J, rfl, hB', hV', e⟩)
  have nA := zR_n0 hi hr
  obtain ⟨⟨r46, r47, r48, r49, r50, r51, r52, r53, r54⟩, ⟨n1, n2, n3⟩, ⟨t27, t28, t29, t31, t32⟩⟩ := hr
  have g1 : h.2.1 118 18 = 1 := hk_eqi.mpr (n3.trans hl)
  have fB : (h.2.1 127 1).toInt = A 127 1 := congrFun t27 1
  have f0 : (h.2.1 128 3).toInt = A 128 (3 * 1) := congrFun t28 3
  have f1 : (h.2.1 128 4).toInt = A 128 (3 * 1 + 1) := congrFun t28 4
  have f2 : (h.2.1 128 5).toInt = A 128 (3 * 1 + 2) := congrFun t28 5
  have fl : (h.2.1 129 1).toInt = A 129 1 := congrFun t29 1
  have ef : lowV (h.2.1 118 54) y x.toInt = loA A y x.toInt := by
    unfold loA
    rw [← n2, Int32.ofInt_toInt]
  have e : unlV y.toInt (h.2.1 127 1).toInt x.toInt g.toInt (lowV (h.2.1 118 54) y x.toInt) (A 152) (A 149) (A 146) (A 154) (h.2.1 129 1).toInt (okb (mayP (h.2.1 127 1).toInt (h.2.1 128 3).toInt (h.2.1 128 4).toInt (h.2.1 128 5).toInt (ab (zL (A 146) (A 150) (A 151) (h.2.1 118 44).toInt.toNat)) (ab (zT (h.2.1 127 1).toInt (A 146) (A 150) (A 151) (h.2.1 118 44).toInt.toNat)) (zD (h.2.1 127 1).toInt (A 146) (A 150) (A 151) (h.2.1 118 44).toInt.toNat) (A 146) (whU (A 152) (A 149) (A 150) (lowV (h.2.1 118 54) y x.toInt)) (A 151) (h.2.1 118 44).toInt.toNat)) = ulV 1 A y x g := by
    rw [ef, n1, fB, f0, f1, f2, fl]
    rfl
  have q := w.both (Q2 := fun r h' => ∃ (I : Nat → Nat → Int32) (v : Int32), h' = (h.1, I, h.2.2.1, h.2.2.2) ∧ r = some (.int v) ∧ (∀ o, [150, 151, 152, 153, 154, 155, 156].contains o = false → ∀ i, I o i = h.2.1 o i) ∧ zR (ulS 1 A y x g) I ∧ v.toInt = ulV 1 A y x g) (fun fu => px_unl1 (X := some (L, xs)) hH r46 r50 r51 rfl nA.1 hi.2.1.1 hi.2.1.2.2.1 g1 rfl (by rw [fB]; exact hi.2.2.2) rfl rfl rfl r52 r53 r54 hi.2.1.2.2.2.2.2 r49 rfl rfl hi.2.1.2.2.2.1 hi.1.1.1 hi.1.2 (fun I v f e1 e2 x50 x51 x52 x53 x54 => ⟨I, v, rfl, rfl, f, ?_, e1.trans e⟩) (fun I f e1 x50 x51 x52 x53 x54 => ⟨I, 1, rfl, rfl, f, ?_, e1.trans e⟩) (fun I f e1 x50 x51 x52 x53 x54 => ⟨I, 2, rfl, rfl, f, ?_, e1.trans e⟩))
  · refine q.mono (fun r h' q => ?_)
    obtain ⟨⟨I, J, rfl, b1, b2, b3⟩, I', v, e1, rfl, b4, b5, b6⟩ := q
    obtain ⟨rfl, rfl⟩ := hp_uq e1
    exact k I v b1 b2 b4 b5 b6
  · rw [ulS_0 (by rw [← e, ← e1]; exact e2)]
    exact ⟨⟨(funext fun i => congrArg Int32.toInt (f 146 rfl i)).trans r46, (funext fun i => congrArg Int32.toInt (f 147 rfl i)).trans r47, (funext fun i => congrArg Int32.toInt (f 148 rfl i)).trans r48, (funext fun i => congrArg Int32.toInt (f 149 rfl i)).trans r49, x50, x51, x52, x53, x54⟩, ⟨(congrArg Int32.toInt (f 118 rfl 44)).trans n1, (congrArg Int32.toInt (f 118 rfl 54)).trans n2, (congrArg Int32.toInt (f 118 rfl 18)).trans n3⟩, ⟨(funext fun i => congrArg Int32.toInt (f 127 rfl i)).trans t27, (funext fun i => congrArg Int32.toInt (f 128 rfl i)).trans t28, (funext fun i => congrArg Int32.toInt (f 129 rfl i)).trans t29, (funext fun i => congrArg Int32.toInt (f 131 rfl i)).trans t31, (funext fun i => congrArg Int32.toInt (f 132 rfl i)).trans t32⟩⟩
  · rw [ulS_1 (e1.trans e).symm]
    rw [ef] at x50 x51 x52 x53
    exact ⟨⟨(funext fun i => congrArg Int32.toInt (f 146 rfl i)).trans r46, (funext fun i => congrArg Int32.toInt (f 147 rfl i)).trans r47, (funext fun i => congrArg Int32.toInt (f 148 rfl i)).trans r48, (funext fun i => congrArg Int32.toInt (f 149 rfl i)).trans r49, x50, x51, x52, x53, x54⟩, ⟨(congrArg Int32.toInt (f 118 rfl 44)).trans n1, (congrArg Int32.toInt (f 118 rfl 54)).trans n2, (congrArg Int32.toInt (f 118 rfl 18)).trans n3⟩, ⟨(funext fun i => congrArg Int32.toInt (f 127 rfl i)).trans t27, (funext fun i => congrArg Int32.toInt (f 128 rfl i)).trans t28, (funext fun i => congrArg Int32.toInt (f 129 rfl i)).trans t29, (funext fun i => congrArg Int32.toInt (f 131 rfl i)).trans t31, (funext fun i => congrArg Int32.toInt (f 132 rfl i)).trans t32⟩⟩
  · rw [ulS_2 (e1.trans e).symm]
    rw [ef] at x50 x51 x52 x53
    exact ⟨⟨(funext fun i => congrArg Int32.toInt (f 146 rfl i)).trans r46, (funext fun i => congrArg Int32.toInt (f 147 rfl i)).trans r47, (funext fun i => congrArg Int32.toInt (f 148 rfl i)).trans r48, (funext fun i => congrArg Int32.toInt (f 149 rfl i)).trans r49, x50, x51, x52, x53, x54⟩, ⟨(congrArg Int32.toInt (f 118 rfl 44)).trans n1, (congrArg Int32.toInt (f 118 rfl 54)).trans n2, (congrArg Int32.toInt (f 118 rfl 18)).trans n3⟩, ⟨(funext fun i => congrArg Int32.toInt (f 127 rfl i)).trans t27, (funext fun i => congrArg Int32.toInt (f 128 rfl i)).trans t28, (funext fun i => congrArg Int32.toInt (f 129 rfl i)).trans t29, (funext fun i => congrArg Int32.toInt (f 131 rfl i)).trans t31, (funext fun i => congrArg Int32.toInt (f 132 rfl i)).trans t32⟩⟩
