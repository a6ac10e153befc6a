/-! loading and unloading: runs that end, and what they leave -/
/-- the cells of the reference are as the functions A tell -/
noncomputable def zR (A : Nat → Nat → Int) (I : Nat → Nat → Int32) : Prop := (pI I 146 = A 146 ∧ pI I 147 = A 147 ∧ pI I 148 = A 148 ∧ pI I 149 = A 149 ∧ pI I 150 = A 150 ∧ pI I 151 = A 151 ∧ pI I 152 = A 152 ∧ pI I 153 = A 153 ∧ pI I 154 = A 154) ∧ ((I 118 44).toInt = A 118 44 ∧ (I 118 54).toInt = A 118 54 ∧ (I 118 18).toInt = A 118 18) ∧ (pI I 127 = A 127 ∧ pI I 128 = A 128 ∧ pI I 129 = A 129 ∧ pI I 131 = A 131 ∧ pI I 132 = A 132)
theorem zR_I (I : Nat → Nat → Int32) : zR (pI I) I := ⟨⟨rfl, rfl, rfl, rfl, rfl, rfl, rfl, rfl, rfl⟩, ⟨rfl, rfl, rfl⟩, ⟨rfl, rfl, rfl, rfl, rfl⟩⟩
/-- the same heap, told twice -/
theorem hp_uq {l : List (Nat × Nat)} {I I' : Nat → Nat → Int32} {J J' : Nat → Nat → Int64} {R R' : Nat → Nat → Option Nat} (h : ((l, I, J, R) : qm_H) = (l, I', J', R')) : I = I' ∧ J = J' := by
  injection h with _ h
  injection h with h1 h
  injection h with h2 _
  exact ⟨h1, h2⟩
theorem zR_n0 {s : Nat} {A : Nat → Nat → Int} {I : Nat → Nat → Int32} (hi : zI s A) (hr : zR A I) : (0 ≤ (I 118 44).toInt ∧ (I 118 44).toInt ≤ 30) ∧ (I 118 44).toInt.toNat = (A 118 44).toNat := by
  rw [hr.2.1.1]
  exact ⟨hi.2.2.1, rfl⟩
theorem hz_cload29 {L : Nat} {xs : Nat → Int32} {Z : Option Value → qm_H → Prop} {h : qm_H} {d : Nat} {A : Nat → Nat → Int} {b y x : Int32} (h6 : 6 ≤ L) (hH : hk_H h) (hT : h.2.2.2 0 9 = some 111 ∧ h.2.2.2 28 2 = some 29) (hB : hk_B h.2.1) (hV : v_C h.2.1) (hi : zI 0 A) (hc : zC A h.2.1) (hm : zM 29 0 A h.2.1) (hd : 40 ≤ d) (k : ∀ (I : Nat → Nat → Int32) (v : Int32), hk_B I → v_C I → (∀ o, [6, 7, 8, 9, 10, 11, 12, 13, 14, 16, 17, 28, 36, 37].contains o = false → ∀ i, I o i = h.2.1 o i) → zC (ldS 0 A b y x) I → v.toInt = ldV 0 A b y x → Z (some (.int v)) (h.1, I, h.2.2.1, h.2.2.2)) : qm_Ru (some (L, xs)) d (qm_F 86).2 (qm_ent (qm_F 86).1 [.ref 28, .int b, .int y, .int x] h) Z := by
  have w := hc_loading29 L xs d (fun r h' => ∃ (I : Nat → Nat → Int32) (J : Nat → Nat → Int64), h' = (h.1, I, J, h.2.2.2) ∧ hk_B I ∧ v_C I ∧ (∀ o, [6, 7, 8, 9, 10, 11, 12, 13, 14, 16, 17, 28, 36, 37].contains o = false → ∀ i, I o i = h.2.1 o i)) h [.ref 28, .int b, .int y, .int x] h6 hH hT hB hV ⟨b, y, x, rfl, qa_in_full b, qa_in_full y, qa_in_full x⟩ hd (fun r I J _ hB' hV' e => ⟨I, J, rfl, hB', hV', e⟩)
  have hcc := hc
  obtain ⟨⟨c1, c2, c3, c4, c5, c6, c7, c8⟩, ⟨c9, c10⟩, hp, hs⟩ := hc
  obtain ⟨ms, m0, m1, m2, m3, m4, m6, m7⟩ := hm
  have nA := hi.2.2.1
  have z1 : -3600 ≤ (h.2.1 28 5).toInt ∧ (h.2.1 28 5).toInt ≤ 3600 := by
    rw [hs.1]
    exact zL_in hi.2.1.1 (by omega)
  have z2 : 0 ≤ (h.2.1 28 6).toInt ∧ (h.2.1 28 6).toInt ≤ 1200 := by
    rw [hs.2.1]
    exact zA_in (sp := A 151) hi.2.1.1 (by omega)
  have z3 : ∀ c, c < 5 → 0 ≤ pI h.2.1 37 c ∧ pI h.2.1 37 c ≤ 1200 := fun c hc => by
    rw [hs.2.2 c hc]
    exact zB_in hi.2.1.1 (by omega)
  have e := ld_C (b := b) (y := y) (x := x) (n := h.2.1 6 0) (B := h.2.1 29 0) (g0 := h.2.1 29 1) (g1 := h.2.1 29 2) (g2 := h.2.1 29 3) (l := h.2.1 29 4) (cv := h.2.1 28 4) hi hp hs c10 m0 m1 m2 m3 m4 c9
  have ef : frV (h.2.1 28 4) y x.toInt (A 152) = frA A y x.toInt := by
    unfold frA
    rw [← c9, Int32.ofInt_toInt]
  have g := w.both (Q2 := fun r h' => ∃ (I : Nat → Nat → Int32) (v : Int32), h' = (h.1, I, h.2.2.1, h.2.2.2) ∧ r = some (.int v) ∧ zC (ldS 0 A b y x) I ∧ v.toInt = ldV 0 A b y x) (fun fu => px_cload29 (X := some (L, xs)) hH (n := h.2.1 6 0) rfl (by rw [c10]; exact nA) c1 c5 rfl rfl rfl c6 c7 c8 rfl hi.2.1.1 hi.2.1.2.1 hi.2.1.2.2.2.1 hi.2.1.2.2.2.2.2 hi.2.1.2.2.2.2.1 z3 rfl z1 rfl z2 rfl hT.2 rfl (by rw [m0]; exact hi.2.2.2) rfl rfl rfl rfl (fun b hb => ((hp b).2.1 hb).2.2.1) (fun r e1 e2 => ⟨h.2.1, r, rfl, rfl, ld_zC0 hcc (by rw [← e, ← e1]; exact e2), e1.trans e⟩) (fun I r l2 w2 f x28 q5 q6 e1 e2 x5 x6 x11 x12 x13 x14 x36 x16 x17 x37 => ⟨I, r, rfl, rfl, ld_zC1 hi hcc (by rw [← e, ← e1]; exact e2) (funext fun i => congrArg Int32.toInt (f 7 rfl i)) (funext fun i => congrArg Int32.toInt (f 8 rfl i)) (funext fun i => congrArg Int32.toInt (f 9 rfl i)) (funext fun i => congrArg Int32.toInt (f 10 rfl i)) (x28 4 rfl) (f 6 rfl 0) q5 q6 x5 x6 x11 x12 x13 (by rw [← ef]; exact x14) (by rw [← ef]; exact x36) x16 x17 x37, e1.trans e⟩))
  refine g.mono (fun r h' q => ?_)
  obtain ⟨⟨I, J, rfl, b1, b2, b3⟩, I', v, e1, rfl, b4, b5⟩ := q
  obtain ⟨rfl, rfl⟩ := hp_uq e1
  exact k I v b1 b2 b3 b4 b5
theorem hz_cload111 {L : Nat} {xs : Nat → Int32} {Z : Option Value → qm_H → Prop} {h : qm_H} {d : Nat} {A : Nat → Nat → Int} {b y x : Int32} (h6 : 6 ≤ L) (hH : hk_H h) (hT : h.2.2.2 0 9 = some 29 ∧ h.2.2.2 28 2 = some 111) (hB : hk_B h.2.1) (hV : v_C h.2.1) (hi : zI 1 A) (hc : zC A h.2.1) (hm : zM 111 1 A h.2.1) (hd : 40 ≤ d) (k : ∀ (I : Nat → Nat → Int32) (v : Int32), hk_B I → v_C I → (∀ o, [6, 7, 8, 9, 10, 11, 12, 13, 14, 16, 17, 28, 36, 37].contains o = false → ∀ i, I o i = h.2.1 o i) → zC (ldS 1 A b y x) I → v.toInt = ldV 1 A b y x → Z (some (.int v)) (h.1, I, h.2.2.1, h.2.2.2)) : qm_Ru (some (L, xs)) d (qm_F 86).2 (qm_ent (qm_F 86).1 [.ref 28, .int b, .int y, .int x] h) Z := by
  have w := hc_loading111 L xs d (fun r h' => ∃ (I : Nat → Nat → Int32) (J : Nat → Nat → Int64), h' = (h.1, I, J, h.2.2.2) ∧ hk_B I ∧ v_C I ∧ (∀ o, [6, 7, 8, 9, 10, 11, 12, 13, 14, 16, 17, 28, 36, 37].contains o = false → ∀ i, I o i = h.2.1 o i)) h [.ref 28, .int b, .int y, .int x] h6 hH hT hB hV ⟨b, y, x, rfl, qa_in_full b, qa_in_full y, qa_in_full x⟩ hd (fun r I J _ hB' hV' e => ⟨I, J, rfl, hB', hV', e⟩)
  have hcc := hc
  obtain ⟨⟨c1, c2, c3, c4, c5, c6, c7, c8⟩, ⟨c9, c10⟩, hp, hs⟩ := hc
  obtain ⟨ms, m0, m1, m2, m3, m4, m6, m7⟩ := hm
  have nA := hi.2.2.1
  have z1 : -3600 ≤ (h.2.1 28 5).toInt ∧ (h.2.1 28 5).toInt ≤ 3600 := by
    rw [hs.1]
    exact zL_in hi.2.1.1 (by omega)
  have z2 : 0 ≤ (h.2.1 28 6).toInt ∧ (h.2.1 28 6).toInt ≤ 1200 := by
    rw [hs.2.1]
    exact zA_in (sp := A 151) hi.2.1.1 (by omega)
  have z3 : ∀ c, c < 5 → 0 ≤ pI h.2.1 37 c ∧ pI h.2.1 37 c ≤ 1200 := fun c hc => by
    rw [hs.2.2 c hc]
    exact zB_in hi.2.1.1 (by omega)
  have e := ld_C (b := b) (y := y) (x := x) (n := h.2.1 6 0) (B := h.2.1 111 0) (g0 := h.2.1 111 1) (g1 := h.2.1 111 2) (g2 := h.2.1 111 3) (l := h.2.1 111 4) (cv := h.2.1 28 4) hi hp hs c10 m0 m1 m2 m3 m4 c9
  have ef : frV (h.2.1 28 4) y x.toInt (A 152) = frA A y x.toInt := by
    unfold frA
    rw [← c9, Int32.ofInt_toInt]
  have g := w.both (Q2 := fun r h' => ∃ (I : Nat → Nat → Int32) (v : Int32), h' = (h.1, I, h.2.2.1, h.2.2.2) ∧ r = some (.int v) ∧ zC (ldS 1 A b y x) I ∧ v.toInt = ldV 1 A b y x) (fun fu => px_cload111 (X := some (L, xs)) hH (n := h.2.1 6 0) rfl (by rw [c10]; exact nA) c1 c5 rfl rfl rfl c6 c7 c8 rfl hi.2.1.1 hi.2.1.2.1 hi.2.1.2.2.2.1 hi.2.1.2.2.2.2.2 hi.2.1.2.2.2.2.1 z3 rfl z1 rfl z2 rfl hT.2 rfl (by rw [m0]; exact hi.2.2.2) rfl rfl rfl rfl (fun b hb => ((hp b).2.1 hb).2.2.1) (fun r e1 e2 => ⟨h.2.1, r, rfl, rfl, ld_zC0 hcc (by rw [← e, ← e1]; exact e2), e1.trans e⟩) (fun I r l2 w2 f x28 q5 q6 e1 e2 x5 x6 x11 x12 x13 x14 x36 x16 x17 x37 => ⟨I, r, rfl, rfl, ld_zC1 hi hcc (by rw [← e, ← e1]; exact e2) (funext fun i => congrArg Int32.toInt (f 7 rfl i)) (funext fun i => congrArg Int32.toInt (f 8 rfl i)) (funext fun i => congrArg Int32.toInt (f 9 rfl i)) (funext fun i => congrArg Int32.toInt (f 10 rfl i)) (x28 4 rfl) (f 6 rfl 0) q5 q6 x5 x6 x11 x12 x13 (by rw [← ef]; exact x14) (by rw [← ef]; exact x36) x16 x17 x37, e1.trans e⟩))
  refine g.mono (fun r h' q => ?_)
  obtain ⟨⟨I, J, rfl, b1, b2, b3⟩, I', v, e1, rfl, b4, b5⟩ := q
  obtain ⟨rfl, rfl⟩ := hp_uq e1
  exact k I v b1 b2 b3 b4 b5
theorem hz_rload0 {L : Nat} {xs : Nat → Int32} {Z : Option Value → qm_H → Prop} {h : qm_H} {d : Nat} {A : Nat → Nat → Int} {b y x : Int32} (h6 : 6 ≤ L) (hH : hk_H h) (hB : hk_B h.2.1) (hV : v_S h.2.1) (hi : zI 0 A) (hr : zR A h.2.1) (hl : A 118 18 = 0) (hd : 60 ≤ d) (k : ∀ (I : Nat → Nat → Int32) (v : Int32), hk_B I → v_S I → (∀ o, [150, 151, 152, 153, 154, 155, 156].contains o = false → ∀ i, I o i = h.2.1 o i) → zR (ldS 0 A b y x) I → v.toInt = ldV 0 A b y x → Z (some (.int v)) (h.1, I, h.2.2.1, h.2.2.2)) : qm_Ru (some (L, xs)) d (qm_F 284).2 (qm_ent (qm_F 284).1 [.ref 118, .int b, .int y, .int x] h) Z := by
  have w := hcS_rload L xs d (fun r h' => ∃ (I : Nat → Nat → Int32) (J : Nat → Nat → Int64), h' = (h.1, I, J, h.2.2.2) ∧ hk_B I ∧ v_S I ∧ (∀ o, [146, 147, 148, 149, 150, 151, 152, 153, 154, 155, 156].contains o = false → ∀ i, I o i = h.2.1 o i)) h [.ref 118, .int b, .int y, .int x] h6 hH trivial hB hV ⟨b, y, x, rfl⟩ hd (fun r I J _ hB' hV' e => ⟨I, J, rfl, hB', hV', e⟩)
  have nA := zR_n0 hi hr
  have hE := hi.1.1.2.2.1
  obtain ⟨⟨r46, r47, r48, r49, r50, r51, r52, r53, r54⟩, ⟨n1, n2, n3⟩, ⟨t27, t28, t29, t31, t32⟩⟩ := hr
  have g1 : h.2.1 118 18 = 0 := hk_eqi.mpr (n3.trans hl)
  have fB : (h.2.1 127 0).toInt = A 127 0 := congrFun t27 0
  have f0 : (h.2.1 128 0).toInt = A 128 (3 * 0) := congrFun t28 0
  have f1 : (h.2.1 128 1).toInt = A 128 (3 * 0 + 1) := congrFun t28 1
  have f2 : (h.2.1 128 2).toInt = A 128 (3 * 0 + 2) := congrFun t28 2
  have fl : (h.2.1 129 0).toInt = A 129 0 := congrFun t29 0
  have ef : frV (h.2.1 118 54) y x.toInt (A 152) = frA A y x.toInt := by
    unfold frA
    rw [← n2, Int32.ofInt_toInt]
  have e : tryV (h.2.1 118 44).toInt b.toInt (okb (A 150 b.toInt.toNat = 0 ∨ (A 150 b.toInt.toNat = 2 ∧ A 151 b.toInt.toNat % 4 = A 154 (A 151 b.toInt.toNat / 4).toNat - 1))) y.toInt x.toInt (h.2.1 127 0).toInt (frV (h.2.1 118 54) y x.toInt (A 152)) (A 146 b.toInt.toNat) (h.2.1 129 0).toInt (okb (mayP (h.2.1 127 0).toInt (h.2.1 128 0).toInt (h.2.1 128 1).toInt (h.2.1 128 2).toInt (ab (zL (A 146) (A 150) (A 151) (h.2.1 118 44).toInt.toNat)) (ab (zT (h.2.1 127 0).toInt (A 146) (A 150) (A 151) (h.2.1 118 44).toInt.toNat)) (zD (h.2.1 127 0).toInt (A 146) (A 150) (A 151) (h.2.1 118 44).toInt.toNat) (A 146) (fu_up (A 150) b.toInt.toNat 1) (fu_up (A 151) b.toInt.toNat (frV (h.2.1 118 54) y x.toInt (A 152))) (h.2.1 118 44).toInt.toNat)) = ldV 0 A b y x := by
    rw [ef, n1, fB, f0, f1, f2, fl]
    rfl
  have y0 : 0 ≤ b.toInt → A 150 b.toInt.toNat = 2 → A 153 (A 151 b.toInt.toNat).toNat = b.toInt := fun c z => by
    obtain ⟨g, i, g1, i1, k1, k2, k3⟩ := hE b.toInt.toNat z
    rw [show (A 151 b.toInt.toNat).toNat = 4 * g + i by omega, k3]
    omega
  have g := w.both (Q2 := fun r h' => ∃ (I : Nat → Nat → Int32) (v : Int32), h' = (h.1, I, h.2.2.1, h.2.2.2) ∧ r = some (.int v) ∧ (∀ o, [150, 151, 152, 153, 154, 155, 156].contains o = false → ∀ i, I o i = h.2.1 o i) ∧ zR (ldS 0 A b y x) I ∧ v.toInt = ldV 0 A b y x) (fun fu => px_load0 (X := some (L, xs)) hH r46 r50 r51 rfl nA.1 hi.2.1.1 hi.2.1.2.2.1 g1 rfl (by rw [fB]; exact hi.2.2.2) rfl rfl rfl r52 r53 r54 hi.2.1.2.2.2.2.2 rfl rfl y0 (fun I v f e1 e2 x50 x51 x52 x53 x54 => ⟨I, v, rfl, rfl, f, ?_, e1.trans e⟩) (fun I v f e1 e2 x50 x51 x52 x53 x54 => ⟨I, v, rfl, rfl, f, ?_, e1.trans e⟩))
  · refine g.mono (fun r h' q => ?_)
    obtain ⟨⟨I, J, rfl, b1, b2, b3⟩, I', v, e1, rfl, b4, b5, b6⟩ := q
    obtain ⟨rfl, rfl⟩ := hp_uq e1
    exact k I v b1 b2 b4 b5 b6
  · have e3 := e1.trans e
    unfold ldS
    rw [if_neg (by omega)]
    rw [ef, e3] at x51
    exact ⟨⟨(funext fun i => congrArg Int32.toInt (f 146 rfl i)).trans r46, (funext fun i => congrArg Int32.toInt (f 147 rfl i)).trans r47, (funext fun i => congrArg Int32.toInt (f 148 rfl i)).trans r48, (funext fun i => congrArg Int32.toInt (f 149 rfl i)).trans r49, x50, x51, x52, x53, x54⟩, ⟨(congrArg Int32.toInt (f 118 rfl 44)).trans n1, (congrArg Int32.toInt (f 118 rfl 54)).trans n2, (congrArg Int32.toInt (f 118 rfl 18)).trans n3⟩, ⟨(funext fun i => congrArg Int32.toInt (f 127 rfl i)).trans t27, (funext fun i => congrArg Int32.toInt (f 128 rfl i)).trans t28, (funext fun i => congrArg Int32.toInt (f 129 rfl i)).trans t29, (funext fun i => congrArg Int32.toInt (f 131 rfl i)).trans t31, (funext fun i => congrArg Int32.toInt (f 132 rfl i)).trans t32⟩⟩
  · have e3 := e1.trans e
    unfold ldS
    rw [if_pos (by omega)]
    rw [ef] at x51 x52
    exact ⟨⟨(funext fun i => congrArg Int32.toInt (f 146 rfl i)).trans r46, (funext fun i => congrArg Int32.toInt (f 147 rfl i)).trans r47, (funext fun i => congrArg Int32.toInt (f 148 rfl i)).trans r48, (funext fun i => congrArg Int32.toInt (f 149 rfl i)).trans r49, x50, x51, x52, x53, x54⟩, ⟨(congrArg Int32.toInt (f 118 rfl 44)).trans n1, (congrArg Int32.toInt (f 118 rfl 54)).trans n2, (congrArg Int32.toInt (f 118 rfl 18)).trans n3⟩, ⟨(funext fun i => congrArg Int32.toInt (f 127 rfl i)).trans t27, (funext fun i => congrArg Int32.toInt (f 128 rfl i)).trans t28, (funext fun i => congrArg Int32.toInt (f 129 rfl i)).trans t29, (funext fun i => congrArg Int32.toInt (f 131 rfl i)).trans t31, (funext fun i => congrArg Int32.toInt (f 132 rfl i)).trans t32⟩⟩
theorem hz_rload1 {L : Nat} {xs : Nat → Int32} {Z : Option Value → qm_H → Prop} {h : qm_H} {d : Nat} {A : Nat → Nat → Int} {b y x : Int32} (h6 : 6 ≤ L) (hH : hk_H h) (hB : hk_B h.2.1) (hV : v_S h.2.1) (hi : zI 1 A) (hr : zR A h.2.1) (hl : A 118 18 = 1) (hd : 60 ≤ d) (k : ∀ (I : Nat → Nat → Int32) (v : Int32), hk_B I → v_S I → (∀ o, [150, 151, 152, 153, 154, 155, 156].contains o = false → ∀ i, I o i = h.2.1 o i) → zR (ldS 1 A b y x) I → v.toInt = ldV 1 A b y x → Z (some (.int v)) (h.1, I, h.2.2.1, h.2.2.2)) : qm_Ru (some (L, xs)) d (qm_F 284).2 (qm_ent (qm_F 284).1 [.ref 118, .int b, .int y, .int x] h) Z := by
  have w := hcS_rload L xs d (fun r h' => ∃ (I : Nat → Nat → Int32) (J : Nat → Nat → Int64), h' = (h.1, I, J, h.2.2.2) ∧ hk_B I ∧ v_S I ∧ (∀ o, [146, 147, 148, 149, 150, 151, 152, 153, 154, 155, 156].contains o = false → ∀ i, I o i = h.2.1 o i)) h [.ref 118, .int b, .int y, .int x] h6 hH trivial hB hV ⟨b, y, x, rfl⟩ hd (fun r I J _ hB' hV' e => ⟨I, J, rfl, hB', hV', e⟩)
  have nA := zR_n0 hi hr
  have hE := hi.1.1.2.2.1
  obtain ⟨⟨r46, r47, r48, r49, r50, r51, r52, r53, r54⟩, ⟨n1, n2, n3⟩, ⟨t27, t28, t29, t31, t32⟩⟩ := hr
  have g1 : h.2.1 118 18 = 1 := hk_eqi.mpr (n3.trans hl)
  have fB : (h.2.1 127 1).toInt = A 127 1 := congrFun t27 1
  have f0 : (h.2.1 128 3).toInt = A 128 (3 * 1) := congrFun t28 3
  have f1 : (h.2.1 128 4).toInt = A 128 (3 * 1 + 1) := congrFun t28 4
  have f2 : (h.2.1 128 5).toInt = A 128 (3 * 1 + 2) := congrFun t28 5
  have fl : (h.2.1 129 1).toInt = A 129 1 := congrFun t29 1
  have ef : frV (h.2.1 118 54) y x.toInt (A 152) = frA A y x.toInt := by
    unfold frA
    rw [← n2, Int32.ofInt_toInt]
  have e : tryV (h.2.1 118 44).toInt b.toInt (okb (A 150 b.toInt.toNat = 0 ∨ (A 150 b.toInt.toNat = 2 ∧ A 151 b.toInt.toNat % 4 = A 154 (A 151 b.toInt.toNat / 4).toNat - 1))) y.toInt x.toInt (h.2.1 127 1).toInt (frV (h.2.1 118 54) y x.toInt (A 152)) (A 146 b.toInt.toNat) (h.2.1 129 1).toInt (okb (mayP (h.2.1 127 1).toInt (h.2.1 128 3).toInt (h.2.1 128 4).toInt (h.2.1 128 5).toInt (ab (zL (A 146) (A 150) (A 151) (h.2.1 118 44).toInt.toNat)) (ab (zT (h.2.1 127 1).toInt (A 146) (A 150) (A 151) (h.2.1 118 44).toInt.toNat)) (zD (h.2.1 127 1).toInt (A 146) (A 150) (A 151) (h.2.1 118 44).toInt.toNat) (A 146) (fu_up (A 150) b.toInt.toNat 1) (fu_up (A 151) b.toInt.toNat (frV (h.2.1 118 54) y x.toInt (A 152))) (h.2.1 118 44).toInt.toNat)) = ldV 1 A b y x := by
    rw [ef, n1, fB, f0, f1, f2, fl]
    rfl
  have y0 : 0 ≤ b.toInt → A 150 b.toInt.toNat = 2 → A 153 (A 151 b.toInt.toNat).toNat = b.toInt := fun c z => by
    obtain ⟨g, i, g1, i1, k1, k2, k3⟩ := hE b.toInt.toNat z
    rw [show (A 151 b.toInt.toNat).toNat = 4 * g + i by omega, k3]
    omega
  have g := w.both (Q2 := fun r h' => ∃ (I : Nat → Nat → Int32) (v : Int32), h' = (h.1, I, h.2.2.1, h.2.2.2) ∧ r = some (.int v) ∧ (∀ o, [150, 151, 152, 153, 154, 155, 156].contains o = false → ∀ i, I o i = h.2.1 o i) ∧ zR (ldS 1 A b y x) I ∧ v.toInt = ldV 1 A b y x) (fun fu => px_load1 (X := some (L, xs)) hH r46 r50 r51 rfl nA.1 hi.2.1.1 hi.2.1.2.2.1 g1 rfl (by rw [fB]; exact hi.2.2.2) rfl rfl rfl r52 r53 r54 hi.2.1.2.2.2.2.2 rfl rfl y0 (fun I v f e1 e2 x50 x51 x52 x53 x54 => ⟨I, v, rfl, rfl, f, ?_, e1.trans e⟩) (fun I v f e1 e2 x50 x51 x52 x53 x54 => ⟨I, v, rfl, rfl, f, ?_, e1.trans e⟩))
  · refine g.mono (fun r h' q => ?_)
    obtain ⟨⟨I, J, rfl, b1, b2, b3⟩, I', v, e1, rfl, b4, b5, b6⟩ := q
    obtain ⟨rfl, rfl⟩ := hp_uq e1
    exact k I v b1 b2 b4 b5 b6
  · have e3 := e1.trans e
    unfold ldS
    rw [if_neg (by omega)]
    rw [ef, e3] at x51
    exact ⟨⟨(funext fun i => congrArg Int32.toInt (f 146 rfl i)).trans r46, (funext fun i => congrArg Int32.toInt (f 147 rfl i)).trans r47, (funext fun i => congrArg Int32.toInt (f 148 rfl i)).trans r48, (funext fun i => congrArg Int32.toInt (f 149 rfl i)).trans r49, x50, x51, x52, x53, x54⟩, ⟨(congrArg Int32.toInt (f 118 rfl 44)).trans n1, (congrArg Int32.toInt (f 118 rfl 54)).trans n2, (congrArg Int32.toInt (f 118 rfl 18)).trans n3⟩, ⟨(funext fun i => congrArg Int32.toInt (f 127 rfl i)).trans t27, (funext fun i => congrArg Int32.toInt (f 128 rfl i)).trans t28, (funext fun i => congrArg Int32.toInt (f 129 rfl i)).trans t29, (funext fun i => congrArg Int32.toInt (f 131 rfl i)).trans t31, (funext fun i => congrArg Int32.toInt (f 132 rfl i)).trans t32⟩⟩
  · have e3 := e1.trans e
    unfold ldS
    rw [if_pos (by omega)]
    rw [ef] at x51 x52
    exact ⟨⟨(funext fun i => congrArg Int32.toInt (f 146 rfl i)).trans r46, (funext fun i => congrArg Int32.toInt (f 147 rfl i)).trans r47, (funext fun i => congrArg Int32.toInt (f 148 rfl i)).trans r48, (funext fun i => congrArg Int32.toInt (f 149 rfl i)).trans r49, x50, x51, x52, x53, x54⟩, ⟨(congrArg Int32.toInt (f 118 rfl 44)).trans n1, (congrArg Int32.toInt (f 118 rfl 54)).trans n2, (congrArg Int32.toInt (f 118 rfl 18)).trans n3⟩, ⟨(funext fun i => congrArg Int32.toInt (f 127 rfl i)).trans t27, (funext fun i => congrArg Int32.toInt (f 128 rfl i)).trans t28, (funext fun i => congrArg Int32.toInt (f 129 rfl i)).trans t29, (funext fun i => congrArg Int32.toInt (f 131 rfl i)).trans t31, (funext fun i => congrArg Int32.toInt (f 132 rfl i)).trans t32⟩⟩
