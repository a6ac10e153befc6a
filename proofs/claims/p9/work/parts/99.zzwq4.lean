/-! the simple ops: runs that end, and what they leave -/
noncomputable def bxC (A : Nat → Nat → Int) (w p s : Int) : Prop := A 118 44 < 30 ∧ (1 ≤ w ∧ w ≤ 40) ∧ (0 ≤ p ∧ p ≤ 4) ∧ (0 ≤ s ∧ s ≤ 5)
noncomputable def bxS (A : Nat → Nat → Int) (w p s : Int) : Nat → Nat → Int := bif okb (bxC A w p s) then mkS A w p s else A
theorem bxS_1 {A : Nat → Nat → Int} {w p s : Int} (h : bxC A w p s) : bxS A w p s = mkS A w p s := by
  unfold bxS
  rw [okb_t h]
  rfl
theorem bxS_0 {A : Nat → Nat → Int} {w p s : Int} (h : ¬ bxC A w p s) : bxS A w p s = A := by
  unfold bxS
  rw [okb_f h]
  rfl
noncomputable def stC (A : Nat → Nat → Int) (b g : Int) : Prop := 0 ≤ b ∧ b < A 118 44 ∧ 0 ≤ g ∧ g ≤ 3 ∧ A 150 b.toNat = 0 ∧ A 154 g.toNat ≤ 3
noncomputable def stT (A : Nat → Nat → Int) (b g : Int) : Nat → Nat → Int := bif okb (stC A b g) then stS A b g else A
noncomputable def stV (A : Nat → Nat → Int) (b g : Int) : Int := bif okb (stC A b g) then A 154 g.toNat else -1
theorem stT_1 {A : Nat → Nat → Int} {b g : Int} (h : stC A b g) : stT A b g = stS A b g ∧ stV A b g = A 154 g.toNat := by
  unfold stT stV
  rw [okb_t h]
  exact ⟨rfl, rfl⟩
theorem stT_0 {A : Nat → Nat → Int} {b g : Int} (h : ¬ stC A b g) : stT A b g = A ∧ stV A b g = -1 := by
  unfold stT stV
  rw [okb_f h]
  exact ⟨rfl, rfl⟩
noncomputable def cvC (s : Nat) (A : Nat → Nat → Int) (y on : Int32) : Prop := 0 ≤ y.toInt ∧ y.toInt < A 127 s ∧ ¬ ((((Int32.ofInt (A 118 54)) >>> (y &&& 31)) &&& 1).toInt = 1 ↔ on.toInt = 1) ∧ (on.toInt = 0 → ¬ dkV (A 152) y.toInt)
noncomputable def cvT (s : Nat) (A : Nat → Nat → Int) (y on : Int32) : Nat → Nat → Int := bif okb (cvC s A y on) then cvS A ((Int32.ofInt (A 118 54)) ^^^ (1 <<< (y &&& 31))).toInt else A
noncomputable def cvV (s : Nat) (A : Nat → Nat → Int) (y on : Int32) : Int := bif okb (cvC s A y on) then 1 else 0
theorem cvT_1 {s : Nat} {A : Nat → Nat → Int} {y on : Int32} (h : cvC s A y on) : cvT s A y on = cvS A ((Int32.ofInt (A 118 54)) ^^^ (1 <<< (y &&& 31))).toInt ∧ cvV s A y on = 1 := by
  unfold cvT cvV
  rw [okb_t h]
  exact ⟨rfl, rfl⟩
theorem cvT_0 {s : Nat} {A : Nat → Nat → Int} {y on : Int32} (h : ¬ cvC s A y on) : cvT s A y on = A ∧ cvV s A y on = 0 := by
  unfold cvT cvV
  rw [okb_f h]
  exact ⟨rfl, rfl⟩
noncomputable def skT (A : Nat → Nat → Int) (b on : Int) : Nat → Nat → Int := bif okb (0 ≤ b ∧ b < A 118 44) then skS A b.toNat on else A
theorem skT_1 {A : Nat → Nat → Int} {b on : Int} (h : 0 ≤ b ∧ b < A 118 44) : skT A b on = skS A b.toNat on := by
  unfold skT
  rw [okb_t h]
  rfl
theorem skT_0 {A : Nat → Nat → Int} {b on : Int} (h : ¬ (0 ≤ b ∧ b < A 118 44)) : skT A b on = A := by
  unfold skT
  rw [okb_f h]
  rfl
/-- some objects of the reference are written, and no others -/
theorem zR_cg {A A' : Nat → Nat → Int} {I I' : Nat → Nat → Int32} (hr : zR A I) (e : ∀ o ∈ [127, 128, 129, 131, 132, 146, 147, 148, 149, 150, 151, 152, 153, 154], pI I' o = A' o ∨ (pI I' o = pI I o ∧ A' o = A o)) (e44 : (I' 118 44).toInt = A' 118 44 ∨ (I' 118 44 = I 118 44 ∧ A' 118 44 = A 118 44)) (e54 : (I' 118 54).toInt = A' 118 54 ∨ (I' 118 54 = I 118 54 ∧ A' 118 54 = A 118 54)) (e18 : I' 118 18 = I 118 18 ∧ A' 118 18 = A 118 18) : zR A' I' := by
  obtain ⟨⟨r46, r47, r48, r49, r50, r51, r52, r53, r54⟩, ⟨n1, n2, n3⟩, ⟨t27, t28, t29, t31, t32⟩⟩ := hr
  have g : ∀ o ∈ [127, 128, 129, 131, 132, 146, 147, 148, 149, 150, 151, 152, 153, 154], pI I o = A o → pI I' o = A' o := fun o ho k => (e o ho).elim id (fun z => z.1.trans (k.trans z.2.symm))
  exact ⟨⟨g 146 (by decide) r46, g 147 (by decide) r47, g 148 (by decide) r48, g 149 (by decide) r49, g 150 (by decide) r50, g 151 (by decide) r51, g 152 (by decide) r52, g 153 (by decide) r53, g 154 (by decide) r54⟩, ⟨e44.elim id (fun z => by rw [z.1, z.2]; exact n1), e54.elim id (fun z => by rw [z.1, z.2]; exact n2), by rw [e18.1, e18.2]; exact n3⟩, ⟨g 127 (by decide) t27, g 128 (by decide) t28, g 129 (by decide) t29, g 131 (by decide) t31, g 132 (by decide) t32⟩⟩
/-- the class's run leaves the reference's cells -/
theorem zR_c {A : Nat → Nat → Int} {I I' : Nat → Nat → Int32} (hr : zR A I) (e : ∀ o, [6, 7, 8, 9, 10, 11, 12, 13, 14, 16, 17, 28, 36, 37].contains o = false → ∀ i, I' o i = I o i) : zR A I' := zR_cg hr (fun o ho => Or.inr ⟨funext fun i => congrArg Int32.toInt (e o ((show ∀ o ∈ [127, 128, 129, 131, 132, 146, 147, 148, 149, 150, 151, 152, 153, 154], [6, 7, 8, 9, 10, 11, 12, 13, 14, 16, 17, 28, 36, 37].contains o = false from by decide) o ho) i), rfl⟩) (Or.inr ⟨e 118 rfl 44, rfl⟩) (Or.inr ⟨e 118 rfl 54, rfl⟩) ⟨e 118 rfl 18, rfl⟩
theorem hz_cmk {L : Nat} {xs : Nat → Int32} {Z : Option Value → qm_H → Prop} {h : qm_H} {d : Nat} {A : Nat → Nat → Int} {w p s : Int32} (h6 : 6 ≤ L) (hH : hk_H h) (hB : hk_B h.2.1) (hV : v_C h.2.1) (hc : zC A h.2.1) (hk : zK A) (nA : 0 ≤ A 118 44 ∧ A 118 44 ≤ 30) (hw : 1 ≤ w.toInt ∧ w.toInt ≤ 40) (hp : 0 ≤ p.toInt ∧ p.toInt ≤ 4) (hs : 0 ≤ s.toInt ∧ s.toInt ≤ 5) (hd : 20 ≤ d) (k : ∀ (I : Nat → Nat → Int32) (v : Int32), hk_B I → v_C I → (∀ o, [6, 7, 8, 9, 10, 11, 12, 13, 14, 16, 17, 28, 36, 37].contains o = false → ∀ i, I o i = h.2.1 o i) → zC (bxS A w.toInt p.toInt s.toInt) I → Z (some (.int v)) (h.1, I, h.2.2.1, h.2.2.2)) : qm_Ru (some (L, xs)) d (qm_F 66).2 (qm_ent (qm_F 66).1 [.ref 6, .int w, .int p, .int s] h) Z := by
  have w9 := hc_make L xs d (fun r h' => ∃ (I : Nat → Nat → Int32) (J : Nat → Nat → Int64), h' = (h.1, I, J, h.2.2.2) ∧ hk_B I ∧ v_C I ∧ (∀ o, [6, 7, 8, 9, 10, 11, 12, 13, 14, 16, 17, 28, 36, 37].contains o = false → ∀ i, I o i = h.2.1 o i)) h [.ref 6, .int w, .int p, .int s] h6 hH trivial hB hV ⟨w, p, s, rfl, ⟨by show (0 : Int) ≤ _; omega, hw.2⟩, hp, hs⟩ hd (fun r I J _ hB' hV' e => ⟨I, J, rfl, hB', hV', e⟩)
  have c10 := hc.2.1.2
  have g := w9.both (Q2 := fun r h' => ∃ (I : Nat → Nat → Int32) (v : Int32), h' = (h.1, I, h.2.2.1, h.2.2.2) ∧ r = some (.int v) ∧ zC (bxS A w.toInt p.toInt s.toInt) I) (fun fu => px_cmk (X := some (L, xs)) hH (n := h.2.1 6 0) rfl (by rw [c10]; exact nA) (fun z => ⟨h.2.1, -1, rfl, rfl, by rw [bxS_0 (fun q => by have := q.1; omega)]; exact hc⟩) (fun I n2 z f x6 q6 en x7 x8 x9 x11 x12 x13 x14 => ⟨I, h.2.1 6 0, rfl, rfl, by rw [bxS_1 ⟨by omega, hw, hp, hs⟩]; exact mk_zC hc hk nA.1 (funext fun i => congrArg Int32.toInt (f 10 rfl i)) (funext fun i => congrArg Int32.toInt (f 36 rfl i)) (funext fun i => congrArg Int32.toInt (f 16 rfl i)) (funext fun i => congrArg Int32.toInt (f 17 rfl i)) (funext fun i => congrArg Int32.toInt (f 37 rfl i)) (f 28 rfl 4) (f 28 rfl 5) (f 28 rfl 6) q6 en c10 x7 x8 x9 x11 x12 x13 x14⟩))
  refine g.mono (fun r h' q => ?_)
  obtain ⟨⟨I, J, rfl, b1, b2, b3⟩, I', v, e1, rfl, q⟩ := q
  obtain ⟨rfl, rfl⟩ := hp_uq e1
  exact k I v b1 b2 b3 q
theorem hz_cst {L : Nat} {xs : Nat → Int32} {Z : Option Value → qm_H → Prop} {h : qm_H} {d : Nat} {A : Nat → Nat → Int} {b g : Int32} (h6 : 6 ≤ L) (hH : hk_H h) (hB : hk_B h.2.1) (hV : v_C h.2.1) (hc : zC A h.2.1) (hi : ∃ s, zI s A) (hd : 20 ≤ d) (k : ∀ (I : Nat → Nat → Int32) (v : Int32), hk_B I → v_C I → (∀ o, [6, 7, 8, 9, 10, 11, 12, 13, 14, 16, 17, 28, 36, 37].contains o = false → ∀ i, I o i = h.2.1 o i) → zC (stT A b.toInt g.toInt) I ∧ v.toInt = stV A b.toInt g.toInt → Z (some (.int v)) (h.1, I, h.2.2.1, h.2.2.2)) : qm_Ru (some (L, xs)) d (qm_F 76).2 (qm_ent (qm_F 76).1 [.ref 0, .int b, .int g] h) Z := by
  obtain ⟨s, hi⟩ := hi
  have w9 := hc_store L xs d (fun r h' => ∃ (I : Nat → Nat → Int32) (J : Nat → Nat → Int64), h' = (h.1, I, J, h.2.2.2) ∧ hk_B I ∧ v_C I ∧ (∀ o, [6, 7, 8, 9, 10, 11, 12, 13, 14, 16, 17, 28, 36, 37].contains o = false → ∀ i, I o i = h.2.1 o i)) h [.ref 0, .int b, .int g] h6 hH trivial hB hV ⟨b, g, rfl, qa_in_full b, qa_in_full g⟩ hd (fun r I J _ hB' hV' e => ⟨I, J, rfl, hB', hV', e⟩)
  have hcc := hc
  obtain ⟨⟨c1, c2, c3, c4, c5, c6, c7, c8⟩, ⟨c9, c10⟩, hp, hs⟩ := hc
  have cc : (0 ≤ b.toInt ∧ b.toInt < (h.2.1 6 0).toInt ∧ 0 ≤ g.toInt ∧ g.toInt ≤ 3 ∧ pI h.2.1 11 b.toInt.toNat = 0 ∧ pI h.2.1 17 g.toInt.toNat ≤ 3) ↔ stC A b.toInt g.toInt := by
    rw [c10, c5, c8]
    exact Iff.rfl
  have g9 := w9.both (Q2 := fun r h' => ∃ (I : Nat → Nat → Int32) (v : Int32), h' = (h.1, I, h.2.2.1, h.2.2.2) ∧ r = some (.int v) ∧ zC (stT A b.toInt g.toInt) I ∧ v.toInt = stV A b.toInt g.toInt) (fun fu => px_cst (X := some (L, xs)) hH (n := h.2.1 6 0) rfl (by rw [c10]; exact hi.2.2.1) (fun i => hB 17 i) (fun z => ⟨h.2.1, -1, rfl, rfl, by rw [(stT_0 (fun q => z (cc.mpr q))).1]; exact hcc, (stT_0 (fun q => z (cc.mpr q))).2.symm⟩) (fun I r z f er x11 x12 x13 x14 x16 x17 => ⟨I, r, rfl, rfl, by rw [(stT_1 (cc.mp z)).1]; exact st_zC (n := 0) hcc z.1 (cc.mp z).2.2.2.2.1 ⟨z.2.2.1, z.2.2.2.1⟩ ⟨(hi.2.1.2.2.2.2.2 _).1, (cc.mp z).2.2.2.2.2⟩ (funext fun i => congrArg Int32.toInt (f 7 rfl i)) (funext fun i => congrArg Int32.toInt (f 8 rfl i)) (funext fun i => congrArg Int32.toInt (f 9 rfl i)) (funext fun i => congrArg Int32.toInt (f 10 rfl i)) (funext fun i => congrArg Int32.toInt (f 36 rfl i)) (funext fun i => congrArg Int32.toInt (f 37 rfl i)) (f 28 rfl 4) (f 28 rfl 5) (f 28 rfl 6) (f 6 rfl 0) x11 x12 x13 x14 x16 x17, er.trans (by rw [c8]; exact (stT_1 (cc.mp z)).2.symm)⟩))
  refine g9.mono (fun r h' q => ?_)
  obtain ⟨⟨I, J, rfl, b1, b2, b3⟩, I', v, e1, rfl, q⟩ := q
  obtain ⟨rfl, rfl⟩ := hp_uq e1
  exact k I v b1 b2 b3 q
theorem hz_rst {L : Nat} {xs : Nat → Int32} {Z : Option Value → qm_H → Prop} {h : qm_H} {d : Nat} {A : Nat → Nat → Int} {b g : Int32} (h6 : 6 ≤ L) (hH : hk_H h) (hB : hk_B h.2.1) (hV : v_S h.2.1) (hr : zR A h.2.1) (hi : ∃ s, zI s A) (hd : 60 ≤ d) (k : ∀ (I : Nat → Nat → Int32) (v : Int32), hk_B I → v_S I → (∀ o, [146, 147, 148, 149, 150, 151, 152, 153, 154, 155, 156].contains o = false → ∀ i, I o i = h.2.1 o i) → (∀ o, [150, 151, 153, 154].contains o = false → ∀ i, I o i = h.2.1 o i) ∧ zR (stT A b.toInt g.toInt) I ∧ v.toInt = stV A b.toInt g.toInt → Z (some (.int v)) (h.1, I, h.2.2.1, h.2.2.2)) : qm_Ru (some (L, xs)) d (qm_F 277).2 (qm_ent (qm_F 277).1 [.ref 118, .int b, .int g] h) Z := by
  obtain ⟨s, hi⟩ := hi
  have w9 := hcS_rstore L xs d (fun r h' => ∃ (I : Nat → Nat → Int32) (J : Nat → Nat → Int64), h' = (h.1, I, J, h.2.2.2) ∧ hk_B I ∧ v_S I ∧ (∀ o, [146, 147, 148, 149, 150, 151, 152, 153, 154, 155, 156].contains o = false → ∀ i, I o i = h.2.1 o i)) h [.ref 118, .int b, .int g] h6 hH trivial hB hV ⟨b, g, rfl⟩ hd (fun r I J _ hB' hV' e => ⟨I, J, rfl, hB', hV', e⟩)
  have nA := zR_n0 hi hr
  have c10 := hr.2.1.1
  have c5 := hr.1.2.2.2.2.1
  have c6 := hr.1.2.2.2.2.2.1
  have c7 := hr.1.2.2.2.2.2.2.2.1
  have c8 := hr.1.2.2.2.2.2.2.2.2
  have cc : (0 ≤ b.toInt ∧ b.toInt < (h.2.1 118 44).toInt ∧ 0 ≤ g.toInt ∧ g.toInt ≤ 3 ∧ pI h.2.1 150 b.toInt.toNat = 0 ∧ pI h.2.1 154 g.toInt.toNat ≤ 3) ↔ stC A b.toInt g.toInt := by
    rw [c10, c5, c8]
    exact Iff.rfl
  have g9 := w9.both (Q2 := fun r h' => ∃ (I : Nat → Nat → Int32) (v : Int32), h' = (h.1, I, h.2.2.1, h.2.2.2) ∧ r = some (.int v) ∧ (∀ o, [150, 151, 153, 154].contains o = false → ∀ i, I o i = h.2.1 o i) ∧ zR (stT A b.toInt g.toInt) I ∧ v.toInt = stV A b.toInt g.toInt) (fun fu => px_rst_ (X := some (L, xs)) hH (n := h.2.1 118 44) rfl nA.1 (fun i => hB 154 i) (fun z => ⟨h.2.1, -1, rfl, rfl, fun _ _ _ => rfl, by rw [(stT_0 (fun q => z (cc.mpr q))).1]; exact hr, (stT_0 (fun q => z (cc.mpr q))).2.symm⟩) (fun I r z f er x50 x51 x53 x54 => ⟨I, r, rfl, rfl, f, ?_, er.trans (by rw [c8]; exact (stT_1 (cc.mp z)).2.symm)⟩))
  · refine g9.mono (fun r h' q => ?_)
    obtain ⟨⟨I, J, rfl, b1, b2, b3⟩, I', v, e1, rfl, q⟩ := q
    obtain ⟨rfl, rfl⟩ := hp_uq e1
    exact k I v b1 b2 b3 q
  · rw [(stT_1 (cc.mp z)).1]
    rw [c5] at x50
    rw [c6, c8] at x51
    rw [c7, c8] at x53
    rw [c8] at x54
    have e : ∀ o, [150, 151, 153, 154].contains o = false → pI I o = pI h.2.1 o := fun o ho => funext fun i => congrArg Int32.toInt (f o ho i)
    refine zR_cg hr (fun o ho => ?_) (Or.inr ⟨f 118 rfl 44, rfl⟩) (Or.inr ⟨f 118 rfl 54, rfl⟩) ⟨f 118 rfl 18, rfl⟩
    simp only [List.mem_cons, List.not_mem_nil, or_false] at ho
    rcases ho with rfl | rfl | rfl | rfl | rfl | rfl | rfl | rfl | rfl | rfl | rfl | rfl | rfl | rfl
    · exact Or.inr ⟨e 127 rfl, rfl⟩
    · exact Or.inr ⟨e 128 rfl, rfl⟩
    · exact Or.inr ⟨e 129 rfl, rfl⟩
    · exact Or.inr ⟨e 131 rfl, rfl⟩
    · exact Or.inr ⟨e 132 rfl, rfl⟩
    · exact Or.inr ⟨e 146 rfl, rfl⟩
    · exact Or.inr ⟨e 147 rfl, rfl⟩
    · exact Or.inr ⟨e 148 rfl, rfl⟩
    · exact Or.inr ⟨e 149 rfl, rfl⟩
    · exact Or.inl x50
    · exact Or.inl x51
    · exact Or.inr ⟨e 152 rfl, rfl⟩
    · exact Or.inl x53
    · exact Or.inl x54
theorem hz_ccv29 {L : Nat} {xs : Nat → Int32} {Z : Option Value → qm_H → Prop} {h : qm_H} {d : Nat} {A : Nat → Nat → Int} {y on : Int32} (h6 : 6 ≤ L) (hH : hk_H h) (hT : h.2.2.2 0 9 = some 111 ∧ h.2.2.2 28 2 = some 29) (hB : hk_B h.2.1) (hru : hk_ru h.2.1) (hc : zC A h.2.1) (hm : zM 29 0 A h.2.1) (hi : zI 0 A) (hon : 0 ≤ on.toInt ∧ on.toInt ≤ 1) (hd : 20 ≤ d) (k : ∀ (I : Nat → Nat → Int32) (v : Int32), hk_B I → (∀ o, [28].contains o = false → ∀ i, I o i = h.2.1 o i) → zC (cvT 0 A y on) I ∧ v.toInt = cvV 0 A y on → Z (some (.int v)) (h.1, I, h.2.2.1, h.2.2.2)) : qm_Ru (some (L, xs)) d cd_71 (qm_ent 3 [.ref 0, .int y, .int on] h) Z := by
  have w9 := hs_ccov29 (L := L) (xs := xs) (d := d) (Z := fun r h' => ∃ (I : Nat → Nat → Int32) (J : Nat → Nat → Int64), h' = (h.1, I, J, h.2.2.2) ∧ hk_B I) h6 hH hT hB hru (qa_in_full y) hon hd (fun v I J _ hB' _ => ⟨I, J, rfl, hB'⟩)
  have hcc := hc
  obtain ⟨⟨c1, c2, c3, c4, c5, c6, c7, c8⟩, ⟨c9, c10⟩, hp, hs⟩ := hc
  have eB := hm.2.1
  have ecv : h.2.1 28 4 = Int32.ofInt (A 118 54) := by rw [← c9, Int32.ofInt_toInt]
  have cc : (0 ≤ y.toInt ∧ y.toInt < (h.2.1 29 0).toInt ∧ ¬ (((h.2.1 28 4 >>> (y &&& 31)) &&& 1).toInt = 1 ↔ on.toInt = 1) ∧ (on.toInt = 0 → ¬ dkV (pI h.2.1 36) y.toInt)) ↔ cvC 0 A y on := by
    rw [eB, ecv, c6]
    exact Iff.rfl
  have g := w9.both (Q2 := fun r h' => ∃ (I : Nat → Nat → Int32) (v : Int32), h' = (h.1, I, h.2.2.1, h.2.2.2) ∧ r = some (.int v) ∧ (∀ o, [28].contains o = false → ∀ i, I o i = h.2.1 o i) ∧ zC (cvT 0 A y on) I ∧ v.toInt = cvV 0 A y on) (fun fu => px_ccv29 (X := some (L, xs)) hH hT.2 rfl (by rw [eB]; exact hi.2.2.2) hon rfl (fun z => ⟨h.2.1, 0, rfl, rfl, fun _ _ _ => rfl, by rw [(cvT_0 (fun q => z (cc.mpr q))).1]; exact hcc, (cvT_0 (fun q => z (cc.mpr q))).2.symm⟩) (fun I z f x28 q4 => ⟨I, 1, rfl, rfl, f, by rw [(cvT_1 (cc.mp z)).1]; exact cv_zC hcc f x28 q4 (by rw [ecv]), (cvT_1 (cc.mp z)).2.symm⟩))
  refine g.mono (fun r h' q => ?_)
  obtain ⟨⟨I, J, rfl, b1⟩, I', v, e1, rfl, q1, q2⟩ := q
  obtain ⟨rfl, rfl⟩ := hp_uq e1
  exact k I v b1 q1 q2
theorem hz_ccv111 {L : Nat} {xs : Nat → Int32} {Z : Option Value → qm_H → Prop} {h : qm_H} {d : Nat} {A : Nat → Nat → Int} {y on : Int32} (h6 : 6 ≤ L) (hH : hk_H h) (hT : h.2.2.2 0 9 = some 29 ∧ h.2.2.2 28 2 = some 111) (hB : hk_B h.2.1) (hru : hk_ru h.2.1) (hc : zC A h.2.1) (hm : zM 111 1 A h.2.1) (hi : zI 1 A) (hon : 0 ≤ on.toInt ∧ on.toInt ≤ 1) (hd : 20 ≤ d) (k : ∀ (I : Nat → Nat → Int32) (v : Int32), hk_B I → (∀ o, [28].contains o = false → ∀ i, I o i = h.2.1 o i) → zC (cvT 1 A y on) I ∧ v.toInt = cvV 1 A y on → Z (some (.int v)) (h.1, I, h.2.2.1, h.2.2.2)) : qm_Ru (some (L, xs)) d cd_71 (qm_ent 3 [.ref 0, .int y, .int on] h) Z := by
  have w9 := hs_ccov111 (L := L) (xs := xs) (d := d) (Z := fun r h' => ∃ (I : Nat → Nat → Int32) (J : Nat → Nat → Int64), h' = (h.1, I, J, h.2.2.2) ∧ hk_B I) h6 hH hT hB hru (qa_in_full y) hon hd (fun v I J _ hB' _ => ⟨I, J, rfl, hB'⟩)
  have hcc := hc
  obtain ⟨⟨c1, c2, c3, c4, c5, c6, c7, c8⟩, ⟨c9, c10⟩, hp, hs⟩ := hc
  have eB := hm.2.1
  have ecv : h.2.1 28 4 = Int32.ofInt (A 118 54) := by rw [← c9, Int32.ofInt_toInt]
  have cc : (0 ≤ y.toInt ∧ y.toInt < (h.2.1 111 0).toInt ∧ ¬ (((h.2.1 28 4 >>> (y &&& 31)) &&& 1).toInt = 1 ↔ on.toInt = 1) ∧ (on.toInt = 0 → ¬ dkV (pI h.2.1 36) y.toInt)) ↔ cvC 1 A y on := by
    rw [eB, ecv, c6]
    exact Iff.rfl
  have g := w9.both (Q2 := fun r h' => ∃ (I : Nat → Nat → Int32) (v : Int32), h' = (h.1, I, h.2.2.1, h.2.2.2) ∧ r = some (.int v) ∧ (∀ o, [28].contains o = false → ∀ i, I o i = h.2.1 o i) ∧ zC (cvT 1 A y on) I ∧ v.toInt = cvV 1 A y on) (fun fu => px_ccv111 (X := some (L, xs)) hH hT.2 rfl (by rw [eB]; exact hi.2.2.2) hon rfl (fun z => ⟨h.2.1, 0, rfl, rfl, fun _ _ _ => rfl, by rw [(cvT_0 (fun q => z (cc.mpr q))).1]; exact hcc, (cvT_0 (fun q => z (cc.mpr q))).2.symm⟩) (fun I z f x28 q4 => ⟨I, 1, rfl, rfl, f, by rw [(cvT_1 (cc.mp z)).1]; exact cv_zC hcc f x28 q4 (by rw [ecv]), (cvT_1 (cc.mp z)).2.symm⟩))
  refine g.mono (fun r h' q => ?_)
  obtain ⟨⟨I, J, rfl, b1⟩, I', v, e1, rfl, q1, q2⟩ := q
  obtain ⟨rfl, rfl⟩ := hp_uq e1
  exact k I v b1 q1 q2
theorem hz_rcv0 {L : Nat} {xs : Nat → Int32} {Z : Option Value → qm_H → Prop} {h : qm_H} {d : Nat} {A : Nat → Nat → Int} {y on : Int32} (h6 : 6 ≤ L) (hH : hk_H h) (hB : hk_B h.2.1) (hru : hk_ru h.2.1) (hr : zR A h.2.1) (hl : A 118 18 = 0) (hi : zI 0 A) (hon : 0 ≤ on.toInt ∧ on.toInt ≤ 1) (hd : 20 ≤ d) (k : ∀ (I : Nat → Nat → Int32) (v : Int32), hk_B I → (∀ o, [118].contains o = false → ∀ i, I o i = h.2.1 o i) → (∀ i, [54].contains i = false → I 118 i = h.2.1 118 i) → zR (cvT 0 A y on) I ∧ v.toInt = cvV 0 A y on → Z (some (.int v)) (h.1, I, h.2.2.1, h.2.2.2)) : qm_Ru (some (L, xs)) d cd_273 (qm_ent 3 [.ref 118, .int y, .int on] h) Z := by
  have w9 := hs_rcov (L := L) (xs := xs) (d := d) (Z := fun r h' => ∃ (I : Nat → Nat → Int32) (J : Nat → Nat → Int64), h' = (h.1, I, J, h.2.2.2) ∧ hk_B I) h6 hH hB hru (qa_in_full y) hon hd (fun v I J _ hB' _ _ => ⟨I, J, rfl, hB'⟩)
  have c9 := hr.2.1.2.1
  have g1 : h.2.1 118 18 = 0 := hk_eqi.mpr (hr.2.1.2.2.trans hl)
  have eB : (h.2.1 127 0).toInt = A 127 0 := congrFun hr.2.2.1 0
  have c6 := hr.1.2.2.2.2.2.2.1
  have ecv : h.2.1 118 54 = Int32.ofInt (A 118 54) := by rw [← c9, Int32.ofInt_toInt]
  have cc : (0 ≤ y.toInt ∧ y.toInt < (h.2.1 127 0).toInt ∧ ¬ (((h.2.1 118 54 >>> (y &&& 31)) &&& 1).toInt = 1 ↔ on.toInt = 1) ∧ (on.toInt = 0 → ¬ dkV (pI h.2.1 152) y.toInt)) ↔ cvC 0 A y on := by
    rw [eB, ecv, c6]
    exact Iff.rfl
  have g := w9.both (Q2 := fun r h' => ∃ (I : Nat → Nat → Int32) (v : Int32), h' = (h.1, I, h.2.2.1, h.2.2.2) ∧ r = some (.int v) ∧ (∀ o, [118].contains o = false → ∀ i, I o i = h.2.1 o i) ∧ (∀ i, [54].contains i = false → I 118 i = h.2.1 118 i) ∧ zR (cvT 0 A y on) I ∧ v.toInt = cvV 0 A y on) (fun fu => px_rcv0 (X := some (L, xs)) hH g1 rfl (by rw [eB]; exact hi.2.2.2) hon rfl (fun z => ⟨h.2.1, 0, rfl, rfl, fun _ _ _ => rfl, fun _ _ => rfl, by rw [(cvT_0 (fun q => z (cc.mpr q))).1]; exact hr, (cvT_0 (fun q => z (cc.mpr q))).2.symm⟩) (fun I z f x18 q4 => ⟨I, 1, rfl, rfl, f, x18, ?_, (cvT_1 (cc.mp z)).2.symm⟩))
  · refine g.mono (fun r h' q => ?_)
    obtain ⟨⟨I, J, rfl, b1⟩, I', v, e1, rfl, q1, q2, q3⟩ := q
    obtain ⟨rfl, rfl⟩ := hp_uq e1
    exact k I v b1 q1 q2 q3
  · rw [(cvT_1 (cc.mp z)).1]
    exact zR_cg hr (fun o ho => Or.inr ⟨funext fun i => congrArg Int32.toInt (f o ((show ∀ o ∈ [127, 128, 129, 131, 132, 146, 147, 148, 149, 150, 151, 152, 153, 154], [118].contains o = false from by decide) o ho) i), by unfold cvS; exact aS_ne ((show ∀ o ∈ [127, 128, 129, 131, 132, 146, 147, 148, 149, 150, 151, 152, 153, 154], Nat.beq o 118 = false from by decide) o ho)⟩) (Or.inr ⟨x18 44 rfl, rfl⟩) (Or.inl (by rw [q4, ecv]; rfl)) ⟨x18 18 rfl, rfl⟩
theorem hz_rcv1 {L : Nat} {xs : Nat → Int32} {Z : Option Value → qm_H → Prop} {h : qm_H} {d : Nat} {A : Nat → Nat → Int} {y on : Int32} (h6 : 6 ≤ L) (hH : hk_H h) (hB : hk_B h.2.1) (hru : hk_ru h.2.1) (hr : zR A h.2.1) (hl : A 118 18 = 1) (hi : zI 1 A) (hon : 0 ≤ on.toInt ∧ on.toInt ≤ 1) (hd : 20 ≤ d) (k : ∀ (I : Nat → Nat → Int32) (v : Int32), hk_B I → (∀ o, [118].contains o = false → ∀ i, I o i = h.2.1 o i) → (∀ i, [54].contains i = false → I 118 i = h.2.1 118 i) → zR (cvT 1 A y on) I ∧ v.toInt = cvV 1 A y on → Z (some (.int v)) (h.1, I, h.2.2.1, h.2.2.2)) : qm_Ru (some (L, xs)) d cd_273 (qm_ent 3 [.ref 118, .int y, .int on] h) Z := by
  have w9 := hs_rcov (L := L) (xs := xs) (d := d) (Z := fun r h' => ∃ (I : Nat → Nat → Int32) (J : Nat → Nat → Int64), h' = (h.1, I, J, h.2.2.2) ∧ hk_B I) h6 hH hB hru (qa_in_full y) hon hd (fun v I J _ hB' _ _ => ⟨I, J, rfl, hB'⟩)
  have c9 := hr.2.1.2.1
  have g1 : h.2.1 118 18 = 1 := hk_eqi.mpr (hr.2.1.2.2.trans hl)
  have eB : (h.2.1 127 1).toInt = A 127 1 := congrFun hr.2.2.1 1
  have c6 := hr.1.2.2.2.2.2.2.1
  have ecv : h.2.1 118 54 = Int32.ofInt (A 118 54) := by rw [← c9, Int32.ofInt_toInt]
  have cc : (0 ≤ y.toInt ∧ y.toInt < (h.2.1 127 1).toInt ∧ ¬ (((h.2.1 118 54 >>> (y &&& 31)) &&& 1).toInt = 1 ↔ on.toInt = 1) ∧ (on.toInt = 0 → ¬ dkV (pI h.2.1 152) y.toInt)) ↔ cvC 1 A y on := by
    rw [eB, ecv, c6]
    exact Iff.rfl
  have g := w9.both (Q2 := fun r h' => ∃ (I : Nat → Nat → Int32) (v : Int32), h' = (h.1, I, h.2.2.1, h.2.2.2) ∧ r = some (.int v) ∧ (∀ o, [118].contains o = false → ∀ i, I o i = h.2.1 o i) ∧ (∀ i, [54].contains i = false → I 118 i = h.2.1 118 i) ∧ zR (cvT 1 A y on) I ∧ v.toInt = cvV 1 A y on) (fun fu => px_rcv1 (X := some (L, xs)) hH g1 rfl (by rw [eB]; exact hi.2.2.2) hon rfl (fun z => ⟨h.2.1, 0, rfl, rfl, fun _ _ _ => rfl, fun _ _ => rfl, by rw [(cvT_0 (fun q => z (cc.mpr q))).1]; exact hr, (cvT_0 (fun q => z (cc.mpr q))).2.symm⟩) (fun I z f x18 q4 => ⟨I, 1, rfl, rfl, f, x18, ?_, (cvT_1 (cc.mp z)).2.symm⟩))
  · refine g.mono (fun r h' q => ?_)
    obtain ⟨⟨I, J, rfl, b1⟩, I', v, e1, rfl, q1, q2, q3⟩ := q
    obtain ⟨rfl, rfl⟩ := hp_uq e1
    exact k I v b1 q1 q2 q3
  · rw [(cvT_1 (cc.mp z)).1]
    exact zR_cg hr (fun o ho => Or.inr ⟨funext fun i => congrArg Int32.toInt (f o ((show ∀ o ∈ [127, 128, 129, 131, 132, 146, 147, 148, 149, 150, 151, 152, 153, 154], [118].contains o = false from by decide) o ho) i), by unfold cvS; exact aS_ne ((show ∀ o ∈ [127, 128, 129, 131, 132, 146, 147, 148, 149, 150, 151, 152, 153, 154], Nat.beq o 118 = false from by decide) o ho)⟩) (Or.inr ⟨x18 44 rfl, rfl⟩) (Or.inl (by rw [q4, ecv]; rfl)) ⟨x18 18 rfl, rfl⟩
theorem hz_rbx {L : Nat} {xs : Nat → Int32} {Z : Option Value → qm_H → Prop} {h : qm_H} {d : Nat} {A : Nat → Nat → Int} {w p s : Int32} (h6 : 6 ≤ L) (hH : hk_H h) (hB : hk_B h.2.1) (hV : v_S h.2.1) (hr : zR A h.2.1) (nA : 0 ≤ A 118 44 ∧ A 118 44 ≤ 30) (hd : 20 ≤ d) (k : ∀ (I : Nat → Nat → Int32) (v : Int32), hk_B I → v_S I → (∀ o, [118, 146, 147, 148, 149, 150, 151, 152, 153, 154, 155, 156].contains o = false → ∀ i, I o i = h.2.1 o i) → (∀ o, [118, 146, 147, 148, 149, 150].contains o = false → ∀ i, I o i = h.2.1 o i) ∧ (∀ i, [44].contains i = false → I 118 i = h.2.1 118 i) ∧ zR (bxS A w.toInt p.toInt s.toInt) I → Z (some (.int v)) (h.1, I, h.2.2.1, h.2.2.2)) : qm_Ru (some (L, xs)) d (qm_F 269).2 (qm_ent (qm_F 269).1 [.ref 118, .int w, .int p, .int s] h) Z := by
  have w9 := hcS_rbox L xs d (fun r h' => ∃ (I : Nat → Nat → Int32) (J : Nat → Nat → Int64), h' = (h.1, I, J, h.2.2.2) ∧ hk_B I ∧ v_S I ∧ (∀ o, [118, 146, 147, 148, 149, 150, 151, 152, 153, 154, 155, 156].contains o = false → ∀ i, I o i = h.2.1 o i)) h [.ref 118, .int w, .int p, .int s] h6 hH trivial hB hV ⟨w, p, s, rfl, qa_in_full w, qa_in_full p, qa_in_full s⟩ hd (fun r I J _ hB' hV' e => ⟨I, J, rfl, hB', hV', e⟩)
  have c10 := hr.2.1.1
  obtain ⟨⟨r46, r47, r48, r49, r50, r51, r52, r53, r54⟩, -, -⟩ := id hr
  have cc : ((h.2.1 118 44).toInt ≠ 30 ∧ 1 ≤ w.toInt ∧ w.toInt ≤ 40 ∧ 0 ≤ p.toInt ∧ p.toInt ≤ 4 ∧ 0 ≤ s.toInt ∧ s.toInt ≤ 5) ↔ bxC A w.toInt p.toInt s.toInt := by
    rw [c10]
    unfold bxC
    constructor <;> intro z <;> omega
  have g9 := w9.both (Q2 := fun r h' => ∃ (I : Nat → Nat → Int32) (v : Int32), h' = (h.1, I, h.2.2.1, h.2.2.2) ∧ r = some (.int v) ∧ (∀ o, [118, 146, 147, 148, 149, 150].contains o = false → ∀ i, I o i = h.2.1 o i) ∧ (∀ i, [44].contains i = false → I 118 i = h.2.1 118 i) ∧ zR (bxS A w.toInt p.toInt s.toInt) I) (fun fu => px_rbx (X := some (L, xs)) hH (n := h.2.1 118 44) rfl (by rw [c10]; exact nA) (fun z => ⟨h.2.1, -1, rfl, rfl, fun _ _ _ => rfl, fun _ _ => rfl, by rw [bxS_0 (fun q => z (cc.mpr q))]; exact hr⟩) (fun I n2 z f x18 q4 en x46 x47 x48 x49 x50 => ⟨I, h.2.1 118 44, rfl, rfl, f, fun i hi => x18 i hi, ?_⟩))
  · refine g9.mono (fun r h' q => ?_)
    obtain ⟨⟨I, J, rfl, b1, b2, b3⟩, I', v, e1, rfl, q⟩ := q
    obtain ⟨rfl, rfl⟩ := hp_uq e1
    exact k I v b1 b2 b3 q
  · rw [bxS_1 (cc.mp z)]
    rw [show (h.2.1 118 44).toInt.toNat = (A 118 44).toNat by rw [c10]] at x46 x47 x48 x49 x50
    have e : ∀ o, [118, 146, 147, 148, 149, 150].contains o = false → pI I o = pI h.2.1 o := fun o ho => funext fun i => congrArg Int32.toInt (f o ho i)
    refine zR_cg hr (fun o ho => ?_) (Or.inl (by rw [q4, en, c10]; rfl)) (Or.inr ⟨x18 54 rfl, rfl⟩) ⟨x18 18 rfl, rfl⟩
    simp only [List.mem_cons, List.not_mem_nil, or_false] at ho
    rcases ho with rfl | rfl | rfl | rfl | rfl | rfl | rfl | rfl | rfl | rfl | rfl | rfl | rfl | rfl
    · exact Or.inr ⟨e 127 rfl, rfl⟩
    · exact Or.inr ⟨e 128 rfl, rfl⟩
    · exact Or.inr ⟨e 129 rfl, rfl⟩
    · exact Or.inr ⟨e 131 rfl, rfl⟩
    · exact Or.inr ⟨e 132 rfl, rfl⟩
    · exact Or.inl (by rw [x46, r46]; rfl)
    · exact Or.inl (by rw [x47, r47]; rfl)
    · exact Or.inl (by rw [x48, r48]; rfl)
    · exact Or.inl (by rw [x49, r49]; rfl)
    · exact Or.inl (by rw [x50, r50]; rfl)
    · exact Or.inr ⟨e 151 rfl, rfl⟩
    · exact Or.inr ⟨e 152 rfl, rfl⟩
    · exact Or.inr ⟨e 153 rfl, rfl⟩
    · exact Or.inr ⟨e 154 rfl, rfl⟩
theorem hz_csk {L : Nat} {xs : Nat → Int32} {Z : Option Value → qm_H → Prop} {h : qm_H} {d : Nat} {A : Nat → Nat → Int} {b on : Int32} (h6 : 6 ≤ L) (hH : hk_H h) (hB : hk_B h.2.1) (hru : hk_ru h.2.1) (hc : zC A h.2.1) (nA : 0 ≤ A 118 44 ∧ A 118 44 ≤ 30) (hon : 0 ≤ on.toInt ∧ on.toInt ≤ 1) (hd : 20 ≤ d) (k : ∀ (I : Nat → Nat → Int32) (v : Int32), hk_B I → (∀ o, [10].contains o = false → ∀ i, I o i = h.2.1 o i) → zC (skT A b.toInt on.toInt) I → Z (some (.int v)) (h.1, I, h.2.2.1, h.2.2.2)) : qm_Ru (some (L, xs)) d cd_69 (qm_ent 3 [.ref 0, .int b, .int on] h) Z := by
  have w9 := hs_cstk (L := L) (xs := xs) (d := d) (Z := fun r h' => ∃ (I : Nat → Nat → Int32) (J : Nat → Nat → Int64), h' = (h.1, I, J, h.2.2.2) ∧ hk_B I) h6 hH hB hru (qa_in_full b) hon hd (fun v I J _ hB' _ => ⟨I, J, rfl, hB'⟩)
  have c10 := hc.2.1.2
  have cc : (0 ≤ b.toInt ∧ b.toInt < (h.2.1 6 0).toInt) ↔ (0 ≤ b.toInt ∧ b.toInt < A 118 44) := by rw [c10]
  have g := w9.both (Q2 := fun r h' => ∃ (I : Nat → Nat → Int32) (v : Int32), h' = (h.1, I, h.2.2.1, h.2.2.2) ∧ r = some (.int v) ∧ (∀ o, [10].contains o = false → ∀ i, I o i = h.2.1 o i) ∧ zC (skT A b.toInt on.toInt) I) (fun fu => px_csk (X := some (L, xs)) hH (n := h.2.1 6 0) rfl (by rw [c10]; exact nA) hon (fun z => ⟨h.2.1, 0, rfl, rfl, fun _ _ _ => rfl, by rw [skT_0 (fun q => z (cc.mpr q))]; exact hc⟩) (fun I z f x10 => ⟨I, 1, rfl, rfl, f, by rw [skT_1 (cc.mp z)]; exact sk_zC hc f x10⟩))
  refine g.mono (fun r h' q => ?_)
  obtain ⟨⟨I, J, rfl, b1⟩, I', v, e1, rfl, q1, q2⟩ := q
  obtain ⟨rfl, rfl⟩ := hp_uq e1
  exact k I v b1 q1 q2
theorem hz_rsk {L : Nat} {xs : Nat → Int32} {Z : Option Value → qm_H → Prop} {h : qm_H} {d : Nat} {A : Nat → Nat → Int} {b on : Int32} (h6 : 6 ≤ L) (hH : hk_H h) (hB : hk_B h.2.1) (hru : hk_ru h.2.1) (hr : zR A h.2.1) (nA : 0 ≤ A 118 44 ∧ A 118 44 ≤ 30) (hon : 0 ≤ on.toInt ∧ on.toInt ≤ 1) (hd : 20 ≤ d) (k : ∀ (I : Nat → Nat → Int32) (v : Int32), hk_B I → (∀ o, [149].contains o = false → ∀ i, I o i = h.2.1 o i) → zR (skT A b.toInt on.toInt) I → Z (some (.int v)) (h.1, I, h.2.2.1, h.2.2.2)) : qm_Ru (some (L, xs)) d cd_271 (qm_ent 3 [.ref 118, .int b, .int on] h) Z := by
  have w9 := hs_rstk (L := L) (xs := xs) (d := d) (Z := fun r h' => ∃ (I : Nat → Nat → Int32) (J : Nat → Nat → Int64), h' = (h.1, I, J, h.2.2.2) ∧ hk_B I) h6 hH hB hru (qa_in_full b) hon hd (fun v I J _ hB' _ => ⟨I, J, rfl, hB'⟩)
  have c10 := hr.2.1.1
  have r49 := hr.1.2.2.2.1
  have cc : (0 ≤ b.toInt ∧ b.toInt < (h.2.1 118 44).toInt) ↔ (0 ≤ b.toInt ∧ b.toInt < A 118 44) := by rw [c10]
  have g := w9.both (Q2 := fun r h' => ∃ (I : Nat → Nat → Int32) (v : Int32), h' = (h.1, I, h.2.2.1, h.2.2.2) ∧ r = some (.int v) ∧ (∀ o, [149].contains o = false → ∀ i, I o i = h.2.1 o i) ∧ zR (skT A b.toInt on.toInt) I) (fun fu => px_rsk (X := some (L, xs)) hH (n := h.2.1 118 44) rfl (by rw [c10]; exact nA) hon (fun z => ⟨h.2.1, 0, rfl, rfl, fun _ _ _ => rfl, by rw [skT_0 (fun q => z (cc.mpr q))]; exact hr⟩) (fun I z f x49 => ⟨I, 1, rfl, rfl, f, ?_⟩))
  · refine g.mono (fun r h' q => ?_)
    obtain ⟨⟨I, J, rfl, b1⟩, I', v, e1, rfl, q1, q2⟩ := q
    obtain ⟨rfl, rfl⟩ := hp_uq e1
    exact k I v b1 q1 q2
  · rw [skT_1 (cc.mp z)]
    have e : ∀ o, [149].contains o = false → pI I o = pI h.2.1 o := fun o ho => funext fun i => congrArg Int32.toInt (f o ho i)
    refine zR_cg hr (fun o ho => ?_) (Or.inr ⟨f 118 rfl 44, rfl⟩) (Or.inr ⟨f 118 rfl 54, rfl⟩) ⟨f 118 rfl 18, rfl⟩
    simp only [List.mem_cons, List.not_mem_nil, or_false] at ho
    rcases ho with rfl | rfl | rfl | rfl | rfl | rfl | rfl | rfl | rfl | rfl | rfl | rfl | rfl | rfl
    · exact Or.inr ⟨e 127 rfl, rfl⟩
    · exact Or.inr ⟨e 128 rfl, rfl⟩
    · exact Or.inr ⟨e 129 rfl, rfl⟩
    · exact Or.inr ⟨e 131 rfl, rfl⟩
    · exact Or.inr ⟨e 132 rfl, rfl⟩
    · exact Or.inr ⟨e 146 rfl, rfl⟩
    · exact Or.inr ⟨e 147 rfl, rfl⟩
    · exact Or.inr ⟨e 148 rfl, rfl⟩
    · exact Or.inl (by rw [x49, r49]; rfl)
    · exact Or.inr ⟨e 150 rfl, rfl⟩
    · exact Or.inr ⟨e 151 rfl, rfl⟩
    · exact Or.inr ⟨e 152 rfl, rfl⟩
    · exact Or.inr ⟨e 153 rfl, rfl⟩
    · exact Or.inr ⟨e 154 rfl, rfl⟩
