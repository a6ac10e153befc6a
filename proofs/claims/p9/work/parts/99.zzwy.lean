/-! op 44: work -/
variable {tb : Int}
theorem hz_cwork29 {L : Nat} {xs : Nat → Int32} {Z : Option Value → qm_H → Prop} {h : qm_H} {d : Nat} {n : Int32} (h6 : 6 ≤ L) (hI : qa_Inv qp_a gS h) (hi : zI 0 (pI h.2.1)) (hm : zM 29 0 (pI h.2.1) h.2.1) (hZ : (gZB tb) h) (ht : tb ≤ 900000000) (hd : 299 ≤ d) (k : ∀ (I : Nat → Nat → Int32) (v : Int32), qa_Inv qp_a gS (h.1, I, h.2.2.1, h.2.2.2) → (∀ o, (o < 51 ∨ 97 < o) → [11, 12, 13, 14, 16, 17, 28, 36, 37].contains o = false → ∀ i, I o i = h.2.1 o i) → (∀ i, [8].contains i = false → I 51 i = h.2.1 51 i) → zC (jWk 0 (pI h.2.1, h.2.1) n).1 I → zJ (jWk 0 (pI h.2.1, h.2.1) n).2 I → ((0 ≤ n.toInt ∧ n.toInt ≤ 200) ∧ v = I 97 0 + I 97 1 - (h.2.1 97 0 + h.2.1 97 1) ∨ ¬ (0 ≤ n.toInt ∧ n.toInt ≤ 200) ∧ v = -1) → Z (some (.int v)) (h.1, I, h.2.2.1, h.2.2.2)) : qm_Ru (some (L, xs)) d (qm_F 201).2 (qm_ent (qm_F 201).1 [.ref 0, .int n] h) Z := by
  have hH := hk_H_in hI
  have jp := jP_of hi hm hZ
  have bt : 0 ≤ (h.2.1 118 85).toInt ∧ (h.2.1 118 85).toInt ≤ tb := hZ.2.2.2.2.2
  have zj : zJ h.2.1 h.2.1 := hZ.2.2.2.1
  have w := hs_cwk29 (xs := xs) (x0 := n) (Z := fun r h2 => qa_Inv qp_a gS h2) h6 hI (qa_in_full n) hd (fun r h2 _ q => q)
  have q := w.both (Q2 := fun r h2 => ∃ (I : Nat → Nat → Int32) (v : Int32), h2 = (h.1, I, h.2.2.1, h.2.2.2) ∧ r = some (.int v) ∧ (∀ o, (o < 51 ∨ 97 < o) → [11, 12, 13, 14, 16, 17, 28, 36, 37].contains o = false → ∀ i, I o i = h.2.1 o i) ∧ (∀ i, [8].contains i = false → I 51 i = h.2.1 51 i) ∧ zC (jWk 0 (pI h.2.1, h.2.1) n).1 I ∧ zJ (jWk 0 (pI h.2.1, h.2.1) n).2 I ∧ ((0 ≤ n.toInt ∧ n.toInt ≤ 200) ∧ v = I 97 0 + I 97 1 - (h.2.1 97 0 + h.2.1 97 1) ∨ ¬ (0 ≤ n.toInt ∧ n.toInt ≤ 200) ∧ v = -1)) (fun fu => pz_cwork29 (X := some (L, xs)) hH.1 hH.2.2 (p := (pI h.2.1, h.2.1)) jp hZ.2.1 zj hm (by
      show (0 ≤ (h.2.1 118 93).toInt ∧ (h.2.1 118 93).toInt ≤ 500) ∧ (0 ≤ (h.2.1 118 94).toInt ∧ (h.2.1 118 94).toInt ≤ 500)
      rw [← zj.1.2.2.2.2.1, ← zj.1.2.2.2.2.2]
      exact ⟨hI.2.1 51 11, hI.2.1 51 12⟩) (by show (h.2.1 118 85).toInt ≤ 900000000; omega) (fun I v a1 a2 a3 a4 a5 => ⟨I, v, rfl, rfl, a1, a2, a3, a4, a5⟩))
  refine q.mono (fun r h2 z => ?_)
  obtain ⟨z1, I, v, rfl, rfl, a1, a2, a3, a4, a5⟩ := z
  exact k I v z1 a1 a2 a3 a4 a5
theorem hz_rwork0 {L : Nat} {xs : Nat → Int32} {Z : Option Value → qm_H → Prop} {h : qm_H} {d : Nat} {n : Int32} {p : (Nat → Nat → Int) × (Nat → Nat → Int32)} (h6 : 6 ≤ L) (hI : qa_Inv qp_a gS h) (hP : jP 0 p) (zr : zR p.1 h.2.1) (je : jEq p.2 h.2.1) (htb : (p.2 118 85).toInt ≤ 900000000) (hb : (0 ≤ (h.2.1 118 93).toInt ∧ (h.2.1 118 93).toInt ≤ 500) ∧ (0 ≤ (h.2.1 118 94).toInt ∧ (h.2.1 118 94).toInt ≤ 500)) (hd : 299 ≤ d) (k : ∀ (I : Nat → Nat → Int32) (v : Int32), qa_Inv qp_a gS (h.1, I, h.2.2.1, h.2.2.2) → (∀ o, [118, 150, 151, 152, 153, 154, 155, 156, 172, 173, 174, 175, 176, 177, 178, 179, 180, 181].contains o = false → ∀ i, I o i = h.2.1 o i) → (∀ i, [85].contains i = false → I 118 i = h.2.1 118 i) → zR (jWk 0 p n).1 I → jEq (jWk 0 p n).2 I → ((0 ≤ n.toInt ∧ n.toInt ≤ 200) ∧ v = I 181 0 + I 181 1 - (h.2.1 181 0 + h.2.1 181 1) ∨ ¬ (0 ≤ n.toInt ∧ n.toInt ≤ 200) ∧ v = -1) → Z (some (.int v)) (h.1, I, h.2.2.1, h.2.2.2)) : qm_Ru (some (L, xs)) d (qm_F 361).2 (qm_ent (qm_F 361).1 [.ref 118, .int n] h) Z := by
  have hH := hk_H_in hI
  have w := hs_rwk29 (xs := xs) (x0 := n) (Z := fun r h2 => qa_Inv qp_a gS h2) h6 hI (qa_in_full n) hd (fun r h2 _ q => q)
  have q := w.both (Q2 := fun r h2 => ∃ (I : Nat → Nat → Int32) (v : Int32), h2 = (h.1, I, h.2.2.1, h.2.2.2) ∧ r = some (.int v) ∧ (∀ o, [118, 150, 151, 152, 153, 154, 155, 156, 172, 173, 174, 175, 176, 177, 178, 179, 180, 181].contains o = false → ∀ i, I o i = h.2.1 o i) ∧ (∀ i, [85].contains i = false → I 118 i = h.2.1 118 i) ∧ zR (jWk 0 p n).1 I ∧ jEq (jWk 0 p n).2 I ∧ ((0 ≤ n.toInt ∧ n.toInt ≤ 200) ∧ v = I 181 0 + I 181 1 - (h.2.1 181 0 + h.2.1 181 1) ∨ ¬ (0 ≤ n.toInt ∧ n.toInt ≤ 200) ∧ v = -1)) (fun fu => pz_rwork0 (X := some (L, xs)) hH.1 hP zr je htb rfl rfl hb.1 hb.2 (fun k => hI.2.1 170 k) (fun I v a1 a2 a3 a4 a5 => ⟨I, v, rfl, rfl, a1, a2, a3, a4, a5⟩))
  refine q.mono (fun r h2 z => ?_)
  obtain ⟨z1, I, v, rfl, rfl, a1, a2, a3, a4, a5⟩ := z
  exact k I v z1 a1 a2 a3 a4 a5
theorem hz_cwork111 {L : Nat} {xs : Nat → Int32} {Z : Option Value → qm_H → Prop} {h : qm_H} {d : Nat} {n : Int32} (h6 : 6 ≤ L) (hI : qa_Inv qp_b gS h) (hi : zI 1 (pI h.2.1)) (hm : zM 111 1 (pI h.2.1) h.2.1) (hZ : (gZB tb) h) (ht : tb ≤ 900000000) (hd : 299 ≤ d) (k : ∀ (I : Nat → Nat → Int32) (v : Int32), qa_Inv qp_b gS (h.1, I, h.2.2.1, h.2.2.2) → (∀ o, (o < 51 ∨ 97 < o) → [11, 12, 13, 14, 16, 17, 28, 36, 37].contains o = false → ∀ i, I o i = h.2.1 o i) → (∀ i, [8].contains i = false → I 51 i = h.2.1 51 i) → zC (jWk 1 (pI h.2.1, h.2.1) n).1 I → zJ (jWk 1 (pI h.2.1, h.2.1) n).2 I → ((0 ≤ n.toInt ∧ n.toInt ≤ 200) ∧ v = I 97 0 + I 97 1 - (h.2.1 97 0 + h.2.1 97 1) ∨ ¬ (0 ≤ n.toInt ∧ n.toInt ≤ 200) ∧ v = -1) → Z (some (.int v)) (h.1, I, h.2.2.1, h.2.2.2)) : qm_Ru (some (L, xs)) d (qm_F 201).2 (qm_ent (qm_F 201).1 [.ref 0, .int n] h) Z := by
  have hH := hk_H_in hI
  have jp := jP_of hi hm hZ
  have bt : 0 ≤ (h.2.1 118 85).toInt ∧ (h.2.1 118 85).toInt ≤ tb := hZ.2.2.2.2.2
  have zj : zJ h.2.1 h.2.1 := hZ.2.2.2.1
  have w := hs_cwk111 (xs := xs) (x0 := n) (Z := fun r h2 => qa_Inv qp_b gS h2) h6 hI (qa_in_full n) hd (fun r h2 _ q => q)
  have q := w.both (Q2 := fun r h2 => ∃ (I : Nat → Nat → Int32) (v : Int32), h2 = (h.1, I, h.2.2.1, h.2.2.2) ∧ r = some (.int v) ∧ (∀ o, (o < 51 ∨ 97 < o) → [11, 12, 13, 14, 16, 17, 28, 36, 37].contains o = false → ∀ i, I o i = h.2.1 o i) ∧ (∀ i, [8].contains i = false → I 51 i = h.2.1 51 i) ∧ zC (jWk 1 (pI h.2.1, h.2.1) n).1 I ∧ zJ (jWk 1 (pI h.2.1, h.2.1) n).2 I ∧ ((0 ≤ n.toInt ∧ n.toInt ≤ 200) ∧ v = I 97 0 + I 97 1 - (h.2.1 97 0 + h.2.1 97 1) ∨ ¬ (0 ≤ n.toInt ∧ n.toInt ≤ 200) ∧ v = -1)) (fun fu => pz_cwork111 (X := some (L, xs)) hH.1 hH.2.2 (p := (pI h.2.1, h.2.1)) jp hZ.2.1 zj hm (by
      show (0 ≤ (h.2.1 118 93).toInt ∧ (h.2.1 118 93).toInt ≤ 500) ∧ (0 ≤ (h.2.1 118 94).toInt ∧ (h.2.1 118 94).toInt ≤ 500)
      rw [← zj.1.2.2.2.2.1, ← zj.1.2.2.2.2.2]
      exact ⟨hI.2.1 51 11, hI.2.1 51 12⟩) (by show (h.2.1 118 85).toInt ≤ 900000000; omega) (fun I v a1 a2 a3 a4 a5 => ⟨I, v, rfl, rfl, a1, a2, a3, a4, a5⟩))
  refine q.mono (fun r h2 z => ?_)
  obtain ⟨z1, I, v, rfl, rfl, a1, a2, a3, a4, a5⟩ := z
  exact k I v z1 a1 a2 a3 a4 a5
theorem hz_rwork1 {L : Nat} {xs : Nat → Int32} {Z : Option Value → qm_H → Prop} {h : qm_H} {d : Nat} {n : Int32} {p : (Nat → Nat → Int) × (Nat → Nat → Int32)} (h6 : 6 ≤ L) (hI : qa_Inv qp_b gS h) (hP : jP 1 p) (zr : zR p.1 h.2.1) (je : jEq p.2 h.2.1) (htb : (p.2 118 85).toInt ≤ 900000000) (hb : (0 ≤ (h.2.1 118 93).toInt ∧ (h.2.1 118 93).toInt ≤ 500) ∧ (0 ≤ (h.2.1 118 94).toInt ∧ (h.2.1 118 94).toInt ≤ 500)) (hd : 299 ≤ d) (k : ∀ (I : Nat → Nat → Int32) (v : Int32), qa_Inv qp_b gS (h.1, I, h.2.2.1, h.2.2.2) → (∀ o, [118, 150, 151, 152, 153, 154, 155, 156, 172, 173, 174, 175, 176, 177, 178, 179, 180, 181].contains o = false → ∀ i, I o i = h.2.1 o i) → (∀ i, [85].contains i = false → I 118 i = h.2.1 118 i) → zR (jWk 1 p n).1 I → jEq (jWk 1 p n).2 I → ((0 ≤ n.toInt ∧ n.toInt ≤ 200) ∧ v = I 181 0 + I 181 1 - (h.2.1 181 0 + h.2.1 181 1) ∨ ¬ (0 ≤ n.toInt ∧ n.toInt ≤ 200) ∧ v = -1) → Z (some (.int v)) (h.1, I, h.2.2.1, h.2.2.2)) : qm_Ru (some (L, xs)) d (qm_F 361).2 (qm_ent (qm_F 361).1 [.ref 118, .int n] h) Z := by
  have hH := hk_H_in hI
  have w := hs_rwk111 (xs := xs) (x0 := n) (Z := fun r h2 => qa_Inv qp_b gS h2) h6 hI (qa_in_full n) hd (fun r h2 _ q => q)
  have q := w.both (Q2 := fun r h2 => ∃ (I : Nat → Nat → Int32) (v : Int32), h2 = (h.1, I, h.2.2.1, h.2.2.2) ∧ r = some (.int v) ∧ (∀ o, [118, 150, 151, 152, 153, 154, 155, 156, 172, 173, 174, 175, 176, 177, 178, 179, 180, 181].contains o = false → ∀ i, I o i = h.2.1 o i) ∧ (∀ i, [85].contains i = false → I 118 i = h.2.1 118 i) ∧ zR (jWk 1 p n).1 I ∧ jEq (jWk 1 p n).2 I ∧ ((0 ≤ n.toInt ∧ n.toInt ≤ 200) ∧ v = I 181 0 + I 181 1 - (h.2.1 181 0 + h.2.1 181 1) ∨ ¬ (0 ≤ n.toInt ∧ n.toInt ≤ 200) ∧ v = -1)) (fun fu => pz_rwork1 (X := some (L, xs)) hH.1 hP zr je htb rfl rfl hb.1 hb.2 (fun k => hI.2.1 170 k) (fun I v a1 a2 a3 a4 a5 => ⟨I, v, rfl, rfl, a1, a2, a3, a4, a5⟩))
  refine q.mono (fun r h2 z => ?_)
  obtain ⟨z1, I, v, rfl, rfl, a1, a2, a3, a4, a5⟩ := z
  exact k I v z1 a1 a2 a3 a4 a5
