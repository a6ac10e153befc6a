/-! fetch: a run that ends, and what it leaves -/
noncomputable def bxA (A : Nat → Nat → Int) (g : Int) : Int := A 153 (4 * g + A 154 g.toNat - 1).toNat
noncomputable def feC (A : Nat → Nat → Int) (g : Int) : Prop := 0 ≤ g ∧ g ≤ 3 ∧ A 154 g.toNat ≠ 0
noncomputable def feT (A : Nat → Nat → Int) (g v : Int) : Nat → Nat → Int := bif okb (feC A g ∧ v = 0) then feS A (bxA A g) g else A
noncomputable def feV (A : Nat → Nat → Int) (g v : Int) : Int := bif okb (feC A g) then (bif okb (v = 0) then bxA A g else -2) else -1
theorem feT_1 {A : Nat → Nat → Int} {g v : Int} (h : feC A g) (hv : v = 0) : feT A g v = feS A (bxA A g) g ∧ feV A g v = bxA A g := by
  unfold feT feV
  rw [okb_t h, okb_t (show feC A g ∧ v = 0 from ⟨h, hv⟩), okb_t hv]
  exact ⟨rfl, rfl⟩
theorem feT_2 {A : Nat → Nat → Int} {g v : Int} (h : feC A g) (hv : v ≠ 0) : feT A g v = A ∧ feV A g v = -2 := by
  unfold feT feV
  rw [okb_t h, okb_f (show ¬ (feC A g ∧ v = 0) from fun z => hv z.2), okb_f hv]
  exact ⟨rfl, rfl⟩
theorem feT_0 {A : Nat → Nat → Int} {g v : Int} (h : ¬ feC A g) : feT A g v = A ∧ feV A g v = -1 := by
  unfold feT feV
  rw [okb_f (show ¬ (feC A g ∧ v = 0) from fun z => h z.1), okb_f h]
  exact ⟨rfl, rfl⟩
theorem feT_K {A : Nat → Nat → Int} {g v : Int} (hk : zK A) : zK (feT A g v) := by
  by_cases c : feC A g
  · by_cases w : v = 0
    · rw [(feT_1 c w).1]
      refine ⟨hk.1, hk.2.1, ?_⟩
      show zO (fu_up (A 150) (bxA A g).toNat 0) (A 151) (A 152)
      refine zO_cg hk.2.2 (fun q hq => ?_)
      by_cases e : q = (bxA A g).toNat
      · rw [e, fu_eq] at hq
        omega
      · rw [fu_ne e] at hq
        exact ⟨hq, rfl⟩
    · rw [(feT_2 c w).1]
      exact hk
  · rw [(feT_0 c).1]
    exact hk
/-- what customs say of a box: the class's word, the reference's -/
noncomputable def fcC (I : Nat → Nat → Int32) (b v : Int32) : Prop := ∃ o, lastS (cuC I b (I 42 7).toInt.toNat) (I 42 7).toInt.toNat o ∧ v = cuV (fun k => I 43 k) o
noncomputable def fcR (I : Nat → Nat → Int32) (b v : Int32) : Prop := ∃ o, lastS (cuR I b (I 118 70).toInt.toNat) (I 118 70).toInt.toNat o ∧ v = cuV (fun k => I 164 k) o
theorem fc_uq {I : Nat → Nat → Int32} (hF : gF I) (e : I 42 7 = I 118 70) (h0 : 0 ≤ (I 42 7).toInt) {b v w : Int32} (a : fcC I b v) (c : fcR I b w) : v = w := by
  obtain ⟨o, a1, rfl⟩ := a
  obtain ⟨o2, c1, rfl⟩ := c
  rw [← e] at c1
  exact stop_eq hF (n := (I 42 7).toInt.toNat) (by omega) a1 c1
theorem fcR_cg {I I' : Nat → Nat → Int32} {b v : Int32} (e4 : ∀ i, I' 164 i = I 164 i) (e5 : ∀ i, I' 165 i = I 165 i) (e7 : I' 118 70 = I 118 70) (h : fcR I' b v) : fcR I b v := by
  have q : cuR I' = cuR I := by
    funext b n k
    unfold cuR voR
    simp only [e4, e5]
  obtain ⟨o, a, rfl⟩ := h
  rw [e7, q] at a
  exact ⟨o, a, congrArg (fun f => cuV f o) (funext fun k => e4 k)⟩
theorem bx_b {s : Nat} {A : Nat → Nat → Int} {g : Int} (hi : zI s A) (h : feC A g) : (0 ≤ bxA A g ∧ bxA A g ≤ 29) ∧ A 150 (bxA A g).toNat = 2 ∧ A 151 (bxA A g).toNat = 4 * g + (A 154 g.toNat - 1) := by
  have b4 := hi.2.1.2.2.2.2.2 g.toNat
  have n := h.2.2
  have ab := hi.1.1.2.1 g.toNat (A 154 g.toNat - 1).toNat (by have := h.2.1; have := h.1; omega) (by omega) (by omega)
  rw [show 4 * g.toNat + (A 154 g.toNat - 1).toNat = (4 * g + A 154 g.toNat - 1).toNat by have := h.1; omega] at ab
  have b3 := hi.2.1.2.2.2.2.1 (4 * g + A 154 g.toNat - 1).toNat
  exact ⟨b3, ab.1, by have e := ab.2; have := h.1; unfold bxA; omega⟩
theorem hz_cfe {L : Nat} {xs : Nat → Int32} {Z : Option Value → qm_H → Prop} {h : qm_H} {d : Nat} {A : Nat → Nat → Int} {g : Int32} (h6 : 6 ≤ L) (hH : hk_H h) (hB : hk_B h.2.1) (hV : v_C h.2.1) (hc : zC A h.2.1) (hi : ∃ s, zI s A) (hF : gF h.2.1) (hd : 30 ≤ d) (k : ∀ (I : Nat → Nat → Int32) (v : Int32), hk_B I → v_C I → (∀ o, [6, 7, 8, 9, 10, 11, 12, 13, 14, 16, 17, 28, 36, 37].contains o = false → ∀ i, I o i = h.2.1 o i) → (∃ s9 : Int32, (∀ b : Int32, feC A g.toInt → b.toInt = bxA A g.toInt → fcC h.2.1 b s9) ∧ zC (feT A g.toInt s9.toInt) I ∧ v.toInt = feV A g.toInt s9.toInt) → Z (some (.int v)) (h.1, I, h.2.2.1, h.2.2.2)) : qm_Ru (some (L, xs)) d (qm_F 80).2 (qm_ent (qm_F 80).1 [.ref 0, .int g] h) Z := by
  obtain ⟨s, hi⟩ := hi
  have w9 := hc_fetch L xs d (fun r h' => ∃ (I : Nat → Nat → Int32) (J : Nat → Nat → Int64), h' = (h.1, I, J, h.2.2.2) ∧ hk_B I ∧ v_C I ∧ (∀ o, [6, 7, 8, 9, 10, 11, 12, 13, 14, 16, 17, 28, 36, 37].contains o = false → ∀ i, I o i = h.2.1 o i)) h [.ref 0, .int g] h6 hH trivial hB hV ⟨g, rfl, qa_in_full g⟩ hd (fun r I J _ hB' hV' e => ⟨I, J, rfl, hB', hV', e⟩)
  have hcc := hc
  obtain ⟨⟨c1, c2, c3, c4, c5, c6, c7, c8⟩, ⟨c9, c10⟩, hp, hs⟩ := hc
  have h60 : 0 ≤ (h.2.1 42 7).toInt ∧ (h.2.1 42 7).toInt ≤ 60 := hB 42 7
  have cc : (0 ≤ g.toInt ∧ g.toInt ≤ 3 ∧ pI h.2.1 17 g.toInt.toNat ≠ 0) ↔ feC A g.toInt := by
    rw [c8]
    exact Iff.rfl
  have be : pI h.2.1 16 (4 * g.toInt + pI h.2.1 17 g.toInt.toNat - 1).toNat = bxA A g.toInt := by
    rw [c7, c8]
    rfl
  have g9 := w9.both (Q2 := fun r h' => ∃ (I : Nat → Nat → Int32) (v : Int32), h' = (h.1, I, h.2.2.1, h.2.2.2) ∧ r = some (.int v) ∧ (∃ s9 : Int32, (∀ b : Int32, feC A g.toInt → b.toInt = bxA A g.toInt → fcC h.2.1 b s9) ∧ zC (feT A g.toInt s9.toInt) I ∧ v.toInt = feV A g.toInt s9.toInt)) (fun fu => px_cfe (X := some (L, xs)) hH (g := g) (fun i => hB 17 i) (fun i => hB 16 i) (S := fcC h.2.1) (nf := h.2.1 42 7) rfl (fun b Z2 f2 kk => qm_Rp.of (hs_stopc (d := 0) hH hB h60 (vo_b hF (by omega) h60.2) (fun o ho => kk _ cuV_b ⟨o, ho, rfl⟩))) (fun z => ⟨h.2.1, -1, rfl, rfl, 0, fun b q => absurd (cc.mpr q) z, by rw [(feT_0 (fun q => z (cc.mpr q))).1]; exact hcc, (feT_0 (fun q => z (cc.mpr q))).2.symm⟩) (fun b v z eb hst hv => ⟨h.2.1, -2, rfl, rfl, v, (fun b9 c9 e9 => by rw [show b9 = b from hk_eqi.mpr (e9.trans (eb.trans be).symm)]; exact hst), by rw [(feT_2 (cc.mp z) hv).1]; exact hcc, (feT_2 (cc.mp z) hv).2.symm⟩) (fun I b v z eb hst hv f x11 x12 x13 x14 x17 => ⟨I, b, rfl, rfl, v, (fun b9 c9 e9 => by rw [show b9 = b from hk_eqi.mpr (e9.trans (eb.trans be).symm)]; exact hst), ?_, (eb.trans be).trans (feT_1 (cc.mp z) hv).2.symm⟩))
  · refine g9.mono (fun r h' q => ?_)
    obtain ⟨⟨I, J, rfl, b1, b2, b3⟩, I', v, e1, rfl, q⟩ := q
    obtain ⟨rfl, rfl⟩ := hp_uq e1
    exact k I v b1 b2 b3 q
  · rw [(feT_1 (cc.mp z) hv).1]
    have eb := eb.trans be
    have a2 := (bx_b hi (cc.mp z)).2.1
    rw [eb] at x11 x12 x13 x14
    exact fe_zC hcc a2 (funext fun i => congrArg Int32.toInt (f 7 rfl i)) (funext fun i => congrArg Int32.toInt (f 8 rfl i)) (funext fun i => congrArg Int32.toInt (f 9 rfl i)) (funext fun i => congrArg Int32.toInt (f 10 rfl i)) (funext fun i => congrArg Int32.toInt (f 36 rfl i)) (funext fun i => congrArg Int32.toInt (f 16 rfl i)) (funext fun i => congrArg Int32.toInt (f 37 rfl i)) (f 28 rfl 4) (f 28 rfl 5) (f 28 rfl 6) (f 6 rfl 0) x11 x12 x13 x14 x17
theorem hz_rfe {L : Nat} {xs : Nat → Int32} {Z : Option Value → qm_H → Prop} {h : qm_H} {d : Nat} {A : Nat → Nat → Int} {g : Int32} (h6 : 6 ≤ L) (hH : hk_H h) (hB : hk_B h.2.1) (hV : v_S h.2.1) (hr : zR A h.2.1) (hi : ∃ s, zI s A) (hn : 0 ≤ (h.2.1 118 70).toInt ∧ (h.2.1 118 70).toInt ≤ 60) (hd : 60 ≤ d) (k : ∀ (I : Nat → Nat → Int32) (v : Int32), hk_B I → v_S I → (∀ o, [146, 147, 148, 149, 150, 151, 152, 153, 154, 155, 156].contains o = false → ∀ i, I o i = h.2.1 o i) → (∃ s9 : Int32, (∀ b : Int32, feC A g.toInt → b.toInt = bxA A g.toInt → fcR h.2.1 b s9) ∧ (∀ o, [150, 154].contains o = false → ∀ i, I o i = h.2.1 o i) ∧ zR (feT A g.toInt s9.toInt) I ∧ v.toInt = feV A g.toInt s9.toInt) → Z (some (.int v)) (h.1, I, h.2.2.1, h.2.2.2)) : qm_Ru (some (L, xs)) d (qm_F 280).2 (qm_ent (qm_F 280).1 [.ref 118, .int g] h) Z := by
  obtain ⟨s, hi⟩ := hi
  have w9 := hcS_rfetch L xs d (fun r h' => ∃ (I : Nat → Nat → Int32) (J : Nat → Nat → Int64), h' = (h.1, I, J, h.2.2.2) ∧ hk_B I ∧ v_S I ∧ (∀ o, [146, 147, 148, 149, 150, 151, 152, 153, 154, 155, 156].contains o = false → ∀ i, I o i = h.2.1 o i)) h [.ref 118, .int g] h6 hH trivial hB hV ⟨g, rfl⟩ hd (fun r I J _ hB' hV' e => ⟨I, J, rfl, hB', hV', e⟩)
  have c5 := hr.1.2.2.2.2.1
  have c6 := hr.1.2.2.2.2.2.1
  have c7 := hr.1.2.2.2.2.2.2.2.1
  have c8 := hr.1.2.2.2.2.2.2.2.2
  have cc : (0 ≤ g.toInt ∧ g.toInt ≤ 3 ∧ pI h.2.1 154 g.toInt.toNat ≠ 0) ↔ feC A g.toInt := by
    rw [c8]
    exact Iff.rfl
  have be : pI h.2.1 153 (4 * g.toInt + pI h.2.1 154 g.toInt.toNat - 1).toNat = bxA A g.toInt := by
    rw [c7, c8]
    rfl
  have g9 := w9.both (Q2 := fun r h' => ∃ (I : Nat → Nat → Int32) (v : Int32), h' = (h.1, I, h.2.2.1, h.2.2.2) ∧ r = some (.int v) ∧ (∃ s9 : Int32, (∀ b : Int32, feC A g.toInt → b.toInt = bxA A g.toInt → fcR h.2.1 b s9) ∧ (∀ o, [150, 154].contains o = false → ∀ i, I o i = h.2.1 o i) ∧ zR (feT A g.toInt s9.toInt) I ∧ v.toInt = feV A g.toInt s9.toInt)) (fun fu => px_rfe (X := some (L, xs)) hH (g := g) (fun i => hB 154 i) (fun i => hB 153 i) (by rw [c5, c6, c7, c8]; exact hi.1.1.2.1) (S := fcR h.2.1) (nf := h.2.1 118 70) rfl (fun b Z2 f2 kk => qm_Rp.of (hs_stopr (d := 0) hH hB hn (fun o ho => kk _ cuV_b ⟨o, ho, rfl⟩))) (fun z => ⟨h.2.1, -1, rfl, rfl, 0, fun b q => absurd (cc.mpr q) z, fun _ _ _ => rfl, by rw [(feT_0 (fun q => z (cc.mpr q))).1]; exact hr, (feT_0 (fun q => z (cc.mpr q))).2.symm⟩) (fun b v z eb hst hv => ⟨h.2.1, -2, rfl, rfl, v, (fun b9 c9 e9 => by rw [show b9 = b from hk_eqi.mpr (e9.trans (eb.trans be).symm)]; exact hst), fun _ _ _ => rfl, by rw [(feT_2 (cc.mp z) hv).1]; exact hr, (feT_2 (cc.mp z) hv).2.symm⟩) (fun I b v z eb hst hv f x50 x54 => ⟨I, b, rfl, rfl, v, (fun b9 c9 e9 => by rw [show b9 = b from hk_eqi.mpr (e9.trans (eb.trans be).symm)]; exact hst), f, ?_, (eb.trans be).trans (feT_1 (cc.mp z) hv).2.symm⟩))
  · refine g9.mono (fun r h' q => ?_)
    obtain ⟨⟨I, J, rfl, b1, b2, b3⟩, I', v, e1, rfl, q⟩ := q
    obtain ⟨rfl, rfl⟩ := hp_uq e1
    exact k I v b1 b2 b3 q
  · rw [(feT_1 (cc.mp z) hv).1]
    have eb := eb.trans be
    rw [eb, c5] at x50
    rw [c8] at x54
    have e : ∀ o, [150, 154].contains o = false → pI I o = pI h.2.1 o := fun o ho => funext fun i => congrArg Int32.toInt (f o ho i)
    refine zR_cg hr (fun o ho => ?_) (Or.inr ⟨f 118 rfl 44, rfl⟩) (Or.inr ⟨f 118 rfl 54, rfl⟩) ⟨f 118 rfl 18, rfl⟩
    simp only [List.mem_cons, List.not_mem_nil, or_false] at ho
    rcases ho with rfl | rfl | rfl | rfl | rfl | rfl | rfl | rfl | rfl | rfl | rfl | rfl | rfl | rfl
    · exact Or.inr ⟨e 127 rfl, rfl⟩
    · exact Or.inr ⟨e 128 rfl, rfl⟩
    · exact Or.inr ⟨e 129 rfl, rfl⟩
    · exact Or.inr ⟨e 131 rfl, rfl⟩
    · exact Or.inr ⟨e 132 rfl, rfl⟩
    · exact Or.inr ⟨e 146 rfl, rfl⟩
    · exact Or.inr ⟨e 147 rfl, rfl⟩
    · exact Or.inr ⟨e 148 rfl, rfl⟩
    · exact Or.inr ⟨e 149 rfl, rfl⟩
    · exact Or.inl x50
    · exact Or.inr ⟨e 151 rfl, rfl⟩
    · exact Or.inr ⟨e 152 rfl, rfl⟩
    · exact Or.inr ⟨e 153 rfl, rfl⟩
    · exact Or.inl x54
