/-! contracts of the reference by hand -/
theorem rl_take {X : Option (Nat × (Nat → Int32))} {d : Nat} {Z : Option Value → qm_H → Prop} {h : qm_H} (hH : hk_H h) (hB : hk_B h.2.1) (hV : v_R h.2.1) {b : Int32} (b_b : (0 : Int) ≤ b.toInt ∧ b.toInt ≤ 29) {g : Nat} {hv : Int} (f150 : pI h.2.1 150 (b.toInt.toNat) = 2) (f151 : pI h.2.1 151 (b.toInt.toNat) = 4 * (g : Int) + (hv - 1)) (f154 : pI h.2.1 154 g = hv) (hg : g < 4) (h1 : 1 ≤ hv) (h4 : hv ≤ 4) (k : ∀ I : Nat → Nat → Int32, hk_B I → v_R I → (∀ o, [150, 154].contains o = false → ∀ i, I o i = h.2.1 o i) → ((I 150 (b.toInt.toNat)).toInt = 0) → (∀ i, i ≠ b.toInt.toNat → I 150 i = h.2.1 150 i) → ((I 154 g).toInt = hv - 1) → Z none (h.1, I, h.2.2.1, h.2.2.2)) : qm_Ru X (d + 10) cd_283 (qm_ent 2 [.ref 118, .int b] h) Z := by
  refine qm_Ru.go 1 (c' := (1, [.ref 118, .int b], [.ref 118], h)) rfl ?_
  refine hk_getr rfl (hH.1 118 (17, 105) rfl) rfl (hH.2 118 49 (some 150) rfl) ?_
  refine qm_Ru.go 1 (c' := (5, [.ref 118, .int b], [.int b, .ref 150], h)) rfl ?_
  obtain ⟨v1, q_v1⟩ : ∃ v, h.2.1 150 (b.toInt.toNat) = v := ⟨_, rfl⟩
  have b_v1 : (0 : Int) ≤ v1.toInt ∧ v1.toInt ≤ 2 := by rw [← q_v1]; exact hB 150 (b.toInt.toNat)
  refine hk_ial (v := v1) rfl (hH.1 150 (0, 30) rfl) (by omega) (by omega) q_v1 ?_
  refine qm_Ru.go 0 (c' := (6, [.ref 118, .int b], [.int v1], h)) rfl ?_
  have f_v1 : v1.toInt = 2 := by rw [← q_v1]; exact f150
  refine qm_Ru.go 1 (c' := (7, [.ref 118, .int b], [.int 2, .int v1], h)) rfl ?_
  refine hk_cne (ix := v1.toInt) (iy := 2) rfl rfl rfl (fun z2 => by exfalso; omega) (fun z2 => ?_)
  refine qm_Ru.go 1 (c' := (11, [.ref 118, .int b], [.ref 118], h)) rfl ?_
  refine hk_getr rfl (hH.1 118 (17, 105) rfl) rfl (hH.2 118 53 (some 154) rfl) ?_
  refine qm_Ru.go 1 (c' := (15, [.ref 118, .int b], [.ref 118, .ref 154], h)) rfl ?_
  refine hk_getr rfl (hH.1 118 (17, 105) rfl) rfl (hH.2 118 50 (some 151) rfl) ?_
  refine qm_Ru.go 1 (c' := (19, [.ref 118, .int b], [.int b, .ref 151, .ref 154], h)) rfl ?_
  obtain ⟨v3, q_v3⟩ : ∃ v, h.2.1 151 (b.toInt.toNat) = v := ⟨_, rfl⟩
  have b_v3 : (0 : Int) ≤ v3.toInt ∧ v3.toInt ≤ 79 := by rw [← q_v3]; exact hB 151 (b.toInt.toNat)
  refine hk_ial (v := v3) rfl (hH.1 151 (0, 30) rfl) (by omega) (by omega) q_v3 ?_
  refine qm_Ru.go 0 (c' := (20, [.ref 118, .int b], [.int v3, .ref 154], h)) rfl ?_
  have f_v3 : v3.toInt = 4 * (g : Int) + (hv - 1) := by rw [← q_v3]; exact f151
  refine qm_Ru.go 2 (c' := (22, [.ref 118, .int b], [.int (v3 / 4), .ref 154], h)) rfl ?_
  obtain ⟨v4, q_v4, e_v4⟩ := hk_div (x := v3) (y := 4) (a := v3.toInt) (b := 4) rfl rfl (by omega) (by omega)
  rw [q_v4]
  refine qm_Ru.go 1 (c' := (23, [.ref 118, .int b], [.int v4, .ref 154, .int v4, .ref 154], h)) rfl ?_
  obtain ⟨v5, q_v5⟩ : ∃ v, h.2.1 154 (v4.toInt.toNat) = v := ⟨_, rfl⟩
  have b_v5 : (0 : Int) ≤ v5.toInt ∧ v5.toInt ≤ 4 := by rw [← q_v5]; exact hB 154 (v4.toInt.toNat)
  refine hk_ial (v := v5) rfl (hH.1 154 (0, 4) rfl) (by omega) (by omega) q_v5 ?_
  refine qm_Ru.go 0 (c' := (24, [.ref 118, .int b], [.int v5, .int v4, .ref 154], h)) rfl ?_
  have f_v5 : v5.toInt = hv := by rw [← q_v5, show v4.toInt.toNat = g from by omega]; exact f154
  refine qm_Ru.go 2 (c' := (26, [.ref 118, .int b], [.int (v5 - 1), .int v4, .ref 154], h)) rfl ?_
  obtain ⟨v6, q_v6, e_v6⟩ := hk_sub (x := v5) (y := 1) (a := v5.toInt) (b := 1) rfl rfl (by omega) (by omega)
  rw [q_v6]
  refine hk_ias rfl (hH.1 154 (0, 4) rfl) (by omega) (by omega) ?_
  refine qm_Ru.go 1 (c' := (28, [.ref 118, .int b], [.ref 118], (h.1, qm_up h.2.1 154 (v4.toInt.toNat) v6, h.2.2.1, h.2.2.2))) rfl ?_
  refine hk_getr rfl (hH.1 118 (17, 105) rfl) rfl (hH.2 118 49 (some 150) rfl) ?_
  refine qm_Ru.go 1 (c' := (32, [.ref 118, .int b], [.int b, .ref 150], (h.1, qm_up h.2.1 154 (v4.toInt.toNat) v6, h.2.2.1, h.2.2.2))) rfl ?_
  refine hk_ial (v := v1) rfl (hH.1 150 (0, 30) rfl) (by omega) (by omega) (show (qm_up h.2.1 154 (v4.toInt.toNat) v6) 150 (b.toInt.toNat) = _ from ((hk_ot rfl).trans q_v1)) ?_
  refine qm_Ru.go 1 (c' := (34, [.ref 118, .int b], [.int 1, .int v1], (h.1, qm_up h.2.1 154 (v4.toInt.toNat) v6, h.2.2.1, h.2.2.2))) rfl ?_
  refine hk_cne (ix := v1.toInt) (iy := 1) rfl rfl rfl (fun z7 => ?_) (fun z7 => by exfalso; omega)
  refine qm_Ru.go 1 (c' := (50, [.ref 118, .int b], [.ref 118], (h.1, qm_up h.2.1 154 (v4.toInt.toNat) v6, h.2.2.1, h.2.2.2))) rfl ?_
  refine hk_getr rfl (hH.1 118 (17, 105) rfl) rfl (hH.2 118 49 (some 150) rfl) ?_
  refine qm_Ru.go 2 (c' := (55, [.ref 118, .int b], [.int 0, .int b, .ref 150], (h.1, qm_up h.2.1 154 (v4.toInt.toNat) v6, h.2.2.1, h.2.2.2))) rfl ?_
  refine hk_ias rfl (hH.1 150 (0, 30) rfl) (by omega) (by omega) ?_
  refine qm_Ru.go 0 (c' := (56, [.ref 118, .int b], [], (h.1, qm_up (qm_up h.2.1 154 (v4.toInt.toNat) v6) 150 (b.toInt.toNat) 0, h.2.2.1, h.2.2.2))) rfl ?_
  refine qm_Ru.rt (v := none) (h' := (h.1, qm_up (qm_up h.2.1 154 (v4.toInt.toNat) v6) 150 (b.toInt.toNat) 0, h.2.2.1, h.2.2.2)) rfl ?_
  exact k (qm_up (qm_up h.2.1 154 (v4.toInt.toNat) v6) 150 (b.toInt.toNat) 0) (hb_up (o := 150) (k := b.toInt.toNat) (x := 0) (hb_up (o := 154) (k := v4.toInt.toNat) (x := v6) hB ⟨by show (0 : Int) ≤ v6.toInt; omega, by show v6.toInt ≤ (4 : Int); omega⟩) ⟨(show (0 : Int) ≤ 0 from by decide), (show (0 : Int) ≤ 2 from by decide)⟩) ⟨(mR_take (I := h.2.1) (I' := qm_up (qm_up h.2.1 154 (v4.toInt.toNat) v6) 150 (b.toInt.toNat) 0) hV.1 (pI_up.trans (congrArg (fun f => fu_up f b.toInt.toNat (Int32.toInt 0)) ((pI_sk rfl).trans rfl))) ((pI_sk rfl).trans ((pI_sk rfl).trans rfl)) ((pI_sk rfl).trans ((pI_sk rfl).trans rfl)) ((pI_sk rfl).trans ((pI_sk rfl).trans rfl)) ((pI_sk rfl).trans (pI_up.trans rfl)) (congrArg Int32.toInt ((hk_ot rfl).trans ((hk_ot rfl).trans rfl))) f150 ((congrArg (pI h.2.1 154) (show v4.toInt.toNat = g from by omega)).trans f154) (f151.trans (by omega)) rfl (by omega) (by omega) (by omega) (by omega)), hV.2⟩ (fun o ho i => ((hk_mod ho rfl).trans ((hk_mod ho rfl).trans rfl))) (congrArg Int32.toInt (hk_same)) (fun i hi => (hk_neq hi).trans (hk_ot rfl)) ((congrArg Int32.toInt ((hk_ot rfl).trans (hk_equ (show g = v4.toInt.toNat from by omega)))).trans (by omega))
theorem rl_away {X : Option (Nat × (Nat → Int32))} {d : Nat} {Z : Option Value → qm_H → Prop} {h : qm_H} (hH : hk_H h) (hB : hk_B h.2.1) (hV : v_R h.2.1) {b : Int32} (b_b : (0 : Int) ≤ b.toInt ∧ b.toInt ≤ 29) (f150 : pI h.2.1 150 (b.toInt.toNat) = 1) (k : ∀ I : Nat → Nat → Int32, hk_B I → v_R I → (∀ o, [150, 152].contains o = false → ∀ i, I o i = h.2.1 o i) → ((I 150 (b.toInt.toNat)).toInt = 0) → (∀ i, i ≠ b.toInt.toNat → I 150 i = h.2.1 150 i) → Z none (h.1, I, h.2.2.1, h.2.2.2)) : qm_Ru X (d + 10) cd_283 (qm_ent 2 [.ref 118, .int b] h) Z := by
  refine qm_Ru.go 1 (c' := (1, [.ref 118, .int b], [.ref 118], h)) rfl ?_
  refine hk_getr rfl (hH.1 118 (17, 105) rfl) rfl (hH.2 118 49 (some 150) rfl) ?_
  refine qm_Ru.go 1 (c' := (5, [.ref 118, .int b], [.int b, .ref 150], h)) rfl ?_
  obtain ⟨v1, q_v1⟩ : ∃ v, h.2.1 150 (b.toInt.toNat) = v := ⟨_, rfl⟩
  have b_v1 : (0 : Int) ≤ v1.toInt ∧ v1.toInt ≤ 2 := by rw [← q_v1]; exact hB 150 (b.toInt.toNat)
  refine hk_ial (v := v1) rfl (hH.1 150 (0, 30) rfl) (by omega) (by omega) q_v1 ?_
  refine qm_Ru.go 0 (c' := (6, [.ref 118, .int b], [.int v1], h)) rfl ?_
  have f_v1 : v1.toInt = 1 := by rw [← q_v1]; exact f150
  refine qm_Ru.go 1 (c' := (7, [.ref 118, .int b], [.int 2, .int v1], h)) rfl ?_
  refine hk_cne (ix := v1.toInt) (iy := 2) rfl rfl rfl (fun z2 => ?_) (fun z2 => by exfalso; omega)
  refine qm_Ru.go 1 (c' := (28, [.ref 118, .int b], [.ref 118], h)) rfl ?_
  refine hk_getr rfl (hH.1 118 (17, 105) rfl) rfl (hH.2 118 49 (some 150) rfl) ?_
  refine qm_Ru.go 1 (c' := (32, [.ref 118, .int b], [.int b, .ref 150], h)) rfl ?_
  refine hk_ial (v := v1) rfl (hH.1 150 (0, 30) rfl) (by omega) (by omega) q_v1 ?_
  refine qm_Ru.go 1 (c' := (34, [.ref 118, .int b], [.int 1, .int v1], h)) rfl ?_
  refine hk_cne (ix := v1.toInt) (iy := 1) rfl rfl rfl (fun z3 => by exfalso; omega) (fun z3 => ?_)
  refine qm_Ru.go 1 (c' := (38, [.ref 118, .int b], [.ref 118], h)) rfl ?_
  refine hk_getr rfl (hH.1 118 (17, 105) rfl) rfl (hH.2 118 51 (some 152) rfl) ?_
  refine qm_Ru.go 1 (c' := (42, [.ref 118, .int b], [.ref 118, .ref 152], h)) rfl ?_
  refine hk_getr rfl (hH.1 118 (17, 105) rfl) rfl (hH.2 118 50 (some 151) rfl) ?_
  refine qm_Ru.go 1 (c' := (46, [.ref 118, .int b], [.int b, .ref 151, .ref 152], h)) rfl ?_
  obtain ⟨v4, q_v4⟩ : ∃ v, h.2.1 151 (b.toInt.toNat) = v := ⟨_, rfl⟩
  have b_v4 : (0 : Int) ≤ v4.toInt ∧ v4.toInt ≤ 79 := by rw [← q_v4]; exact hB 151 (b.toInt.toNat)
  refine hk_ial (v := v4) rfl (hH.1 151 (0, 30) rfl) (by omega) (by omega) q_v4 ?_
  refine qm_Ru.go 1 (c' := (48, [.ref 118, .int b], [.int (-1), .int v4, .ref 152], h)) rfl ?_
  refine hk_ias rfl (hH.1 152 (0, 80) rfl) (by omega) (by omega) ?_
  refine qm_Ru.go 1 (c' := (50, [.ref 118, .int b], [.ref 118], (h.1, qm_up h.2.1 152 (v4.toInt.toNat) (-1), h.2.2.1, h.2.2.2))) rfl ?_
  refine hk_getr rfl (hH.1 118 (17, 105) rfl) rfl (hH.2 118 49 (some 150) rfl) ?_
  refine qm_Ru.go 2 (c' := (55, [.ref 118, .int b], [.int 0, .int b, .ref 150], (h.1, qm_up h.2.1 152 (v4.toInt.toNat) (-1), h.2.2.1, h.2.2.2))) rfl ?_
  refine hk_ias rfl (hH.1 150 (0, 30) rfl) (by omega) (by omega) ?_
  refine qm_Ru.go 0 (c' := (56, [.ref 118, .int b], [], (h.1, qm_up (qm_up h.2.1 152 (v4.toInt.toNat) (-1)) 150 (b.toInt.toNat) 0, h.2.2.1, h.2.2.2))) rfl ?_
  refine qm_Ru.rt (v := none) (h' := (h.1, qm_up (qm_up h.2.1 152 (v4.toInt.toNat) (-1)) 150 (b.toInt.toNat) 0, h.2.2.1, h.2.2.2)) rfl ?_
  exact k (qm_up (qm_up h.2.1 152 (v4.toInt.toNat) (-1)) 150 (b.toInt.toNat) 0) (hb_up (o := 150) (k := b.toInt.toNat) (x := 0) (hb_up (o := 152) (k := v4.toInt.toNat) (x := (-1)) hB ⟨(show (-1 : Int) ≤ -1 from by decide), (show (-1 : Int) ≤ 29 from by decide)⟩) ⟨(show (0 : Int) ≤ 0 from by decide), (show (0 : Int) ≤ 2 from by decide)⟩) ⟨(mR_away (I := h.2.1) (I' := qm_up (qm_up h.2.1 152 (v4.toInt.toNat) (-1)) 150 (b.toInt.toNat) 0) hV.1 (pI_up.trans (congrArg (fun f => fu_up f b.toInt.toNat (Int32.toInt 0)) ((pI_sk rfl).trans rfl))) ((pI_sk rfl).trans ((pI_sk rfl).trans rfl)) ((pI_sk rfl).trans (pI_up.trans rfl)) ((pI_sk rfl).trans ((pI_sk rfl).trans rfl)) ((pI_sk rfl).trans ((pI_sk rfl).trans rfl)) (congrArg Int32.toInt ((hk_ot rfl).trans ((hk_ot rfl).trans rfl))) f150 (by show (h.2.1 151 (b.toInt.toNat)).toInt = _; rw [q_v4]; omega) rfl hk_m1), hV.2⟩ (fun o ho i => ((hk_mod ho rfl).trans ((hk_mod ho rfl).trans rfl))) (congrArg Int32.toInt (hk_same)) (fun i hi => (hk_neq hi).trans (hk_ot rfl))
theorem rl_none {X : Option (Nat × (Nat → Int32))} {d : Nat} {Z : Option Value → qm_H → Prop} {h : qm_H} (hH : hk_H h) {b : Int32} (b_b : (0 : Int) ≤ b.toInt ∧ b.toInt ≤ 29) (f150 : pI h.2.1 150 (b.toInt.toNat) = 0) (k : Z none h) : qm_Ru X (d + 10) cd_283 (qm_ent 2 [.ref 118, .int b] h) Z := by
  refine qm_Ru.go 1 (c' := (1, [.ref 118, .int b], [.ref 118], h)) rfl ?_
  refine hk_getr rfl (hH.1 118 (17, 105) rfl) rfl (hH.2 118 49 (some 150) rfl) ?_
  refine qm_Ru.go 1 (c' := (5, [.ref 118, .int b], [.int b, .ref 150], h)) rfl ?_
  obtain ⟨v1, q_v1⟩ : ∃ v, h.2.1 150 (b.toInt.toNat) = v := ⟨_, rfl⟩
  refine hk_ial (v := v1) rfl (hH.1 150 (0, 30) rfl) (by omega) (by omega) q_v1 ?_
  refine qm_Ru.go 0 (c' := (6, [.ref 118, .int b], [.int v1], h)) rfl ?_
  have f_v1 : v1.toInt = 0 := by rw [← q_v1]; exact f150
  refine qm_Ru.go 1 (c' := (7, [.ref 118, .int b], [.int 2, .int v1], h)) rfl ?_
  refine hk_cne (ix := v1.toInt) (iy := 2) rfl rfl rfl (fun z2 => ?_) (fun z2 => by exfalso; omega)
  refine qm_Ru.go 1 (c' := (28, [.ref 118, .int b], [.ref 118], h)) rfl ?_
  refine hk_getr rfl (hH.1 118 (17, 105) rfl) rfl (hH.2 118 49 (some 150) rfl) ?_
  refine qm_Ru.go 1 (c' := (32, [.ref 118, .int b], [.int b, .ref 150], h)) rfl ?_
  refine hk_ial (v := v1) rfl (hH.1 150 (0, 30) rfl) (by omega) (by omega) q_v1 ?_
  refine qm_Ru.go 1 (c' := (34, [.ref 118, .int b], [.int 1, .int v1], h)) rfl ?_
  refine hk_cne (ix := v1.toInt) (iy := 1) rfl rfl rfl (fun z3 => ?_) (fun z3 => by exfalso; omega)
  refine qm_Ru.go 1 (c' := (50, [.ref 118, .int b], [.ref 118], h)) rfl ?_
  refine hk_getr rfl (hH.1 118 (17, 105) rfl) rfl (hH.2 118 49 (some 150) rfl) ?_
  refine qm_Ru.go 2 (c' := (55, [.ref 118, .int b], [.int 0, .int b, .ref 150], h)) rfl ?_
  refine hk_ias rfl (hH.1 150 (0, 30) rfl) (by omega) (by omega) ?_
  refine qm_Ru.go 0 (c' := (56, [.ref 118, .int b], [], (h.1, qm_up h.2.1 150 (b.toInt.toNat) 0, h.2.2.1, h.2.2.2))) rfl ?_
  refine qm_Ru.rt (v := none) (h' := (h.1, qm_up h.2.1 150 (b.toInt.toNat) 0, h.2.2.1, h.2.2.2)) rfl ?_
  have e : qm_up h.2.1 150 (b.toInt.toNat) 0 = h.2.1 := hk_id (by rw [q_v1]; exact hk_eqi.mpr (show v1.toInt = 0 from by omega))
  rw [e]
  exact k
theorem rb_boards {X : Option (Nat × (Nat → Int32))} {d : Nat} {Z : Option Value → qm_H → Prop} {h : qm_H} (hH : hk_H h) (hB : hk_B h.2.1) (hV : v_R h.2.1) {b k0 : Int32} (b_b : (0 : Int) ≤ b.toInt ∧ b.toInt ≤ 29) (b_k0 : (0 : Int) ≤ k0.toInt ∧ k0.toInt ≤ 79) (f150 : pI h.2.1 150 (b.toInt.toNat) = 0) (hn : ((b.toInt.toNat : Nat) : Int) < (h.2.1 118 44).toInt) (k : ∀ I : Nat → Nat → Int32, hk_B I → v_R I → (∀ o, [150, 151, 152].contains o = false → ∀ i, I o i = h.2.1 o i) → ((I 150 (b.toInt.toNat)).toInt = 1) → (∀ i, i ≠ b.toInt.toNat → I 150 i = h.2.1 150 i) → (I 151 (b.toInt.toNat) = k0) → (∀ i, i ≠ b.toInt.toNat → I 151 i = h.2.1 151 i) → Z none (h.1, I, h.2.2.1, h.2.2.2)) : qm_Ru X (d + 10) cd_295 (qm_ent 3 [.ref 118, .int b, .int k0] h) Z := by
  refine qm_Ru.go 1 (c' := (1, [.ref 118, .int b, .int k0], [.ref 118], h)) rfl ?_
  refine hk_getr rfl (hH.1 118 (17, 105) rfl) rfl (hH.2 118 49 (some 150) rfl) ?_
  refine qm_Ru.go 2 (c' := (6, [.ref 118, .int b, .int k0], [.int 1, .int b, .ref 150], h)) rfl ?_
  refine hk_ias rfl (hH.1 150 (0, 30) rfl) (by omega) (by omega) ?_
  refine qm_Ru.go 1 (c' := (8, [.ref 118, .int b, .int k0], [.ref 118], (h.1, qm_up h.2.1 150 (b.toInt.toNat) 1, h.2.2.1, h.2.2.2))) rfl ?_
  refine hk_getr rfl (hH.1 118 (17, 105) rfl) rfl (hH.2 118 50 (some 151) rfl) ?_
  refine qm_Ru.go 2 (c' := (13, [.ref 118, .int b, .int k0], [.int k0, .int b, .ref 151], (h.1, qm_up h.2.1 150 (b.toInt.toNat) 1, h.2.2.1, h.2.2.2))) rfl ?_
  refine hk_ias rfl (hH.1 151 (0, 30) rfl) (by omega) (by omega) ?_
  refine qm_Ru.go 1 (c' := (15, [.ref 118, .int b, .int k0], [.ref 118], (h.1, qm_up (qm_up h.2.1 150 (b.toInt.toNat) 1) 151 (b.toInt.toNat) k0, h.2.2.1, h.2.2.2))) rfl ?_
  refine hk_getr rfl (hH.1 118 (17, 105) rfl) rfl (hH.2 118 51 (some 152) rfl) ?_
  refine qm_Ru.go 2 (c' := (20, [.ref 118, .int b, .int k0], [.int b, .int k0, .ref 152], (h.1, qm_up (qm_up h.2.1 150 (b.toInt.toNat) 1) 151 (b.toInt.toNat) k0, h.2.2.1, h.2.2.2))) rfl ?_
  refine hk_ias rfl (hH.1 152 (0, 80) rfl) (by omega) (by omega) ?_
  refine qm_Ru.go 0 (c' := (21, [.ref 118, .int b, .int k0], [], (h.1, qm_up (qm_up (qm_up h.2.1 150 (b.toInt.toNat) 1) 151 (b.toInt.toNat) k0) 152 (k0.toInt.toNat) b, h.2.2.1, h.2.2.2))) rfl ?_
  refine qm_Ru.rt (v := none) (h' := (h.1, qm_up (qm_up (qm_up h.2.1 150 (b.toInt.toNat) 1) 151 (b.toInt.toNat) k0) 152 (k0.toInt.toNat) b, h.2.2.1, h.2.2.2)) rfl ?_
  exact k (qm_up (qm_up (qm_up h.2.1 150 (b.toInt.toNat) 1) 151 (b.toInt.toNat) k0) 152 (k0.toInt.toNat) b) (hb_up (o := 152) (k := k0.toInt.toNat) (x := b) (hb_up (o := 151) (k := b.toInt.toNat) (x := k0) (hb_up (o := 150) (k := b.toInt.toNat) (x := 1) hB ⟨(show (0 : Int) ≤ 1 from by decide), (show (1 : Int) ≤ 2 from by decide)⟩) ⟨by show (0 : Int) ≤ k0.toInt; omega, by show k0.toInt ≤ (79 : Int); omega⟩) ⟨by show (-1 : Int) ≤ b.toInt; omega, by show b.toInt ≤ (29 : Int); omega⟩) ⟨(mR_boards (I := h.2.1) (I' := qm_up (qm_up (qm_up h.2.1 150 (b.toInt.toNat) 1) 151 (b.toInt.toNat) k0) 152 (k0.toInt.toNat) b) hV.1 ((pI_sk rfl).trans ((pI_sk rfl).trans (pI_up.trans rfl))) ((pI_sk rfl).trans (pI_up.trans (congrArg (fun f => fu_up f b.toInt.toNat (Int32.toInt k0)) ((pI_sk rfl).trans rfl)))) (pI_up.trans (congrArg (fun f => fu_up f k0.toInt.toNat (Int32.toInt b)) ((pI_sk rfl).trans ((pI_sk rfl).trans rfl)))) ((pI_sk rfl).trans ((pI_sk rfl).trans ((pI_sk rfl).trans rfl))) ((pI_sk rfl).trans ((pI_sk rfl).trans ((pI_sk rfl).trans rfl))) (congrArg Int32.toInt ((hk_ot rfl).trans ((hk_ot rfl).trans ((hk_ot rfl).trans rfl)))) f150 rfl rfl (by omega) (by omega) hn), hV.2⟩ (fun o ho i => ((hk_mod ho rfl).trans ((hk_mod ho rfl).trans ((hk_mod ho rfl).trans rfl)))) (congrArg Int32.toInt ((hk_ot rfl).trans ((hk_ot rfl).trans (hk_same)))) (fun i hi => (hk_ot rfl).trans ((hk_ot rfl).trans (hk_neq hi))) ((hk_ot rfl).trans (hk_same)) (fun i hi => (hk_ot rfl).trans ((hk_neq hi).trans (hk_ot rfl)))
theorem rp_puts {X : Option (Nat × (Nat → Int32))} {d : Nat} {Z : Option Value → qm_H → Prop} {h : qm_H} (hH : hk_H h) (hB : hk_B h.2.1) (hV : v_R h.2.1) {b s : Int32} (b_b : (0 : Int) ≤ b.toInt ∧ b.toInt ≤ 29) (b_s : (0 : Int) ≤ s.toInt ∧ s.toInt ≤ 3) {hv : Int} (f150 : pI h.2.1 150 (b.toInt.toNat) = 0) (f154 : pI h.2.1 154 s.toInt.toNat = hv) (h0 : 0 ≤ hv) (h3 : hv ≤ 3) (hn : ((b.toInt.toNat : Nat) : Int) < (h.2.1 118 44).toInt) (k : ∀ I : Nat → Nat → Int32, hk_B I → v_R I → (∀ o, [150, 151, 153, 154].contains o = false → ∀ i, I o i = h.2.1 o i) → ((I 150 (b.toInt.toNat)).toInt = 2) → (∀ i, i ≠ b.toInt.toNat → I 150 i = h.2.1 150 i) → (∀ i, i ≠ b.toInt.toNat → I 151 i = h.2.1 151 i) → ((I 154 (s.toInt.toNat)).toInt = hv + 1) → Z none (h.1, I, h.2.2.1, h.2.2.2)) : qm_Ru X (d + 10) cd_279 (qm_ent 3 [.ref 118, .int b, .int s] h) Z := by
  refine qm_Ru.go 1 (c' := (1, [.ref 118, .int b, .int s], [.ref 118], h)) rfl ?_
  refine hk_getr rfl (hH.1 118 (17, 105) rfl) rfl (hH.2 118 49 (some 150) rfl) ?_
  refine qm_Ru.go 2 (c' := (6, [.ref 118, .int b, .int s], [.int 2, .int b, .ref 150], h)) rfl ?_
  refine hk_ias rfl (hH.1 150 (0, 30) rfl) (by omega) (by omega) ?_
  refine qm_Ru.go 1 (c' := (8, [.ref 118, .int b, .int s], [.ref 118], (h.1, qm_up h.2.1 150 (b.toInt.toNat) 2, h.2.2.1, h.2.2.2))) rfl ?_
  refine hk_getr rfl (hH.1 118 (17, 105) rfl) rfl (hH.2 118 50 (some 151) rfl) ?_
  refine qm_Ru.go 4 (c' := (15, [.ref 118, .int b, .int s], [.int (4 * s), .int b, .ref 151], (h.1, qm_up h.2.1 150 (b.toInt.toNat) 2, h.2.2.1, h.2.2.2))) rfl ?_
  obtain ⟨v1, q_v1, e_v1⟩ := hk_mul (x := 4) (y := s) (a := 4) (b := s.toInt) rfl rfl (by omega) (by omega)
  rw [q_v1]
  refine qm_Ru.go 1 (c' := (16, [.ref 118, .int b, .int s], [.ref 118, .int v1, .int b, .ref 151], (h.1, qm_up h.2.1 150 (b.toInt.toNat) 2, h.2.2.1, h.2.2.2))) rfl ?_
  refine hk_getr rfl (hH.1 118 (17, 105) rfl) rfl (hH.2 118 53 (some 154) rfl) ?_
  refine qm_Ru.go 1 (c' := (20, [.ref 118, .int b, .int s], [.int s, .ref 154, .int v1, .int b, .ref 151], (h.1, qm_up h.2.1 150 (b.toInt.toNat) 2, h.2.2.1, h.2.2.2))) rfl ?_
  obtain ⟨v2, q_v2⟩ : ∃ v, h.2.1 154 (s.toInt.toNat) = v := ⟨_, rfl⟩
  have b_v2 : (0 : Int) ≤ v2.toInt ∧ v2.toInt ≤ 4 := by rw [← q_v2]; exact hB 154 (s.toInt.toNat)
  refine hk_ial (v := v2) rfl (hH.1 154 (0, 4) rfl) (by omega) (by omega) (show (qm_up h.2.1 150 (b.toInt.toNat) 2) 154 (s.toInt.toNat) = _ from ((hk_ot rfl).trans q_v2)) ?_
  refine qm_Ru.go 0 (c' := (21, [.ref 118, .int b, .int s], [.int v2, .int v1, .int b, .ref 151], (h.1, qm_up h.2.1 150 (b.toInt.toNat) 2, h.2.2.1, h.2.2.2))) rfl ?_
  have f_v2 : v2.toInt = hv := by rw [← q_v2]; exact f154
  refine qm_Ru.go 1 (c' := (22, [.ref 118, .int b, .int s], [.int (v1 + v2), .int b, .ref 151], (h.1, qm_up h.2.1 150 (b.toInt.toNat) 2, h.2.2.1, h.2.2.2))) rfl ?_
  obtain ⟨v3, q_v3, e_v3⟩ := hk_add (x := v1) (y := v2) (a := v1.toInt) (b := v2.toInt) rfl rfl (by omega) (by omega)
  rw [q_v3]
  refine hk_ias rfl (hH.1 151 (0, 30) rfl) (by omega) (by omega) ?_
  refine qm_Ru.go 1 (c' := (24, [.ref 118, .int b, .int s], [.ref 118], (h.1, qm_up (qm_up h.2.1 150 (b.toInt.toNat) 2) 151 (b.toInt.toNat) v3, h.2.2.1, h.2.2.2))) rfl ?_
  refine hk_getr rfl (hH.1 118 (17, 105) rfl) rfl (hH.2 118 52 (some 153) rfl) ?_
  refine qm_Ru.go 1 (c' := (28, [.ref 118, .int b, .int s], [.ref 118, .ref 153], (h.1, qm_up (qm_up h.2.1 150 (b.toInt.toNat) 2) 151 (b.toInt.toNat) v3, h.2.2.1, h.2.2.2))) rfl ?_
  refine hk_getr rfl (hH.1 118 (17, 105) rfl) rfl (hH.2 118 50 (some 151) rfl) ?_
  refine qm_Ru.go 1 (c' := (32, [.ref 118, .int b, .int s], [.int b, .ref 151, .ref 153], (h.1, qm_up (qm_up h.2.1 150 (b.toInt.toNat) 2) 151 (b.toInt.toNat) v3, h.2.2.1, h.2.2.2))) rfl ?_
  refine hk_ial (v := v3) rfl (hH.1 151 (0, 30) rfl) (by omega) (by omega) (show (qm_up (qm_up h.2.1 150 (b.toInt.toNat) 2) 151 (b.toInt.toNat) v3) 151 (b.toInt.toNat) = _ from (hk_same)) ?_
  refine qm_Ru.go 1 (c' := (34, [.ref 118, .int b, .int s], [.int b, .int v3, .ref 153], (h.1, qm_up (qm_up h.2.1 150 (b.toInt.toNat) 2) 151 (b.toInt.toNat) v3, h.2.2.1, h.2.2.2))) rfl ?_
  refine hk_ias rfl (hH.1 153 (0, 16) rfl) (by omega) (by omega) ?_
  refine qm_Ru.go 1 (c' := (36, [.ref 118, .int b, .int s], [.ref 118], (h.1, qm_up (qm_up (qm_up h.2.1 150 (b.toInt.toNat) 2) 151 (b.toInt.toNat) v3) 153 (v3.toInt.toNat) b, h.2.2.1, h.2.2.2))) rfl ?_
  refine hk_getr rfl (hH.1 118 (17, 105) rfl) rfl (hH.2 118 53 (some 154) rfl) ?_
  refine qm_Ru.go 2 (c' := (41, [.ref 118, .int b, .int s], [.int s, .ref 154, .int s, .ref 154], (h.1, qm_up (qm_up (qm_up h.2.1 150 (b.toInt.toNat) 2) 151 (b.toInt.toNat) v3) 153 (v3.toInt.toNat) b, h.2.2.1, h.2.2.2))) rfl ?_
  refine hk_ial (v := v2) rfl (hH.1 154 (0, 4) rfl) (by omega) (by omega) (show (qm_up (qm_up (qm_up h.2.1 150 (b.toInt.toNat) 2) 151 (b.toInt.toNat) v3) 153 (v3.toInt.toNat) b) 154 (s.toInt.toNat) = _ from ((hk_ot rfl).trans ((hk_ot rfl).trans ((hk_ot rfl).trans q_v2)))) ?_
  refine qm_Ru.go 2 (c' := (44, [.ref 118, .int b, .int s], [.int (v2 + 1), .int s, .ref 154], (h.1, qm_up (qm_up (qm_up h.2.1 150 (b.toInt.toNat) 2) 151 (b.toInt.toNat) v3) 153 (v3.toInt.toNat) b, h.2.2.1, h.2.2.2))) rfl ?_
  obtain ⟨v4, q_v4, e_v4⟩ := hk_add (x := v2) (y := 1) (a := v2.toInt) (b := 1) rfl rfl (by omega) (by omega)
  rw [q_v4]
  refine hk_ias rfl (hH.1 154 (0, 4) rfl) (by omega) (by omega) ?_
  refine qm_Ru.go 0 (c' := (45, [.ref 118, .int b, .int s], [], (h.1, qm_up (qm_up (qm_up (qm_up h.2.1 150 (b.toInt.toNat) 2) 151 (b.toInt.toNat) v3) 153 (v3.toInt.toNat) b) 154 (s.toInt.toNat) v4, h.2.2.1, h.2.2.2))) rfl ?_
  refine qm_Ru.rt (v := none) (h' := (h.1, qm_up (qm_up (qm_up (qm_up h.2.1 150 (b.toInt.toNat) 2) 151 (b.toInt.toNat) v3) 153 (v3.toInt.toNat) b) 154 (s.toInt.toNat) v4, h.2.2.1, h.2.2.2)) rfl ?_
  exact k (qm_up (qm_up (qm_up (qm_up h.2.1 150 (b.toInt.toNat) 2) 151 (b.toInt.toNat) v3) 153 (v3.toInt.toNat) b) 154 (s.toInt.toNat) v4) (hb_up (o := 154) (k := s.toInt.toNat) (x := v4) (hb_up (o := 153) (k := v3.toInt.toNat) (x := b) (hb_up (o := 151) (k := b.toInt.toNat) (x := v3) (hb_up (o := 150) (k := b.toInt.toNat) (x := 2) hB ⟨(show (0 : Int) ≤ 2 from by decide), (show (2 : Int) ≤ 2 from by decide)⟩) ⟨by show (0 : Int) ≤ v3.toInt; omega, by show v3.toInt ≤ (79 : Int); omega⟩) ⟨by show (0 : Int) ≤ b.toInt; omega, by show b.toInt ≤ (29 : Int); omega⟩) ⟨by show (0 : Int) ≤ v4.toInt; omega, by show v4.toInt ≤ (4 : Int); omega⟩) ⟨(mR_puts (I := h.2.1) (I' := qm_up (qm_up (qm_up (qm_up h.2.1 150 (b.toInt.toNat) 2) 151 (b.toInt.toNat) v3) 153 (v3.toInt.toNat) b) 154 (s.toInt.toNat) v4) hV.1 ((pI_sk rfl).trans ((pI_sk rfl).trans ((pI_sk rfl).trans (pI_up.trans rfl)))) ((pI_sk rfl).trans ((pI_sk rfl).trans (pI_up.trans (congrArg (fun f => fu_up f b.toInt.toNat (Int32.toInt v3)) ((pI_sk rfl).trans rfl))))) ((pI_sk rfl).trans ((pI_sk rfl).trans ((pI_sk rfl).trans ((pI_sk rfl).trans rfl)))) ((pI_sk rfl).trans (pI_up.trans (congrArg (fun f => fu_up f v3.toInt.toNat (Int32.toInt b)) ((pI_sk rfl).trans ((pI_sk rfl).trans rfl))))) (pI_up.trans (congrArg (fun f => fu_up f s.toInt.toNat (Int32.toInt v4)) ((pI_sk rfl).trans ((pI_sk rfl).trans ((pI_sk rfl).trans rfl))))) (congrArg Int32.toInt ((hk_ot rfl).trans ((hk_ot rfl).trans ((hk_ot rfl).trans ((hk_ot rfl).trans rfl))))) f150 (congrArg Int32.toInt q_v2) rfl rfl (by omega) (by omega) (by omega) (by omega) (by omega) (by omega) (by omega) hn), hV.2⟩ (fun o ho i => ((hk_mod ho rfl).trans ((hk_mod ho rfl).trans ((hk_mod ho rfl).trans ((hk_mod ho rfl).trans rfl))))) (congrArg Int32.toInt ((hk_ot rfl).trans ((hk_ot rfl).trans ((hk_ot rfl).trans (hk_same))))) (fun i hi => (hk_ot rfl).trans ((hk_ot rfl).trans ((hk_ot rfl).trans (hk_neq hi)))) (fun i hi => (hk_ot rfl).trans ((hk_ot rfl).trans ((hk_neq hi).trans (hk_ot rfl)))) ((congrArg Int32.toInt (hk_same)).trans (by show v4.toInt = _; omega))
