theorem px_lv0 {X : Option (Nat × (Nat → Int32))} {Z : Option Value → qm_H → Prop} {h : qm_H} {fu : Nat} (hH : hk_H h) {b u : Int32} (q_w : h.2.1 150 b.toInt.toNat = 0) (q_u : h.2.1 151 b.toInt.toNat = u) (hu : 0 ≤ u.toInt ∧ u.toInt ≤ 79) (h4 : ∀ i, (0 : Int) ≤ (h.2.1 154 i).toInt ∧ (h.2.1 154 i).toInt ≤ 4) (k : ∀ (I : Nat → Nat → Int32), (∀ o, [150].contains o = false → ∀ i, I o i = h.2.1 o i) → pI I 150 = fu_up (pI h.2.1 150) (b.toInt.toNat) (0 : Int32).toInt → Z none (h.1, I, h.2.2.1, h.2.2.2)) : qm_Rp fu X cd_283 (qm_ent 2 [.ref 118, .int b] h) Z := by
  refine qm_Rp.go 0 (c' := (0, [.ref 118, .int b], [], h)) rfl ?_
  have kz0 : (0 : Int32).toInt = 0 := rfl
  have kz1 : (1 : Int32).toInt = 1 := rfl
  have kz2 : (2 : Int32).toInt = 2 := rfl
  have kz3 : (3 : Int32).toInt = 3 := rfl
  have kz4 : (4 : Int32).toInt = 4 := rfl
  have kz5 : (5 : Int32).toInt = 5 := rfl
  have kz6 : (6 : Int32).toInt = 6 := rfl
  have kz7 : (7 : Int32).toInt = 7 := rfl
  have kz8 : (8 : Int32).toInt = 8 := rfl
  have kz9 : (9 : Int32).toInt = 9 := rfl
  have kzm1 : ((-1) : Int32).toInt = (-1) := rfl
  have kzm2 : ((-2) : Int32).toInt = (-2) := rfl
  have kzm3 : ((-3) : Int32).toInt = (-3) := rfl
  refine qm_Rp.go 1 (c' := (1, [.ref 118, .int b], [.ref 118], h)) rfl ?_
  refine hp_getr rfl (hH.1 118 (17, 105) rfl) rfl (hH.2 118 49 (some 150) rfl) ?_
  refine qm_Rp.go 1 (c' := (5, [.ref 118, .int b], [.int b, .ref 150], h)) rfl ?_
  refine hp_ial (v := 0) rfl (hH.1 150 (0, 30) rfl) q_w (fun ia_0 ib_0 => ?_)
  refine qm_Rp.go 3 (c' := (28, [.ref 118, .int b], [.ref 118], h)) rfl ?_
  refine hp_getr rfl (hH.1 118 (17, 105) rfl) rfl (hH.2 118 49 (some 150) rfl) ?_
  refine qm_Rp.go 1 (c' := (32, [.ref 118, .int b], [.int b, .ref 150], h)) rfl ?_
  refine hp_ial (v := 0) rfl (hH.1 150 (0, 30) rfl) q_w (fun ia_1 ib_1 => ?_)
  refine qm_Rp.go 3 (c' := (50, [.ref 118, .int b], [.ref 118], h)) rfl ?_
  refine hp_getr rfl (hH.1 118 (17, 105) rfl) rfl (hH.2 118 49 (some 150) rfl) ?_
  refine qm_Rp.go 2 (c' := (55, [.ref 118, .int b], [.int 0, .int b, .ref 150], h)) rfl ?_
  refine hp_ias rfl (hH.1 150 (0, 30) rfl) (fun ia_2 ib_2 => ?_)
  refine qm_Rp.go 0 (c' := (56, [.ref 118, .int b], [], (h.1, qm_up h.2.1 150 b.toInt.toNat 0, h.2.2.1, h.2.2.2))) rfl ?_
  refine qm_Rp.rt (v := none) (h' := (h.1, qm_up h.2.1 150 b.toInt.toNat 0, h.2.2.1, h.2.2.2)) rfl ?_
  exact k (qm_up h.2.1 150 b.toInt.toNat 0) (fun o ho i => ((hk_mod ho rfl).trans rfl)) (pI_up)
theorem px_lv1 {X : Option (Nat × (Nat → Int32))} {Z : Option Value → qm_H → Prop} {h : qm_H} {fu : Nat} (hH : hk_H h) {b u : Int32} (q_w : h.2.1 150 b.toInt.toNat = 1) (q_u : h.2.1 151 b.toInt.toNat = u) (hu : 0 ≤ u.toInt ∧ u.toInt ≤ 79) (h4 : ∀ i, (0 : Int) ≤ (h.2.1 154 i).toInt ∧ (h.2.1 154 i).toInt ≤ 4) (k : ∀ (I : Nat → Nat → Int32), (∀ o, [150, 152].contains o = false → ∀ i, I o i = h.2.1 o i) → pI I 150 = fu_up (pI h.2.1 150) (b.toInt.toNat) (0 : Int32).toInt → pI I 152 = fu_up (pI h.2.1 152) (pI h.2.1 151 b.toInt.toNat).toNat (-1 : Int32).toInt → Z none (h.1, I, h.2.2.1, h.2.2.2)) : qm_Rp fu X cd_283 (qm_ent 2 [.ref 118, .int b] h) Z := by
  refine qm_Rp.go 0 (c' := (0, [.ref 118, .int b], [], h)) rfl ?_
  have kz0 : (0 : Int32).toInt = 0 := rfl
  have kz1 : (1 : Int32).toInt = 1 := rfl
  have kz2 : (2 : Int32).toInt = 2 := rfl
  have kz3 : (3 : Int32).toInt = 3 := rfl
  have kz4 : (4 : Int32).toInt = 4 := rfl
  have kz5 : (5 : Int32).toInt = 5 := rfl
  have kz6 : (6 : Int32).toInt = 6 := rfl
  have kz7 : (7 : Int32).toInt = 7 := rfl
  have kz8 : (8 : Int32).toInt = 8 := rfl
  have kz9 : (9 : Int32).toInt = 9 := rfl
  have kzm1 : ((-1) : Int32).toInt = (-1) := rfl
  have kzm2 : ((-2) : Int32).toInt = (-2) := rfl
  have kzm3 : ((-3) : Int32).toInt = (-3) := rfl
  refine qm_Rp.go 1 (c' := (1, [.ref 118, .int b], [.ref 118], h)) rfl ?_
  refine hp_getr rfl (hH.1 118 (17, 105) rfl) rfl (hH.2 118 49 (some 150) rfl) ?_
  refine qm_Rp.go 1 (c' := (5, [.ref 118, .int b], [.int b, .ref 150], h)) rfl ?_
  refine hp_ial (v := 1) rfl (hH.1 150 (0, 30) rfl) q_w (fun ia_0 ib_0 => ?_)
  refine qm_Rp.go 3 (c' := (28, [.ref 118, .int b], [.ref 118], h)) rfl ?_
  refine hp_getr rfl (hH.1 118 (17, 105) rfl) rfl (hH.2 118 49 (some 150) rfl) ?_
  refine qm_Rp.go 1 (c' := (32, [.ref 118, .int b], [.int b, .ref 150], h)) rfl ?_
  refine hp_ial (v := 1) rfl (hH.1 150 (0, 30) rfl) q_w (fun ia_1 ib_1 => ?_)
  refine qm_Rp.go 3 (c' := (38, [.ref 118, .int b], [.ref 118], h)) rfl ?_
  refine hp_getr rfl (hH.1 118 (17, 105) rfl) rfl (hH.2 118 51 (some 152) rfl) ?_
  refine qm_Rp.go 1 (c' := (42, [.ref 118, .int b], [.ref 118, .ref 152], h)) rfl ?_
  refine hp_getr rfl (hH.1 118 (17, 105) rfl) rfl (hH.2 118 50 (some 151) rfl) ?_
  refine qm_Rp.go 1 (c' := (46, [.ref 118, .int b], [.int b, .ref 151, .ref 152], h)) rfl ?_
  refine hp_ial (v := u) rfl (hH.1 151 (0, 30) rfl) q_u (fun ia_2 ib_2 => ?_)
  refine qm_Rp.go 1 (c' := (48, [.ref 118, .int b], [.int (-1), .int u, .ref 152], h)) rfl ?_
  refine hp_ias rfl (hH.1 152 (0, 80) rfl) (fun ia_3 ib_3 => ?_)
  refine qm_Rp.go 1 (c' := (50, [.ref 118, .int b], [.ref 118], (h.1, qm_up h.2.1 152 u.toInt.toNat (-1), h.2.2.1, h.2.2.2))) rfl ?_
  refine hp_getr rfl (hH.1 118 (17, 105) rfl) rfl (hH.2 118 49 (some 150) rfl) ?_
  refine qm_Rp.go 2 (c' := (55, [.ref 118, .int b], [.int 0, .int b, .ref 150], (h.1, qm_up h.2.1 152 u.toInt.toNat (-1), h.2.2.1, h.2.2.2))) rfl ?_
  refine hp_ias rfl (hH.1 150 (0, 30) rfl) (fun ia_4 ib_4 => ?_)
  refine qm_Rp.go 0 (c' := (56, [.ref 118, .int b], [], (h.1, qm_up (qm_up h.2.1 152 u.toInt.toNat (-1)) 150 b.toInt.toNat 0, h.2.2.1, h.2.2.2))) rfl ?_
  refine qm_Rp.rt (v := none) (h' := (h.1, qm_up (qm_up h.2.1 152 u.toInt.toNat (-1)) 150 b.toInt.toNat 0, h.2.2.1, h.2.2.2)) rfl ?_
  exact k (qm_up (qm_up h.2.1 152 u.toInt.toNat (-1)) 150 b.toInt.toNat 0) (fun o ho i => ((hk_mod ho rfl).trans ((hk_mod ho rfl).trans rfl))) ((pI_up.trans (congrArg (fun f => fu_up f (b.toInt.toNat) (Int32.toInt 0)) (pI_sk rfl)))) (((pI_sk rfl).trans pI_up).trans (by rw [← q_u]; rfl))
theorem px_lv2 {X : Option (Nat × (Nat → Int32))} {Z : Option Value → qm_H → Prop} {h : qm_H} {fu : Nat} (hH : hk_H h) {b u : Int32} (q_w : h.2.1 150 b.toInt.toNat = 2) (q_u : h.2.1 151 b.toInt.toNat = u) (hu : 0 ≤ u.toInt ∧ u.toInt ≤ 79) (h4 : ∀ i, (0 : Int) ≤ (h.2.1 154 i).toInt ∧ (h.2.1 154 i).toInt ≤ 4) (k : ∀ (I : Nat → Nat → Int32), (∀ o, [150, 154].contains o = false → ∀ i, I o i = h.2.1 o i) → pI I 150 = fu_up (pI h.2.1 150) (b.toInt.toNat) (0 : Int32).toInt → pI I 154 = fu_up (pI h.2.1 154) (pI h.2.1 151 b.toInt.toNat / 4).toNat (pI h.2.1 154 (pI h.2.1 151 b.toInt.toNat / 4).toNat - 1) → Z none (h.1, I, h.2.2.1, h.2.2.2)) : qm_Rp fu X cd_283 (qm_ent 2 [.ref 118, .int b] h) Z := by
  refine qm_Rp.go 0 (c' := (0, [.ref 118, .int b], [], h)) rfl ?_
  have kz0 : (0 : Int32).toInt = 0 := rfl
  have kz1 : (1 : Int32).toInt = 1 := rfl
  have kz2 : (2 : Int32).toInt = 2 := rfl
  have kz3 : (3 : Int32).toInt = 3 := rfl
  have kz4 : (4 : Int32).toInt = 4 := rfl
  have kz5 : (5 : Int32).toInt = 5 := rfl
  have kz6 : (6 : Int32).toInt = 6 := rfl
  have kz7 : (7 : Int32).toInt = 7 := rfl
  have kz8 : (8 : Int32).toInt = 8 := rfl
  have kz9 : (9 : Int32).toInt = 9 := rfl
  have kzm1 : ((-1) : Int32).toInt = (-1) := rfl
  have kzm2 : ((-2) : Int32).toInt = (-2) := rfl
  have kzm3 : ((-3) : Int32).toInt = (-3) := rfl
  refine qm_Rp.go 1 (c' := (1, [.ref 118, .int b], [.ref 118], h)) rfl ?_
  refine hp_getr rfl (hH.1 118 (17, 105) rfl) rfl (hH.2 118 49 (some 150) rfl) ?_
  refine qm_Rp.go 1 (c' := (5, [.ref 118, .int b], [.int b, .ref 150], h)) rfl ?_
  refine hp_ial (v := 2) rfl (hH.1 150 (0, 30) rfl) q_w (fun ia_0 ib_0 => ?_)
  refine qm_Rp.go 3 (c' := (11, [.ref 118, .int b], [.ref 118], h)) rfl ?_
  refine hp_getr rfl (hH.1 118 (17, 105) rfl) rfl (hH.2 118 53 (some 154) rfl) ?_
  refine qm_Rp.go 1 (c' := (15, [.ref 118, .int b], [.ref 118, .ref 154], h)) rfl ?_
  refine hp_getr rfl (hH.1 118 (17, 105) rfl) rfl (hH.2 118 50 (some 151) rfl) ?_
  refine qm_Rp.go 1 (c' := (19, [.ref 118, .int b], [.int b, .ref 151, .ref 154], h)) rfl ?_
  refine hp_ial (v := u) rfl (hH.1 151 (0, 30) rfl) q_u (fun ia_1 ib_1 => ?_)
  refine qm_Rp.go 2 (c' := (22, [.ref 118, .int b], [.int (u / 4), .ref 154], h)) rfl ?_
  obtain ⟨v3, q_v3, e_v3⟩ := hk_div (x := u) (y := 4) (a := u.toInt) (b := 4) rfl rfl (by omega) (by omega)
  rw [q_v3]
  refine qm_Rp.go 1 (c' := (23, [.ref 118, .int b], [.int v3, .ref 154, .int v3, .ref 154], h)) rfl ?_
  obtain ⟨v4, q_v4⟩ : ∃ v_, h.2.1 154 v3.toInt.toNat = v_ := ⟨_, rfl⟩
  have b_v4 : (0 : Int) ≤ v4.toInt ∧ v4.toInt ≤ 4 := by rw [← q_v4]; exact h4 (v3.toInt.toNat)
  refine hp_ial (v := v4) rfl (hH.1 154 (0, 4) rfl) q_v4 (fun ia_4 ib_4 => ?_)
  refine qm_Rp.go 2 (c' := (26, [.ref 118, .int b], [.int (v4 - 1), .int v3, .ref 154], h)) rfl ?_
  obtain ⟨v6, q_v6, e_v6⟩ := hk_sub (x := v4) (y := 1) (a := v4.toInt) (b := 1) rfl rfl (by omega) (by omega)
  rw [q_v6]
  refine hp_ias rfl (hH.1 154 (0, 4) rfl) (fun ia_6 ib_6 => ?_)
  refine qm_Rp.go 1 (c' := (28, [.ref 118, .int b], [.ref 118], (h.1, qm_up h.2.1 154 v3.toInt.toNat v6, h.2.2.1, h.2.2.2))) rfl ?_
  refine hp_getr rfl (hH.1 118 (17, 105) rfl) rfl (hH.2 118 49 (some 150) rfl) ?_
  refine qm_Rp.go 1 (c' := (32, [.ref 118, .int b], [.int b, .ref 150], (h.1, qm_up h.2.1 154 v3.toInt.toNat v6, h.2.2.1, h.2.2.2))) rfl ?_
  refine hp_ial (v := 2) rfl (hH.1 150 (0, 30) rfl) (show (qm_up h.2.1 154 v3.toInt.toNat v6) 150 b.toInt.toNat = _ from ((hk_ot rfl).trans q_w)) (fun ia_7 ib_7 => ?_)
  refine qm_Rp.go 3 (c' := (50, [.ref 118, .int b], [.ref 118], (h.1, qm_up h.2.1 154 v3.toInt.toNat v6, h.2.2.1, h.2.2.2))) rfl ?_
  refine hp_getr rfl (hH.1 118 (17, 105) rfl) rfl (hH.2 118 49 (some 150) rfl) ?_
  refine qm_Rp.go 2 (c' := (55, [.ref 118, .int b], [.int 0, .int b, .ref 150], (h.1, qm_up h.2.1 154 v3.toInt.toNat v6, h.2.2.1, h.2.2.2))) rfl ?_
  refine hp_ias rfl (hH.1 150 (0, 30) rfl) (fun ia_8 ib_8 => ?_)
  refine qm_Rp.go 0 (c' := (56, [.ref 118, .int b], [], (h.1, qm_up (qm_up h.2.1 154 v3.toInt.toNat v6) 150 b.toInt.toNat 0, h.2.2.1, h.2.2.2))) rfl ?_
  refine qm_Rp.rt (v := none) (h' := (h.1, qm_up (qm_up h.2.1 154 v3.toInt.toNat v6) 150 b.toInt.toNat 0, h.2.2.1, h.2.2.2)) rfl ?_
  exact k (qm_up (qm_up h.2.1 154 v3.toInt.toNat v6) 150 b.toInt.toNat 0) (fun o ho i => ((hk_mod ho rfl).trans ((hk_mod ho rfl).trans rfl))) (pI_up.trans (congrArg (fun f => fu_up f (b.toInt.toNat) (Int32.toInt 0)) (pI_sk rfl))) (((pI_sk rfl).trans pI_up).trans (by rw [show v3.toInt = (pI h.2.1 151 b.toInt.toNat) / 4 by rw [e_v3, ← q_u]; rfl, show (v6).toInt = pI h.2.1 154 (pI h.2.1 151 b.toInt.toNat / 4).toNat - 1 by rw [e_v6, ← q_v4, show v3.toInt = (pI h.2.1 151 b.toInt.toNat) / 4 by rw [e_v3, ← q_u]; rfl]; rfl]))
theorem px_brd {X : Option (Nat × (Nat → Int32))} {Z : Option Value → qm_H → Prop} {h : qm_H} {fu : Nat} (hH : hk_H h) {b p : Int32} (k : ∀ (I : Nat → Nat → Int32), (∀ o, [150, 151, 152].contains o = false → ∀ i, I o i = h.2.1 o i) → pI I 150 = fu_up (pI h.2.1 150) (b.toInt.toNat) (1 : Int32).toInt → pI I 151 = fu_up (pI h.2.1 151) (b.toInt.toNat) p.toInt → pI I 152 = fu_up (pI h.2.1 152) p.toInt.toNat b.toInt → Z none (h.1, I, h.2.2.1, h.2.2.2)) : qm_Rp fu X cd_295 (qm_ent 3 [.ref 118, .int b, .int p] h) Z := by
  refine qm_Rp.go 0 (c' := (0, [.ref 118, .int b, .int p], [], h)) rfl ?_
  have kz0 : (0 : Int32).toInt = 0 := rfl
  have kz1 : (1 : Int32).toInt = 1 := rfl
  have kz2 : (2 : Int32).toInt = 2 := rfl
  have kz3 : (3 : Int32).toInt = 3 := rfl
  have kz4 : (4 : Int32).toInt = 4 := rfl
  have kz5 : (5 : Int32).toInt = 5 := rfl
  have kz6 : (6 : Int32).toInt = 6 := rfl
  have kz7 : (7 : Int32).toInt = 7 := rfl
  have kz8 : (8 : Int32).toInt = 8 := rfl
  have kz9 : (9 : Int32).toInt = 9 := rfl
  have kzm1 : ((-1) : Int32).toInt = (-1) := rfl
  have kzm2 : ((-2) : Int32).toInt = (-2) := rfl
  have kzm3 : ((-3) : Int32).toInt = (-3) := rfl
  refine qm_Rp.go 1 (c' := (1, [.ref 118, .int b, .int p], [.ref 118], h)) rfl ?_
  refine hp_getr rfl (hH.1 118 (17, 105) rfl) rfl (hH.2 118 49 (some 150) rfl) ?_
  refine qm_Rp.go 2 (c' := (6, [.ref 118, .int b, .int p], [.int 1, .int b, .ref 150], h)) rfl ?_
  refine hp_ias rfl (hH.1 150 (0, 30) rfl) (fun ia_0 ib_0 => ?_)
  refine qm_Rp.go 1 (c' := (8, [.ref 118, .int b, .int p], [.ref 118], (h.1, qm_up h.2.1 150 b.toInt.toNat 1, h.2.2.1, h.2.2.2))) rfl ?_
  refine hp_getr rfl (hH.1 118 (17, 105) rfl) rfl (hH.2 118 50 (some 151) rfl) ?_
  refine qm_Rp.go 2 (c' := (13, [.ref 118, .int b, .int p], [.int p, .int b, .ref 151], (h.1, qm_up h.2.1 150 b.toInt.toNat 1, h.2.2.1, h.2.2.2))) rfl ?_
  refine hp_ias rfl (hH.1 151 (0, 30) rfl) (fun ia_1 ib_1 => ?_)
  refine qm_Rp.go 1 (c' := (15, [.ref 118, .int b, .int p], [.ref 118], (h.1, qm_up (qm_up h.2.1 150 b.toInt.toNat 1) 151 b.toInt.toNat p, h.2.2.1, h.2.2.2))) rfl ?_
  refine hp_getr rfl (hH.1 118 (17, 105) rfl) rfl (hH.2 118 51 (some 152) rfl) ?_
  refine qm_Rp.go 2 (c' := (20, [.ref 118, .int b, .int p], [.int b, .int p, .ref 152], (h.1, qm_up (qm_up h.2.1 150 b.toInt.toNat 1) 151 b.toInt.toNat p, h.2.2.1, h.2.2.2))) rfl ?_
  refine hp_ias rfl (hH.1 152 (0, 80) rfl) (fun ia_2 ib_2 => ?_)
  refine qm_Rp.go 0 (c' := (21, [.ref 118, .int b, .int p], [], (h.1, qm_up (qm_up (qm_up h.2.1 150 b.toInt.toNat 1) 151 b.toInt.toNat p) 152 p.toInt.toNat b, h.2.2.1, h.2.2.2))) rfl ?_
  refine qm_Rp.rt (v := none) (h' := (h.1, qm_up (qm_up (qm_up h.2.1 150 b.toInt.toNat 1) 151 b.toInt.toNat p) 152 p.toInt.toNat b, h.2.2.1, h.2.2.2)) rfl ?_
  exact k (qm_up (qm_up (qm_up h.2.1 150 b.toInt.toNat 1) 151 b.toInt.toNat p) 152 p.toInt.toNat b) (fun o ho i => ((hk_mod ho rfl).trans ((hk_mod ho rfl).trans ((hk_mod ho rfl).trans rfl)))) ((pI_sk rfl).trans ((pI_sk rfl).trans pI_up)) ((pI_sk rfl).trans (pI_up.trans (congrArg (fun f => fu_up f (b.toInt.toNat) (Int32.toInt p)) (pI_sk rfl)))) (pI_up.trans (congrArg (fun f => fu_up f (p.toInt.toNat) (Int32.toInt b)) ((pI_sk rfl).trans (pI_sk rfl))))
theorem px_puts {X : Option (Nat × (Nat → Int32))} {Z : Option Value → qm_H → Prop} {h : qm_H} {fu : Nat} (hH : hk_H h) {b g v : Int32} (hg : 0 ≤ g.toInt ∧ g.toInt ≤ 3) (q_v : h.2.1 154 g.toInt.toNat = v) (hv : 0 ≤ v.toInt ∧ v.toInt ≤ 4) (k : ∀ (I : Nat → Nat → Int32), (∀ o, [150, 151, 153, 154].contains o = false → ∀ i, I o i = h.2.1 o i) → pI I 150 = fu_up (pI h.2.1 150) (b.toInt.toNat) (2 : Int32).toInt → pI I 151 = fu_up (pI h.2.1 151) (b.toInt.toNat) (4 * g.toInt + v.toInt) → pI I 153 = fu_up (pI h.2.1 153) (4 * g.toInt + v.toInt).toNat b.toInt → pI I 154 = fu_up (pI h.2.1 154) g.toInt.toNat (v.toInt + 1) → Z none (h.1, I, h.2.2.1, h.2.2.2)) : qm_Rp fu X cd_279 (qm_ent 3 [.ref 118, .int b, .int g] h) Z := by
  refine qm_Rp.go 0 (c' := (0, [.ref 118, .int b, .int g], [], h)) rfl ?_
  have kz0 : (0 : Int32).toInt = 0 := rfl
  have kz1 : (1 : Int32).toInt = 1 := rfl
  have kz2 : (2 : Int32).toInt = 2 := rfl
  have kz3 : (3 : Int32).toInt = 3 := rfl
  have kz4 : (4 : Int32).toInt = 4 := rfl
  have kz5 : (5 : Int32).toInt = 5 := rfl
  have kz6 : (6 : Int32).toInt = 6 := rfl
  have kz7 : (7 : Int32).toInt = 7 := rfl
  have kz8 : (8 : Int32).toInt = 8 := rfl
  have kz9 : (9 : Int32).toInt = 9 := rfl
  have kzm1 : ((-1) : Int32).toInt = (-1) := rfl
  have kzm2 : ((-2) : Int32).toInt = (-2) := rfl
  have kzm3 : ((-3) : Int32).toInt = (-3) := rfl
  refine qm_Rp.go 1 (c' := (1, [.ref 118, .int b, .int g], [.ref 118], h)) rfl ?_
  refine hp_getr rfl (hH.1 118 (17, 105) rfl) rfl (hH.2 118 49 (some 150) rfl) ?_
  refine qm_Rp.go 2 (c' := (6, [.ref 118, .int b, .int g], [.int 2, .int b, .ref 150], h)) rfl ?_
  refine hp_ias rfl (hH.1 150 (0, 30) rfl) (fun ia_0 ib_0 => ?_)
  refine qm_Rp.go 1 (c' := (8, [.ref 118, .int b, .int g], [.ref 118], (h.1, qm_up h.2.1 150 b.toInt.toNat 2, h.2.2.1, h.2.2.2))) rfl ?_
  refine hp_getr rfl (hH.1 118 (17, 105) rfl) rfl (hH.2 118 50 (some 151) rfl) ?_
  refine qm_Rp.go 4 (c' := (15, [.ref 118, .int b, .int g], [.int (4 * g), .int b, .ref 151], (h.1, qm_up h.2.1 150 b.toInt.toNat 2, h.2.2.1, h.2.2.2))) rfl ?_
  obtain ⟨v2, q_v2, e_v2⟩ := hk_mul (x := 4) (y := g) (a := 4) (b := g.toInt) rfl rfl (by omega) (by omega)
  rw [q_v2]
  refine qm_Rp.go 1 (c' := (16, [.ref 118, .int b, .int g], [.ref 118, .int v2, .int b, .ref 151], (h.1, qm_up h.2.1 150 b.toInt.toNat 2, h.2.2.1, h.2.2.2))) rfl ?_
  refine hp_getr rfl (hH.1 118 (17, 105) rfl) rfl (hH.2 118 53 (some 154) rfl) ?_
  refine qm_Rp.go 1 (c' := (20, [.ref 118, .int b, .int g], [.int g, .ref 154, .int v2, .int b, .ref 151], (h.1, qm_up h.2.1 150 b.toInt.toNat 2, h.2.2.1, h.2.2.2))) rfl ?_
  refine hp_ial (v := v) rfl (hH.1 154 (0, 4) rfl) (show (qm_up h.2.1 150 b.toInt.toNat 2) 154 g.toInt.toNat = _ from ((hk_ot rfl).trans q_v)) (fun ia_2 ib_2 => ?_)
  refine qm_Rp.go 1 (c' := (22, [.ref 118, .int b, .int g], [.int (v2 + v), .int b, .ref 151], (h.1, qm_up h.2.1 150 b.toInt.toNat 2, h.2.2.1, h.2.2.2))) rfl ?_
  obtain ⟨v4, q_v4, e_v4⟩ := hk_add (x := v2) (y := v) (a := v2.toInt) (b := v.toInt) rfl rfl (by omega) (by omega)
  rw [q_v4]
  refine hp_ias rfl (hH.1 151 (0, 30) rfl) (fun ia_4 ib_4 => ?_)
  refine qm_Rp.go 1 (c' := (24, [.ref 118, .int b, .int g], [.ref 118], (h.1, qm_up (qm_up h.2.1 150 b.toInt.toNat 2) 151 b.toInt.toNat v4, h.2.2.1, h.2.2.2))) rfl ?_
  refine hp_getr rfl (hH.1 118 (17, 105) rfl) rfl (hH.2 118 52 (some 153) rfl) ?_
  refine qm_Rp.go 1 (c' := (28, [.ref 118, .int b, .int g], [.ref 118, .ref 153], (h.1, qm_up (qm_up h.2.1 150 b.toInt.toNat 2) 151 b.toInt.toNat v4, h.2.2.1, h.2.2.2))) rfl ?_
  refine hp_getr rfl (hH.1 118 (17, 105) rfl) rfl (hH.2 118 50 (some 151) rfl) ?_
  refine qm_Rp.go 1 (c' := (32, [.ref 118, .int b, .int g], [.int b, .ref 151, .ref 153], (h.1, qm_up (qm_up h.2.1 150 b.toInt.toNat 2) 151 b.toInt.toNat v4, h.2.2.1, h.2.2.2))) rfl ?_
  refine hp_ial (v := v4) rfl (hH.1 151 (0, 30) rfl) (show (qm_up (qm_up h.2.1 150 b.toInt.toNat 2) 151 b.toInt.toNat v4) 151 b.toInt.toNat = _ from (hk_same)) (fun ia_5 ib_5 => ?_)
  refine qm_Rp.go 1 (c' := (34, [.ref 118, .int b, .int g], [.int b, .int v4, .ref 153], (h.1, qm_up (qm_up h.2.1 150 b.toInt.toNat 2) 151 b.toInt.toNat v4, h.2.2.1, h.2.2.2))) rfl ?_
  refine hp_ias rfl (hH.1 153 (0, 16) rfl) (fun ia_6 ib_6 => ?_)
  refine qm_Rp.go 1 (c' := (36, [.ref 118, .int b, .int g], [.ref 118], (h.1, qm_up (qm_up (qm_up h.2.1 150 b.toInt.toNat 2) 151 b.toInt.toNat v4) 153 v4.toInt.toNat b, h.2.2.1, h.2.2.2))) rfl ?_
  refine hp_getr rfl (hH.1 118 (17, 105) rfl) rfl (hH.2 118 53 (some 154) rfl) ?_
  refine qm_Rp.go 2 (c' := (41, [.ref 118, .int b, .int g], [.int g, .ref 154, .int g, .ref 154], (h.1, qm_up (qm_up (qm_up h.2.1 150 b.toInt.toNat 2) 151 b.toInt.toNat v4) 153 v4.toInt.toNat b, h.2.2.1, h.2.2.2))) rfl ?_
  refine hp_ial (v := v) rfl (hH.1 154 (0, 4) rfl) (show (qm_up (qm_up (qm_up h.2.1 150 b.toInt.toNat 2) 151 b.toInt.toNat v4) 153 v4.toInt.toNat b) 154 g.toInt.toNat = _ from ((hk_ot rfl).trans ((hk_ot rfl).trans ((hk_ot rfl).trans q_v)))) (fun ia_7 ib_7 => ?_)
  refine qm_Rp.go 2 (c' := (44, [.ref 118, .int b, .int g], [.int (v + 1), .int g, .ref 154], (h.1, qm_up (qm_up (qm_up h.2.1 150 b.toInt.toNat 2) 151 b.toInt.toNat v4) 153 v4.toInt.toNat b, h.2.2.1, h.2.2.2))) rfl ?_
  obtain ⟨v9, q_v9, e_v9⟩ := hk_add (x := v) (y := 1) (a := v.toInt) (b := 1) rfl rfl (by omega) (by omega)
  rw [q_v9]
  refine hp_ias rfl (hH.1 154 (0, 4) rfl) (fun ia_9 ib_9 => ?_)
  refine qm_Rp.go 0 (c' := (45, [.ref 118, .int b, .int g], [], (h.1, qm_up (qm_up (qm_up (qm_up h.2.1 150 b.toInt.toNat 2) 151 b.toInt.toNat v4) 153 v4.toInt.toNat b) 154 g.toInt.toNat v9, h.2.2.1, h.2.2.2))) rfl ?_
  refine qm_Rp.rt (v := none) (h' := (h.1, qm_up (qm_up (qm_up (qm_up h.2.1 150 b.toInt.toNat 2) 151 b.toInt.toNat v4) 153 v4.toInt.toNat b) 154 g.toInt.toNat v9, h.2.2.1, h.2.2.2)) rfl ?_
  have a1 : v4.toInt = 4 * g.toInt + v.toInt := by omega
  have a2 : v9.toInt = v.toInt + 1 := by omega
  exact k (qm_up (qm_up (qm_up (qm_up h.2.1 150 b.toInt.toNat 2) 151 b.toInt.toNat v4) 153 v4.toInt.toNat b) 154 g.toInt.toNat v9) (fun o ho i => ((hk_mod ho rfl).trans ((hk_mod ho rfl).trans ((hk_mod ho rfl).trans ((hk_mod ho rfl).trans rfl))))) ((pI_sk rfl).trans ((pI_sk rfl).trans ((pI_sk rfl).trans pI_up))) (((pI_sk rfl).trans ((pI_sk rfl).trans (pI_up.trans (congrArg (fun f => fu_up f (b.toInt.toNat) (Int32.toInt v4)) (pI_sk rfl))))).trans (by rw [a1])) (((pI_sk rfl).trans (pI_up.trans (congrArg (fun f => fu_up f (v4.toInt.toNat) (Int32.toInt b)) ((pI_sk rfl).trans (pI_sk rfl))))).trans (by rw [a1])) ((pI_up.trans (congrArg (fun f => fu_up f (g.toInt.toNat) (Int32.toInt v9)) ((pI_sk rfl).trans ((pI_sk rfl).trans (pI_sk rfl))))).trans (by rw [a2]))
theorem pz_in {I : Nat → Nat → Int32} {o : Nat} {F : Nat → Int} {a b : Int} (p : pI I o = F) (h : ∀ x, a ≤ F x ∧ F x ≤ b) (i : Nat) : a ≤ (I o i).toInt ∧ (I o i).toInt ≤ b := by
  have z : (I o i).toInt = F i := congrFun p i
  have y := h i
  rw [← z] at y
  exact y
theorem pz_at {I : Nat → Nat → Int32} {o x : Nat} {F : Nat → Int} {v : Int32} (p : pI I o = F) (h : F x = v.toInt) : I o x = v := hk_eqi.mpr ((congrFun p x).trans h)
section TRY
variable {n b : Int} {had : Bool} {y x B fr w lift : Int} {ok : Bool}
theorem try_a (h : ¬ (0 ≤ b ∧ b < n ∧ 0 ≤ y ∧ y < B ∧ 0 ≤ x ∧ x ≤ 3 ∧ had = true)) : tryV n b had y x B fr w lift ok = -1 := if_neg h
theorem try_b (h : 0 ≤ b ∧ b < n ∧ 0 ≤ y ∧ y < B ∧ 0 ≤ x ∧ x ≤ 3) (h1 : had = true) (h2 : fr = -1) : tryV n b had y x B fr w lift ok = -1 := by
  unfold tryV
  rw [if_pos ⟨h.1, h.2.1, h.2.2.1, h.2.2.2.1, h.2.2.2.2.1, h.2.2.2.2.2, h1⟩, if_pos h2]
theorem try_c (h : 0 ≤ b ∧ b < n ∧ 0 ≤ y ∧ y < B ∧ 0 ≤ x ∧ x ≤ 3) (h1 : had = true) (h2 : ¬ fr = -1) (h3 : lift < w) : tryV n b had y x B fr w lift ok = -2 := by
  unfold tryV
  rw [if_pos ⟨h.1, h.2.1, h.2.2.1, h.2.2.2.1, h.2.2.2.2.1, h.2.2.2.2.2, h1⟩, if_neg h2, if_pos h3]
theorem try_d (h : 0 ≤ b ∧ b < n ∧ 0 ≤ y ∧ y < B ∧ 0 ≤ x ∧ x ≤ 3) (h1 : had = true) (h2 : ¬ fr = -1) (h3 : ¬ lift < w) (h4 : ok = false) : tryV n b had y x B fr w lift ok = -3 := by
  unfold tryV
  rw [if_pos ⟨h.1, h.2.1, h.2.2.1, h.2.2.2.1, h.2.2.2.2.1, h.2.2.2.2.2, h1⟩, if_neg h2, if_neg h3, h4]
  rfl
theorem try_e (h : 0 ≤ b ∧ b < n ∧ 0 ≤ y ∧ y < B ∧ 0 ≤ x ∧ x ≤ 3) (h1 : had = true) (h2 : ¬ fr = -1) (h3 : ¬ lift < w) (h4 : ok = true) : tryV n b had y x B fr w lift ok = fr % 4 := by
  unfold tryV
  rw [if_pos ⟨h.1, h.2.1, h.2.2.1, h.2.2.2.1, h.2.2.2.2.1, h.2.2.2.2.2, h1⟩, if_neg h2, if_neg h3, h4]
  rfl
end TRY
set_option maxHeartbeats 4000000 in
theorem px_load0 {X : Option (Nat × (Nat → Int32))} {Z : Option Value → qm_H → Prop} {h : qm_H} {fu : Nat} (hH : hk_H h) {n b y x cv l : Int32} {w wh sp : Nat → Int} (eW : pI h.2.1 146 = w) (eH : pI h.2.1 150 = wh) (eS : pI h.2.1 151 = sp) (q_n : h.2.1 118 44 = n) (hn : 0 ≤ n.toInt ∧ n.toInt ≤ 30) (hw : ∀ b, 0 ≤ w b ∧ w b ≤ 40) (hs : ∀ b, 0 ≤ sp b ∧ sp b ≤ 79) {B : Int32} (q_lv : h.2.1 118 18 = 0) (q_B : h.2.1 127 0 = B) (hB : 1 ≤ B.toInt ∧ B.toInt ≤ 5) {g0 g1 g2 : Int32} (q_g0 : h.2.1 128 0 = g0) (q_g1 : h.2.1 128 1 = g1) (q_g2 : h.2.1 128 2 = g2) {c yc hi : Nat → Int} (eC : pI h.2.1 152 = c) (eY : pI h.2.1 153 = yc) (eI : pI h.2.1 154 = hi) (hi4 : ∀ x, 0 ≤ hi x ∧ hi x ≤ 4) (q_cv : h.2.1 118 54 = cv) (q_l : h.2.1 129 0 = l) (hy : 0 ≤ b.toInt → wh b.toInt.toNat = 2 → yc (sp b.toInt.toNat).toNat = b.toInt) (k0 : ∀ (I : Nat → Nat → Int32) (r : Int32), (∀ o, [150, 151, 152, 153, 154, 155, 156].contains o = false → ∀ i, I o i = h.2.1 o i) → r.toInt = tryV n.toInt b.toInt (okb (wh b.toInt.toNat = 0 ∨ (wh b.toInt.toNat = 2 ∧ sp b.toInt.toNat % 4 = hi (sp b.toInt.toNat / 4).toNat - 1))) y.toInt x.toInt B.toInt (frV cv y x.toInt c) (w b.toInt.toNat) l.toInt (okb (mayP B.toInt g0.toInt g1.toInt g2.toInt (ab (zL w wh sp n.toInt.toNat)) (ab (zT B.toInt w wh sp n.toInt.toNat)) (zD B.toInt w wh sp n.toInt.toNat) w (fu_up wh (b.toInt.toNat) 1) (fu_up sp (b.toInt.toNat) (frV cv y x.toInt c)) n.toInt.toNat)) → r.toInt < 0 → pI I 150 = wh → pI I 151 = (if r.toInt = -3 ∧ wh b.toInt.toNat = 0 then fu_up sp (b.toInt.toNat) (frV cv y x.toInt c) else sp) → pI I 152 = c → pI I 153 = yc → pI I 154 = hi → Z (some (.int r)) (h.1, I, h.2.2.1, h.2.2.2)) (k1 : ∀ (I : Nat → Nat → Int32) (r : Int32), (∀ o, [150, 151, 152, 153, 154, 155, 156].contains o = false → ∀ i, I o i = h.2.1 o i) → r.toInt = tryV n.toInt b.toInt (okb (wh b.toInt.toNat = 0 ∨ (wh b.toInt.toNat = 2 ∧ sp b.toInt.toNat % 4 = hi (sp b.toInt.toNat / 4).toNat - 1))) y.toInt x.toInt B.toInt (frV cv y x.toInt c) (w b.toInt.toNat) l.toInt (okb (mayP B.toInt g0.toInt g1.toInt g2.toInt (ab (zL w wh sp n.toInt.toNat)) (ab (zT B.toInt w wh sp n.toInt.toNat)) (zD B.toInt w wh sp n.toInt.toNat) w (fu_up wh (b.toInt.toNat) 1) (fu_up sp (b.toInt.toNat) (frV cv y x.toInt c)) n.toInt.toNat)) → 0 ≤ r.toInt → pI I 150 = fu_up wh (b.toInt.toNat) 1 → pI I 151 = fu_up sp (b.toInt.toNat) (frV cv y x.toInt c) → pI I 152 = fu_up c (frV cv y x.toInt c).toNat b.toInt → pI I 153 = yc → pI I 154 = (if wh b.toInt.toNat = 2 then fu_up hi (sp b.toInt.toNat / 4).toNat (hi (sp b.toInt.toNat / 4).toNat - 1) else hi) → Z (some (.int r)) (h.1, I, h.2.2.1, h.2.2.2)) : qm_Rp fu X cd_284 (qm_ent 7 [.ref 118, .int b, .int y, .int x] h) Z := by
  refine qm_Rp.go 0 (c' := (0, [.ref 118, .int b, .int y, .int x, .float 0, .float 0, .float 0], [], h)) rfl ?_
  have kz0 : (0 : Int32).toInt = 0 := rfl
  have kz1 : (1 : Int32).toInt = 1 := rfl
  have kz2 : (2 : Int32).toInt = 2 := rfl
  have kz3 : (3 : Int32).toInt = 3 := rfl
  have kz4 : (4 : Int32).toInt = 4 := rfl
  have kz5 : (5 : Int32).toInt = 5 := rfl
  have kz6 : (6 : Int32).toInt = 6 := rfl
  have kz7 : (7 : Int32).toInt = 7 := rfl
  have kz8 : (8 : Int32).toInt = 8 := rfl
  have kz9 : (9 : Int32).toInt = 9 := rfl
  have kzm1 : ((-1) : Int32).toInt = (-1) := rfl
  have kzm2 : ((-2) : Int32).toInt = (-2) := rfl
  have kzm3 : ((-3) : Int32).toInt = (-3) := rfl
  refine qm_Rp.go 2 (c' := (2, [.ref 118, .int b, .int y, .int x, .float 0, .float 0, .float 0], [.int b, .ref 118], h)) rfl ?_
  refine hp_inv (o := 118) (r := []) (as := [.ref 118, .int b]) rfl rfl (hH.1 118 (17, 105) rfl) rfl rfl rfl ?_
  refine qm_Rp.go 3 (c' := (3, [.ref 118, .int b], [.ref 118, .int 0, .int b], h)) rfl ?_
  refine hp_geti (v := n) rfl (hH.1 118 (17, 105) rfl) rfl q_n ?_
  refine qm_Rp.go 2 (c' := (8, [.ref 118, .int b], [.int (n - 1), .int 0, .int b], h)) rfl ?_
  obtain ⟨v1, q_v1, e_v1⟩ := hk_sub (x := n) (y := 1) (a := n.toInt) (b := 1) rfl rfl (by omega) (by omega)
  rw [q_v1]
  refine qm_Rp.call (j := 270) (as := [.int b, .int 0, .int v1]) (c' := (11, [.ref 118, .int b], [], h)) rfl rfl ?_
  refine qm_Rp.go 2 (c' := (2, [.int b, .int 0, .int v1], [.int 0, .int b], h)) rfl ?_
  refine hp_clt (ix := b.toInt) (iy := 0) rfl rfl rfl (fun z2 => ?_) (fun z2 => ?_)
  · refine qm_Rp.go 1 (c' := (15, [.int b, .int 0, .int v1], [.int 0], h)) rfl ?_
    refine qm_Rp.rt (v := (some (.int 0))) (h' := h) rfl ?_
    refine qm_Rp.go 0 (c' := (11, [.ref 118, .int b], [.int 0], h)) rfl ?_
    refine qm_Rp.rt (v := (some (.int 0))) (h' := h) rfl ?_
    refine qm_Rp.go 2 (c' := (32, [.ref 118, .int b, .int y, .int x, .float 0, .float 0, .float 0], [.int (-1)], h)) rfl ?_
    refine qm_Rp.rt (v := (some (.int (-1)))) (h' := h) rfl ?_
    exact k0 (h.2.1) (-1) (fun o ho i => rfl) (try_a (fun z => by omega)).symm (by decide) eH (eS.trans (if_neg (fun z => absurd z.1 (by decide))).symm) eC eY eI
  · refine qm_Rp.go 2 (c' := (7, [.int b, .int 0, .int v1], [.int v1, .int b], h)) rfl ?_
    refine hp_cgt (ix := b.toInt) (iy := v1.toInt) rfl rfl rfl (fun z3 => ?_) (fun z3 => ?_)
    · refine qm_Rp.go 1 (c' := (15, [.int b, .int 0, .int v1], [.int 0], h)) rfl ?_
      refine qm_Rp.rt (v := (some (.int 0))) (h' := h) rfl ?_
      refine qm_Rp.go 0 (c' := (11, [.ref 118, .int b], [.int 0], h)) rfl ?_
      refine qm_Rp.rt (v := (some (.int 0))) (h' := h) rfl ?_
      refine qm_Rp.go 2 (c' := (32, [.ref 118, .int b, .int y, .int x, .float 0, .float 0, .float 0], [.int (-1)], h)) rfl ?_
      refine qm_Rp.rt (v := (some (.int (-1)))) (h' := h) rfl ?_
      exact k0 (h.2.1) (-1) (fun o ho i => rfl) (try_a (fun z => by omega)).symm (by decide) eH (eS.trans (if_neg (fun z => absurd z.1 (by decide))).symm) eC eY eI
    · refine qm_Rp.go 2 (c' := (15, [.int b, .int 0, .int v1], [.int 1], h)) rfl ?_
      refine qm_Rp.rt (v := (some (.int 1))) (h' := h) rfl ?_
      refine qm_Rp.go 0 (c' := (11, [.ref 118, .int b], [.int 1], h)) rfl ?_
      refine qm_Rp.rt (v := (some (.int 1))) (h' := h) rfl ?_
      refine qm_Rp.go 3 (c' := (10, [.ref 118, .int b, .int y, .int x, .float 0, .float 0, .float 0], [.int y, .ref 118], h)) rfl ?_
      refine hp_inv (o := 118) (r := []) (as := [.ref 118, .int y]) rfl rfl (hH.1 118 (17, 105) rfl) rfl rfl rfl ?_
      refine qm_Rp.go 3 (c' := (3, [.ref 118, .int y], [.ref 118, .int 0, .int y], h)) rfl ?_
      refine hp_getr rfl (hH.1 118 (17, 105) rfl) rfl (hH.2 118 22 (some 127) rfl) ?_
      refine qm_Rp.go 1 (c' := (7, [.ref 118, .int y], [.ref 118, .ref 127, .int 0, .int y], h)) rfl ?_
      refine hp_geti (v := 0) rfl (hH.1 118 (17, 105) rfl) rfl q_lv ?_
      refine qm_Rp.go 0 (c' := (10, [.ref 118, .int y], [.int 0, .ref 127, .int 0, .int y], h)) rfl ?_
      refine hp_ial (v := B) rfl (hH.1 127 (0, 2) rfl) q_B (fun ia_3 ib_3 => ?_)
      refine qm_Rp.go 2 (c' := (13, [.ref 118, .int y], [.int (B - 1), .int 0, .int y], h)) rfl ?_
      obtain ⟨v5, q_v5, e_v5⟩ := hk_sub (x := B) (y := 1) (a := B.toInt) (b := 1) rfl rfl (by omega) (by omega)
      rw [q_v5]
      refine qm_Rp.call (j := 270) (as := [.int y, .int 0, .int v5]) (c' := (16, [.ref 118, .int y], [], h)) rfl rfl ?_
      refine qm_Rp.go 2 (c' := (2, [.int y, .int 0, .int v5], [.int 0, .int y], h)) rfl ?_
      refine hp_clt (ix := y.toInt) (iy := 0) rfl rfl rfl (fun z6 => ?_) (fun z6 => ?_)
      · refine qm_Rp.go 1 (c' := (15, [.int y, .int 0, .int v5], [.int 0], h)) rfl ?_
        refine qm_Rp.rt (v := (some (.int 0))) (h' := h) rfl ?_
        refine qm_Rp.go 0 (c' := (16, [.ref 118, .int y], [.int 0], h)) rfl ?_
        refine qm_Rp.rt (v := (some (.int 0))) (h' := h) rfl ?_
        refine qm_Rp.go 2 (c' := (32, [.ref 118, .int b, .int y, .int x, .float 0, .float 0, .float 0], [.int (-1)], h)) rfl ?_
        refine qm_Rp.rt (v := (some (.int (-1)))) (h' := h) rfl ?_
        exact k0 (h.2.1) (-1) (fun o ho i => rfl) (try_a (fun z => by omega)).symm (by decide) eH (eS.trans (if_neg (fun z => absurd z.1 (by decide))).symm) eC eY eI
      · refine qm_Rp.go 2 (c' := (7, [.int y, .int 0, .int v5], [.int v5, .int y], h)) rfl ?_
        refine hp_cgt (ix := y.toInt) (iy := v5.toInt) rfl rfl rfl (fun z7 => ?_) (fun z7 => ?_)
        · refine qm_Rp.go 1 (c' := (15, [.int y, .int 0, .int v5], [.int 0], h)) rfl ?_
          refine qm_Rp.rt (v := (some (.int 0))) (h' := h) rfl ?_
          refine qm_Rp.go 0 (c' := (16, [.ref 118, .int y], [.int 0], h)) rfl ?_
          refine qm_Rp.rt (v := (some (.int 0))) (h' := h) rfl ?_
          refine qm_Rp.go 2 (c' := (32, [.ref 118, .int b, .int y, .int x, .float 0, .float 0, .float 0], [.int (-1)], h)) rfl ?_
          refine qm_Rp.rt (v := (some (.int (-1)))) (h' := h) rfl ?_
          exact k0 (h.2.1) (-1) (fun o ho i => rfl) (try_a (fun z => by omega)).symm (by decide) eH (eS.trans (if_neg (fun z => absurd z.1 (by decide))).symm) eC eY eI
        · refine qm_Rp.go 2 (c' := (15, [.int y, .int 0, .int v5], [.int 1], h)) rfl ?_
          refine qm_Rp.rt (v := (some (.int 1))) (h' := h) rfl ?_
          refine qm_Rp.go 0 (c' := (16, [.ref 118, .int y], [.int 1], h)) rfl ?_
          refine qm_Rp.rt (v := (some (.int 1))) (h' := h) rfl ?_
          refine qm_Rp.go 2 (c' := (17, [.ref 118, .int b, .int y, .int x, .float 0, .float 0, .float 0], [.int x], h)) rfl ?_
          refine qm_Rp.call (j := 278) (as := [.int x]) (c' := (20, [.ref 118, .int b, .int y, .int x, .float 0, .float 0, .float 0], [], h)) rfl rfl ?_
          refine qm_Rp.go 3 (c' := (3, [.int x], [.int 3, .int 0, .int x], h)) rfl ?_
          refine qm_Rp.call (j := 270) (as := [.int x, .int 0, .int 3]) (c' := (6, [.int x], [], h)) rfl rfl ?_
          refine qm_Rp.go 2 (c' := (2, [.int x, .int 0, .int 3], [.int 0, .int x], h)) rfl ?_
          refine hp_clt (ix := x.toInt) (iy := 0) rfl rfl rfl (fun z8 => ?_) (fun z8 => ?_)
          · refine qm_Rp.go 1 (c' := (15, [.int x, .int 0, .int 3], [.int 0], h)) rfl ?_
            refine qm_Rp.rt (v := (some (.int 0))) (h' := h) rfl ?_
            refine qm_Rp.go 0 (c' := (6, [.int x], [.int 0], h)) rfl ?_
            refine qm_Rp.rt (v := (some (.int 0))) (h' := h) rfl ?_
            refine qm_Rp.go 2 (c' := (32, [.ref 118, .int b, .int y, .int x, .float 0, .float 0, .float 0], [.int (-1)], h)) rfl ?_
            refine qm_Rp.rt (v := (some (.int (-1)))) (h' := h) rfl ?_
            exact k0 (h.2.1) (-1) (fun o ho i => rfl) (try_a (fun z => by omega)).symm (by decide) eH (eS.trans (if_neg (fun z => absurd z.1 (by decide))).symm) eC eY eI
          · refine qm_Rp.go 2 (c' := (7, [.int x, .int 0, .int 3], [.int 3, .int x], h)) rfl ?_
            refine hp_cgt (ix := x.toInt) (iy := 3) rfl rfl rfl (fun z9 => ?_) (fun z9 => ?_)
            · refine qm_Rp.go 1 (c' := (15, [.int x, .int 0, .int 3], [.int 0], h)) rfl ?_
              refine qm_Rp.rt (v := (some (.int 0))) (h' := h) rfl ?_
              refine qm_Rp.go 0 (c' := (6, [.int x], [.int 0], h)) rfl ?_
              refine qm_Rp.rt (v := (some (.int 0))) (h' := h) rfl ?_
              refine qm_Rp.go 2 (c' := (32, [.ref 118, .int b, .int y, .int x, .float 0, .float 0, .float 0], [.int (-1)], h)) rfl ?_
              refine qm_Rp.rt (v := (some (.int (-1)))) (h' := h) rfl ?_
              exact k0 (h.2.1) (-1) (fun o ho i => rfl) (try_a (fun z => by omega)).symm (by decide) eH (eS.trans (if_neg (fun z => absurd z.1 (by decide))).symm) eC eY eI
            · refine qm_Rp.go 2 (c' := (15, [.int x, .int 0, .int 3], [.int 1], h)) rfl ?_
              refine qm_Rp.rt (v := (some (.int 1))) (h' := h) rfl ?_
              refine qm_Rp.go 0 (c' := (6, [.int x], [.int 1], h)) rfl ?_
              refine qm_Rp.rt (v := (some (.int 1))) (h' := h) rfl ?_
              refine qm_Rp.go 3 (c' := (25, [.ref 118, .int b, .int y, .int x, .float 0, .float 0, .float 0], [.int b, .ref 118], h)) rfl ?_
              refine hp_inv (o := 118) (r := []) (as := [.ref 118, .int b]) rfl rfl (hH.1 118 (17, 105) rfl) rfl rfl rfl ?_
              refine qm_Rp.go 1 (c' := (1, [.ref 118, .int b], [.ref 118], h)) rfl ?_
              refine hp_getr rfl (hH.1 118 (17, 105) rfl) rfl (hH.2 118 49 (some 150) rfl) ?_
              refine qm_Rp.go 1 (c' := (5, [.ref 118, .int b], [.int b, .ref 150], h)) rfl ?_
              obtain ⟨v10, q_v10⟩ : ∃ v_, h.2.1 150 b.toInt.toNat = v_ := ⟨_, rfl⟩
              refine hp_ial (v := v10) rfl (hH.1 150 (0, 30) rfl) q_v10 (fun ia_10 ib_10 => ?_)
              refine qm_Rp.go 0 (c' := (6, [.ref 118, .int b], [.int v10], h)) rfl ?_
              have ew : wh b.toInt.toNat = v10.toInt := by rw [← eH]; exact congrArg Int32.toInt q_v10
              refine hp_zeq (ix := v10.toInt) rfl rfl (fun z12 => ?_) (fun z12 => ?_)
              · refine qm_Rp.go 2 (c' := (50, [.ref 118, .int b], [.int 1], h)) rfl ?_
                refine qm_Rp.rt (v := (some (.int 1))) (h' := h) rfl ?_
                refine qm_Rp.go 0 (c' := (28, [.ref 118, .int b, .int y, .int x, .float 0, .float 0, .float 0], [.int 1], h)) rfl ?_
                refine qm_Rp.go 4 (c' := (36, [.ref 118, .int b, .int y, .int x, .float 0, .float 0, .float 0], [.int x, .int y, .ref 118], h)) rfl ?_
                refine hp_inv (o := 118) (r := []) (as := [.ref 118, .int y, .int x]) rfl rfl (hH.1 118 (17, 105) rfl) rfl rfl rfl (px_fra hH ⟨by omega, by omega⟩ ⟨by omega, by omega⟩ q_cv (fun fr13 e_fr13 d_fr13 => ?_))
                rw [eC] at e_fr13 d_fr13
                refine qm_Rp.go 3 (c' := (44, [.ref 118, .int b, .int y, .int x, .int fr13, .float 0, .float 0], [.int (-1), .int fr13], h)) rfl ?_
                refine hp_cne (ix := fr13.toInt) (iy := (-1)) rfl rfl rfl (fun z14 => ?_) (fun z14 => ?_)
                · refine qm_Rp.go 1 (c' := (50, [.ref 118, .int b, .int y, .int x, .int fr13, .float 0, .float 0], [.ref 118], h)) rfl ?_
                  refine hp_getr rfl (hH.1 118 (17, 105) rfl) rfl (hH.2 118 45 (some 146) rfl) ?_
                  refine qm_Rp.go 1 (c' := (54, [.ref 118, .int b, .int y, .int x, .int fr13, .float 0, .float 0], [.int b, .ref 146], h)) rfl ?_
                  obtain ⟨v15, q_v15⟩ : ∃ v_, h.2.1 146 b.toInt.toNat = v_ := ⟨_, rfl⟩
                  refine hp_ial (v := v15) rfl (hH.1 146 (0, 30) rfl) q_v15 (fun ia_15 ib_15 => ?_)
                  refine qm_Rp.go 0 (c' := (55, [.ref 118, .int b, .int y, .int x, .int fr13, .float 0, .float 0], [.int v15], h)) rfl ?_
                  have e_w : w b.toInt.toNat = v15.toInt := by rw [← eW]; exact congrArg Int32.toInt q_v15
                  refine qm_Rp.go 1 (c' := (56, [.ref 118, .int b, .int y, .int x, .int fr13, .float 0, .float 0], [.ref 118, .int v15], h)) rfl ?_
                  refine hp_getr rfl (hH.1 118 (17, 105) rfl) rfl (hH.2 118 24 (some 129) rfl) ?_
                  refine qm_Rp.go 1 (c' := (60, [.ref 118, .int b, .int y, .int x, .int fr13, .float 0, .float 0], [.ref 118, .ref 129, .int v15], h)) rfl ?_
                  refine hp_geti (v := 0) rfl (hH.1 118 (17, 105) rfl) rfl q_lv ?_
                  refine qm_Rp.go 0 (c' := (63, [.ref 118, .int b, .int y, .int x, .int fr13, .float 0, .float 0], [.int 0, .ref 129, .int v15], h)) rfl ?_
                  refine hp_ial (v := l) rfl (hH.1 129 (0, 2) rfl) q_l (fun ia_16 ib_16 => ?_)
                  refine qm_Rp.go 0 (c' := (64, [.ref 118, .int b, .int y, .int x, .int fr13, .float 0, .float 0], [.int l, .int v15], h)) rfl ?_
                  refine hp_cle (ix := v15.toInt) (iy := l.toInt) rfl rfl rfl (fun z18 => ?_) (fun z18 => ?_)
                  · refine qm_Rp.go 1 (c' := (71, [.ref 118, .int b, .int y, .int x, .int fr13, .float 0, .float 0], [.ref 118], h)) rfl ?_
                    refine hp_inv (o := 118) (r := []) (as := [.ref 118]) rfl rfl (hH.1 118 (17, 105) rfl) rfl rfl rfl (px_looks0 (h := h) hH eW eH eS q_n hn hw hs q_lv q_B hB (fun I19 e_I19 a0_I19 a1_I19 a2_I19 => ?_))
                    have e_I19 : ∀ o, [155, 156].contains o = false → ∀ i, I19 o i = (h.2.1) o i := e_I19
                    have p150_I19 : pI I19 150 = wh := (funext fun i => congrArg Int32.toInt (e_I19 150 rfl i)).trans eH
                    have p151_I19 : pI I19 151 = sp := (funext fun i => congrArg Int32.toInt (e_I19 151 rfl i)).trans eS
                    have p152_I19 : pI I19 152 = c := (funext fun i => congrArg Int32.toInt (e_I19 152 rfl i)).trans eC
                    have p153_I19 : pI I19 153 = yc := (funext fun i => congrArg Int32.toInt (e_I19 153 rfl i)).trans eY
                    have p154_I19 : pI I19 154 = hi := (funext fun i => congrArg Int32.toInt (e_I19 154 rfl i)).trans eI
                    obtain ⟨p0_I19, q_p0_I19⟩ : ∃ v_, I19 156 0 = v_ := ⟨_, rfl⟩
                    rw [q_p0_I19] at a0_I19
                    obtain ⟨p1_I19, q_p1_I19⟩ : ∃ v_, I19 156 1 = v_ := ⟨_, rfl⟩
                    rw [q_p1_I19] at a1_I19
                    obtain ⟨p2_I19, q_p2_I19⟩ : ∃ v_, I19 156 2 = v_ := ⟨_, rfl⟩
                    rw [q_p2_I19] at a2_I19
                    refine qm_Rp.go 1 (c' := (75, [.ref 118, .int b, .int y, .int x, .int fr13, .float 0, .float 0], [.ref 118], (h.1, I19, h.2.2.1, h.2.2.2))) rfl ?_
                    refine hp_getr rfl (hH.1 118 (17, 105) rfl) rfl (hH.2 118 49 (some 150) rfl) ?_
                    refine qm_Rp.go 1 (c' := (79, [.ref 118, .int b, .int y, .int x, .int fr13, .float 0, .float 0], [.int b, .ref 150], (h.1, I19, h.2.2.1, h.2.2.2))) rfl ?_
                    refine hp_ial (v := v10) rfl (hH.1 150 (0, 30) rfl) (show (I19) 150 b.toInt.toNat = _ from ((e_I19 150 rfl b.toInt.toNat).trans q_v10)) (fun ia_19 ib_19 => ?_)
                    refine qm_Rp.go 2 (c' := (83, [.ref 118, .int b, .int y, .int x, .int fr13, .int v10, .float 0], [.ref 118], (h.1, I19, h.2.2.1, h.2.2.2))) rfl ?_
                    refine hp_getr rfl (hH.1 118 (17, 105) rfl) rfl (hH.2 118 50 (some 151) rfl) ?_
                    refine qm_Rp.go 1 (c' := (87, [.ref 118, .int b, .int y, .int x, .int fr13, .int v10, .float 0], [.int b, .ref 151], (h.1, I19, h.2.2.1, h.2.2.2))) rfl ?_
                    obtain ⟨v21, q_v21⟩ : ∃ v_, h.2.1 151 b.toInt.toNat = v_ := ⟨_, rfl⟩
                    refine hp_ial (v := v21) rfl (hH.1 151 (0, 30) rfl) (show (I19) 151 b.toInt.toNat = _ from ((e_I19 151 rfl b.toInt.toNat).trans q_v21)) (fun ia_21 ib_21 => ?_)
                    refine qm_Rp.go 3 (c' := (92, [.ref 118, .int b, .int y, .int x, .int fr13, .int v10, .int v21], [.int b, .ref 118], (h.1, I19, h.2.2.1, h.2.2.2))) rfl ?_
                    refine hp_inv (o := 118) (r := []) (as := [.ref 118, .int b]) rfl rfl (hH.1 118 (17, 105) rfl) rfl rfl rfl (px_lv0 (h := (h.1, I19, h.2.2.1, h.2.2.2)) hH (u := (I19) 151 b.toInt.toNat) (pz_at p150_I19 (by rw [show ((0 : Int32)).toInt = 0 from rfl]; omega)) rfl (pz_in p151_I19 hs (b.toInt.toNat)) (pz_in p154_I19 hi4) (fun I23 e_I23 x150 => ?_))
                    have x150 : pI I23 150 = fu_up (pI (I19) 150) (b.toInt.toNat) (Int32.toInt 0) := x150
                    have e_I23 : ∀ o, [150].contains o = false → ∀ i, I23 o i = (I19) o i := e_I23
                    have p150_I23 : pI I23 150 = fu_up (wh) (b.toInt.toNat) 0 := by rw [x150, p150_I19]; exact rfl
                    have p151_I23 : pI I23 151 = sp := (funext fun i => congrArg Int32.toInt (e_I23 151 rfl i)).trans p151_I19
                    have p152_I23 : pI I23 152 = c := (funext fun i => congrArg Int32.toInt (e_I23 152 rfl i)).trans p152_I19
                    have p153_I23 : pI I23 153 = yc := (funext fun i => congrArg Int32.toInt (e_I23 153 rfl i)).trans p153_I19
                    have p154_I23 : pI I23 154 = hi := (funext fun i => congrArg Int32.toInt (e_I23 154 rfl i)).trans p154_I19
                    refine qm_Rp.go 3 (c' := (99, [.ref 118, .int b, .int y, .int x, .int fr13, .int v10, .int v21], [.int fr13, .int b, .ref 118], (h.1, I23, h.2.2.1, h.2.2.2))) rfl ?_
                    refine hp_inv (o := 118) (r := []) (as := [.ref 118, .int b, .int fr13]) rfl rfl (hH.1 118 (17, 105) rfl) rfl rfl rfl (px_brd (h := (h.1, I23, h.2.2.1, h.2.2.2)) hH (fun I24 e_I24 x150 x151 x152 => ?_))
                    have x150 : pI I24 150 = fu_up (pI (I23) 150) (b.toInt.toNat) (Int32.toInt 1) := x150
                    have x151 : pI I24 151 = fu_up (pI (I23) 151) (b.toInt.toNat) fr13.toInt := x151
                    have x152 : pI I24 152 = fu_up (pI (I23) 152) fr13.toInt.toNat b.toInt := x152
                    have e_I24 : ∀ o, [150, 151, 152].contains o = false → ∀ i, I24 o i = (I23) o i := e_I24
                    have p150_I24 : pI I24 150 = fu_up (wh) (b.toInt.toNat) 1 := by rw [x150, p150_I23]; exact fu_fu2
                    have p151_I24 : pI I24 151 = fu_up (sp) (b.toInt.toNat) fr13.toInt := by rw [x151, p151_I23]
                    have p152_I24 : pI I24 152 = fu_up (c) fr13.toInt.toNat b.toInt := by rw [x152, p152_I23]
                    have p153_I24 : pI I24 153 = yc := (funext fun i => congrArg Int32.toInt (e_I24 153 rfl i)).trans p153_I23
                    have p154_I24 : pI I24 154 = hi := (funext fun i => congrArg Int32.toInt (e_I24 154 rfl i)).trans p154_I23
                    have hs_I24 : ∀ x, 0 ≤ (fu_up (sp) (b.toInt.toNat) fr13.toInt) x ∧ (fu_up (sp) (b.toInt.toNat) fr13.toInt) x ≤ 79 := fu_in hs (by omega)
                    refine qm_Rp.go 1 (c' := (103, [.ref 118, .int b, .int y, .int x, .int fr13, .int v10, .int v21], [.ref 118], (h.1, I24, h.2.2.1, h.2.2.2))) rfl ?_
                    refine hp_inv (o := 118) (r := []) (as := [.ref 118]) rfl rfl (hH.1 118 (17, 105) rfl) rfl rfl rfl (px_mayb0 (h := (h.1, I24, h.2.2.1, h.2.2.2)) hH ((funext fun i => congrArg Int32.toInt ((e_I24 146 rfl i).trans ((e_I23 146 rfl i).trans ((e_I19 146 rfl i).trans rfl)))).trans eW) p150_I24 p151_I24 (show (I24) 118 44 = _ from ((e_I24 118 rfl 44).trans ((e_I23 118 rfl 44).trans ((e_I19 118 rfl 44).trans q_n)))) hn hw hs_I24 (show (I24) 118 18 = _ from ((e_I24 118 rfl 18).trans ((e_I23 118 rfl 18).trans ((e_I19 118 rfl 18).trans q_lv)))) (show (I24) 127 0 = _ from ((e_I24 127 rfl 0).trans ((e_I23 127 rfl 0).trans ((e_I19 127 rfl 0).trans q_B)))) hB (show (I24) 128 0 = _ from ((e_I24 128 rfl 0).trans ((e_I23 128 rfl 0).trans ((e_I19 128 rfl 0).trans q_g0)))) (show (I24) 128 1 = _ from ((e_I24 128 rfl 1).trans ((e_I23 128 rfl 1).trans ((e_I19 128 rfl 1).trans q_g1)))) (show (I24) 128 2 = _ from ((e_I24 128 rfl 2).trans ((e_I23 128 rfl 2).trans ((e_I19 128 rfl 2).trans q_g2)))) (show (I24) 156 0 = _ from ((e_I24 156 rfl 0).trans ((e_I23 156 rfl 0).trans q_p0_I19))) (show (I24) 156 1 = _ from ((e_I24 156 rfl 1).trans ((e_I23 156 rfl 1).trans q_p1_I19))) (show (I24) 156 2 = _ from ((e_I24 156 rfl 2).trans ((e_I23 156 rfl 2).trans q_p2_I19))) (fun I25 r26 e_I25 hm => ?_))
                    have e_I25 : ∀ o, [155].contains o = false → ∀ i, I25 o i = (I24) o i := e_I25
                    have p150_I25 : pI I25 150 = fu_up (wh) (b.toInt.toNat) 1 := (funext fun i => congrArg Int32.toInt (e_I25 150 rfl i)).trans p150_I24
                    have p151_I25 : pI I25 151 = fu_up (sp) (b.toInt.toNat) fr13.toInt := (funext fun i => congrArg Int32.toInt (e_I25 151 rfl i)).trans p151_I24
                    have p152_I25 : pI I25 152 = fu_up (c) fr13.toInt.toNat b.toInt := (funext fun i => congrArg Int32.toInt (e_I25 152 rfl i)).trans p152_I24
                    have p153_I25 : pI I25 153 = yc := (funext fun i => congrArg Int32.toInt (e_I25 153 rfl i)).trans p153_I24
                    have p154_I25 : pI I25 154 = hi := (funext fun i => congrArg Int32.toInt (e_I25 154 rfl i)).trans p154_I24
                    rw [a0_I19, a1_I19, a2_I19] at hm
                    rcases hm with ⟨hr, hm⟩ | ⟨hr, hm⟩
                    · obtain rfl : r26 = 1 := hk_eqi.mpr (hr.trans rfl)
                      refine qm_Rp.go 4 (c' := (113, [.ref 118, .int b, .int y, .int x, .int fr13, .int v10, .int v21], [.int (fr13 - fr13 / 4 * 4)], (h.1, I25, h.2.2.1, h.2.2.2))) rfl ?_
                      obtain ⟨v27, q_v27, e_v27⟩ := hk_rem (x := fr13) (y := 4) (a := fr13.toInt) (b := 4) rfl rfl (by omega) (by omega)
                      rw [q_v27]
                      refine qm_Rp.rt (v := (some (.int v27))) (h' := (h.1, I25, h.2.2.1, h.2.2.2)) rfl ?_
                      exact k1 (I25) v27 (fun o ho i => ((e_I25 o (hk_ms rfl ho) i).trans ((e_I24 o (hk_ms rfl ho) i).trans ((e_I23 o (hk_ms rfl ho) i).trans ((e_I19 o (hk_ms rfl ho) i).trans rfl))))) ((try_e ⟨by omega, by omega, by omega, by omega, by omega, by omega⟩ (okb_t (by omega)) (by omega) (by omega) (okb_t (by rw [← e_fr13]; exact hm))).trans (by omega)).symm (by omega) p150_I25 (by rw [p151_I25, e_fr13]) (by rw [p152_I25, e_fr13]) p153_I25 (p154_I25.trans (if_neg (by omega)).symm)
                    · obtain rfl : r26 = 0 := hk_eqi.mpr (hr.trans rfl)
                      refine qm_Rp.go 3 (c' := (116, [.ref 118, .int b, .int y, .int x, .int fr13, .int v10, .int v21], [.int b, .ref 118], (h.1, I25, h.2.2.1, h.2.2.2))) rfl ?_
                      refine hp_inv (o := 118) (r := []) (as := [.ref 118, .int b]) rfl rfl (hH.1 118 (17, 105) rfl) rfl rfl rfl (px_lv1 (h := (h.1, I25, h.2.2.1, h.2.2.2)) hH (u := (I25) 151 b.toInt.toNat) (pz_at p150_I25 fu_eq) rfl (pz_in p151_I25 hs_I24 (b.toInt.toNat)) (pz_in p154_I25 hi4) (fun I28 e_I28 x150 x152 => ?_))
                      have x150 : pI I28 150 = fu_up (pI (I25) 150) (b.toInt.toNat) (Int32.toInt 0) := x150
                      have x152 : pI I28 152 = fu_up (pI (I25) 152) (pI (I25) 151 (b.toInt.toNat)).toNat (Int32.toInt (-1)) := x152
                      have e_I28 : ∀ o, [150, 152].contains o = false → ∀ i, I28 o i = (I25) o i := e_I28
                      have p150_I28 : pI I28 150 = fu_up (wh) (b.toInt.toNat) 0 := by rw [x150, p150_I25]; exact fu_fu2
                      have p151_I28 : pI I28 151 = fu_up (sp) (b.toInt.toNat) fr13.toInt := (funext fun i => congrArg Int32.toInt (e_I28 151 rfl i)).trans p151_I25
                      have p152_I28 : pI I28 152 = c := by rw [x152, p152_I25, p151_I25, show (fu_up (sp) (b.toInt.toNat) fr13.toInt) (b.toInt.toNat) = fr13.toInt from fu_eq]; exact fu_ba (d_fr13.resolve_left (by omega)).2.2
                      have p153_I28 : pI I28 153 = yc := (funext fun i => congrArg Int32.toInt (e_I28 153 rfl i)).trans p153_I25
                      have p154_I28 : pI I28 154 = hi := (funext fun i => congrArg Int32.toInt (e_I28 154 rfl i)).trans p154_I25
                      refine qm_Rp.go 2 (c' := (122, [.ref 118, .int b, .int y, .int x, .int fr13, .int v10, .int v21], [.int 2, .int v10], (h.1, I28, h.2.2.1, h.2.2.2))) rfl ?_
                      refine hp_cne (ix := v10.toInt) (iy := 2) rfl rfl rfl (fun z29 => ?_) (fun z29 => by exfalso; omega)
                      refine qm_Rp.go 1 (c' := (136, [.ref 118, .int b, .int y, .int x, .int fr13, .int v10, .int v21], [.int (-3)], (h.1, I28, h.2.2.1, h.2.2.2))) rfl ?_
                      refine qm_Rp.rt (v := (some (.int (-3)))) (h' := (h.1, I28, h.2.2.1, h.2.2.2)) rfl ?_
                      exact k0 (I28) (-3) (fun o ho i => ((e_I28 o (hk_ms rfl ho) i).trans ((e_I25 o (hk_ms rfl ho) i).trans ((e_I24 o (hk_ms rfl ho) i).trans ((e_I23 o (hk_ms rfl ho) i).trans ((e_I19 o (hk_ms rfl ho) i).trans rfl)))))) (try_d ⟨by omega, by omega, by omega, by omega, by omega, by omega⟩ (okb_t (by omega)) (by omega) (by omega) (okb_f (by rw [← e_fr13]; exact hm))).symm (by decide) (p150_I28.trans (fu_si (by omega))) (p151_I28.trans (by rw [if_pos (show ((-3) : Int32).toInt = -3 ∧ wh b.toInt.toNat = 0 from ⟨rfl, by omega⟩), e_fr13])) p152_I28 p153_I28 p154_I28
                  · refine qm_Rp.go 1 (c' := (69, [.ref 118, .int b, .int y, .int x, .int fr13, .float 0, .float 0], [.int (-2)], h)) rfl ?_
                    refine qm_Rp.rt (v := (some (.int (-2)))) (h' := h) rfl ?_
                    exact k0 (h.2.1) (-2) (fun o ho i => rfl) (try_c ⟨by omega, by omega, by omega, by omega, by omega, by omega⟩ (okb_t (by omega)) (by omega) (by omega)).symm (by decide) eH (eS.trans (if_neg (fun z => absurd z.1 (by decide))).symm) eC eY eI
                · refine qm_Rp.go 1 (c' := (48, [.ref 118, .int b, .int y, .int x, .int fr13, .float 0, .float 0], [.int (-1)], h)) rfl ?_
                  refine qm_Rp.rt (v := (some (.int (-1)))) (h' := h) rfl ?_
                  exact k0 (h.2.1) (-1) (fun o ho i => rfl) (try_b ⟨by omega, by omega, by omega, by omega, by omega, by omega⟩ (okb_t (by omega)) (by omega)).symm (by decide) eH (eS.trans (if_neg (fun z => absurd z.1 (by decide))).symm) eC eY eI
              · refine qm_Rp.go 1 (c' := (10, [.ref 118, .int b], [.ref 118], h)) rfl ?_
                refine hp_getr rfl (hH.1 118 (17, 105) rfl) rfl (hH.2 118 49 (some 150) rfl) ?_
                refine qm_Rp.go 1 (c' := (14, [.ref 118, .int b], [.int b, .ref 150], h)) rfl ?_
                refine hp_ial (v := v10) rfl (hH.1 150 (0, 30) rfl) q_v10 (fun ia_29 ib_29 => ?_)
                refine qm_Rp.go 1 (c' := (16, [.ref 118, .int b], [.int 2, .int v10], h)) rfl ?_
                refine hp_cne (ix := v10.toInt) (iy := 2) rfl rfl rfl (fun z31 => ?_) (fun z31 => ?_)
                · refine qm_Rp.go 1 (c' := (50, [.ref 118, .int b], [.int 0], h)) rfl ?_
                  refine qm_Rp.rt (v := (some (.int 0))) (h' := h) rfl ?_
                  refine qm_Rp.go 0 (c' := (28, [.ref 118, .int b, .int y, .int x, .float 0, .float 0, .float 0], [.int 0], h)) rfl ?_
                  refine qm_Rp.go 2 (c' := (32, [.ref 118, .int b, .int y, .int x, .float 0, .float 0, .float 0], [.int (-1)], h)) rfl ?_
                  refine qm_Rp.rt (v := (some (.int (-1)))) (h' := h) rfl ?_
                  exact k0 (h.2.1) (-1) (fun o ho i => rfl) (try_a (fun z => absurd (okb_iff.mp z.2.2.2.2.2.2) (by omega))).symm (by decide) eH (eS.trans (if_neg (fun z => absurd z.1 (by decide))).symm) eC eY eI
                · refine qm_Rp.go 1 (c' := (20, [.ref 118, .int b], [.ref 118], h)) rfl ?_
                  refine hp_getr rfl (hH.1 118 (17, 105) rfl) rfl (hH.2 118 50 (some 151) rfl) ?_
                  refine qm_Rp.go 1 (c' := (24, [.ref 118, .int b], [.int b, .ref 151], h)) rfl ?_
                  obtain ⟨v32, q_v32⟩ : ∃ v_, h.2.1 151 b.toInt.toNat = v_ := ⟨_, rfl⟩
                  refine hp_ial (v := v32) rfl (hH.1 151 (0, 30) rfl) q_v32 (fun ia_32 ib_32 => ?_)
                  refine qm_Rp.go 0 (c' := (25, [.ref 118, .int b], [.int v32], h)) rfl ?_
                  have es : sp b.toInt.toNat = v32.toInt := by rw [← eS]; exact congrArg Int32.toInt q_v32
                  have bsp := hs (b.toInt.toNat)
                  rw [es] at bsp
                  refine qm_Rp.go 2 (c' := (27, [.ref 118, .int b], [.int (v32 - v32 / 4 * 4)], h)) rfl ?_
                  obtain ⟨v34, q_v34, e_v34⟩ := hk_rem (x := v32) (y := 4) (a := v32.toInt) (b := 4) rfl rfl (by omega) (by omega)
                  rw [q_v34]
                  refine qm_Rp.go 1 (c' := (28, [.ref 118, .int b], [.ref 118, .int v34], h)) rfl ?_
                  refine hp_getr rfl (hH.1 118 (17, 105) rfl) rfl (hH.2 118 53 (some 154) rfl) ?_
                  refine qm_Rp.go 1 (c' := (32, [.ref 118, .int b], [.ref 118, .ref 154, .int v34], h)) rfl ?_
                  refine hp_getr rfl (hH.1 118 (17, 105) rfl) rfl (hH.2 118 50 (some 151) rfl) ?_
                  refine qm_Rp.go 1 (c' := (36, [.ref 118, .int b], [.int b, .ref 151, .ref 154, .int v34], h)) rfl ?_
                  refine hp_ial (v := v32) rfl (hH.1 151 (0, 30) rfl) q_v32 (fun ia_34 ib_34 => ?_)
                  refine qm_Rp.go 2 (c' := (39, [.ref 118, .int b], [.int (v32 / 4), .ref 154, .int v34], h)) rfl ?_
                  obtain ⟨v36, q_v36, e_v36⟩ := hk_div (x := v32) (y := 4) (a := v32.toInt) (b := 4) rfl rfl (by omega) (by omega)
                  rw [q_v36]
                  obtain ⟨v37, q_v37⟩ : ∃ v_, h.2.1 154 v36.toInt.toNat = v_ := ⟨_, rfl⟩
                  refine hp_ial (v := v37) rfl (hH.1 154 (0, 4) rfl) q_v37 (fun ia_37 ib_37 => ?_)
                  refine qm_Rp.go 0 (c' := (40, [.ref 118, .int b], [.int v37, .int v34], h)) rfl ?_
                  have eh : hi (sp b.toInt.toNat / 4).toNat = v37.toInt := by rw [es, ← eI, show v32.toInt / 4 = v36.toInt by omega]; exact congrArg Int32.toInt q_v37
                  have b4 := hi4 (sp b.toInt.toNat / 4).toNat
                  rw [eh] at b4
                  refine qm_Rp.go 2 (c' := (42, [.ref 118, .int b], [.int (v37 - 1), .int v34], h)) rfl ?_
                  obtain ⟨v39, q_v39, e_v39⟩ := hk_sub (x := v37) (y := 1) (a := v37.toInt) (b := 1) rfl rfl (by omega) (by omega)
                  rw [q_v39]
                  refine hp_cne (ix := v34.toInt) (iy := v39.toInt) rfl rfl rfl (fun z40 => ?_) (fun z40 => ?_)
                  · refine qm_Rp.go 1 (c' := (50, [.ref 118, .int b], [.int 0], h)) rfl ?_
                    refine qm_Rp.rt (v := (some (.int 0))) (h' := h) rfl ?_
                    refine qm_Rp.go 0 (c' := (28, [.ref 118, .int b, .int y, .int x, .float 0, .float 0, .float 0], [.int 0], h)) rfl ?_
                    refine qm_Rp.go 2 (c' := (32, [.ref 118, .int b, .int y, .int x, .float 0, .float 0, .float 0], [.int (-1)], h)) rfl ?_
                    refine qm_Rp.rt (v := (some (.int (-1)))) (h' := h) rfl ?_
                    exact k0 (h.2.1) (-1) (fun o ho i => rfl) (try_a (fun z => absurd (okb_iff.mp z.2.2.2.2.2.2) (by omega))).symm (by decide) eH (eS.trans (if_neg (fun z => absurd z.1 (by decide))).symm) eC eY eI
                  · refine qm_Rp.go 2 (c' := (50, [.ref 118, .int b], [.int 1], h)) rfl ?_
                    refine qm_Rp.rt (v := (some (.int 1))) (h' := h) rfl ?_
                    refine qm_Rp.go 0 (c' := (28, [.ref 118, .int b, .int y, .int x, .float 0, .float 0, .float 0], [.int 1], h)) rfl ?_
                    refine qm_Rp.go 4 (c' := (36, [.ref 118, .int b, .int y, .int x, .float 0, .float 0, .float 0], [.int x, .int y, .ref 118], h)) rfl ?_
                    refine hp_inv (o := 118) (r := []) (as := [.ref 118, .int y, .int x]) rfl rfl (hH.1 118 (17, 105) rfl) rfl rfl rfl (px_fra hH ⟨by omega, by omega⟩ ⟨by omega, by omega⟩ q_cv (fun fr41 e_fr41 d_fr41 => ?_))
                    rw [eC] at e_fr41 d_fr41
                    refine qm_Rp.go 3 (c' := (44, [.ref 118, .int b, .int y, .int x, .int fr41, .float 0, .float 0], [.int (-1), .int fr41], h)) rfl ?_
                    refine hp_cne (ix := fr41.toInt) (iy := (-1)) rfl rfl rfl (fun z42 => ?_) (fun z42 => ?_)
                    · refine qm_Rp.go 1 (c' := (50, [.ref 118, .int b, .int y, .int x, .int fr41, .float 0, .float 0], [.ref 118], h)) rfl ?_
                      refine hp_getr rfl (hH.1 118 (17, 105) rfl) rfl (hH.2 118 45 (some 146) rfl) ?_
                      refine qm_Rp.go 1 (c' := (54, [.ref 118, .int b, .int y, .int x, .int fr41, .float 0, .float 0], [.int b, .ref 146], h)) rfl ?_
                      obtain ⟨v43, q_v43⟩ : ∃ v_, h.2.1 146 b.toInt.toNat = v_ := ⟨_, rfl⟩
                      refine hp_ial (v := v43) rfl (hH.1 146 (0, 30) rfl) q_v43 (fun ia_43 ib_43 => ?_)
                      refine qm_Rp.go 0 (c' := (55, [.ref 118, .int b, .int y, .int x, .int fr41, .float 0, .float 0], [.int v43], h)) rfl ?_
                      have e_w : w b.toInt.toNat = v43.toInt := by rw [← eW]; exact congrArg Int32.toInt q_v43
                      refine qm_Rp.go 1 (c' := (56, [.ref 118, .int b, .int y, .int x, .int fr41, .float 0, .float 0], [.ref 118, .int v43], h)) rfl ?_
                      refine hp_getr rfl (hH.1 118 (17, 105) rfl) rfl (hH.2 118 24 (some 129) rfl) ?_
                      refine qm_Rp.go 1 (c' := (60, [.ref 118, .int b, .int y, .int x, .int fr41, .float 0, .float 0], [.ref 118, .ref 129, .int v43], h)) rfl ?_
                      refine hp_geti (v := 0) rfl (hH.1 118 (17, 105) rfl) rfl q_lv ?_
                      refine qm_Rp.go 0 (c' := (63, [.ref 118, .int b, .int y, .int x, .int fr41, .float 0, .float 0], [.int 0, .ref 129, .int v43], h)) rfl ?_
                      refine hp_ial (v := l) rfl (hH.1 129 (0, 2) rfl) q_l (fun ia_44 ib_44 => ?_)
                      refine qm_Rp.go 0 (c' := (64, [.ref 118, .int b, .int y, .int x, .int fr41, .float 0, .float 0], [.int l, .int v43], h)) rfl ?_
                      refine hp_cle (ix := v43.toInt) (iy := l.toInt) rfl rfl rfl (fun z46 => ?_) (fun z46 => ?_)
                      · refine qm_Rp.go 1 (c' := (71, [.ref 118, .int b, .int y, .int x, .int fr41, .float 0, .float 0], [.ref 118], h)) rfl ?_
                        refine hp_inv (o := 118) (r := []) (as := [.ref 118]) rfl rfl (hH.1 118 (17, 105) rfl) rfl rfl rfl (px_looks0 (h := h) hH eW eH eS q_n hn hw hs q_lv q_B hB (fun I47 e_I47 a0_I47 a1_I47 a2_I47 => ?_))
                        have e_I47 : ∀ o, [155, 156].contains o = false → ∀ i, I47 o i = (h.2.1) o i := e_I47
                        have p150_I47 : pI I47 150 = wh := (funext fun i => congrArg Int32.toInt (e_I47 150 rfl i)).trans eH
                        have p151_I47 : pI I47 151 = sp := (funext fun i => congrArg Int32.toInt (e_I47 151 rfl i)).trans eS
                        have p152_I47 : pI I47 152 = c := (funext fun i => congrArg Int32.toInt (e_I47 152 rfl i)).trans eC
                        have p153_I47 : pI I47 153 = yc := (funext fun i => congrArg Int32.toInt (e_I47 153 rfl i)).trans eY
                        have p154_I47 : pI I47 154 = hi := (funext fun i => congrArg Int32.toInt (e_I47 154 rfl i)).trans eI
                        obtain ⟨p0_I47, q_p0_I47⟩ : ∃ v_, I47 156 0 = v_ := ⟨_, rfl⟩
                        rw [q_p0_I47] at a0_I47
                        obtain ⟨p1_I47, q_p1_I47⟩ : ∃ v_, I47 156 1 = v_ := ⟨_, rfl⟩
                        rw [q_p1_I47] at a1_I47
                        obtain ⟨p2_I47, q_p2_I47⟩ : ∃ v_, I47 156 2 = v_ := ⟨_, rfl⟩
                        rw [q_p2_I47] at a2_I47
                        refine qm_Rp.go 1 (c' := (75, [.ref 118, .int b, .int y, .int x, .int fr41, .float 0, .float 0], [.ref 118], (h.1, I47, h.2.2.1, h.2.2.2))) rfl ?_
                        refine hp_getr rfl (hH.1 118 (17, 105) rfl) rfl (hH.2 118 49 (some 150) rfl) ?_
                        refine qm_Rp.go 1 (c' := (79, [.ref 118, .int b, .int y, .int x, .int fr41, .float 0, .float 0], [.int b, .ref 150], (h.1, I47, h.2.2.1, h.2.2.2))) rfl ?_
                        refine hp_ial (v := v10) rfl (hH.1 150 (0, 30) rfl) (show (I47) 150 b.toInt.toNat = _ from ((e_I47 150 rfl b.toInt.toNat).trans q_v10)) (fun ia_47 ib_47 => ?_)
                        refine qm_Rp.go 2 (c' := (83, [.ref 118, .int b, .int y, .int x, .int fr41, .int v10, .float 0], [.ref 118], (h.1, I47, h.2.2.1, h.2.2.2))) rfl ?_
                        refine hp_getr rfl (hH.1 118 (17, 105) rfl) rfl (hH.2 118 50 (some 151) rfl) ?_
                        refine qm_Rp.go 1 (c' := (87, [.ref 118, .int b, .int y, .int x, .int fr41, .int v10, .float 0], [.int b, .ref 151], (h.1, I47, h.2.2.1, h.2.2.2))) rfl ?_
                        refine hp_ial (v := v32) rfl (hH.1 151 (0, 30) rfl) (show (I47) 151 b.toInt.toNat = _ from ((e_I47 151 rfl b.toInt.toNat).trans q_v32)) (fun ia_48 ib_48 => ?_)
                        refine qm_Rp.go 3 (c' := (92, [.ref 118, .int b, .int y, .int x, .int fr41, .int v10, .int v32], [.int b, .ref 118], (h.1, I47, h.2.2.1, h.2.2.2))) rfl ?_
                        refine hp_inv (o := 118) (r := []) (as := [.ref 118, .int b]) rfl rfl (hH.1 118 (17, 105) rfl) rfl rfl rfl (px_lv2 (h := (h.1, I47, h.2.2.1, h.2.2.2)) hH (u := (I47) 151 b.toInt.toNat) (pz_at p150_I47 (by rw [show ((2 : Int32)).toInt = 2 from rfl]; omega)) rfl (pz_in p151_I47 hs (b.toInt.toNat)) (pz_in p154_I47 hi4) (fun I50 e_I50 x150 x154 => ?_))
                        have x150 : pI I50 150 = fu_up (pI (I47) 150) (b.toInt.toNat) (Int32.toInt 0) := x150
                        have x154 : pI I50 154 = fu_up (pI (I47) 154) (pI (I47) 151 (b.toInt.toNat) / 4).toNat (pI (I47) 154 (pI (I47) 151 (b.toInt.toNat) / 4).toNat - 1) := x154
                        have e_I50 : ∀ o, [150, 154].contains o = false → ∀ i, I50 o i = (I47) o i := e_I50
                        have p150_I50 : pI I50 150 = fu_up (wh) (b.toInt.toNat) 0 := by rw [x150, p150_I47]; exact rfl
                        have p151_I50 : pI I50 151 = sp := (funext fun i => congrArg Int32.toInt (e_I50 151 rfl i)).trans p151_I47
                        have p152_I50 : pI I50 152 = c := (funext fun i => congrArg Int32.toInt (e_I50 152 rfl i)).trans p152_I47
                        have p153_I50 : pI I50 153 = yc := (funext fun i => congrArg Int32.toInt (e_I50 153 rfl i)).trans p153_I47
                        have p154_I50 : pI I50 154 = fu_up hi (sp b.toInt.toNat / 4).toNat (hi (sp b.toInt.toNat / 4).toNat - 1) := by rw [x154, p154_I47, p151_I47]
                        have h4_I50 : ∀ x, 0 ≤ (fu_up hi (sp b.toInt.toNat / 4).toNat (hi (sp b.toInt.toNat / 4).toNat - 1)) x ∧ (fu_up hi (sp b.toInt.toNat / 4).toNat (hi (sp b.toInt.toNat / 4).toNat - 1)) x ≤ 4 := fu_in hi4 (by omega)
                        refine qm_Rp.go 3 (c' := (99, [.ref 118, .int b, .int y, .int x, .int fr41, .int v10, .int v32], [.int fr41, .int b, .ref 118], (h.1, I50, h.2.2.1, h.2.2.2))) rfl ?_
                        refine hp_inv (o := 118) (r := []) (as := [.ref 118, .int b, .int fr41]) rfl rfl (hH.1 118 (17, 105) rfl) rfl rfl rfl (px_brd (h := (h.1, I50, h.2.2.1, h.2.2.2)) hH (fun I51 e_I51 x150 x151 x152 => ?_))
                        have x150 : pI I51 150 = fu_up (pI (I50) 150) (b.toInt.toNat) (Int32.toInt 1) := x150
                        have x151 : pI I51 151 = fu_up (pI (I50) 151) (b.toInt.toNat) fr41.toInt := x151
                        have x152 : pI I51 152 = fu_up (pI (I50) 152) fr41.toInt.toNat b.toInt := x152
                        have e_I51 : ∀ o, [150, 151, 152].contains o = false → ∀ i, I51 o i = (I50) o i := e_I51
                        have p150_I51 : pI I51 150 = fu_up (wh) (b.toInt.toNat) 1 := by rw [x150, p150_I50]; exact fu_fu2
                        have p151_I51 : pI I51 151 = fu_up (sp) (b.toInt.toNat) fr41.toInt := by rw [x151, p151_I50]
                        have p152_I51 : pI I51 152 = fu_up (c) fr41.toInt.toNat b.toInt := by rw [x152, p152_I50]
                        have p153_I51 : pI I51 153 = yc := (funext fun i => congrArg Int32.toInt (e_I51 153 rfl i)).trans p153_I50
                        have p154_I51 : pI I51 154 = fu_up hi (sp b.toInt.toNat / 4).toNat (hi (sp b.toInt.toNat / 4).toNat - 1) := (funext fun i => congrArg Int32.toInt (e_I51 154 rfl i)).trans p154_I50
                        have hs_I51 : ∀ x, 0 ≤ (fu_up (sp) (b.toInt.toNat) fr41.toInt) x ∧ (fu_up (sp) (b.toInt.toNat) fr41.toInt) x ≤ 79 := fu_in hs (by omega)
                        refine qm_Rp.go 1 (c' := (103, [.ref 118, .int b, .int y, .int x, .int fr41, .int v10, .int v32], [.ref 118], (h.1, I51, h.2.2.1, h.2.2.2))) rfl ?_
                        refine hp_inv (o := 118) (r := []) (as := [.ref 118]) rfl rfl (hH.1 118 (17, 105) rfl) rfl rfl rfl (px_mayb0 (h := (h.1, I51, h.2.2.1, h.2.2.2)) hH ((funext fun i => congrArg Int32.toInt ((e_I51 146 rfl i).trans ((e_I50 146 rfl i).trans ((e_I47 146 rfl i).trans rfl)))).trans eW) p150_I51 p151_I51 (show (I51) 118 44 = _ from ((e_I51 118 rfl 44).trans ((e_I50 118 rfl 44).trans ((e_I47 118 rfl 44).trans q_n)))) hn hw hs_I51 (show (I51) 118 18 = _ from ((e_I51 118 rfl 18).trans ((e_I50 118 rfl 18).trans ((e_I47 118 rfl 18).trans q_lv)))) (show (I51) 127 0 = _ from ((e_I51 127 rfl 0).trans ((e_I50 127 rfl 0).trans ((e_I47 127 rfl 0).trans q_B)))) hB (show (I51) 128 0 = _ from ((e_I51 128 rfl 0).trans ((e_I50 128 rfl 0).trans ((e_I47 128 rfl 0).trans q_g0)))) (show (I51) 128 1 = _ from ((e_I51 128 rfl 1).trans ((e_I50 128 rfl 1).trans ((e_I47 128 rfl 1).trans q_g1)))) (show (I51) 128 2 = _ from ((e_I51 128 rfl 2).trans ((e_I50 128 rfl 2).trans ((e_I47 128 rfl 2).trans q_g2)))) (show (I51) 156 0 = _ from ((e_I51 156 rfl 0).trans ((e_I50 156 rfl 0).trans q_p0_I47))) (show (I51) 156 1 = _ from ((e_I51 156 rfl 1).trans ((e_I50 156 rfl 1).trans q_p1_I47))) (show (I51) 156 2 = _ from ((e_I51 156 rfl 2).trans ((e_I50 156 rfl 2).trans q_p2_I47))) (fun I52 r53 e_I52 hm => ?_))
                        have e_I52 : ∀ o, [155].contains o = false → ∀ i, I52 o i = (I51) o i := e_I52
                        have p150_I52 : pI I52 150 = fu_up (wh) (b.toInt.toNat) 1 := (funext fun i => congrArg Int32.toInt (e_I52 150 rfl i)).trans p150_I51
                        have p151_I52 : pI I52 151 = fu_up (sp) (b.toInt.toNat) fr41.toInt := (funext fun i => congrArg Int32.toInt (e_I52 151 rfl i)).trans p151_I51
                        have p152_I52 : pI I52 152 = fu_up (c) fr41.toInt.toNat b.toInt := (funext fun i => congrArg Int32.toInt (e_I52 152 rfl i)).trans p152_I51
                        have p153_I52 : pI I52 153 = yc := (funext fun i => congrArg Int32.toInt (e_I52 153 rfl i)).trans p153_I51
                        have p154_I52 : pI I52 154 = fu_up hi (sp b.toInt.toNat / 4).toNat (hi (sp b.toInt.toNat / 4).toNat - 1) := (funext fun i => congrArg Int32.toInt (e_I52 154 rfl i)).trans p154_I51
                        rw [a0_I47, a1_I47, a2_I47] at hm
                        rcases hm with ⟨hr, hm⟩ | ⟨hr, hm⟩
                        · obtain rfl : r53 = 1 := hk_eqi.mpr (hr.trans rfl)
                          refine qm_Rp.go 4 (c' := (113, [.ref 118, .int b, .int y, .int x, .int fr41, .int v10, .int v32], [.int (fr41 - fr41 / 4 * 4)], (h.1, I52, h.2.2.1, h.2.2.2))) rfl ?_
                          obtain ⟨v54, q_v54, e_v54⟩ := hk_rem (x := fr41) (y := 4) (a := fr41.toInt) (b := 4) rfl rfl (by omega) (by omega)
                          rw [q_v54]
                          refine qm_Rp.rt (v := (some (.int v54))) (h' := (h.1, I52, h.2.2.1, h.2.2.2)) rfl ?_
                          exact k1 (I52) v54 (fun o ho i => ((e_I52 o (hk_ms rfl ho) i).trans ((e_I51 o (hk_ms rfl ho) i).trans ((e_I50 o (hk_ms rfl ho) i).trans ((e_I47 o (hk_ms rfl ho) i).trans rfl))))) ((try_e ⟨by omega, by omega, by omega, by omega, by omega, by omega⟩ (okb_t (by omega)) (by omega) (by omega) (okb_t (by rw [← e_fr41]; exact hm))).trans (by omega)).symm (by omega) p150_I52 (by rw [p151_I52, e_fr41]) (by rw [p152_I52, e_fr41]) p153_I52 (p154_I52.trans (if_pos (by omega)).symm)
                        · obtain rfl : r53 = 0 := hk_eqi.mpr (hr.trans rfl)
                          refine qm_Rp.go 3 (c' := (116, [.ref 118, .int b, .int y, .int x, .int fr41, .int v10, .int v32], [.int b, .ref 118], (h.1, I52, h.2.2.1, h.2.2.2))) rfl ?_
                          refine hp_inv (o := 118) (r := []) (as := [.ref 118, .int b]) rfl rfl (hH.1 118 (17, 105) rfl) rfl rfl rfl (px_lv1 (h := (h.1, I52, h.2.2.1, h.2.2.2)) hH (u := (I52) 151 b.toInt.toNat) (pz_at p150_I52 fu_eq) rfl (pz_in p151_I52 hs_I51 (b.toInt.toNat)) (pz_in p154_I52 h4_I50) (fun I55 e_I55 x150 x152 => ?_))
                          have x150 : pI I55 150 = fu_up (pI (I52) 150) (b.toInt.toNat) (Int32.toInt 0) := x150
                          have x152 : pI I55 152 = fu_up (pI (I52) 152) (pI (I52) 151 (b.toInt.toNat)).toNat (Int32.toInt (-1)) := x152
                          have e_I55 : ∀ o, [150, 152].contains o = false → ∀ i, I55 o i = (I52) o i := e_I55
                          have p150_I55 : pI I55 150 = fu_up (wh) (b.toInt.toNat) 0 := by rw [x150, p150_I52]; exact fu_fu2
                          have p151_I55 : pI I55 151 = fu_up (sp) (b.toInt.toNat) fr41.toInt := (funext fun i => congrArg Int32.toInt (e_I55 151 rfl i)).trans p151_I52
                          have p152_I55 : pI I55 152 = c := by rw [x152, p152_I52, p151_I52, show (fu_up (sp) (b.toInt.toNat) fr41.toInt) (b.toInt.toNat) = fr41.toInt from fu_eq]; exact fu_ba (d_fr41.resolve_left (by omega)).2.2
                          have p153_I55 : pI I55 153 = yc := (funext fun i => congrArg Int32.toInt (e_I55 153 rfl i)).trans p153_I52
                          have p154_I55 : pI I55 154 = fu_up hi (sp b.toInt.toNat / 4).toNat (hi (sp b.toInt.toNat / 4).toNat - 1) := (funext fun i => congrArg Int32.toInt (e_I55 154 rfl i)).trans p154_I52
                          refine qm_Rp.go 2 (c' := (122, [.ref 118, .int b, .int y, .int x, .int fr41, .int v10, .int v32], [.int 2, .int v10], (h.1, I55, h.2.2.1, h.2.2.2))) rfl ?_
                          refine hp_cne (ix := v10.toInt) (iy := 2) rfl rfl rfl (fun z56 => by exfalso; omega) (fun z56 => ?_)
                          refine qm_Rp.go 5 (c' := (131, [.ref 118, .int b, .int y, .int x, .int fr41, .int v10, .int v32], [.int (v32 / 4), .int b, .ref 118], (h.1, I55, h.2.2.1, h.2.2.2))) rfl ?_
                          rw [q_v36]
                          have eg : v36.toInt = sp b.toInt.toNat / 4 := by rw [es]; omega
                          have ev : ((I55) 154 v36.toInt.toNat).toInt = hi (sp b.toInt.toNat / 4).toNat - 1 := by rw [show ((I55) 154 v36.toInt.toNat).toInt = (fu_up hi (sp b.toInt.toNat / 4).toNat (hi (sp b.toInt.toNat / 4).toNat - 1)) v36.toInt.toNat from congrFun p154_I55 _, eg]; exact fu_eq
                          refine hp_inv (o := 118) (r := []) (as := [.ref 118, .int b, .int v36]) rfl rfl (hH.1 118 (17, 105) rfl) rfl rfl rfl (px_puts (h := (h.1, I55, h.2.2.1, h.2.2.2)) hH (v := (I55) 154 v36.toInt.toNat) ⟨by omega, by omega⟩ rfl (pz_in p154_I55 h4_I50 _) (fun I57 e_I57 x150 x151 x153 x154 => ?_))
                          have x150 : pI I57 150 = fu_up (pI (I55) 150) (b.toInt.toNat) (Int32.toInt 2) := x150
                          have x151 : pI I57 151 = fu_up (pI (I55) 151) (b.toInt.toNat) (4 * v36.toInt + ((I55) 154 v36.toInt.toNat).toInt) := x151
                          have x153 : pI I57 153 = fu_up (pI (I55) 153) (4 * v36.toInt + ((I55) 154 v36.toInt.toNat).toInt).toNat b.toInt := x153
                          have x154 : pI I57 154 = fu_up (pI (I55) 154) v36.toInt.toNat (((I55) 154 v36.toInt.toNat).toInt + 1) := x154
                          rw [ev, eg] at x151 x153 x154
                          have e4 : 4 * (sp b.toInt.toNat / 4) + (hi (sp b.toInt.toNat / 4).toNat - 1) = sp b.toInt.toNat := by omega
                          rw [e4] at x151 x153
                          have e_I57 : ∀ o, [150, 151, 153, 154].contains o = false → ∀ i, I57 o i = (I55) o i := e_I57
                          have p150_I57 : pI I57 150 = wh := by rw [x150, p150_I55]; exact fu_ba (by omega)
                          have p151_I57 : pI I57 151 = sp := by rw [x151, p151_I55]; exact fu_ba rfl
                          have p152_I57 : pI I57 152 = c := (funext fun i => congrArg Int32.toInt (e_I57 152 rfl i)).trans p152_I55
                          have p153_I57 : pI I57 153 = yc := by rw [x153, p153_I55]; exact fu_si (hy (by omega) (by omega))
                          have p154_I57 : pI I57 154 = hi := by rw [x154, p154_I55]; exact fu_ba (by omega)
                          refine qm_Rp.go 1 (c' := (136, [.ref 118, .int b, .int y, .int x, .int fr41, .int v10, .int v32], [.int (-3)], (h.1, I57, h.2.2.1, h.2.2.2))) rfl ?_
                          refine qm_Rp.rt (v := (some (.int (-3)))) (h' := (h.1, I57, h.2.2.1, h.2.2.2)) rfl ?_
                          exact k0 (I57) (-3) (fun o ho i => ((e_I57 o (hk_ms rfl ho) i).trans ((e_I55 o (hk_ms rfl ho) i).trans ((e_I52 o (hk_ms rfl ho) i).trans ((e_I51 o (hk_ms rfl ho) i).trans ((e_I50 o (hk_ms rfl ho) i).trans ((e_I47 o (hk_ms rfl ho) i).trans rfl))))))) (try_d ⟨by omega, by omega, by omega, by omega, by omega, by omega⟩ (okb_t (by omega)) (by omega) (by omega) (okb_f (by rw [← e_fr41]; exact hm))).symm (by decide) p150_I57 (p151_I57.trans (if_neg (fun z => by have := z.2; omega)).symm) p152_I57 p153_I57 p154_I57
                      · refine qm_Rp.go 1 (c' := (69, [.ref 118, .int b, .int y, .int x, .int fr41, .float 0, .float 0], [.int (-2)], h)) rfl ?_
                        refine qm_Rp.rt (v := (some (.int (-2)))) (h' := h) rfl ?_
                        exact k0 (h.2.1) (-2) (fun o ho i => rfl) (try_c ⟨by omega, by omega, by omega, by omega, by omega, by omega⟩ (okb_t (by omega)) (by omega) (by omega)).symm (by decide) eH (eS.trans (if_neg (fun z => absurd z.1 (by decide))).symm) eC eY eI
                    · refine qm_Rp.go 1 (c' := (48, [.ref 118, .int b, .int y, .int x, .int fr41, .float 0, .float 0], [.int (-1)], h)) rfl ?_
                      refine qm_Rp.rt (v := (some (.int (-1)))) (h' := h) rfl ?_
                      exact k0 (h.2.1) (-1) (fun o ho i => rfl) (try_b ⟨by omega, by omega, by omega, by omega, by omega, by omega⟩ (okb_t (by omega)) (by omega)).symm (by decide) eH (eS.trans (if_neg (fun z => absurd z.1 (by decide))).symm) eC eY eI
set_option maxHeartbeats 4000000 in
theorem px_load1 {X : Option (Nat × (Nat → Int32))} {Z : Option Value → qm_H → Prop} {h : qm_H} {fu : Nat} (hH : hk_H h) {n b y x cv l : Int32} {w wh sp : Nat → Int} (eW : pI h.2.1 146 = w) (eH : pI h.2.1 150 = wh) (eS : pI h.2.1 151 = sp) (q_n : h.2.1 118 44 = n) (hn : 0 ≤ n.toInt ∧ n.toInt ≤ 30) (hw : ∀ b, 0 ≤ w b ∧ w b ≤ 40) (hs : ∀ b, 0 ≤ sp b ∧ sp b ≤ 79) {B : Int32} (q_lv : h.2.1 118 18 = 1) (q_B : h.2.1 127 1 = B) (hB : 1 ≤ B.toInt ∧ B.toInt ≤ 5) {g0 g1 g2 : Int32} (q_g0 : h.2.1 128 3 = g0) (q_g1 : h.2.1 128 4 = g1) (q_g2 : h.2.1 128 5 = g2) {c yc hi : Nat → Int} (eC : pI h.2.1 152 = c) (eY : pI h.2.1 153 = yc) (eI : pI h.2.1 154 = hi) (hi4 : ∀ x, 0 ≤ hi x ∧ hi x ≤ 4) (q_cv : h.2.1 118 54 = cv) (q_l : h.2.1 129 1 = l) (hy : 0 ≤ b.toInt → wh b.toInt.toNat = 2 → yc (sp b.toInt.toNat).toNat = b.toInt) (k0 : ∀ (I : Nat → Nat → Int32) (r : Int32), (∀ o, [150, 151, 152, 153, 154, 155, 156].contains o = false → ∀ i, I o i = h.2.1 o i) → r.toInt = tryV n.toInt b.toInt (okb (wh b.toInt.toNat = 0 ∨ (wh b.toInt.toNat = 2 ∧ sp b.toInt.toNat % 4 = hi (sp b.toInt.toNat / 4).toNat - 1))) y.toInt x.toInt B.toInt (frV cv y x.toInt c) (w b.toInt.toNat) l.toInt (okb (mayP B.toInt g0.toInt g1.toInt g2.toInt (ab (zL w wh sp n.toInt.toNat)) (ab (zT B.toInt w wh sp n.toInt.toNat)) (zD B.toInt w wh sp n.toInt.toNat) w (fu_up wh (b.toInt.toNat) 1) (fu_up sp (b.toInt.toNat) (frV cv y x.toInt c)) n.toInt.toNat)) → r.toInt < 0 → pI I 150 = wh → pI I 151 = (if r.toInt = -3 ∧ wh b.toInt.toNat = 0 then fu_up sp (b.toInt.toNat) (frV cv y x.toInt c) else sp) → pI I 152 = c → pI I 153 = yc → pI I 154 = hi → Z (some (.int r)) (h.1, I, h.2.2.1, h.2.2.2)) (k1 : ∀ (I : Nat → Nat → Int32) (r : Int32), (∀ o, [150, 151, 152, 153, 154, 155, 156].contains o = false → ∀ i, I o i = h.2.1 o i) → r.toInt = tryV n.toInt b.toInt (okb (wh b.toInt.toNat = 0 ∨ (wh b.toInt.toNat = 2 ∧ sp b.toInt.toNat % 4 = hi (sp b.toInt.toNat / 4).toNat - 1))) y.toInt x.toInt B.toInt (frV cv y x.toInt c) (w b.toInt.toNat) l.toInt (okb (mayP B.toInt g0.toInt g1.toInt g2.toInt (ab (zL w wh sp n.toInt.toNat)) (ab (zT B.toInt w wh sp n.toInt.toNat)) (zD B.toInt w wh sp n.toInt.toNat) w (fu_up wh (b.toInt.toNat) 1) (fu_up sp (b.toInt.toNat) (frV cv y x.toInt c)) n.toInt.toNat)) → 0 ≤ r.toInt → pI I 150 = fu_up wh (b.toInt.toNat) 1 → pI I 151 = fu_up sp (b.toInt.toNat) (frV cv y x.toInt c) → pI I 152 = fu_up c (frV cv y x.toInt c).toNat b.toInt → pI I 153 = yc → pI I 154 = (if wh b.toInt.toNat = 2 then fu_up hi (sp b.toInt.toNat / 4).toNat (hi (sp b.toInt.toNat / 4).toNat - 1) else hi) → Z (some (.int r)) (h.1, I, h.2.2.1, h.2.2.2)) : qm_Rp fu X cd_284 (qm_ent 7 [.ref 118, .int b, .int y, .int x] h) Z := by
  refine qm_Rp.go 0 (c' := (0, [.ref 118, .int b, .int y, .int x, .float 0, .float 0, .float 0], [], h)) rfl ?_
  have kz0 : (0 : Int32).toInt = 0 := rfl
  have kz1 : (1 : Int32).toInt = 1 := rfl
  have kz2 : (2 : Int32).toInt = 2 := rfl
  have kz3 : (3 : Int32).toInt = 3 := rfl
  have kz4 : (4 : Int32).toInt = 4 := rfl
  have kz5 : (5 : Int32).toInt = 5 := rfl
  have kz6 : (6 : Int32).toInt = 6 := rfl
  have kz7 : (7 : Int32).toInt = 7 := rfl
  have kz8 : (8 : Int32).toInt = 8 := rfl
  have kz9 : (9 : Int32).toInt = 9 := rfl
  have kzm1 : ((-1) : Int32).toInt = (-1) := rfl
  have kzm2 : ((-2) : Int32).toInt = (-2) := rfl
  have kzm3 : ((-3) : Int32).toInt = (-3) := rfl
  refine qm_Rp.go 2 (c' := (2, [.ref 118, .int b, .int y, .int x, .float 0, .float 0, .float 0], [.int b, .ref 118], h)) rfl ?_
  refine hp_inv (o := 118) (r := []) (as := [.ref 118, .int b]) rfl rfl (hH.1 118 (17, 105) rfl) rfl rfl rfl ?_
  refine qm_Rp.go 3 (c' := (3, [.ref 118, .int b], [.ref 118, .int 0, .int b], h)) rfl ?_
  refine hp_geti (v := n) rfl (hH.1 118 (17, 105) rfl) rfl q_n ?_
  refine qm_Rp.go 2 (c' := (8, [.ref 118, .int b], [.int (n - 1), .int 0, .int b], h)) rfl ?_
  obtain ⟨v1, q_v1, e_v1⟩ := hk_sub (x := n) (y := 1) (a := n.toInt) (b := 1) rfl rfl (by omega) (by omega)
  rw [q_v1]
  refine qm_Rp.call (j := 270) (as := [.int b, .int 0, .int v1]) (c' := (11, [.ref 118, .int b], [], h)) rfl rfl ?_
  refine qm_Rp.go 2 (c' := (2, [.int b, .int 0, .int v1], [.int 0, .int b], h)) rfl ?_
  refine hp_clt (ix := b.toInt) (iy := 0) rfl rfl rfl (fun z2 => ?_) (fun z2 => ?_)
  · refine qm_Rp.go 1 (c' := (15, [.int b, .int 0, .int v1], [.int 0], h)) rfl ?_
    refine qm_Rp.rt (v := (some (.int 0))) (h' := h) rfl ?_
    refine qm_Rp.go 0 (c' := (11, [.ref 118, .int b], [.int 0], h)) rfl ?_
    refine qm_Rp.rt (v := (some (.int 0))) (h' := h) rfl ?_
    refine qm_Rp.go 2 (c' := (32, [.ref 118, .int b, .int y, .int x, .float 0, .float 0, .float 0], [.int (-1)], h)) rfl ?_
    refine qm_Rp.rt (v := (some (.int (-1)))) (h' := h) rfl ?_
    exact k0 (h.2.1) (-1) (fun o ho i => rfl) (try_a (fun z => by omega)).symm (by decide) eH (eS.trans (if_neg (fun z => absurd z.1 (by decide))).symm) eC eY eI
  · refine qm_Rp.go 2 (c' := (7, [.int b, .int 0, .int v1], [.int v1, .int b], h)) rfl ?_
    refine hp_cgt (ix := b.toInt) (iy := v1.toInt) rfl rfl rfl (fun z3 => ?_) (fun z3 => ?_)
    · refine qm_Rp.go 1 (c' := (15, [.int b, .int 0, .int v1], [.int 0], h)) rfl ?_
      refine qm_Rp.rt (v := (some (.int 0))) (h' := h) rfl ?_
      refine qm_Rp.go 0 (c' := (11, [.ref 118, .int b], [.int 0], h)) rfl ?_
      refine qm_Rp.rt (v := (some (.int 0))) (h' := h) rfl ?_
      refine qm_Rp.go 2 (c' := (32, [.ref 118, .int b, .int y, .int x, .float 0, .float 0, .float 0], [.int (-1)], h)) rfl ?_
      refine qm_Rp.rt (v := (some (.int (-1)))) (h' := h) rfl ?_
      exact k0 (h.2.1) (-1) (fun o ho i => rfl) (try_a (fun z => by omega)).symm (by decide) eH (eS.trans (if_neg (fun z => absurd z.1 (by decide))).symm) eC eY eI
    · refine qm_Rp.go 2 (c' := (15, [.int b, .int 0, .int v1], [.int 1], h)) rfl ?_
      refine qm_Rp.rt (v := (some (.int 1))) (h' := h) rfl ?_
      refine qm_Rp.go 0 (c' := (11, [.ref 118, .int b], [.int 1], h)) rfl ?_
      refine qm_Rp.rt (v := (some (.int 1))) (h' := h) rfl ?_
      refine qm_Rp.go 3 (c' := (10, [.ref 118, .int b, .int y, .int x, .float 0, .float 0, .float 0], [.int y, .ref 118], h)) rfl ?_
      refine hp_inv (o := 118) (r := []) (as := [.ref 118, .int y]) rfl rfl (hH.1 118 (17, 105) rfl) rfl rfl rfl ?_
      refine qm_Rp.go 3 (c' := (3, [.ref 118, .int y], [.ref 118, .int 0, .int y], h)) rfl ?_
      refine hp_getr rfl (hH.1 118 (17, 105) rfl) rfl (hH.2 118 22 (some 127) rfl) ?_
      refine qm_Rp.go 1 (c' := (7, [.ref 118, .int y], [.ref 118, .ref 127, .int 0, .int y], h)) rfl ?_
      refine hp_geti (v := 1) rfl (hH.1 118 (17, 105) rfl) rfl q_lv ?_
      refine qm_Rp.go 0 (c' := (10, [.ref 118, .int y], [.int 1, .ref 127, .int 0, .int y], h)) rfl ?_
      refine hp_ial (v := B) rfl (hH.1 127 (0, 2) rfl) q_B (fun ia_3 ib_3 => ?_)
      refine qm_Rp.go 2 (c' := (13, [.ref 118, .int y], [.int (B - 1), .int 0, .int y], h)) rfl ?_
      obtain ⟨v5, q_v5, e_v5⟩ := hk_sub (x := B) (y := 1) (a := B.toInt) (b := 1) rfl rfl (by omega) (by omega)
      rw [q_v5]
      refine qm_Rp.call (j := 270) (as := [.int y, .int 0, .int v5]) (c' := (16, [.ref 118, .int y], [], h)) rfl rfl ?_
      refine qm_Rp.go 2 (c' := (2, [.int y, .int 0, .int v5], [.int 0, .int y], h)) rfl ?_
      refine hp_clt (ix := y.toInt) (iy := 0) rfl rfl rfl (fun z6 => ?_) (fun z6 => ?_)
      · refine qm_Rp.go 1 (c' := (15, [.int y, .int 0, .int v5], [.int 0], h)) rfl ?_
        refine qm_Rp.rt (v := (some (.int 0))) (h' := h) rfl ?_
        refine qm_Rp.go 0 (c' := (16, [.ref 118, .int y], [.int 0], h)) rfl ?_
        refine qm_Rp.rt (v := (some (.int 0))) (h' := h) rfl ?_
        refine qm_Rp.go 2 (c' := (32, [.ref 118, .int b, .int y, .int x, .float 0, .float 0, .float 0], [.int (-1)], h)) rfl ?_
        refine qm_Rp.rt (v := (some (.int (-1)))) (h' := h) rfl ?_
        exact k0 (h.2.1) (-1) (fun o ho i => rfl) (try_a (fun z => by omega)).symm (by decide) eH (eS.trans (if_neg (fun z => absurd z.1 (by decide))).symm) eC eY eI
      · refine qm_Rp.go 2 (c' := (7, [.int y, .int 0, .int v5], [.int v5, .int y], h)) rfl ?_
        refine hp_cgt (ix := y.toInt) (iy := v5.toInt) rfl rfl rfl (fun z7 => ?_) (fun z7 => ?_)
        · refine qm_Rp.go 1 (c' := (15, [.int y, .int 0, .int v5], [.int 0], h)) rfl ?_
          refine qm_Rp.rt (v := (some (.int 0))) (h' := h) rfl ?_
          refine qm_Rp.go 0 (c' := (16, [.ref 118, .int y], [.int 0], h)) rfl ?_
          refine qm_Rp.rt (v := (some (.int 0))) (h' := h) rfl ?_
          refine qm_Rp.go 2 (c' := (32, [.ref 118, .int b, .int y, .int x, .float 0, .float 0, .float 0], [.int (-1)], h)) rfl ?_
          refine qm_Rp.rt (v := (some (.int (-1)))) (h' := h) rfl ?_
          exact k0 (h.2.1) (-1) (fun o ho i => rfl) (try_a (fun z => by omega)).symm (by decide) eH (eS.trans (if_neg (fun z => absurd z.1 (by decide))).symm) eC eY eI
        · refine qm_Rp.go 2 (c' := (15, [.int y, .int 0, .int v5], [.int 1], h)) rfl ?_
          refine qm_Rp.rt (v := (some (.int 1))) (h' := h) rfl ?_
          refine qm_Rp.go 0 (c' := (16, [.ref 118, .int y], [.int 1], h)) rfl ?_
          refine qm_Rp.rt (v := (some (.int 1))) (h' := h) rfl ?_
          refine qm_Rp.go 2 (c' := (17, [.ref 118, .int b, .int y, .int x, .float 0, .float 0, .float 0], [.int x], h)) rfl ?_
          refine qm_Rp.call (j := 278) (as := [.int x]) (c' := (20, [.ref 118, .int b, .int y, .int x, .float 0, .float 0, .float 0], [], h)) rfl rfl ?_
          refine qm_Rp.go 3 (c' := (3, [.int x], [.int 3, .int 0, .int x], h)) rfl ?_
          refine qm_Rp.call (j := 270) (as := [.int x, .int 0, .int 3]) (c' := (6, [.int x], [], h)) rfl rfl ?_
          refine qm_Rp.go 2 (c' := (2, [.int x, .int 0, .int 3], [.int 0, .int x], h)) rfl ?_
          refine hp_clt (ix := x.toInt) (iy := 0) rfl rfl rfl (fun z8 => ?_) (fun z8 => ?_)
          · refine qm_Rp.go 1 (c' := (15, [.int x, .int 0, .int 3], [.int 0], h)) rfl ?_
            refine qm_Rp.rt (v := (some (.int 0))) (h' := h) rfl ?_
            refine qm_Rp.go 0 (c' := (6, [.int x], [.int 0], h)) rfl ?_
            refine qm_Rp.rt (v := (some (.int 0))) (h' := h) rfl ?_
            refine qm_Rp.go 2 (c' := (32, [.ref 118, .int b, .int y, .int x, .float 0, .float 0, .float 0], [.int (-1)], h)) rfl ?_
            refine qm_Rp.rt (v := (some (.int (-1)))) (h' := h) rfl ?_
            exact k0 (h.2.1) (-1) (fun o ho i => rfl) (try_a (fun z => by omega)).symm (by decide) eH (eS.trans (if_neg (fun z => absurd z.1 (by decide))).symm) eC eY eI
          · refine qm_Rp.go 2 (c' := (7, [.int x, .int 0, .int 3], [.int 3, .int x], h)) rfl ?_
            refine hp_cgt (ix := x.toInt) (iy := 3) rfl rfl rfl (fun z9 => ?_) (fun z9 => ?_)
            · refine qm_Rp.go 1 (c' := (15, [.int x, .int 0, .int 3], [.int 0], h)) rfl ?_
              refine qm_Rp.rt (v := (some (.int 0))) (h' := h) rfl ?_
              refine qm_Rp.go 0 (c' := (6, [.int x], [.int 0], h)) rfl ?_
              refine qm_Rp.rt (v := (some (.int 0))) (h' := h) rfl ?_
              refine qm_Rp.go 2 (c' := (32, [.ref 118, .int b, .int y, .int x, .float 0, .float 0, .float 0], [.int (-1)], h)) rfl ?_
              refine qm_Rp.rt (v := (some (.int (-1)))) (h' := h) rfl ?_
              exact k0 (h.2.1) (-1) (fun o ho i => rfl) (try_a (fun z => by omega)).symm (by decide) eH (eS.trans (if_neg (fun z => absurd z.1 (by decide))).symm) eC eY eI
            · refine qm_Rp.go 2 (c' := (15, [.int x, .int 0, .int 3], [.int 1], h)) rfl ?_
              refine qm_Rp.rt (v := (some (.int 1))) (h' := h) rfl ?_
              refine qm_Rp.go 0 (c' := (6, [.int x], [.int 1], h)) rfl ?_
              refine qm_Rp.rt (v := (some (.int 1))) (h' := h) rfl ?_
              refine qm_Rp.go 3 (c' := (25, [.ref 118, .int b, .int y, .int x, .float 0, .float 0, .float 0], [.int b, .ref 118], h)) rfl ?_
              refine hp_inv (o := 118) (r := []) (as := [.ref 118, .int b]) rfl rfl (hH.1 118 (17, 105) rfl) rfl rfl rfl ?_
              refine qm_Rp.go 1 (c' := (1, [.ref 118, .int b], [.ref 118], h)) rfl ?_
              refine hp_getr rfl (hH.1 118 (17, 105) rfl) rfl (hH.2 118 49 (some 150) rfl) ?_
              refine qm_Rp.go 1 (c' := (5, [.ref 118, .int b], [.int b, .ref 150], h)) rfl ?_
              obtain ⟨v10, q_v10⟩ : ∃ v_, h.2.1 150 b.toInt.toNat = v_ := ⟨_, rfl⟩
              refine hp_ial (v := v10) rfl (hH.1 150 (0, 30) rfl) q_v10 (fun ia_10 ib_10 => ?_)
              refine qm_Rp.go 0 (c' := (6, [.ref 118, .int b], [.int v10], h)) rfl ?_
              have ew : wh b.toInt.toNat = v10.toInt := by rw [← eH]; exact congrArg Int32.toInt q_v10
              refine hp_zeq (ix := v10.toInt) rfl rfl (fun z12 => ?_) (fun z12 => ?_)
              · refine qm_Rp.go 2 (c' := (50, [.ref 118, .int b], [.int 1], h)) rfl ?_
                refine qm_Rp.rt (v := (some (.int 1))) (h' := h) rfl ?_
                refine qm_Rp.go 0 (c' := (28, [.ref 118, .int b, .int y, .int x, .float 0, .float 0, .float 0], [.int 1], h)) rfl ?_
                refine qm_Rp.go 4 (c' := (36, [.ref 118, .int b, .int y, .int x, .float 0, .float 0, .float 0], [.int x, .int y, .ref 118], h)) rfl ?_
                refine hp_inv (o := 118) (r := []) (as := [.ref 118, .int y, .int x]) rfl rfl (hH.1 118 (17, 105) rfl) rfl rfl rfl (px_fra hH ⟨by omega, by omega⟩ ⟨by omega, by omega⟩ q_cv (fun fr13 e_fr13 d_fr13 => ?_))
                rw [eC] at e_fr13 d_fr13
                refine qm_Rp.go 3 (c' := (44, [.ref 118, .int b, .int y, .int x, .int fr13, .float 0, .float 0], [.int (-1), .int fr13], h)) rfl ?_
                refine hp_cne (ix := fr13.toInt) (iy := (-1)) rfl rfl rfl (fun z14 => ?_) (fun z14 => ?_)
                · refine qm_Rp.go 1 (c' := (50, [.ref 118, .int b, .int y, .int x, .int fr13, .float 0, .float 0], [.ref 118], h)) rfl ?_
                  refine hp_getr rfl (hH.1 118 (17, 105) rfl) rfl (hH.2 118 45 (some 146) rfl) ?_
                  refine qm_Rp.go 1 (c' := (54, [.ref 118, .int b, .int y, .int x, .int fr13, .float 0, .float 0], [.int b, .ref 146], h)) rfl ?_
                  obtain ⟨v15, q_v15⟩ : ∃ v_, h.2.1 146 b.toInt.toNat = v_ := ⟨_, rfl⟩
                  refine hp_ial (v := v15) rfl (hH.1 146 (0, 30) rfl) q_v15 (fun ia_15 ib_15 => ?_)
                  refine qm_Rp.go 0 (c' := (55, [.ref 118, .int b, .int y, .int x, .int fr13, .float 0, .float 0], [.int v15], h)) rfl ?_
                  have e_w : w b.toInt.toNat = v15.toInt := by rw [← eW]; exact congrArg Int32.toInt q_v15
                  refine qm_Rp.go 1 (c' := (56, [.ref 118, .int b, .int y, .int x, .int fr13, .float 0, .float 0], [.ref 118, .int v15], h)) rfl ?_
                  refine hp_getr rfl (hH.1 118 (17, 105) rfl) rfl (hH.2 118 24 (some 129) rfl) ?_
                  refine qm_Rp.go 1 (c' := (60, [.ref 118, .int b, .int y, .int x, .int fr13, .float 0, .float 0], [.ref 118, .ref 129, .int v15], h)) rfl ?_
                  refine hp_geti (v := 1) rfl (hH.1 118 (17, 105) rfl) rfl q_lv ?_
                  refine qm_Rp.go 0 (c' := (63, [.ref 118, .int b, .int y, .int x, .int fr13, .float 0, .float 0], [.int 1, .ref 129, .int v15], h)) rfl ?_
                  refine hp_ial (v := l) rfl (hH.1 129 (0, 2) rfl) q_l (fun ia_16 ib_16 => ?_)
                  refine qm_Rp.go 0 (c' := (64, [.ref 118, .int b, .int y, .int x, .int fr13, .float 0, .float 0], [.int l, .int v15], h)) rfl ?_
                  refine hp_cle (ix := v15.toInt) (iy := l.toInt) rfl rfl rfl (fun z18 => ?_) (fun z18 => ?_)
                  · refine qm_Rp.go 1 (c' := (71, [.ref 118, .int b, .int y, .int x, .int fr13, .float 0, .float 0], [.ref 118], h)) rfl ?_
                    refine hp_inv (o := 118) (r := []) (as := [.ref 118]) rfl rfl (hH.1 118 (17, 105) rfl) rfl rfl rfl (px_looks1 (h := h) hH eW eH eS q_n hn hw hs q_lv q_B hB (fun I19 e_I19 a0_I19 a1_I19 a2_I19 => ?_))
                    have e_I19 : ∀ o, [155, 156].contains o = false → ∀ i, I19 o i = (h.2.1) o i := e_I19
                    have p150_I19 : pI I19 150 = wh := (funext fun i => congrArg Int32.toInt (e_I19 150 rfl i)).trans eH
                    have p151_I19 : pI I19 151 = sp := (funext fun i => congrArg Int32.toInt (e_I19 151 rfl i)).trans eS
                    have p152_I19 : pI I19 152 = c := (funext fun i => congrArg Int32.toInt (e_I19 152 rfl i)).trans eC
                    have p153_I19 : pI I19 153 = yc := (funext fun i => congrArg Int32.toInt (e_I19 153 rfl i)).trans eY
                    have p154_I19 : pI I19 154 = hi := (funext fun i => congrArg Int32.toInt (e_I19 154 rfl i)).trans eI
                    obtain ⟨p0_I19, q_p0_I19⟩ : ∃ v_, I19 156 0 = v_ := ⟨_, rfl⟩
                    rw [q_p0_I19] at a0_I19
                    obtain ⟨p1_I19, q_p1_I19⟩ : ∃ v_, I19 156 1 = v_ := ⟨_, rfl⟩
                    rw [q_p1_I19] at a1_I19
                    obtain ⟨p2_I19, q_p2_I19⟩ : ∃ v_, I19 156 2 = v_ := ⟨_, rfl⟩
                    rw [q_p2_I19] at a2_I19
                    refine qm_Rp.go 1 (c' := (75, [.ref 118, .int b, .int y, .int x, .int fr13, .float 0, .float 0], [.ref 118], (h.1, I19, h.2.2.1, h.2.2.2))) rfl ?_
                    refine hp_getr rfl (hH.1 118 (17, 105) rfl) rfl (hH.2 118 49 (some 150) rfl) ?_
                    refine qm_Rp.go 1 (c' := (79, [.ref 118, .int b, .int y, .int x, .int fr13, .float 0, .float 0], [.int b, .ref 150], (h.1, I19, h.2.2.1, h.2.2.2))) rfl ?_
                    refine hp_ial (v := v10) rfl (hH.1 150 (0, 30) rfl) (show (I19) 150 b.toInt.toNat = _ from ((e_I19 150 rfl b.toInt.toNat).trans q_v10)) (fun ia_19 ib_19 => ?_)
                    refine qm_Rp.go 2 (c' := (83, [.ref 118, .int b, .int y, .int x, .int fr13, .int v10, .float 0], [.ref 118], (h.1, I19, h.2.2.1, h.2.2.2))) rfl ?_
                    refine hp_getr rfl (hH.1 118 (17, 105) rfl) rfl (hH.2 118 50 (some 151) rfl) ?_
                    refine qm_Rp.go 1 (c' := (87, [.ref 118, .int b, .int y, .int x, .int fr13, .int v10, .float 0], [.int b, .ref 151], (h.1, I19, h.2.2.1, h.2.2.2))) rfl ?_
                    obtain ⟨v21, q_v21⟩ : ∃ v_, h.2.1 151 b.toInt.toNat = v_ := ⟨_, rfl⟩
                    refine hp_ial (v := v21) rfl (hH.1 151 (0, 30) rfl) (show (I19) 151 b.toInt.toNat = _ from ((e_I19 151 rfl b.toInt.toNat).trans q_v21)) (fun ia_21 ib_21 => ?_)
                    refine qm_Rp.go 3 (c' := (92, [.ref 118, .int b, .int y, .int x, .int fr13, .int v10, .int v21], [.int b, .ref 118], (h.1, I19, h.2.2.1, h.2.2.2))) rfl ?_
                    refine hp_inv (o := 118) (r := []) (as := [.ref 118, .int b]) rfl rfl (hH.1 118 (17, 105) rfl) rfl rfl rfl (px_lv0 (h := (h.1, I19, h.2.2.1, h.2.2.2)) hH (u := (I19) 151 b.toInt.toNat) (pz_at p150_I19 (by rw [show ((0 : Int32)).toInt = 0 from rfl]; omega)) rfl (pz_in p151_I19 hs (b.toInt.toNat)) (pz_in p154_I19 hi4) (fun I23 e_I23 x150 => ?_))
                    have x150 : pI I23 150 = fu_up (pI (I19) 150) (b.toInt.toNat) (Int32.toInt 0) := x150
                    have e_I23 : ∀ o, [150].contains o = false → ∀ i, I23 o i = (I19) o i := e_I23
                    have p150_I23 : pI I23 150 = fu_up (wh) (b.toInt.toNat) 0 := by rw [x150, p150_I19]; exact rfl
                    have p151_I23 : pI I23 151 = sp := (funext fun i => congrArg Int32.toInt (e_I23 151 rfl i)).trans p151_I19
                    have p152_I23 : pI I23 152 = c := (funext fun i => congrArg Int32.toInt (e_I23 152 rfl i)).trans p152_I19
                    have p153_I23 : pI I23 153 = yc := (funext fun i => congrArg Int32.toInt (e_I23 153 rfl i)).trans p153_I19
                    have p154_I23 : pI I23 154 = hi := (funext fun i => congrArg Int32.toInt (e_I23 154 rfl i)).trans p154_I19
                    refine qm_Rp.go 3 (c' := (99, [.ref 118, .int b, .int y, .int x, .int fr13, .int v10, .int v21], [.int fr13, .int b, .ref 118], (h.1, I23, h.2.2.1, h.2.2.2))) rfl ?_
                    refine hp_inv (o := 118) (r := []) (as := [.ref 118, .int b, .int fr13]) rfl rfl (hH.1 118 (17, 105) rfl) rfl rfl rfl (px_brd (h := (h.1, I23, h.2.2.1, h.2.2.2)) hH (fun I24 e_I24 x150 x151 x152 => ?_))
                    have x150 : pI I24 150 = fu_up (pI (I23) 150) (b.toInt.toNat) (Int32.toInt 1) := x150
                    have x151 : pI I24 151 = fu_up (pI (I23) 151) (b.toInt.toNat) fr13.toInt := x151
                    have x152 : pI I24 152 = fu_up (pI (I23) 152) fr13.toInt.toNat b.toInt := x152
                    have e_I24 : ∀ o, [150, 151, 152].contains o = false → ∀ i, I24 o i = (I23) o i := e_I24
                    have p150_I24 : pI I24 150 = fu_up (wh) (b.toInt.toNat) 1 := by rw [x150, p150_I23]; exact fu_fu2
                    have p151_I24 : pI I24 151 = fu_up (sp) (b.toInt.toNat) fr13.toInt := by rw [x151, p151_I23]
                    have p152_I24 : pI I24 152 = fu_up (c) fr13.toInt.toNat b.toInt := by rw [x152, p152_I23]
                    have p153_I24 : pI I24 153 = yc := (funext fun i => congrArg Int32.toInt (e_I24 153 rfl i)).trans p153_I23
                    have p154_I24 : pI I24 154 = hi := (funext fun i => congrArg Int32.toInt (e_I24 154 rfl i)).trans p154_I23
                    have hs_I24 : ∀ x, 0 ≤ (fu_up (sp) (b.toInt.toNat) fr13.toInt) x ∧ (fu_up (sp) (b.toInt.toNat) fr13.toInt) x ≤ 79 := fu_in hs (by omega)
                    refine qm_Rp.go 1 (c' := (103, [.ref 118, .int b, .int y, .int x, .int fr13, .int v10, .int v21], [.ref 118], (h.1, I24, h.2.2.1, h.2.2.2))) rfl ?_
                    refine hp_inv (o := 118) (r := []) (as := [.ref 118]) rfl rfl (hH.1 118 (17, 105) rfl) rfl rfl rfl (px_mayb1 (h := (h.1, I24, h.2.2.1, h.2.2.2)) hH ((funext fun i => congrArg Int32.toInt ((e_I24 146 rfl i).trans ((e_I23 146 rfl i).trans ((e_I19 146 rfl i).trans rfl)))).trans eW) p150_I24 p151_I24 (show (I24) 118 44 = _ from ((e_I24 118 rfl 44).trans ((e_I23 118 rfl 44).trans ((e_I19 118 rfl 44).trans q_n)))) hn hw hs_I24 (show (I24) 118 18 = _ from ((e_I24 118 rfl 18).trans ((e_I23 118 rfl 18).trans ((e_I19 118 rfl 18).trans q_lv)))) (show (I24) 127 1 = _ from ((e_I24 127 rfl 1).trans ((e_I23 127 rfl 1).trans ((e_I19 127 rfl 1).trans q_B)))) hB (show (I24) 128 3 = _ from ((e_I24 128 rfl 3).trans ((e_I23 128 rfl 3).trans ((e_I19 128 rfl 3).trans q_g0)))) (show (I24) 128 4 = _ from ((e_I24 128 rfl 4).trans ((e_I23 128 rfl 4).trans ((e_I19 128 rfl 4).trans q_g1)))) (show (I24) 128 5 = _ from ((e_I24 128 rfl 5).trans ((e_I23 128 rfl 5).trans ((e_I19 128 rfl 5).trans q_g2)))) (show (I24) 156 0 = _ from ((e_I24 156 rfl 0).trans ((e_I23 156 rfl 0).trans q_p0_I19))) (show (I24) 156 1 = _ from ((e_I24 156 rfl 1).trans ((e_I23 156 rfl 1).trans q_p1_I19))) (show (I24) 156 2 = _ from ((e_I24 156 rfl 2).trans ((e_I23 156 rfl 2).trans q_p2_I19))) (fun I25 r26 e_I25 hm => ?_))
                    have e_I25 : ∀ o, [155].contains o = false → ∀ i, I25 o i = (I24) o i := e_I25
                    have p150_I25 : pI I25 150 = fu_up (wh) (b.toInt.toNat) 1 := (funext fun i => congrArg Int32.toInt (e_I25 150 rfl i)).trans p150_I24
                    have p151_I25 : pI I25 151 = fu_up (sp) (b.toInt.toNat) fr13.toInt := (funext fun i => congrArg Int32.toInt (e_I25 151 rfl i)).trans p151_I24
                    have p152_I25 : pI I25 152 = fu_up (c) fr13.toInt.toNat b.toInt := (funext fun i => congrArg Int32.toInt (e_I25 152 rfl i)).trans p152_I24
                    have p153_I25 : pI I25 153 = yc := (funext fun i => congrArg Int32.toInt (e_I25 153 rfl i)).trans p153_I24
                    have p154_I25 : pI I25 154 = hi := (funext fun i => congrArg Int32.toInt (e_I25 154 rfl i)).trans p154_I24
                    rw [a0_I19, a1_I19, a2_I19] at hm
                    rcases hm with ⟨hr, hm⟩ | ⟨hr, hm⟩
                    · obtain rfl : r26 = 1 := hk_eqi.mpr (hr.trans rfl)
                      refine qm_Rp.go 4 (c' := (113, [.ref 118, .int b, .int y, .int x, .int fr13, .int v10, .int v21], [.int (fr13 - fr13 / 4 * 4)], (h.1, I25, h.2.2.1, h.2.2.2))) rfl ?_
                      obtain ⟨v27, q_v27, e_v27⟩ := hk_rem (x := fr13) (y := 4) (a := fr13.toInt) (b := 4) rfl rfl (by omega) (by omega)
                      rw [q_v27]
                      refine qm_Rp.rt (v := (some (.int v27))) (h' := (h.1, I25, h.2.2.1, h.2.2.2)) rfl ?_
                      exact k1 (I25) v27 (fun o ho i => ((e_I25 o (hk_ms rfl ho) i).trans ((e_I24 o (hk_ms rfl ho) i).trans ((e_I23 o (hk_ms rfl ho) i).trans ((e_I19 o (hk_ms rfl ho) i).trans rfl))))) ((try_e ⟨by omega, by omega, by omega, by omega, by omega, by omega⟩ (okb_t (by omega)) (by omega) (by omega) (okb_t (by rw [← e_fr13]; exact hm))).trans (by omega)).symm (by omega) p150_I25 (by rw [p151_I25, e_fr13]) (by rw [p152_I25, e_fr13]) p153_I25 (p154_I25.trans (if_neg (by omega)).symm)
                    · obtain rfl : r26 = 0 := hk_eqi.mpr (hr.trans rfl)
                      refine qm_Rp.go 3 (c' := (116, [.ref 118, .int b, .int y, .int x, .int fr13, .int v10, .int v21], [.int b, .ref 118], (h.1, I25, h.2.2.1, h.2.2.2))) rfl ?_
                      refine hp_inv (o := 118) (r := []) (as := [.ref 118, .int b]) rfl rfl (hH.1 118 (17, 105) rfl) rfl rfl rfl (px_lv1 (h := (h.1, I25, h.2.2.1, h.2.2.2)) hH (u := (I25) 151 b.toInt.toNat) (pz_at p150_I25 fu_eq) rfl (pz_in p151_I25 hs_I24 (b.toInt.toNat)) (pz_in p154_I25 hi4) (fun I28 e_I28 x150 x152 => ?_))
                      have x150 : pI I28 150 = fu_up (pI (I25) 150) (b.toInt.toNat) (Int32.toInt 0) := x150
                      have x152 : pI I28 152 = fu_up (pI (I25) 152) (pI (I25) 151 (b.toInt.toNat)).toNat (Int32.toInt (-1)) := x152
                      have e_I28 : ∀ o, [150, 152].contains o = false → ∀ i, I28 o i = (I25) o i := e_I28
                      have p150_I28 : pI I28 150 = fu_up (wh) (b.toInt.toNat) 0 := by rw [x150, p150_I25]; exact fu_fu2
                      have p151_I28 : pI I28 151 = fu_up (sp) (b.toInt.toNat) fr13.toInt := (funext fun i => congrArg Int32.toInt (e_I28 151 rfl i)).trans p151_I25
                      have p152_I28 : pI I28 152 = c := by rw [x152, p152_I25, p151_I25, show (fu_up (sp) (b.toInt.toNat) fr13.toInt) (b.toInt.toNat) = fr13.toInt from fu_eq]; exact fu_ba (d_fr13.resolve_left (by omega)).2.2
                      have p153_I28 : pI I28 153 = yc := (funext fun i => congrArg Int32.toInt (e_I28 153 rfl i)).trans p153_I25
                      have p154_I28 : pI I28 154 = hi := (funext fun i => congrArg Int32.toInt (e_I28 154 rfl i)).trans p154_I25
                      refine qm_Rp.go 2 (c' := (122, [.ref 118, .int b, .int y, .int x, .int fr13, .int v10, .int v21], [.int 2, .int v10], (h.1, I28, h.2.2.1, h.2.2.2))) rfl ?_
                      refine hp_cne (ix := v10.toInt) (iy := 2) rfl rfl rfl (fun z29 => ?_) (fun z29 => by exfalso; omega)
                      refine qm_Rp.go 1 (c' := (136, [.ref 118, .int b, .int y, .int x, .int fr13, .int v10, .int v21], [.int (-3)], (h.1, I28, h.2.2.1, h.2.2.2))) rfl ?_
                      refine qm_Rp.rt (v := (some (.int (-3)))) (h' := (h.1, I28, h.2.2.1, h.2.2.2)) rfl ?_
                      exact k0 (I28) (-3) (fun o ho i => ((e_I28 o (hk_ms rfl ho) i).trans ((e_I25 o (hk_ms rfl ho) i).trans ((e_I24 o (hk_ms rfl ho) i).trans ((e_I23 o (hk_ms rfl ho) i).trans ((e_I19 o (hk_ms rfl ho) i).trans rfl)))))) (try_d ⟨by omega, by omega, by omega, by omega, by omega, by omega⟩ (okb_t (by omega)) (by omega) (by omega) (okb_f (by rw [← e_fr13]; exact hm))).symm (by decide) (p150_I28.trans (fu_si (by omega))) (p151_I28.trans (by rw [if_pos (show ((-3) : Int32).toInt = -3 ∧ wh b.toInt.toNat = 0 from ⟨rfl, by omega⟩), e_fr13])) p152_I28 p153_I28 p154_I28
                  · refine qm_Rp.go 1 (c' := (69, [.ref 118, .int b, .int y, .int x, .int fr13, .float 0, .float 0], [.int (-2)], h)) rfl ?_
                    refine qm_Rp.rt (v := (some (.int (-2)))) (h' := h) rfl ?_
                    exact k0 (h.2.1) (-2) (fun o ho i => rfl) (try_c ⟨by omega, by omega, by omega, by omega, by omega, by omega⟩ (okb_t (by omega)) (by omega) (by omega)).symm (by decide) eH (eS.trans (if_neg (fun z => absurd z.1 (by decide))).symm) eC eY eI
                · refine qm_Rp.go 1 (c' := (48, [.ref 118, .int b, .int y, .int x, .int fr13, .float 0, .float 0], [.int (-1)], h)) rfl ?_
                  refine qm_Rp.rt (v := (some (.int (-1)))) (h' := h) rfl ?_
                  exact k0 (h.2.1) (-1) (fun o ho i => rfl) (try_b ⟨by omega, by omega, by omega, by omega, by omega, by omega⟩ (okb_t (by omega)) (by omega)).symm (by decide) eH (eS.trans (if_neg (fun z => absurd z.1 (by decide))).symm) eC eY eI
              · refine qm_Rp.go 1 (c' := (10, [.ref 118, .int b], [.ref 118], h)) rfl ?_
                refine hp_getr rfl (hH.1 118 (17, 105) rfl) rfl (hH.2 118 49 (some 150) rfl) ?_
                refine qm_Rp.go 1 (c' := (14, [.ref 118, .int b], [.int b, .ref 150], h)) rfl ?_
                refine hp_ial (v := v10) rfl (hH.1 150 (0, 30) rfl) q_v10 (fun ia_29 ib_29 => ?_)
                refine qm_Rp.go 1 (c' := (16, [.ref 118, .int b], [.int 2, .int v10], h)) rfl ?_
                refine hp_cne (ix := v10.toInt) (iy := 2) rfl rfl rfl (fun z31 => ?_) (fun z31 => ?_)
                · refine qm_Rp.go 1 (c' := (50, [.ref 118, .int b], [.int 0], h)) rfl ?_
                  refine qm_Rp.rt (v := (some (.int 0))) (h' := h) rfl ?_
                  refine qm_Rp.go 0 (c' := (28, [.ref 118, .int b, .int y, .int x, .float 0, .float 0, .float 0], [.int 0], h)) rfl ?_
                  refine qm_Rp.go 2 (c' := (32, [.ref 118, .int b, .int y, .int x, .float 0, .float 0, .float 0], [.int (-1)], h)) rfl ?_
                  refine qm_Rp.rt (v := (some (.int (-1)))) (h' := h) rfl ?_
                  exact k0 (h.2.1) (-1) (fun o ho i => rfl) (try_a (fun z => absurd (okb_iff.mp z.2.2.2.2.2.2) (by omega))).symm (by decide) eH (eS.trans (if_neg (fun z => absurd z.1 (by decide))).symm) eC eY eI
                · refine qm_Rp.go 1 (c' := (20, [.ref 118, .int b], [.ref 118], h)) rfl ?_
                  refine hp_getr rfl (hH.1 118 (17, 105) rfl) rfl (hH.2 118 50 (some 151) rfl) ?_
                  refine qm_Rp.go 1 (c' := (24, [.ref 118, .int b], [.int b, .ref 151], h)) rfl ?_
                  obtain ⟨v32, q_v32⟩ : ∃ v_, h.2.1 151 b.toInt.toNat = v_ := ⟨_, rfl⟩
                  refine hp_ial (v := v32) rfl (hH.1 151 (0, 30) rfl) q_v32 (fun ia_32 ib_32 => ?_)
                  refine qm_Rp.go 0 (c' := (25, [.ref 118, .int b], [.int v32], h)) rfl ?_
                  have es : sp b.toInt.toNat = v32.toInt := by rw [← eS]; exact congrArg Int32.toInt q_v32
                  have bsp := hs (b.toInt.toNat)
                  rw [es] at bsp
                  refine qm_Rp.go 2 (c' := (27, [.ref 118, .int b], [.int (v32 - v32 / 4 * 4)], h)) rfl ?_
                  obtain ⟨v34, q_v34, e_v34⟩ := hk_rem (x := v32) (y := 4) (a := v32.toInt) (b := 4) rfl rfl (by omega) (by omega)
                  rw [q_v34]
                  refine qm_Rp.go 1 (c' := (28, [.ref 118, .int b], [.ref 118, .int v34], h)) rfl ?_
                  refine hp_getr rfl (hH.1 118 (17, 105) rfl) rfl (hH.2 118 53 (some 154) rfl) ?_
                  refine qm_Rp.go 1 (c' := (32, [.ref 118, .int b], [.ref 118, .ref 154, .int v34], h)) rfl ?_
                  refine hp_getr rfl (hH.1 118 (17, 105) rfl) rfl (hH.2 118 50 (some 151) rfl) ?_
                  refine qm_Rp.go 1 (c' := (36, [.ref 118, .int b], [.int b, .ref 151, .ref 154, .int v34], h)) rfl ?_
                  refine hp_ial (v := v32) rfl (hH.1 151 (0, 30) rfl) q_v32 (fun ia_34 ib_34 => ?_)
                  refine qm_Rp.go 2 (c' := (39, [.ref 118, .int b], [.int (v32 / 4), .ref 154, .int v34], h)) rfl ?_
                  obtain ⟨v36, q_v36, e_v36⟩ := hk_div (x := v32) (y := 4) (a := v32.toInt) (b := 4) rfl rfl (by omega) (by omega)
                  rw [q_v36]
                  obtain ⟨v37, q_v37⟩ : ∃ v_, h.2.1 154 v36.toInt.toNat = v_ := ⟨_, rfl⟩
                  refine hp_ial (v := v37) rfl (hH.1 154 (0, 4) rfl) q_v37 (fun ia_37 ib_37 => ?_)
                  refine qm_Rp.go 0 (c' := (40, [.ref 118, .int b], [.int v37, .int v34], h)) rfl ?_
                  have eh : hi (sp b.toInt.toNat / 4).toNat = v37.toInt := by rw [es, ← eI, show v32.toInt / 4 = v36.toInt by omega]; exact congrArg Int32.toInt q_v37
                  have b4 := hi4 (sp b.toInt.toNat / 4).toNat
                  rw [eh] at b4
                  refine qm_Rp.go 2 (c' := (42, [.ref 118, .int b], [.int (v37 - 1), .int v34], h)) rfl ?_
                  obtain ⟨v39, q_v39, e_v39⟩ := hk_sub (x := v37) (y := 1) (a := v37.toInt) (b := 1) rfl rfl (by omega) (by omega)
                  rw [q_v39]
                  refine hp_cne (ix := v34.toInt) (iy := v39.toInt) rfl rfl rfl (fun z40 => ?_) (fun z40 => ?_)
                  · refine qm_Rp.go 1 (c' := (50, [.ref 118, .int b], [.int 0], h)) rfl ?_
                    refine qm_Rp.rt (v := (some (.int 0))) (h' := h) rfl ?_
                    refine qm_Rp.go 0 (c' := (28, [.ref 118, .int b, .int y, .int x, .float 0, .float 0, .float 0], [.int 0], h)) rfl ?_
                    refine qm_Rp.go 2 (c' := (32, [.ref 118, .int b, .int y, .int x, .float 0, .float 0, .float 0], [.int (-1)], h)) rfl ?_
                    refine qm_Rp.rt (v := (some (.int (-1)))) (h' := h) rfl ?_
                    exact k0 (h.2.1) (-1) (fun o ho i => rfl) (try_a (fun z => absurd (okb_iff.mp z.2.2.2.2.2.2) (by omega))).symm (by decide) eH (eS.trans (if_neg (fun z => absurd z.1 (by decide))).symm) eC eY eI
                  · refine qm_Rp.go 2 (c' := (50, [.ref 118, .int b], [.int 1], h)) rfl ?_
                    refine qm_Rp.rt (v := (some (.int 1))) (h' := h) rfl ?_
                    refine qm_Rp.go 0 (c' := (28, [.ref 118, .int b, .int y, .int x, .float 0, .float 0, .float 0], [.int 1], h)) rfl ?_
                    refine qm_Rp.go 4 (c' := (36, [.ref 118, .int b, .int y, .int x, .float 0, .float 0, .float 0], [.int x, .int y, .ref 118], h)) rfl ?_
                    refine hp_inv (o := 118) (r := []) (as := [.ref 118, .int y, .int x]) rfl rfl (hH.1 118 (17, 105) rfl) rfl rfl rfl (px_fra hH ⟨by omega, by omega⟩ ⟨by omega, by omega⟩ q_cv (fun fr41 e_fr41 d_fr41 => ?_))
                    rw [eC] at e_fr41 d_fr41
                    refine qm_Rp.go 3 (c' := (44, [.ref 118, .int b, .int y, .int x, .int fr41, .float 0, .float 0], [.int (-1), .int fr41], h)) rfl ?_
                    refine hp_cne (ix := fr41.toInt) (iy := (-1)) rfl rfl rfl (fun z42 => ?_) (fun z42 => ?_)
                    · refine qm_Rp.go 1 (c' := (50, [.ref 118, .int b, .int y, .int x, .int fr41, .float 0, .float 0], [.ref 118], h)) rfl ?_
                      refine hp_getr rfl (hH.1 118 (17, 105) rfl) rfl (hH.2 118 45 (some 146) rfl) ?_
                      refine qm_Rp.go 1 (c' := (54, [.ref 118, .int b, .int y, .int x, .int fr41, .float 0, .float 0], [.int b, .ref 146], h)) rfl ?_
                      obtain ⟨v43, q_v43⟩ : ∃ v_, h.2.1 146 b.toInt.toNat = v_ := ⟨_, rfl⟩
                      refine hp_ial (v := v43) rfl (hH.1 146 (0, 30) rfl) q_v43 (fun ia_43 ib_43 => ?_)
                      refine qm_Rp.go 0 (c' := (55, [.ref 118, .int b, .int y, .int x, .int fr41, .float 0, .float 0], [.int v43], h)) rfl ?_
                      have e_w : w b.toInt.toNat = v43.toInt := by rw [← eW]; exact congrArg Int32.toInt q_v43
                      refine qm_Rp.go 1 (c' := (56, [.ref 118, .int b, .int y, .int x, .int fr41, .float 0, .float 0], [.ref 118, .int v43], h)) rfl ?_
                      refine hp_getr rfl (hH.1 118 (17, 105) rfl) rfl (hH.2 118 24 (some 129) rfl) ?_
                      refine qm_Rp.go 1 (c' := (60, [.ref 118, .int b, .int y, .int x, .int fr41, .float 0, .float 0], [.ref 118, .ref 129, .int v43], h)) rfl ?_
                      refine hp_geti (v := 1) rfl (hH.1 118 (17, 105) rfl) rfl q_lv ?_
                      refine qm_Rp.go 0 (c' := (63, [.ref 118, .int b, .int y, .int x, .int fr41, .float 0, .float 0], [.int 1, .ref 129, .int v43], h)) rfl ?_
                      refine hp_ial (v := l) rfl (hH.1 129 (0, 2) rfl) q_l (fun ia_44 ib_44 => ?_)
                      refine qm_Rp.go 0 (c' := (64, [.ref 118, .int b, .int y, .int x, .int fr41, .float 0, .float 0], [.int l, .int v43], h)) rfl ?_
                      refine hp_cle (ix := v43.toInt) (iy := l.toInt) rfl rfl rfl (fun z46 => ?_) (fun z46 => ?_)
                      · refine qm_Rp.go 1 (c' := (71, [.ref 118, .int b, .int y, .int x, .int fr41, .float 0, .float 0], [.ref 118], h)) rfl ?_
                        refine hp_inv (o := 118) (r := []) (as := [.ref 118]) rfl rfl (hH.1 118 (17, 105) rfl) rfl rfl rfl (px_looks1 (h := h) hH eW eH eS q_n hn hw hs q_lv q_B hB (fun I47 e_I47 a0_I47 a1_I47 a2_I47 => ?_))
                        have e_I47 : ∀ o, [155, 156].contains o = false → ∀ i, I47 o i = (h.2.1) o i := e_I47
                        have p150_I47 : pI I47 150 = wh := (funext fun i => congrArg Int32.toInt (e_I47 150 rfl i)).trans eH
                        have p151_I47 : pI I47 151 = sp := (funext fun i => congrArg Int32.toInt (e_I47 151 rfl i)).trans eS
                        have p152_I47 : pI I47 152 = c := (funext fun i => congrArg Int32.toInt (e_I47 152 rfl i)).trans eC
                        have p153_I47 : pI I47 153 = yc := (funext fun i => congrArg Int32.toInt (e_I47 153 rfl i)).trans eY
                        have p154_I47 : pI I47 154 = hi := (funext fun i => congrArg Int32.toInt (e_I47 154 rfl i)).trans eI
                        obtain ⟨p0_I47, q_p0_I47⟩ : ∃ v_, I47 156 0 = v_ := ⟨_, rfl⟩
                        rw [q_p0_I47] at a0_I47
                        obtain ⟨p1_I47, q_p1_I47⟩ : ∃ v_, I47 156 1 = v_ := ⟨_, rfl⟩
                        rw [q_p1_I47] at a1_I47
                        obtain ⟨p2_I47, q_p2_I47⟩ : ∃ v_, I47 156 2 = v_ := ⟨_, rfl⟩
                        rw [q_p2_I47] at a2_I47
                        refine qm_Rp.go 1 (c' := (75, [.ref 118, .int b, .int y, .int x, .int fr41, .float 0, .float 0], [.ref 118], (h.1, I47, h.2.2.1, h.2.2.2))) rfl ?_
                        refine hp_getr rfl (hH.1 118 (17, 105) rfl) rfl (hH.2 118 49 (some 150) rfl) ?_
                        refine qm_Rp.go 1 (c' := (79, [.ref 118, .int b, .int y, .int x, .int fr41, .float 0, .float 0], [.int b, .ref 150], (h.1, I47, h.2.2.1, h.2.2.2))) rfl ?_
                        refine hp_ial (v := v10) rfl (hH.1 150 (0, 30) rfl) (show (I47) 150 b.toInt.toNat = _ from ((e_I47 150 rfl b.toInt.toNat).trans q_v10)) (fun ia_47 ib_47 => ?_)
                        refine qm_Rp.go 2 (c' := (83, [.ref 118, .int b, .int y, .int x, .int fr41, .int v10, .float 0], [.ref 118], (h.1, I47, h.2.2.1, h.2.2.2))) rfl ?_
                        refine hp_getr rfl (hH.1 118 (17, 105) rfl) rfl (hH.2 118 50 (some 151) rfl) ?_
                        refine qm_Rp.go 1 (c' := (87, [.ref 118, .int b, .int y, .int x, .int fr41, .int v10, .float 0], [.int b, .ref 151], (h.1, I47, h.2.2.1, h.2.2.2))) rfl ?_
                        refine hp_ial (v := v32) rfl (hH.1 151 (0, 30) rfl) (show (I47) 151 b.toInt.toNat = _ from ((e_I47 151 rfl b.toInt.toNat).trans q_v32)) (fun ia_48 ib_48 => ?_)
                        refine qm_Rp.go 3 (c' := (92, [.ref 118, .int b, .int y, .int x, .int fr41, .int v10, .int v32], [.int b, .ref 118], (h.1, I47, h.2.2.1, h.2.2.2))) rfl ?_
                        refine hp_inv (o := 118) (r := []) (as := [.ref 118, .int b]) rfl rfl (hH.1 118 (17, 105) rfl) rfl rfl rfl (px_lv2 (h := (h.1, I47, h.2.2.1, h.2.2.2)) hH (u := (I47) 151 b.toInt.toNat) (pz_at p150_I47 (by rw [show ((2 : Int32)).toInt = 2 from rfl]; omega)) rfl (pz_in p151_I47 hs (b.toInt.toNat)) (pz_in p154_I47 hi4) (fun I50 e_I50 x150 x154 => ?_))
                        have x150 : pI I50 150 = fu_up (pI (I47) 150) (b.toInt.toNat) (Int32.toInt 0) := x150
                        have x154 : pI I50 154 = fu_up (pI (I47) 154) (pI (I47) 151 (b.toInt.toNat) / 4).toNat (pI (I47) 154 (pI (I47) 151 (b.toInt.toNat) / 4).toNat - 1) := x154
                        have e_I50 : ∀ o, [150, 154].contains o = false → ∀ i, I50 o i = (I47) o i := e_I50
                        have p150_I50 : pI I50 150 = fu_up (wh) (b.toInt.toNat) 0 := by rw [x150, p150_I47]; exact rfl
                        have p151_I50 : pI I50 151 = sp := (funext fun i => congrArg Int32.toInt (e_I50 151 rfl i)).trans p151_I47
                        have p152_I50 : pI I50 152 = c := (funext fun i => congrArg Int32.toInt (e_I50 152 rfl i)).trans p152_I47
                        have p153_I50 : pI I50 153 = yc := (funext fun i => congrArg Int32.toInt (e_I50 153 rfl i)).trans p153_I47
                        have p154_I50 : pI I50 154 = fu_up hi (sp b.toInt.toNat / 4).toNat (hi (sp b.toInt.toNat / 4).toNat - 1) := by rw [x154, p154_I47, p151_I47]
                        have h4_I50 : ∀ x, 0 ≤ (fu_up hi (sp b.toInt.toNat / 4).toNat (hi (sp b.toInt.toNat / 4).toNat - 1)) x ∧ (fu_up hi (sp b.toInt.toNat / 4).toNat (hi (sp b.toInt.toNat / 4).toNat - 1)) x ≤ 4 := fu_in hi4 (by omega)
                        refine qm_Rp.go 3 (c' := (99, [.ref 118, .int b, .int y, .int x, .int fr41, .int v10, .int v32], [.int fr41, .int b, .ref 118], (h.1, I50, h.2.2.1, h.2.2.2))) rfl ?_
                        refine hp_inv (o := 118) (r := []) (as := [.ref 118, .int b, .int fr41]) rfl rfl (hH.1 118 (17, 105) rfl) rfl rfl rfl (px_brd (h := (h.1, I50, h.2.2.1, h.2.2.2)) hH (fun I51 e_I51 x150 x151 x152 => ?_))
                        have x150 : pI I51 150 = fu_up (pI (I50) 150) (b.toInt.toNat) (Int32.toInt 1) := x150
                        have x151 : pI I51 151 = fu_up (pI (I50) 151) (b.toInt.toNat) fr41.toInt := x151
                        have x152 : pI I51 152 = fu_up (pI (I50) 152) fr41.toInt.toNat b.toInt := x152
                        have e_I51 : ∀ o, [150, 151, 152].contains o = false → ∀ i, I51 o i = (I50) o i := e_I51
                        have p150_I51 : pI I51 150 = fu_up (wh) (b.toInt.toNat) 1 := by rw [x150, p150_I50]; exact fu_fu2
                        have p151_I51 : pI I51 151 = fu_up (sp) (b.toInt.toNat) fr41.toInt := by rw [x151, p151_I50]
                        have p152_I51 : pI I51 152 = fu_up (c) fr41.toInt.toNat b.toInt := by rw [x152, p152_I50]
                        have p153_I51 : pI I51 153 = yc := (funext fun i => congrArg Int32.toInt (e_I51 153 rfl i)).trans p153_I50
                        have p154_I51 : pI I51 154 = fu_up hi (sp b.toInt.toNat / 4).toNat (hi (sp b.toInt.toNat / 4).toNat - 1) := (funext fun i => congrArg Int32.toInt (e_I51 154 rfl i)).trans p154_I50
                        have hs_I51 : ∀ x, 0 ≤ (fu_up (sp) (b.toInt.toNat) fr41.toInt) x ∧ (fu_up (sp) (b.toInt.toNat) fr41.toInt) x ≤ 79 := fu_in hs (by omega)
                        refine qm_Rp.go 1 (c' := (103, [.ref 118, .int b, .int y, .int x, .int fr41, .int v10, .int v32], [.ref 118], (h.1, I51, h.2.2.1, h.2.2.2))) rfl ?_
                        refine hp_inv (o := 118) (r := []) (as := [.ref 118]) rfl rfl (hH.1 118 (17, 105) rfl) rfl rfl rfl (px_mayb1 (h := (h.1, I51, h.2.2.1, h.2.2.2)) hH ((funext fun i => congrArg Int32.toInt ((e_I51 146 rfl i).trans ((e_I50 146 rfl i).trans ((e_I47 146 rfl i).trans rfl)))).trans eW) p150_I51 p151_I51 (show (I51) 118 44 = _ from ((e_I51 118 rfl 44).trans ((e_I50 118 rfl 44).trans ((e_I47 118 rfl 44).trans q_n)))) hn hw hs_I51 (show (I51) 118 18 = _ from ((e_I51 118 rfl 18).trans ((e_I50 118 rfl 18).trans ((e_I47 118 rfl 18).trans q_lv)))) (show (I51) 127 1 = _ from ((e_I51 127 rfl 1).trans ((e_I50 127 rfl 1).trans ((e_I47 127 rfl 1).trans q_B)))) hB (show (I51) 128 3 = _ from ((e_I51 128 rfl 3).trans ((e_I50 128 rfl 3).trans ((e_I47 128 rfl 3).trans q_g0)))) (show (I51) 128 4 = _ from ((e_I51 128 rfl 4).trans ((e_I50 128 rfl 4).trans ((e_I47 128 rfl 4).trans q_g1)))) (show (I51) 128 5 = _ from ((e_I51 128 rfl 5).trans ((e_I50 128 rfl 5).trans ((e_I47 128 rfl 5).trans q_g2)))) (show (I51) 156 0 = _ from ((e_I51 156 rfl 0).trans ((e_I50 156 rfl 0).trans q_p0_I47))) (show (I51) 156 1 = _ from ((e_I51 156 rfl 1).trans ((e_I50 156 rfl 1).trans q_p1_I47))) (show (I51) 156 2 = _ from ((e_I51 156 rfl 2).trans ((e_I50 156 rfl 2).trans q_p2_I47))) (fun I52 r53 e_I52 hm => ?_))
                        have e_I52 : ∀ o, [155].contains o = false → ∀ i, I52 o i = (I51) o i := e_I52
                        have p150_I52 : pI I52 150 = fu_up (wh) (b.toInt.toNat) 1 := (funext fun i => congrArg Int32.toInt (e_I52 150 rfl i)).trans p150_I51
                        have p151_I52 : pI I52 151 = fu_up (sp) (b.toInt.toNat) fr41.toInt := (funext fun i => congrArg Int32.toInt (e_I52 151 rfl i)).trans p151_I51
                        have p152_I52 : pI I52 152 = fu_up (c) fr41.toInt.toNat b.toInt := (funext fun i => congrArg Int32.toInt (e_I52 152 rfl i)).trans p152_I51
                        have p153_I52 : pI I52 153 = yc := (funext fun i => congrArg Int32.toInt (e_I52 153 rfl i)).trans p153_I51
                        have p154_I52 : pI I52 154 = fu_up hi (sp b.toInt.toNat / 4).toNat (hi (sp b.toInt.toNat / 4).toNat - 1) := (funext fun i => congrArg Int32.toInt (e_I52 154 rfl i)).trans p154_I51
                        rw [a0_I47, a1_I47, a2_I47] at hm
                        rcases hm with ⟨hr, hm⟩ | ⟨hr, hm⟩
                        · obtain rfl : r53 = 1 := hk_eqi.mpr (hr.trans rfl)
                          refine qm_Rp.go 4 (c' := (113, [.ref 118, .int b, .int y, .int x, .int fr41, .int v10, .int v32], [.int (fr41 - fr41 / 4 * 4)], (h.1, I52, h.2.2.1, h.2.2.2))) rfl ?_
                          obtain ⟨v54, q_v54, e_v54⟩ := hk_rem (x := fr41) (y := 4) (a := fr41.toInt) (b := 4) rfl rfl (by omega) (by omega)
                          rw [q_v54]
                          refine qm_Rp.rt (v := (some (.int v54))) (h' := (h.1, I52, h.2.2.1, h.2.2.2)) rfl ?_
                          exact k1 (I52) v54 (fun o ho i => ((e_I52 o (hk_ms rfl ho) i).trans ((e_I51 o (hk_ms rfl ho) i).trans ((e_I50 o (hk_ms rfl ho) i).trans ((e_I47 o (hk_ms rfl ho) i).trans rfl))))) ((try_e ⟨by omega, by omega, by omega, by omega, by omega, by omega⟩ (okb_t (by omega)) (by omega) (by omega) (okb_t (by rw [← e_fr41]; exact hm))).trans (by omega)).symm (by omega) p150_I52 (by rw [p151_I52, e_fr41]) (by rw [p152_I52, e_fr41]) p153_I52 (p154_I52.trans (if_pos (by omega)).symm)
                        · obtain rfl : r53 = 0 := hk_eqi.mpr (hr.trans rfl)
                          refine qm_Rp.go 3 (c' := (116, [.ref 118, .int b, .int y, .int x, .int fr41, .int v10, .int v32], [.int b, .ref 118], (h.1, I52, h.2.2.1, h.2.2.2))) rfl ?_
                          refine hp_inv (o := 118) (r := []) (as := [.ref 118, .int b]) rfl rfl (hH.1 118 (17, 105) rfl) rfl rfl rfl (px_lv1 (h := (h.1, I52, h.2.2.1, h.2.2.2)) hH (u := (I52) 151 b.toInt.toNat) (pz_at p150_I52 fu_eq) rfl (pz_in p151_I52 hs_I51 (b.toInt.toNat)) (pz_in p154_I52 h4_I50) (fun I55 e_I55 x150 x152 => ?_))
                          have x150 : pI I55 150 = fu_up (pI (I52) 150) (b.toInt.toNat) (Int32.toInt 0) := x150
                          have x152 : pI I55 152 = fu_up (pI (I52) 152) (pI (I52) 151 (b.toInt.toNat)).toNat (Int32.toInt (-1)) := x152
                          have e_I55 : ∀ o, [150, 152].contains o = false → ∀ i, I55 o i = (I52) o i := e_I55
                          have p150_I55 : pI I55 150 = fu_up (wh) (b.toInt.toNat) 0 := by rw [x150, p150_I52]; exact fu_fu2
                          have p151_I55 : pI I55 151 = fu_up (sp) (b.toInt.toNat) fr41.toInt := (funext fun i => congrArg Int32.toInt (e_I55 151 rfl i)).trans p151_I52
                          have p152_I55 : pI I55 152 = c := by rw [x152, p152_I52, p151_I52, show (fu_up (sp) (b.toInt.toNat) fr41.toInt) (b.toInt.toNat) = fr41.toInt from fu_eq]; exact fu_ba (d_fr41.resolve_left (by omega)).2.2
                          have p153_I55 : pI I55 153 = yc := (funext fun i => congrArg Int32.toInt (e_I55 153 rfl i)).trans p153_I52
                          have p154_I55 : pI I55 154 = fu_up hi (sp b.toInt.toNat / 4).toNat (hi (sp b.toInt.toNat / 4).toNat - 1) := (funext fun i => congrArg Int32.toInt (e_I55 154 rfl i)).trans p154_I52
                          refine qm_Rp.go 2 (c' := (122, [.ref 118, .int b, .int y, .int x, .int fr41, .int v10, .int v32], [.int 2, .int v10], (h.1, I55, h.2.2.1, h.2.2.2))) rfl ?_
                          refine hp_cne (ix := v10.toInt) (iy := 2) rfl rfl rfl (fun z56 => by exfalso; omega) (fun z56 => ?_)
                          refine qm_Rp.go 5 (c' := (131, [.ref 118, .int b, .int y, .int x, .int fr41, .int v10, .int v32], [.int (v32 / 4), .int b, .ref 118], (h.1, I55, h.2.2.1, h.2.2.2))) rfl ?_
                          rw [q_v36]
                          have eg : v36.toInt = sp b.toInt.toNat / 4 := by rw [es]; omega
                          have ev : ((I55) 154 v36.toInt.toNat).toInt = hi (sp b.toInt.toNat / 4).toNat - 1 := by rw [show ((I55) 154 v36.toInt.toNat).toInt = (fu_up hi (sp b.toInt.toNat / 4).toNat (hi (sp b.toInt.toNat / 4).toNat - 1)) v36.toInt.toNat from congrFun p154_I55 _, eg]; exact fu_eq
                          refine hp_inv (o := 118) (r := []) (as := [.ref 118, .int b, .int v36]) rfl rfl (hH.1 118 (17, 105) rfl) rfl rfl rfl (px_puts (h := (h.1, I55, h.2.2.1, h.2.2.2)) hH (v := (I55) 154 v36.toInt.toNat) ⟨by omega, by omega⟩ rfl (pz_in p154_I55 h4_I50 _) (fun I57 e_I57 x150 x151 x153 x154 => ?_))
                          have x150 : pI I57 150 = fu_up (pI (I55) 150) (b.toInt.toNat) (Int32.toInt 2) := x150
                          have x151 : pI I57 151 = fu_up (pI (I55) 151) (b.toInt.toNat) (4 * v36.toInt + ((I55) 154 v36.toInt.toNat).toInt) := x151
                          have x153 : pI I57 153 = fu_up (pI (I55) 153) (4 * v36.toInt + ((I55) 154 v36.toInt.toNat).toInt).toNat b.toInt := x153
                          have x154 : pI I57 154 = fu_up (pI (I55) 154) v36.toInt.toNat (((I55) 154 v36.toInt.toNat).toInt + 1) := x154
                          rw [ev, eg] at x151 x153 x154
                          have e4 : 4 * (sp b.toInt.toNat / 4) + (hi (sp b.toInt.toNat / 4).toNat - 1) = sp b.toInt.toNat := by omega
                          rw [e4] at x151 x153
                          have e_I57 : ∀ o, [150, 151, 153, 154].contains o = false → ∀ i, I57 o i = (I55) o i := e_I57
                          have p150_I57 : pI I57 150 = wh := by rw [x150, p150_I55]; exact fu_ba (by omega)
                          have p151_I57 : pI I57 151 = sp := by rw [x151, p151_I55]; exact fu_ba rfl
                          have p152_I57 : pI I57 152 = c := (funext fun i => congrArg Int32.toInt (e_I57 152 rfl i)).trans p152_I55
                          have p153_I57 : pI I57 153 = yc := by rw [x153, p153_I55]; exact fu_si (hy (by omega) (by omega))
                          have p154_I57 : pI I57 154 = hi := by rw [x154, p154_I55]; exact fu_ba (by omega)
                          refine qm_Rp.go 1 (c' := (136, [.ref 118, .int b, .int y, .int x, .int fr41, .int v10, .int v32], [.int (-3)], (h.1, I57, h.2.2.1, h.2.2.2))) rfl ?_
                          refine qm_Rp.rt (v := (some (.int (-3)))) (h' := (h.1, I57, h.2.2.1, h.2.2.2)) rfl ?_
                          exact k0 (I57) (-3) (fun o ho i => ((e_I57 o (hk_ms rfl ho) i).trans ((e_I55 o (hk_ms rfl ho) i).trans ((e_I52 o (hk_ms rfl ho) i).trans ((e_I51 o (hk_ms rfl ho) i).trans ((e_I50 o (hk_ms rfl ho) i).trans ((e_I47 o (hk_ms rfl ho) i).trans rfl))))))) (try_d ⟨by omega, by omega, by omega, by omega, by omega, by omega⟩ (okb_t (by omega)) (by omega) (by omega) (okb_f (by rw [← e_fr41]; exact hm))).symm (by decide) p150_I57 (p151_I57.trans (if_neg (fun z => by have := z.2; omega)).symm) p152_I57 p153_I57 p154_I57
                      · refine qm_Rp.go 1 (c' := (69, [.ref 118, .int b, .int y, .int x, .int fr41, .float 0, .float 0], [.int (-2)], h)) rfl ?_
                        refine qm_Rp.rt (v := (some (.int (-2)))) (h' := h) rfl ?_
                        exact k0 (h.2.1) (-2) (fun o ho i => rfl) (try_c ⟨by omega, by omega, by omega, by omega, by omega, by omega⟩ (okb_t (by omega)) (by omega) (by omega)).symm (by decide) eH (eS.trans (if_neg (fun z => absurd z.1 (by decide))).symm) eC eY eI
                    · refine qm_Rp.go 1 (c' := (48, [.ref 118, .int b, .int y, .int x, .int fr41, .float 0, .float 0], [.int (-1)], h)) rfl ?_
                      refine qm_Rp.rt (v := (some (.int (-1)))) (h' := h) rfl ?_
                      exact k0 (h.2.1) (-1) (fun o ho i => rfl) (try_b ⟨by omega, by omega, by omega, by omega, by omega, by omega⟩ (okb_t (by omega)) (by omega)).symm (by decide) eH (eS.trans (if_neg (fun z => absurd z.1 (by decide))).symm) eC eY eI
