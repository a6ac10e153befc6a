/-! contracts of the reference by hand -/
theorem hl_qu2 {L : Nat} {xs : Nat → Int32} {d : Nat} {Z : Option Value → qm_H → Prop} {h : qm_H} (h6 : 6 ≤ L) (hH : hk_H h) (hB : hk_B h.2.1) (hL : s_L h.2.1) (k : ∀ (I : Nat → Nat → Int32) (J : Nat → Nat → Int64), hk_B I → (∀ o, [118, 159, 160].contains o = false → ∀ i, I o i = h.2.1 o i) → (∀ i, i < 61 → I 118 i = h.2.1 118 i) → (∃ n : Int, qs I h.2.1 n) → Z none (h.1, I, J, h.2.2.2)) : ∀ (m : Nat) (I : Nat → Nat → Int32) (J : Nat → Nat → Int64) (q : Int32), hk_B I → (∀ o, [118, 159, 160].contains o = false → ∀ i, I o i = h.2.1 o i) → (∀ i, i < 61 → I 118 i = h.2.1 118 i) → ((0 : Int) ≤ q.toInt ∧ q.toInt ≤ 12) → (qs I h.2.1 q.toInt) → (12 - q.toInt).toNat = m → qm_Ru (some (L, xs)) (d + 20) cd_332 (28, [.ref 118, .int q], [], (h.1, I, J, h.2.2.2)) Z := by
  intro m
  induction m using Nat.strongRecOn with
  | ind m ih =>
    intro I J q hBI e e8 hq hQ hm
    refine qm_Ru.go 2 (c' := (30, [.ref 118, .int q], [.ref 118, .int q], (h.1, I, J, h.2.2.2))) rfl ?_
    obtain ⟨v1, q_v1⟩ : ∃ v, h.2.1 118 59 = v := ⟨_, rfl⟩
    have b_v1 : (0 : Int) ≤ v1.toInt ∧ v1.toInt ≤ 12 := by rw [← q_v1]; exact hB 118 59
    refine hk_geti (v := v1) rfl (hH.1 118 (17, 105) rfl) rfl (show (I) 118 59 = _ from ((e8 59 (by decide)).trans q_v1)) ?_
    refine qm_Ru.go 0 (c' := (33, [.ref 118, .int q], [.int v1, .int q], (h.1, I, J, h.2.2.2))) rfl ?_
    refine hk_cge (ix := q.toInt) (iy := v1.toInt) rfl rfl rfl (fun z2 => ?_) (fun z2 => ?_)
    · refine qm_Ru.go 0 (c' := (100, [.ref 118, .int q], [], (h.1, I, J, h.2.2.2))) rfl ?_
      refine qm_Ru.rt (v := none) (h' := (h.1, I, J, h.2.2.2)) rfl ?_
      exact k (I) (J) hBI (fun o ho i => (e o ho i)) (fun i hi => (e8 i hi)) ⟨_, hQ⟩
    · refine qm_Ru.go 1 (c' := (37, [.ref 118, .int q], [.ref 118], (h.1, I, J, h.2.2.2))) rfl ?_
      refine hk_getr rfl (hH.1 118 (17, 105) rfl) rfl (hH.2 118 49 (some 150) rfl) ?_
      refine qm_Ru.go 1 (c' := (41, [.ref 118, .int q], [.ref 118, .ref 150], (h.1, I, J, h.2.2.2))) rfl ?_
      refine hk_getr rfl (hH.1 118 (17, 105) rfl) rfl (hH.2 118 60 (some 158) rfl) ?_
      refine qm_Ru.go 1 (c' := (45, [.ref 118, .int q], [.int q, .ref 158, .ref 150], (h.1, I, J, h.2.2.2))) rfl ?_
      obtain ⟨v3, q_v3⟩ : ∃ v, h.2.1 158 (q.toInt.toNat) = v := ⟨_, rfl⟩
      have b_v3 : (0 : Int) ≤ v3.toInt ∧ v3.toInt ≤ 29 := by rw [← q_v3]; exact hB 158 (q.toInt.toNat)
      refine hk_ial (v := v3) rfl (hH.1 158 (0, 12) rfl) (by omega) (by omega) (show (I) 158 (q.toInt.toNat) = _ from ((e 158 rfl (q.toInt.toNat)).trans q_v3)) ?_
      refine qm_Ru.go 0 (c' := (46, [.ref 118, .int q], [.int v3, .ref 150], (h.1, I, J, h.2.2.2))) rfl ?_
      obtain ⟨v4, q_v4⟩ : ∃ v, h.2.1 150 (v3.toInt.toNat) = v := ⟨_, rfl⟩
      have b_v4 : (0 : Int) ≤ v4.toInt ∧ v4.toInt ≤ 2 := by rw [← q_v4]; exact hB 150 (v3.toInt.toNat)
      refine hk_ial (v := v4) rfl (hH.1 150 (0, 30) rfl) (by omega) (by omega) (show (I) 150 (v3.toInt.toNat) = _ from ((e 150 rfl (v3.toInt.toNat)).trans q_v4)) ?_
      refine qm_Ru.go 1 (c' := (48, [.ref 118, .int q], [.int 2, .int v4], (h.1, I, J, h.2.2.2))) rfl ?_
      refine hk_ceq (ix := v4.toInt) (iy := 2) rfl rfl rfl (fun z5 => ?_) (fun z5 => ?_)
      · refine qm_Ru.go 1 (c' := (55, [.ref 118, .int q], [.ref 118], (h.1, I, J, h.2.2.2))) rfl ?_
        refine hk_getr rfl (hH.1 118 (17, 105) rfl) rfl (hH.2 118 63 (some 160) rfl) ?_
        refine qm_Ru.go 1 (c' := (59, [.ref 118, .int q], [.ref 118, .ref 160], (h.1, I, J, h.2.2.2))) rfl ?_
        refine hk_getr rfl (hH.1 118 (17, 105) rfl) rfl (hH.2 118 60 (some 158) rfl) ?_
        refine qm_Ru.go 1 (c' := (63, [.ref 118, .int q], [.int q, .ref 158, .ref 160], (h.1, I, J, h.2.2.2))) rfl ?_
        refine hk_ial (v := v3) rfl (hH.1 158 (0, 12) rfl) (by omega) (by omega) (show (I) 158 (q.toInt.toNat) = _ from ((e 158 rfl (q.toInt.toNat)).trans q_v3)) ?_
        refine qm_Ru.go 1 (c' := (65, [.ref 118, .int q], [.ref 118, .int v3, .ref 160], (h.1, I, J, h.2.2.2))) rfl ?_
        obtain ⟨v6, q_v6⟩ : ∃ v, I 118 61 = v := ⟨_, rfl⟩
        have b_v6 : (0 : Int) ≤ v6.toInt ∧ v6.toInt ≤ 12 := by rw [← q_v6]; exact hBI 118 61
        refine hk_geti (v := v6) rfl (hH.1 118 (17, 105) rfl) rfl q_v6 ?_
        refine qm_Ru.go 0 (c' := (68, [.ref 118, .int q], [.int v6, .int v3, .ref 160], (h.1, I, J, h.2.2.2))) rfl ?_
        have hq_v6 := hQ.1
        rw [q_v6] at hq_v6
        refine hk_ias rfl (hH.1 160 (0, 30) rfl) (by omega) (by omega) ?_
        refine qm_Ru.go 1 (c' := (70, [.ref 118, .int q], [.ref 118], (h.1, qm_up I 160 (v3.toInt.toNat) v6, J, h.2.2.2))) rfl ?_
        refine hk_getr rfl (hH.1 118 (17, 105) rfl) rfl (hH.2 118 62 (some 159) rfl) ?_
        refine qm_Ru.go 1 (c' := (74, [.ref 118, .int q], [.ref 118, .ref 159], (h.1, qm_up I 160 (v3.toInt.toNat) v6, J, h.2.2.2))) rfl ?_
        refine hk_geti (v := v6) rfl (hH.1 118 (17, 105) rfl) rfl (show (qm_up I 160 (v3.toInt.toNat) v6) 118 61 = _ from ((hk_ot rfl).trans q_v6)) ?_
        refine qm_Ru.go 1 (c' := (78, [.ref 118, .int q], [.ref 118, .int v6, .ref 159], (h.1, qm_up I 160 (v3.toInt.toNat) v6, J, h.2.2.2))) rfl ?_
        refine hk_getr rfl (hH.1 118 (17, 105) rfl) rfl (hH.2 118 60 (some 158) rfl) ?_
        refine qm_Ru.go 1 (c' := (82, [.ref 118, .int q], [.int q, .ref 158, .int v6, .ref 159], (h.1, qm_up I 160 (v3.toInt.toNat) v6, J, h.2.2.2))) rfl ?_
        refine hk_ial (v := v3) rfl (hH.1 158 (0, 12) rfl) (by omega) (by omega) (show (qm_up I 160 (v3.toInt.toNat) v6) 158 (q.toInt.toNat) = _ from ((hk_ot rfl).trans ((e 158 rfl (q.toInt.toNat)).trans q_v3))) ?_
        refine qm_Ru.go 0 (c' := (83, [.ref 118, .int q], [.int v3, .int v6, .ref 159], (h.1, qm_up I 160 (v3.toInt.toNat) v6, J, h.2.2.2))) rfl ?_
        refine hk_ias rfl (hH.1 159 (0, 12) rfl) (by omega) (by omega) ?_
        refine qm_Ru.go 2 (c' := (86, [.ref 118, .int q], [.ref 118, .ref 118], (h.1, qm_up (qm_up I 160 (v3.toInt.toNat) v6) 159 (v6.toInt.toNat) v3, J, h.2.2.2))) rfl ?_
        refine hk_geti (v := v6) rfl (hH.1 118 (17, 105) rfl) rfl (show (qm_up (qm_up I 160 (v3.toInt.toNat) v6) 159 (v6.toInt.toNat) v3) 118 61 = _ from ((hk_ot rfl).trans ((hk_ot rfl).trans q_v6))) ?_
        refine qm_Ru.go 2 (c' := (91, [.ref 118, .int q], [.int (v6 + 1), .ref 118], (h.1, qm_up (qm_up I 160 (v3.toInt.toNat) v6) 159 (v6.toInt.toNat) v3, J, h.2.2.2))) rfl ?_
        obtain ⟨v7, q_v7, e_v7⟩ := hk_add (x := v6) (y := 1) (a := v6.toInt) (b := 1) rfl rfl (by omega) (by omega)
        rw [q_v7]
        refine hk_puti rfl (hH.1 118 (17, 105) rfl) rfl ?_
        refine qm_Ru.go 1 (c' := (97, [.ref 118, .int (q + 1)], [], (h.1, qm_up (qm_up (qm_up I 160 (v3.toInt.toNat) v6) 159 (v6.toInt.toNat) v3) 118 61 v7, J, h.2.2.2))) rfl ?_
        obtain ⟨v8, q_v8, e_v8⟩ := hk_add (x := q) (y := 1) (a := q.toInt) (b := 1) rfl rfl (by omega) (by omega)
        rw [q_v8]
        refine qm_Ru.go 1 (c' := (28, [.ref 118, .int v8], [], (h.1, qm_up (qm_up (qm_up I 160 (v3.toInt.toNat) v6) 159 (v6.toInt.toNat) v3) 118 61 v7, J, h.2.2.2))) rfl ?_
        exact ih _ (by omega) (qm_up (qm_up (qm_up I 160 (v3.toInt.toNat) v6) 159 (v6.toInt.toNat) v3) 118 61 v7) (J) v8 (hb_up (o := 118) (k := 61) (x := v7) (hb_up (o := 159) (k := v6.toInt.toNat) (x := v3) (hb_up (o := 160) (k := v3.toInt.toNat) (x := v6) hBI ⟨by show (-1 : Int) ≤ v6.toInt; omega, by show v6.toInt ≤ (11 : Int); omega⟩) ⟨by show (0 : Int) ≤ v3.toInt; omega, by show v3.toInt ≤ (29 : Int); omega⟩) ⟨by show (0 : Int) ≤ v7.toInt; omega, by show v7.toInt ≤ (12 : Int); omega⟩) (fun o ho i => ((hk_mod ho rfl).trans ((hk_mod ho rfl).trans ((hk_mod ho rfl).trans (e o ho i))))) (fun i hi => ((hk_neq (by omega)).trans ((hk_ot rfl).trans ((hk_ot rfl).trans (e8 i hi))))) (by omega) (qs_add (I := I) (q := v6.toInt) hQ (congrArg Int32.toInt q_v6) ((congrArg Int32.toInt hk_same).trans (by omega)) ((pI_sk rfl).trans (pI_up.trans (congrArg (fun f => fu_up f v6.toInt.toNat (Int32.toInt v3)) (pI_sk rfl)))) (by omega) (congrArg Int32.toInt q_v3) (by show (h.2.1 150 _).toInt = 2; rw [q_v4]; omega) (by omega) hL (by rw [q_v1]; omega) (by omega)) rfl
      · refine qm_Ru.go 2 (c' := (97, [.ref 118, .int (q + 1)], [], (h.1, I, J, h.2.2.2))) rfl ?_
        obtain ⟨v9, q_v9, e_v9⟩ := hk_add (x := q) (y := 1) (a := q.toInt) (b := 1) rfl rfl (by omega) (by omega)
        rw [q_v9]
        refine qm_Ru.go 1 (c' := (28, [.ref 118, .int v9], [], (h.1, I, J, h.2.2.2))) rfl ?_
        exact ih _ (by omega) (I) (J) v9 hBI (fun o ho i => (e o ho i)) (fun i hi => (e8 i hi)) (by omega) (qs_skip hQ (by omega)) rfl
theorem hl_qu1 {L : Nat} {xs : Nat → Int32} {d : Nat} {Z : Option Value → qm_H → Prop} {h : qm_H} (h6 : 6 ≤ L) (hH : hk_H h) (hB : hk_B h.2.1) (hL : s_L h.2.1) (k : ∀ (I : Nat → Nat → Int32) (J : Nat → Nat → Int64), hk_B I → (∀ o, [118, 159, 160].contains o = false → ∀ i, I o i = h.2.1 o i) → (∀ i, i < 61 → I 118 i = h.2.1 118 i) → (∃ n : Int, qs I h.2.1 n) → Z none (h.1, I, J, h.2.2.2)) : ∀ (m : Nat) (I : Nat → Nat → Int32) (J : Nat → Nat → Int64) (q : Int32), hk_B I → (∀ o, [118, 159, 160].contains o = false → ∀ i, I o i = h.2.1 o i) → (∀ i, i < 61 → I 118 i = h.2.1 118 i) → ((0 : Int) ≤ q.toInt ∧ q.toInt ≤ 30) → ((I 118 61).toInt = 0) → (30 - q.toInt).toNat = m → qm_Ru (some (L, xs)) (d + 20) cd_332 (7, [.ref 118, .int q], [], (h.1, I, J, h.2.2.2)) Z := by
  intro m
  induction m using Nat.strongRecOn with
  | ind m ih =>
    intro I J q hBI e e8 hq h61 hm
    refine qm_Ru.go 2 (c' := (10, [.ref 118, .int q], [.int 30, .int q], (h.1, I, J, h.2.2.2))) rfl ?_
    refine hk_cge (ix := q.toInt) (iy := 30) rfl rfl rfl (fun z1 => ?_) (fun z1 => ?_)
    · refine qm_Ru.go 2 (c' := (28, [.ref 118, .int 0], [], (h.1, I, J, h.2.2.2))) rfl ?_
      exact hl_qu2 h6 hH hB hL k _ (I) (J) 0 hBI (fun o ho i => (e o ho i)) (fun i hi => (e8 i hi)) (by decide) (show qs (I) h.2.1 0 from ⟨⟨by rw [h61]; decide, by rw [h61]; decide⟩, fun p hp => absurd hp (by rw [h61]; show ¬ (p : Int) < 0; omega), fun i w hi hw => absurd hw (by rw [h61]; show ¬ (w : Int) < 0; omega)⟩) rfl
    · refine qm_Ru.go 1 (c' := (14, [.ref 118, .int q], [.ref 118], (h.1, I, J, h.2.2.2))) rfl ?_
      refine hk_getr rfl (hH.1 118 (17, 105) rfl) rfl (hH.2 118 63 (some 160) rfl) ?_
      refine qm_Ru.go 2 (c' := (19, [.ref 118, .int q], [.int (-1), .int q, .ref 160], (h.1, I, J, h.2.2.2))) rfl ?_
      refine hk_ias rfl (hH.1 160 (0, 30) rfl) (by omega) (by omega) ?_
      refine qm_Ru.go 1 (c' := (23, [.ref 118, .int (q + 1)], [], (h.1, qm_up I 160 (q.toInt.toNat) (-1), J, h.2.2.2))) rfl ?_
      obtain ⟨v2, q_v2, e_v2⟩ := hk_add (x := q) (y := 1) (a := q.toInt) (b := 1) rfl rfl (by omega) (by omega)
      rw [q_v2]
      refine qm_Ru.go 1 (c' := (7, [.ref 118, .int v2], [], (h.1, qm_up I 160 (q.toInt.toNat) (-1), J, h.2.2.2))) rfl ?_
      exact ih _ (by omega) (qm_up I 160 (q.toInt.toNat) (-1)) (J) v2 (hb_up (o := 160) (k := q.toInt.toNat) (x := (-1)) hBI ⟨(show (-1 : Int) ≤ -1 from by decide), (show (-1 : Int) ≤ 11 from by decide)⟩) (fun o ho i => ((hk_mod ho rfl).trans (e o ho i))) (fun i hi => ((hk_ot rfl).trans (e8 i hi))) (by omega) ((congrArg Int32.toInt (hk_ot rfl)).trans h61) rfl
theorem hs_queues {L : Nat} {xs : Nat → Int32} {d : Nat} {Z : Option Value → qm_H → Prop} {h : qm_H} (h6 : 6 ≤ L) (hH : hk_H h) (hB : hk_B h.2.1) (hL : s_L h.2.1) (k : ∀ (I : Nat → Nat → Int32) (J : Nat → Nat → Int64), hk_B I → (∀ o, [118, 159, 160].contains o = false → ∀ i, I o i = h.2.1 o i) → (∀ i, i < 61 → I 118 i = h.2.1 118 i) → (∃ n : Int, qs I h.2.1 n) → Z none (h.1, I, J, h.2.2.2)) : qm_Ru (some (L, xs)) (d + 20) cd_332 (qm_ent 2 [.ref 118] h) Z := by
  refine qm_Ru.go 2 (c' := (2, [.ref 118, .float 0], [.int 0, .ref 118], h)) rfl ?_
  refine hk_puti rfl (hH.1 118 (17, 105) rfl) rfl ?_
  refine qm_Ru.go 2 (c' := (7, [.ref 118, .int 0], [], (h.1, qm_up h.2.1 118 61 0, h.2.2.1, h.2.2.2))) rfl ?_
  exact hl_qu1 h6 hH hB hL k _ (qm_up h.2.1 118 61 0) (h.2.2.1) 0 (hb_up (o := 118) (k := 61) (x := 0) hB ⟨(show (0 : Int) ≤ 0 from by decide), (show (0 : Int) ≤ 12 from by decide)⟩) (fun o ho i => ((hk_mod ho rfl).trans rfl)) (fun i hi => ((hk_neq (by omega)).trans rfl)) (by decide) (congrArg Int32.toInt hk_same) rfl
theorem hl_cy2 {L : Nat} {xs : Nat → Int32} {d : Nat} {Z : Option Value → qm_H → Prop} {h : qm_H} (h6 : 6 ≤ L) (hH : hk_H h) (hB : hk_B h.2.1)  (k : ∀ (I : Nat → Nat → Int32) (J : Nat → Nat → Int64), hk_B I → (∀ o, [161, 162].contains o = false → ∀ i, I o i = h.2.1 o i) → (∀ i : Nat, i < 16 → I 161 i = h.2.1 153 i) → (∀ s : Nat, s < 4 → I 161 (16 + s) = h.2.1 154 s) → (I 162 0).toInt = 0 → Z none (h.1, I, J, h.2.2.2)) : ∀ (m : Nat) (I : Nat → Nat → Int32) (J : Nat → Nat → Int64) (q : Int32), hk_B I → (∀ o, [161, 162].contains o = false → ∀ i, I o i = h.2.1 o i) → ((0 : Int) ≤ q.toInt ∧ q.toInt ≤ 4) → (∀ i : Nat, i < 16 → I 161 i = h.2.1 153 i) → (∀ s : Nat, s < q.toInt.toNat → I 161 (16 + s) = h.2.1 154 s) → (4 - q.toInt).toNat = m → qm_Ru (some (L, xs)) (d + 20) cd_333 (28, [.ref 118, .int q], [], (h.1, I, J, h.2.2.2)) Z := by
  intro m
  induction m using Nat.strongRecOn with
  | ind m ih =>
    intro I J q hBI e hq c1 c2 hm
    refine qm_Ru.go 2 (c' := (30, [.ref 118, .int q], [.int 4, .int q], (h.1, I, J, h.2.2.2))) rfl ?_
    refine hk_cge (ix := q.toInt) (iy := 4) rfl rfl rfl (fun z1 => ?_) (fun z1 => ?_)
    · refine qm_Ru.go 1 (c' := (55, [.ref 118, .int q], [.ref 118], (h.1, I, J, h.2.2.2))) rfl ?_
      refine hk_getr rfl (hH.1 118 (17, 105) rfl) rfl (hH.2 118 65 (some 162) rfl) ?_
      refine qm_Ru.go 2 (c' := (60, [.ref 118, .int q], [.int 0, .int 0, .ref 162], (h.1, I, J, h.2.2.2))) rfl ?_
      refine hk_ias rfl (hH.1 162 (0, 6) rfl) (by decide) (by decide) ?_
      refine qm_Ru.go 0 (c' := (61, [.ref 118, .int q], [], (h.1, qm_up I 162 0 0, J, h.2.2.2))) rfl ?_
      refine qm_Ru.rt (v := none) (h' := (h.1, qm_up I 162 0 0, J, h.2.2.2)) rfl ?_
      exact k (qm_up I 162 0 0) (J) (hb_up (o := 162) (k := 0) (x := 0) hBI ⟨(show (0 : Int) ≤ 0 from by decide), (show (0 : Int) ≤ 12 from by decide)⟩) (fun o ho i => ((hk_mod ho rfl).trans (e o ho i))) (fun i hi => (hk_ot rfl).trans (c1 i hi)) (fun s hs => (hk_ot rfl).trans (c2 s (by omega))) (congrArg Int32.toInt hk_same)
    · refine qm_Ru.go 1 (c' := (34, [.ref 118, .int q], [.ref 118], (h.1, I, J, h.2.2.2))) rfl ?_
      refine hk_getr rfl (hH.1 118 (17, 105) rfl) rfl (hH.2 118 64 (some 161) rfl) ?_
      refine qm_Ru.go 3 (c' := (41, [.ref 118, .int q], [.int (16 + q), .ref 161], (h.1, I, J, h.2.2.2))) rfl ?_
      obtain ⟨v2, q_v2, e_v2⟩ := hk_add (x := 16) (y := q) (a := 16) (b := q.toInt) rfl rfl (by omega) (by omega)
      rw [q_v2]
      refine qm_Ru.go 1 (c' := (42, [.ref 118, .int q], [.ref 118, .int v2, .ref 161], (h.1, I, J, h.2.2.2))) rfl ?_
      refine hk_getr rfl (hH.1 118 (17, 105) rfl) rfl (hH.2 118 53 (some 154) rfl) ?_
      refine qm_Ru.go 1 (c' := (46, [.ref 118, .int q], [.int q, .ref 154, .int v2, .ref 161], (h.1, I, J, h.2.2.2))) rfl ?_
      obtain ⟨v3, q_v3⟩ : ∃ v, h.2.1 154 (q.toInt.toNat) = v := ⟨_, rfl⟩
      have b_v3 : (0 : Int) ≤ v3.toInt ∧ v3.toInt ≤ 4 := by rw [← q_v3]; exact hB 154 (q.toInt.toNat)
      refine hk_ial (v := v3) rfl (hH.1 154 (0, 4) rfl) (by omega) (by omega) (show (I) 154 (q.toInt.toNat) = _ from ((e 154 rfl (q.toInt.toNat)).trans q_v3)) ?_
      refine qm_Ru.go 0 (c' := (47, [.ref 118, .int q], [.int v3, .int v2, .ref 161], (h.1, I, J, h.2.2.2))) rfl ?_
      refine hk_ias rfl (hH.1 161 (0, 120) rfl) (by omega) (by omega) ?_
      refine qm_Ru.go 1 (c' := (51, [.ref 118, .int (q + 1)], [], (h.1, qm_up I 161 (v2.toInt.toNat) v3, J, h.2.2.2))) rfl ?_
      obtain ⟨v4, q_v4, e_v4⟩ := hk_add (x := q) (y := 1) (a := q.toInt) (b := 1) rfl rfl (by omega) (by omega)
      rw [q_v4]
      refine qm_Ru.go 1 (c' := (28, [.ref 118, .int v4], [], (h.1, qm_up I 161 (v2.toInt.toNat) v3, J, h.2.2.2))) rfl ?_
      exact ih _ (by omega) (qm_up I 161 (v2.toInt.toNat) v3) (J) v4 (hb_up (o := 161) (k := v2.toInt.toNat) (x := v3) hBI ⟨by show (0 : Int) ≤ v3.toInt; omega, by show v3.toInt ≤ (29 : Int); omega⟩) (fun o ho i => ((hk_mod ho rfl).trans (e o ho i))) (by omega) (fun i hi => (hk_neq (by omega)).trans (c1 i hi)) (fun s hs => if c : s = q.toInt.toNat then (by subst c; exact (hk_equ (by omega)).trans q_v3.symm) else (hk_neq (by omega)).trans (c2 s (by omega))) rfl
theorem hl_cy1 {L : Nat} {xs : Nat → Int32} {d : Nat} {Z : Option Value → qm_H → Prop} {h : qm_H} (h6 : 6 ≤ L) (hH : hk_H h) (hB : hk_B h.2.1)  (k : ∀ (I : Nat → Nat → Int32) (J : Nat → Nat → Int64), hk_B I → (∀ o, [161, 162].contains o = false → ∀ i, I o i = h.2.1 o i) → (∀ i : Nat, i < 16 → I 161 i = h.2.1 153 i) → (∀ s : Nat, s < 4 → I 161 (16 + s) = h.2.1 154 s) → (I 162 0).toInt = 0 → Z none (h.1, I, J, h.2.2.2)) : ∀ (m : Nat) (I : Nat → Nat → Int32) (J : Nat → Nat → Int64) (q : Int32), hk_B I → (∀ o, [161, 162].contains o = false → ∀ i, I o i = h.2.1 o i) → ((0 : Int) ≤ q.toInt ∧ q.toInt ≤ 16) → (∀ i : Nat, i < q.toInt.toNat → I 161 i = h.2.1 153 i) → (16 - q.toInt).toNat = m → qm_Ru (some (L, xs)) (d + 20) cd_333 (2, [.ref 118, .int q], [], (h.1, I, J, h.2.2.2)) Z := by
  intro m
  induction m using Nat.strongRecOn with
  | ind m ih =>
    intro I J q hBI e hq c1 hm
    refine qm_Ru.go 2 (c' := (5, [.ref 118, .int q], [.int 16, .int q], (h.1, I, J, h.2.2.2))) rfl ?_
    refine hk_cge (ix := q.toInt) (iy := 16) rfl rfl rfl (fun z1 => ?_) (fun z1 => ?_)
    · refine qm_Ru.go 2 (c' := (28, [.ref 118, .int 0], [], (h.1, I, J, h.2.2.2))) rfl ?_
      exact hl_cy2 h6 hH hB k _ (I) (J) 0 hBI (fun o ho i => (e o ho i)) (by decide) (fun i hi => c1 i (by omega)) (fun s hs => absurd hs (Nat.not_lt_zero s)) rfl
    · refine qm_Ru.go 1 (c' := (9, [.ref 118, .int q], [.ref 118], (h.1, I, J, h.2.2.2))) rfl ?_
      refine hk_getr rfl (hH.1 118 (17, 105) rfl) rfl (hH.2 118 64 (some 161) rfl) ?_
      refine qm_Ru.go 2 (c' := (14, [.ref 118, .int q], [.ref 118, .int q, .ref 161], (h.1, I, J, h.2.2.2))) rfl ?_
      refine hk_getr rfl (hH.1 118 (17, 105) rfl) rfl (hH.2 118 52 (some 153) rfl) ?_
      refine qm_Ru.go 1 (c' := (18, [.ref 118, .int q], [.int q, .ref 153, .int q, .ref 161], (h.1, I, J, h.2.2.2))) rfl ?_
      obtain ⟨v2, q_v2⟩ : ∃ v, h.2.1 153 (q.toInt.toNat) = v := ⟨_, rfl⟩
      have b_v2 : (0 : Int) ≤ v2.toInt ∧ v2.toInt ≤ 29 := by rw [← q_v2]; exact hB 153 (q.toInt.toNat)
      refine hk_ial (v := v2) rfl (hH.1 153 (0, 16) rfl) (by omega) (by omega) (show (I) 153 (q.toInt.toNat) = _ from ((e 153 rfl (q.toInt.toNat)).trans q_v2)) ?_
      refine qm_Ru.go 0 (c' := (19, [.ref 118, .int q], [.int v2, .int q, .ref 161], (h.1, I, J, h.2.2.2))) rfl ?_
      refine hk_ias rfl (hH.1 161 (0, 120) rfl) (by omega) (by omega) ?_
      refine qm_Ru.go 1 (c' := (23, [.ref 118, .int (q + 1)], [], (h.1, qm_up I 161 (q.toInt.toNat) v2, J, h.2.2.2))) rfl ?_
      obtain ⟨v3, q_v3, e_v3⟩ := hk_add (x := q) (y := 1) (a := q.toInt) (b := 1) rfl rfl (by omega) (by omega)
      rw [q_v3]
      refine qm_Ru.go 1 (c' := (2, [.ref 118, .int v3], [], (h.1, qm_up I 161 (q.toInt.toNat) v2, J, h.2.2.2))) rfl ?_
      exact ih _ (by omega) (qm_up I 161 (q.toInt.toNat) v2) (J) v3 (hb_up (o := 161) (k := q.toInt.toNat) (x := v2) hBI ⟨by show (0 : Int) ≤ v2.toInt; omega, by show v2.toInt ≤ (29 : Int); omega⟩) (fun o ho i => ((hk_mod ho rfl).trans (e o ho i))) (by omega) (fun i hi => if c : i = q.toInt.toNat then (by subst c; exact hk_same.trans q_v2.symm) else (hk_neq c).trans (c1 i (by omega))) rfl
theorem hs_copies0 {L : Nat} {xs : Nat → Int32} {d : Nat} {Z : Option Value → qm_H → Prop} {h : qm_H} (h6 : 6 ≤ L) (hH : hk_H h) (hB : hk_B h.2.1) (k : ∀ (I : Nat → Nat → Int32) (J : Nat → Nat → Int64), hk_B I → (∀ o, [161, 162].contains o = false → ∀ i, I o i = h.2.1 o i) → (∀ i : Nat, i < 16 → I 161 i = h.2.1 153 i) → (∀ s : Nat, s < 4 → I 161 (16 + s) = h.2.1 154 s) → (I 162 0).toInt = 0 → Z none (h.1, I, J, h.2.2.2)) : qm_Ru (some (L, xs)) (d + 20) cd_333 (qm_ent 2 [.ref 118] h) Z := by
  refine qm_Ru.go 2 (c' := (2, [.ref 118, .int 0], [], h)) rfl ?_
  exact hl_cy1 h6 hH hB k _ h.2.1 h.2.2.1 0 hB (fun _ _ _ => rfl) (by decide) (fun i hi => absurd hi (Nat.not_lt_zero i)) rfl
