theorem px_str {X : Option (Nat × (Nat → Int32))} {Z : Option Value → qm_H → Prop} {h : qm_H} {fu : Nat} {x : Int32} (k : ∀ v : Int32, Z (some (.int v)) h) : qm_Rp fu X cd_53 (qm_ent 1 [.int x] h) Z := by
  refine qm_Rp.go 0 (c' := (0, [.int x], [], h)) rfl ?_
  have kz0 : (0 : Int32).toInt = 0 := rfl
  have kz1 : (1 : Int32).toInt = 1 := rfl
  have kz2 : (2 : Int32).toInt = 2 := rfl
  have kz3 : (3 : Int32).toInt = 3 := rfl
  have kz4 : (4 : Int32).toInt = 4 := rfl
  have kz5 : (5 : Int32).toInt = 5 := rfl
  have kz6 : (6 : Int32).toInt = 6 := rfl
  have kz7 : (7 : Int32).toInt = 7 := rfl
  have kz8 : (8 : Int32).toInt = 8 := rfl
  have kz9 : (9 : Int32).toInt = 9 := rfl
  have kzm1 : ((-1) : Int32).toInt = (-1) := rfl
  have kzm2 : ((-2) : Int32).toInt = (-2) := rfl
  have kzm3 : ((-3) : Int32).toInt = (-3) := rfl
  refine qm_Rp.go 1 (c' := (1, [.int x], [.int x], h)) rfl ?_
  rcases (show x.toInt = 9 ∨ x.toInt = 10 ∨ x.toInt = 11 ∨ x.toInt = 28 ∨ x.toInt = 29 ∨ x.toInt = 30 ∨ x.toInt = 35 ∨ (x.toInt ≠ 9 ∧ x.toInt ≠ 10 ∧ x.toInt ≠ 11 ∧ x.toInt ≠ 28 ∧ x.toInt ≠ 29 ∧ x.toInt ≠ 30 ∧ x.toInt ≠ 35) from by omega) with zs | zs | zs | zs | zs | zs | zs | zs
  · obtain rfl : x = 9 := hk_eqi.mpr (zs.trans rfl)
    refine qm_Rp.go 2 (c' := (71, [.int 9], [.int 1], h)) rfl ?_
    refine qm_Rp.rt (v := (some (.int 1))) (h' := h) rfl ?_
    exact k _
  · obtain rfl : x = 10 := hk_eqi.mpr (zs.trans rfl)
    refine qm_Rp.go 2 (c' := (73, [.int 10], [.int 2], h)) rfl ?_
    refine qm_Rp.rt (v := (some (.int 2))) (h' := h) rfl ?_
    exact k _
  · obtain rfl : x = 11 := hk_eqi.mpr (zs.trans rfl)
    refine qm_Rp.go 2 (c' := (75, [.int 11], [.int 3], h)) rfl ?_
    refine qm_Rp.rt (v := (some (.int 3))) (h' := h) rfl ?_
    exact k _
  · obtain rfl : x = 28 := hk_eqi.mpr (zs.trans rfl)
    refine qm_Rp.go 2 (c' := (77, [.int 28], [.int 5], h)) rfl ?_
    refine qm_Rp.rt (v := (some (.int 5))) (h' := h) rfl ?_
    exact k _
  · obtain rfl : x = 29 := hk_eqi.mpr (zs.trans rfl)
    refine qm_Rp.go 2 (c' := (79, [.int 29], [.int 5], h)) rfl ?_
    refine qm_Rp.rt (v := (some (.int 5))) (h' := h) rfl ?_
    exact k _
  · obtain rfl : x = 30 := hk_eqi.mpr (zs.trans rfl)
    refine qm_Rp.go 2 (c' := (82, [.int 30], [.int 6], h)) rfl ?_
    refine qm_Rp.rt (v := (some (.int 6))) (h' := h) rfl ?_
    exact k _
  · obtain rfl : x = 35 := hk_eqi.mpr (zs.trans rfl)
    refine qm_Rp.go 2 (c' := (69, [.int 35], [.int 0], h)) rfl ?_
    refine qm_Rp.rt (v := (some (.int 0))) (h' := h) rfl ?_
    exact k _
  · refine hp_lsd (tg := 83) rfl (by simp; omega) rfl ?_
    refine qm_Rp.go 1 (c' := (84, [.int x], [.int 4], h)) rfl ?_
    refine qm_Rp.rt (v := (some (.int 4))) (h' := h) rfl ?_
    exact k _
set_option maxHeartbeats 20000000 in
theorem px_emwl29 {X : Option (Nat × (Nat → Int32))} {Z : Option Value → qm_H → Prop} {h : qm_H} (hH : hk_H h) (hT3 : h.2.2.2 3 3 = some 29) {s : Int32} (k : ∀ I : Nat → Nat → Int32, (∀ o, [3, 29, 30].contains o = false → ∀ i, I o i = h.2.1 o i) → (∀ i, [10].contains i = false → I 3 i = h.2.1 3 i) → (∀ i, [14].contains i = false → I 29 i = h.2.1 29 i) → Z none (h.1, I, h.2.2.1, h.2.2.2)) : ∀ (fu : Nat) (I : Nat → Nat → Int32), ((∀ o, [3, 29, 30].contains o = false → ∀ i, I o i = h.2.1 o i)) → ((∀ i, [10].contains i = false → I 3 i = h.2.1 3 i)) → ((∀ i, [14].contains i = false → I 29 i = h.2.1 29 i)) → qm_Rp fu X cd_52 (0, [.ref 3, .int s], [], (h.1, I, h.2.2.1, h.2.2.2)) Z := by
  intro fu
  induction fu using Nat.strongRecOn with
  | ind fu ih =>
    intro I e e3 et
    have kz0 : (0 : Int32).toInt = 0 := rfl
    have kz1 : (1 : Int32).toInt = 1 := rfl
    have kz2 : (2 : Int32).toInt = 2 := rfl
    have kz3 : (3 : Int32).toInt = 3 := rfl
    have kz4 : (4 : Int32).toInt = 4 := rfl
    have kz5 : (5 : Int32).toInt = 5 := rfl
    have kz6 : (6 : Int32).toInt = 6 := rfl
    have kz7 : (7 : Int32).toInt = 7 := rfl
    have kz8 : (8 : Int32).toInt = 8 := rfl
    have kz9 : (9 : Int32).toInt = 9 := rfl
    have kzm1 : ((-1) : Int32).toInt = (-1) := rfl
    have kzm2 : ((-2) : Int32).toInt = (-2) := rfl
    have kzm3 : ((-3) : Int32).toInt = (-3) := rfl
    refine qm_Rp.go1 0 (c' := (1, [.ref 3, .int s], [.ref 3], (h.1, I, h.2.2.1, h.2.2.2))) rfl (fun g hg => ?_)
    obtain ⟨v1, q_v1⟩ : ∃ v_, I 3 10 = v_ := ⟨_, rfl⟩
    refine hp_geti (v := v1) rfl (hH.1 3 (8, 14) rfl) rfl q_v1 ?_
    refine qm_Rp.go 0 (c' := (4, [.ref 3, .int s], [.int v1], (h.1, I, h.2.2.1, h.2.2.2))) rfl ?_
    refine hp_zle (ix := v1.toInt) rfl rfl (fun z2 => ?_) (fun z2 => ?_)
    · refine qm_Rp.go 0 (c' := (56, [.ref 3, .int s], [], (h.1, I, h.2.2.1, h.2.2.2))) rfl ?_
      refine qm_Rp.rt (v := none) (h' := (h.1, I, h.2.2.1, h.2.2.2)) rfl ?_
      exact k (I) (fun o ho i => ((e o (hk_ms rfl ho) i).trans rfl)) (fun i hi => ((e3 i (hk_ms rfl hi)).trans rfl)) (fun i hi => ((et i (hk_ms rfl hi)).trans rfl))
    · refine qm_Rp.go 1 (c' := (8, [.ref 3, .int s], [.ref 3], (h.1, I, h.2.2.1, h.2.2.2))) rfl ?_
      refine hp_getr rfl (hH.1 3 (8, 14) rfl) rfl (hH.2 3 1 (some 4) rfl) ?_
      refine qm_Rp.go 1 (c' := (12, [.ref 3, .int s], [.ref 3, .ref 4], (h.1, I, h.2.2.1, h.2.2.2))) rfl ?_
      refine hp_geti (v := v1) rfl (hH.1 3 (8, 14) rfl) rfl q_v1 ?_
      refine qm_Rp.go 2 (c' := (17, [.ref 3, .int s], [.int (v1 - 1), .ref 4], (h.1, I, h.2.2.1, h.2.2.2))) rfl ?_
      have := hk_rng v1
      obtain ⟨v3, q_v3, e_v3⟩ := hk_sub (x := v1) (y := 1) (a := v1.toInt) (b := 1) rfl rfl (by omega) (by omega)
      rw [q_v3]
      obtain ⟨v4, q_v4⟩ : ∃ v_, h.2.1 4 v3.toInt.toNat = v_ := ⟨_, rfl⟩
      refine hp_ial (v := v4) rfl (hH.1 4 (0, 400) rfl) (show (I) 4 v3.toInt.toNat = _ from ((e 4 rfl v3.toInt.toNat).trans q_v4)) (fun ia_4 ib_4 => ?_)
      refine qm_Rp.go 0 (c' := (18, [.ref 3, .int s], [.int v4], (h.1, I, h.2.2.1, h.2.2.2))) rfl ?_
      refine qm_Rp.call (j := 53) (as := [.int v4]) (c' := (21, [.ref 3, .int s], [], (h.1, I, h.2.2.1, h.2.2.2))) rfl rfl (px_str (fun v6 => ?_))
      refine qm_Rp.go 1 (c' := (22, [.ref 3, .int s], [.int s, .int v6], (h.1, I, h.2.2.1, h.2.2.2))) rfl ?_
      refine hp_clt (ix := v6.toInt) (iy := s.toInt) rfl rfl rfl (fun z7 => ?_) (fun z7 => ?_)
      · refine qm_Rp.go 0 (c' := (56, [.ref 3, .int s], [], (h.1, I, h.2.2.1, h.2.2.2))) rfl ?_
        refine qm_Rp.rt (v := none) (h' := (h.1, I, h.2.2.1, h.2.2.2)) rfl ?_
        exact k (I) (fun o ho i => ((e o (hk_ms rfl ho) i).trans rfl)) (fun i hi => ((e3 i (hk_ms rfl hi)).trans rfl)) (fun i hi => ((et i (hk_ms rfl hi)).trans rfl))
      · refine qm_Rp.go 2 (c' := (27, [.ref 3, .int s], [.ref 3, .ref 3], (h.1, I, h.2.2.1, h.2.2.2))) rfl ?_
        refine hp_geti (v := v1) rfl (hH.1 3 (8, 14) rfl) rfl q_v1 ?_
        refine qm_Rp.go 2 (c' := (32, [.ref 3, .int s], [.int (v1 - 1), .ref 3], (h.1, I, h.2.2.1, h.2.2.2))) rfl ?_
        rw [q_v3]
        refine hp_puti rfl (hH.1 3 (8, 14) rfl) rfl ?_
        refine qm_Rp.go 1 (c' := (36, [.ref 3, .int s], [.ref 3], (h.1, qm_up I 3 10 v3, h.2.2.1, h.2.2.2))) rfl ?_
        refine hp_getr rfl (hH.1 3 (8, 14) rfl) rfl hT3 ?_
        refine qm_Rp.go 1 (c' := (40, [.ref 3, .int s], [.ref 3, .ref 29], (h.1, qm_up I 3 10 v3, h.2.2.1, h.2.2.2))) rfl ?_
        refine hp_getr rfl (hH.1 3 (8, 14) rfl) rfl (hH.2 3 1 (some 4) rfl) ?_
        refine qm_Rp.go 1 (c' := (44, [.ref 3, .int s], [.ref 3, .ref 4, .ref 29], (h.1, qm_up I 3 10 v3, h.2.2.1, h.2.2.2))) rfl ?_
        refine hp_geti (v := v3) rfl (hH.1 3 (8, 14) rfl) rfl (show (qm_up I 3 10 v3) 3 10 = _ from (hk_same)) ?_
        refine qm_Rp.go 0 (c' := (47, [.ref 3, .int s], [.int v3, .ref 4, .ref 29], (h.1, qm_up I 3 10 v3, h.2.2.1, h.2.2.2))) rfl ?_
        refine hp_ial (v := v4) rfl (hH.1 4 (0, 400) rfl) (show (qm_up I 3 10 v3) 4 v3.toInt.toNat = _ from ((hk_ot rfl).trans ((e 4 rfl v3.toInt.toNat).trans q_v4))) (fun ia_7 ib_7 => ?_)
        refine qm_Rp.go 2 (c' := (50, [.ref 3, .int s], [.int (v4 ^^^ (-1)), .ref 29], (h.1, qm_up I 3 10 v3, h.2.2.1, h.2.2.2))) rfl ?_
        obtain ⟨v9, q_v9⟩ : ∃ v_, (v4 ^^^ (-1)) = v_ := ⟨_, rfl⟩
        rw [q_v9]
        refine hp_inv (o := 29) (r := []) (as := [.ref 29, .int v9]) rfl rfl (hH.1 29 (11, 16) rfl) rfl rfl rfl ?_
        refine qm_Rp.go 1 (c' := (1, [.ref 29, .int v9], [.ref 29], (h.1, qm_up I 3 10 v3, h.2.2.1, h.2.2.2))) rfl ?_
        obtain ⟨v10, q_v10⟩ : ∃ v_, I 29 14 = v_ := ⟨_, rfl⟩
        refine hp_geti (v := v10) rfl (hH.1 29 (11, 16) rfl) rfl (show (qm_up I 3 10 v3) 29 14 = _ from ((hk_ot rfl).trans q_v10)) ?_
        refine qm_Rp.go 1 (c' := (5, [.ref 29, .int v9], [.ref 29, .int v10], (h.1, qm_up I 3 10 v3, h.2.2.1, h.2.2.2))) rfl ?_
        refine hp_getr rfl (hH.1 29 (11, 16) rfl) rfl (hH.2 29 8 (some 30) rfl) ?_
        refine qm_Rp.go 0 (c' := (8, [.ref 29, .int v9], [.ref 30, .int v10], (h.1, qm_up I 3 10 v3, h.2.2.1, h.2.2.2))) rfl ?_
        refine hp_len rfl (hH.1 30 (0, 400) rfl) rfl ?_
        refine qm_Rp.go 0 (c' := (9, [.ref 29, .int v9], [.int 400, .int v10], (h.1, qm_up I 3 10 v3, h.2.2.1, h.2.2.2))) rfl ?_
        refine hp_cge (ix := v10.toInt) (iy := 400) rfl rfl rfl (fun z11 => ?_) (fun z11 => ?_)
        · refine qm_Rp.go 0 (c' := (32, [.ref 29, .int v9], [], (h.1, qm_up I 3 10 v3, h.2.2.1, h.2.2.2))) rfl ?_
          refine qm_Rp.rt (v := none) (h' := (h.1, qm_up I 3 10 v3, h.2.2.1, h.2.2.2)) rfl ?_
          refine qm_Rp.go 1 (c' := (0, [.ref 3, .int s], [], (h.1, qm_up I 3 10 v3, h.2.2.1, h.2.2.2))) rfl ?_
          exact ih g (by omega) (qm_up I 3 10 v3) (fun o ho i => ((hk_mod ho rfl).trans ((e o (hk_ms rfl ho) i).trans rfl))) (fun i hi => ((hk_neq (fun z => by subst z; cases hi)).trans ((e3 i (hk_ms rfl hi)).trans rfl))) (fun i hi => ((hk_ot rfl).trans ((et i (hk_ms rfl hi)).trans rfl)))
        · refine qm_Rp.go 1 (c' := (13, [.ref 29, .int v9], [.ref 29], (h.1, qm_up I 3 10 v3, h.2.2.1, h.2.2.2))) rfl ?_
          refine hp_getr rfl (hH.1 29 (11, 16) rfl) rfl (hH.2 29 8 (some 30) rfl) ?_
          refine qm_Rp.go 1 (c' := (17, [.ref 29, .int v9], [.ref 29, .ref 30], (h.1, qm_up I 3 10 v3, h.2.2.1, h.2.2.2))) rfl ?_
          refine hp_geti (v := v10) rfl (hH.1 29 (11, 16) rfl) rfl (show (qm_up I 3 10 v3) 29 14 = _ from ((hk_ot rfl).trans q_v10)) ?_
          refine qm_Rp.go 1 (c' := (21, [.ref 29, .int v9], [.int v9, .int v10, .ref 30], (h.1, qm_up I 3 10 v3, h.2.2.1, h.2.2.2))) rfl ?_
          refine hp_ias rfl (hH.1 30 (0, 400) rfl) (fun ia_11 ib_11 => ?_)
          refine qm_Rp.go 2 (c' := (24, [.ref 29, .int v9], [.ref 29, .ref 29], (h.1, qm_up (qm_up I 3 10 v3) 30 v10.toInt.toNat v9, h.2.2.1, h.2.2.2))) rfl ?_
          refine hp_geti (v := v10) rfl (hH.1 29 (11, 16) rfl) rfl (show (qm_up (qm_up I 3 10 v3) 30 v10.toInt.toNat v9) 29 14 = _ from ((hk_ot rfl).trans ((hk_ot rfl).trans q_v10))) ?_
          refine qm_Rp.go 2 (c' := (29, [.ref 29, .int v9], [.int (v10 + 1), .ref 29], (h.1, qm_up (qm_up I 3 10 v3) 30 v10.toInt.toNat v9, h.2.2.1, h.2.2.2))) rfl ?_
          obtain ⟨v13, q_v13, e_v13⟩ := hk_add (x := v10) (y := 1) (a := v10.toInt) (b := 1) rfl rfl (by omega) (by omega)
          rw [q_v13]
          refine hp_puti rfl (hH.1 29 (11, 16) rfl) rfl ?_
          refine qm_Rp.go 0 (c' := (32, [.ref 29, .int v9], [], (h.1, qm_up (qm_up (qm_up I 3 10 v3) 30 v10.toInt.toNat v9) 29 14 v13, h.2.2.1, h.2.2.2))) rfl ?_
          refine qm_Rp.rt (v := none) (h' := (h.1, qm_up (qm_up (qm_up I 3 10 v3) 30 v10.toInt.toNat v9) 29 14 v13, h.2.2.1, h.2.2.2)) rfl ?_
          refine qm_Rp.go 1 (c' := (0, [.ref 3, .int s], [], (h.1, qm_up (qm_up (qm_up I 3 10 v3) 30 v10.toInt.toNat v9) 29 14 v13, h.2.2.1, h.2.2.2))) rfl ?_
          exact ih g (by omega) (qm_up (qm_up (qm_up I 3 10 v3) 30 v10.toInt.toNat v9) 29 14 v13) (fun o ho i => ((hk_mod ho rfl).trans ((hk_mod ho rfl).trans ((hk_mod ho rfl).trans ((e o (hk_ms rfl ho) i).trans rfl))))) (fun i hi => ((hk_ot rfl).trans ((hk_ot rfl).trans ((hk_neq (fun z => by subst z; cases hi)).trans ((e3 i (hk_ms rfl hi)).trans rfl))))) (fun i hi => ((hk_neq (fun z => by subst z; cases hi)).trans ((hk_ot rfl).trans ((hk_ot rfl).trans ((et i (hk_ms rfl hi)).trans rfl)))))
theorem px_emw29 {X : Option (Nat × (Nat → Int32))} {Z : Option Value → qm_H → Prop} {h : qm_H} {fu : Nat} (hH : hk_H h) (hT3 : h.2.2.2 3 3 = some 29) {s : Int32} (k : ∀ I : Nat → Nat → Int32, (∀ o, [3, 29, 30].contains o = false → ∀ i, I o i = h.2.1 o i) → (∀ i, [10].contains i = false → I 3 i = h.2.1 3 i) → (∀ i, [14].contains i = false → I 29 i = h.2.1 29 i) → Z none (h.1, I, h.2.2.1, h.2.2.2)) : qm_Rp fu X cd_52 (qm_ent 2 [.ref 3, .int s] h) Z := px_emwl29 hH hT3 k fu h.2.1 (fun _ _ _ => rfl) (fun _ _ => rfl) (fun _ _ => rfl)
set_option maxHeartbeats 20000000 in
theorem px_emwl111 {X : Option (Nat × (Nat → Int32))} {Z : Option Value → qm_H → Prop} {h : qm_H} (hH : hk_H h) (hT3 : h.2.2.2 3 3 = some 111) {s : Int32} (k : ∀ I : Nat → Nat → Int32, (∀ o, [3, 111, 112].contains o = false → ∀ i, I o i = h.2.1 o i) → (∀ i, [10].contains i = false → I 3 i = h.2.1 3 i) → (∀ i, [14].contains i = false → I 111 i = h.2.1 111 i) → Z none (h.1, I, h.2.2.1, h.2.2.2)) : ∀ (fu : Nat) (I : Nat → Nat → Int32), ((∀ o, [3, 111, 112].contains o = false → ∀ i, I o i = h.2.1 o i)) → ((∀ i, [10].contains i = false → I 3 i = h.2.1 3 i)) → ((∀ i, [14].contains i = false → I 111 i = h.2.1 111 i)) → qm_Rp fu X cd_52 (0, [.ref 3, .int s], [], (h.1, I, h.2.2.1, h.2.2.2)) Z := by
  intro fu
  induction fu using Nat.strongRecOn with
  | ind fu ih =>
    intro I e e3 et
    have kz0 : (0 : Int32).toInt = 0 := rfl
    have kz1 : (1 : Int32).toInt = 1 := rfl
    have kz2 : (2 : Int32).toInt = 2 := rfl
    have kz3 : (3 : Int32).toInt = 3 := rfl
    have kz4 : (4 : Int32).toInt = 4 := rfl
    have kz5 : (5 : Int32).toInt = 5 := rfl
    have kz6 : (6 : Int32).toInt = 6 := rfl
    have kz7 : (7 : Int32).toInt = 7 := rfl
    have kz8 : (8 : Int32).toInt = 8 := rfl
    have kz9 : (9 : Int32).toInt = 9 := rfl
    have kzm1 : ((-1) : Int32).toInt = (-1) := rfl
    have kzm2 : ((-2) : Int32).toInt = (-2) := rfl
    have kzm3 : ((-3) : Int32).toInt = (-3) := rfl
    refine qm_Rp.go1 0 (c' := (1, [.ref 3, .int s], [.ref 3], (h.1, I, h.2.2.1, h.2.2.2))) rfl (fun g hg => ?_)
    obtain ⟨v1, q_v1⟩ : ∃ v_, I 3 10 = v_ := ⟨_, rfl⟩
    refine hp_geti (v := v1) rfl (hH.1 3 (8, 14) rfl) rfl q_v1 ?_
    refine qm_Rp.go 0 (c' := (4, [.ref 3, .int s], [.int v1], (h.1, I, h.2.2.1, h.2.2.2))) rfl ?_
    refine hp_zle (ix := v1.toInt) rfl rfl (fun z2 => ?_) (fun z2 => ?_)
    · refine qm_Rp.go 0 (c' := (56, [.ref 3, .int s], [], (h.1, I, h.2.2.1, h.2.2.2))) rfl ?_
      refine qm_Rp.rt (v := none) (h' := (h.1, I, h.2.2.1, h.2.2.2)) rfl ?_
      exact k (I) (fun o ho i => ((e o (hk_ms rfl ho) i).trans rfl)) (fun i hi => ((e3 i (hk_ms rfl hi)).trans rfl)) (fun i hi => ((et i (hk_ms rfl hi)).trans rfl))
    · refine qm_Rp.go 1 (c' := (8, [.ref 3, .int s], [.ref 3], (h.1, I, h.2.2.1, h.2.2.2))) rfl ?_
      refine hp_getr rfl (hH.1 3 (8, 14) rfl) rfl (hH.2 3 1 (some 4) rfl) ?_
      refine qm_Rp.go 1 (c' := (12, [.ref 3, .int s], [.ref 3, .ref 4], (h.1, I, h.2.2.1, h.2.2.2))) rfl ?_
      refine hp_geti (v := v1) rfl (hH.1 3 (8, 14) rfl) rfl q_v1 ?_
      refine qm_Rp.go 2 (c' := (17, [.ref 3, .int s], [.int (v1 - 1), .ref 4], (h.1, I, h.2.2.1, h.2.2.2))) rfl ?_
      have := hk_rng v1
      obtain ⟨v3, q_v3, e_v3⟩ := hk_sub (x := v1) (y := 1) (a := v1.toInt) (b := 1) rfl rfl (by omega) (by omega)
      rw [q_v3]
      obtain ⟨v4, q_v4⟩ : ∃ v_, h.2.1 4 v3.toInt.toNat = v_ := ⟨_, rfl⟩
      refine hp_ial (v := v4) rfl (hH.1 4 (0, 400) rfl) (show (I) 4 v3.toInt.toNat = _ from ((e 4 rfl v3.toInt.toNat).trans q_v4)) (fun ia_4 ib_4 => ?_)
      refine qm_Rp.go 0 (c' := (18, [.ref 3, .int s], [.int v4], (h.1, I, h.2.2.1, h.2.2.2))) rfl ?_
      refine qm_Rp.call (j := 53) (as := [.int v4]) (c' := (21, [.ref 3, .int s], [], (h.1, I, h.2.2.1, h.2.2.2))) rfl rfl (px_str (fun v6 => ?_))
      refine qm_Rp.go 1 (c' := (22, [.ref 3, .int s], [.int s, .int v6], (h.1, I, h.2.2.1, h.2.2.2))) rfl ?_
      refine hp_clt (ix := v6.toInt) (iy := s.toInt) rfl rfl rfl (fun z7 => ?_) (fun z7 => ?_)
      · refine qm_Rp.go 0 (c' := (56, [.ref 3, .int s], [], (h.1, I, h.2.2.1, h.2.2.2))) rfl ?_
        refine qm_Rp.rt (v := none) (h' := (h.1, I, h.2.2.1, h.2.2.2)) rfl ?_
        exact k (I) (fun o ho i => ((e o (hk_ms rfl ho) i).trans rfl)) (fun i hi => ((e3 i (hk_ms rfl hi)).trans rfl)) (fun i hi => ((et i (hk_ms rfl hi)).trans rfl))
      · refine qm_Rp.go 2 (c' := (27, [.ref 3, .int s], [.ref 3, .ref 3], (h.1, I, h.2.2.1, h.2.2.2))) rfl ?_
        refine hp_geti (v := v1) rfl (hH.1 3 (8, 14) rfl) rfl q_v1 ?_
        refine qm_Rp.go 2 (c' := (32, [.ref 3, .int s], [.int (v1 - 1), .ref 3], (h.1, I, h.2.2.1, h.2.2.2))) rfl ?_
        rw [q_v3]
        refine hp_puti rfl (hH.1 3 (8, 14) rfl) rfl ?_
        refine qm_Rp.go 1 (c' := (36, [.ref 3, .int s], [.ref 3], (h.1, qm_up I 3 10 v3, h.2.2.1, h.2.2.2))) rfl ?_
        refine hp_getr rfl (hH.1 3 (8, 14) rfl) rfl hT3 ?_
        refine qm_Rp.go 1 (c' := (40, [.ref 3, .int s], [.ref 3, .ref 111], (h.1, qm_up I 3 10 v3, h.2.2.1, h.2.2.2))) rfl ?_
        refine hp_getr rfl (hH.1 3 (8, 14) rfl) rfl (hH.2 3 1 (some 4) rfl) ?_
        refine qm_Rp.go 1 (c' := (44, [.ref 3, .int s], [.ref 3, .ref 4, .ref 111], (h.1, qm_up I 3 10 v3, h.2.2.1, h.2.2.2))) rfl ?_
        refine hp_geti (v := v3) rfl (hH.1 3 (8, 14) rfl) rfl (show (qm_up I 3 10 v3) 3 10 = _ from (hk_same)) ?_
        refine qm_Rp.go 0 (c' := (47, [.ref 3, .int s], [.int v3, .ref 4, .ref 111], (h.1, qm_up I 3 10 v3, h.2.2.1, h.2.2.2))) rfl ?_
        refine hp_ial (v := v4) rfl (hH.1 4 (0, 400) rfl) (show (qm_up I 3 10 v3) 4 v3.toInt.toNat = _ from ((hk_ot rfl).trans ((e 4 rfl v3.toInt.toNat).trans q_v4))) (fun ia_7 ib_7 => ?_)
        refine qm_Rp.go 2 (c' := (50, [.ref 3, .int s], [.int (v4 ^^^ (-1)), .ref 111], (h.1, qm_up I 3 10 v3, h.2.2.1, h.2.2.2))) rfl ?_
        obtain ⟨v9, q_v9⟩ : ∃ v_, (v4 ^^^ (-1)) = v_ := ⟨_, rfl⟩
        rw [q_v9]
        refine hp_inv (o := 111) (r := []) (as := [.ref 111, .int v9]) rfl rfl (hH.1 111 (11, 16) rfl) rfl rfl rfl ?_
        refine qm_Rp.go 1 (c' := (1, [.ref 111, .int v9], [.ref 111], (h.1, qm_up I 3 10 v3, h.2.2.1, h.2.2.2))) rfl ?_
        obtain ⟨v10, q_v10⟩ : ∃ v_, I 111 14 = v_ := ⟨_, rfl⟩
        refine hp_geti (v := v10) rfl (hH.1 111 (11, 16) rfl) rfl (show (qm_up I 3 10 v3) 111 14 = _ from ((hk_ot rfl).trans q_v10)) ?_
        refine qm_Rp.go 1 (c' := (5, [.ref 111, .int v9], [.ref 111, .int v10], (h.1, qm_up I 3 10 v3, h.2.2.1, h.2.2.2))) rfl ?_
        refine hp_getr rfl (hH.1 111 (11, 16) rfl) rfl (hH.2 111 8 (some 112) rfl) ?_
        refine qm_Rp.go 0 (c' := (8, [.ref 111, .int v9], [.ref 112, .int v10], (h.1, qm_up I 3 10 v3, h.2.2.1, h.2.2.2))) rfl ?_
        refine hp_len rfl (hH.1 112 (0, 400) rfl) rfl ?_
        refine qm_Rp.go 0 (c' := (9, [.ref 111, .int v9], [.int 400, .int v10], (h.1, qm_up I 3 10 v3, h.2.2.1, h.2.2.2))) rfl ?_
        refine hp_cge (ix := v10.toInt) (iy := 400) rfl rfl rfl (fun z11 => ?_) (fun z11 => ?_)
        · refine qm_Rp.go 0 (c' := (32, [.ref 111, .int v9], [], (h.1, qm_up I 3 10 v3, h.2.2.1, h.2.2.2))) rfl ?_
          refine qm_Rp.rt (v := none) (h' := (h.1, qm_up I 3 10 v3, h.2.2.1, h.2.2.2)) rfl ?_
          refine qm_Rp.go 1 (c' := (0, [.ref 3, .int s], [], (h.1, qm_up I 3 10 v3, h.2.2.1, h.2.2.2))) rfl ?_
          exact ih g (by omega) (qm_up I 3 10 v3) (fun o ho i => ((hk_mod ho rfl).trans ((e o (hk_ms rfl ho) i).trans rfl))) (fun i hi => ((hk_neq (fun z => by subst z; cases hi)).trans ((e3 i (hk_ms rfl hi)).trans rfl))) (fun i hi => ((hk_ot rfl).trans ((et i (hk_ms rfl hi)).trans rfl)))
        · refine qm_Rp.go 1 (c' := (13, [.ref 111, .int v9], [.ref 111], (h.1, qm_up I 3 10 v3, h.2.2.1, h.2.2.2))) rfl ?_
          refine hp_getr rfl (hH.1 111 (11, 16) rfl) rfl (hH.2 111 8 (some 112) rfl) ?_
          refine qm_Rp.go 1 (c' := (17, [.ref 111, .int v9], [.ref 111, .ref 112], (h.1, qm_up I 3 10 v3, h.2.2.1, h.2.2.2))) rfl ?_
          refine hp_geti (v := v10) rfl (hH.1 111 (11, 16) rfl) rfl (show (qm_up I 3 10 v3) 111 14 = _ from ((hk_ot rfl).trans q_v10)) ?_
          refine qm_Rp.go 1 (c' := (21, [.ref 111, .int v9], [.int v9, .int v10, .ref 112], (h.1, qm_up I 3 10 v3, h.2.2.1, h.2.2.2))) rfl ?_
          refine hp_ias rfl (hH.1 112 (0, 400) rfl) (fun ia_11 ib_11 => ?_)
          refine qm_Rp.go 2 (c' := (24, [.ref 111, .int v9], [.ref 111, .ref 111], (h.1, qm_up (qm_up I 3 10 v3) 112 v10.toInt.toNat v9, h.2.2.1, h.2.2.2))) rfl ?_
          refine hp_geti (v := v10) rfl (hH.1 111 (11, 16) rfl) rfl (show (qm_up (qm_up I 3 10 v3) 112 v10.toInt.toNat v9) 111 14 = _ from ((hk_ot rfl).trans ((hk_ot rfl).trans q_v10))) ?_
          refine qm_Rp.go 2 (c' := (29, [.ref 111, .int v9], [.int (v10 + 1), .ref 111], (h.1, qm_up (qm_up I 3 10 v3) 112 v10.toInt.toNat v9, h.2.2.1, h.2.2.2))) rfl ?_
          obtain ⟨v13, q_v13, e_v13⟩ := hk_add (x := v10) (y := 1) (a := v10.toInt) (b := 1) rfl rfl (by omega) (by omega)
          rw [q_v13]
          refine hp_puti rfl (hH.1 111 (11, 16) rfl) rfl ?_
          refine qm_Rp.go 0 (c' := (32, [.ref 111, .int v9], [], (h.1, qm_up (qm_up (qm_up I 3 10 v3) 112 v10.toInt.toNat v9) 111 14 v13, h.2.2.1, h.2.2.2))) rfl ?_
          refine qm_Rp.rt (v := none) (h' := (h.1, qm_up (qm_up (qm_up I 3 10 v3) 112 v10.toInt.toNat v9) 111 14 v13, h.2.2.1, h.2.2.2)) rfl ?_
          refine qm_Rp.go 1 (c' := (0, [.ref 3, .int s], [], (h.1, qm_up (qm_up (qm_up I 3 10 v3) 112 v10.toInt.toNat v9) 111 14 v13, h.2.2.1, h.2.2.2))) rfl ?_
          exact ih g (by omega) (qm_up (qm_up (qm_up I 3 10 v3) 112 v10.toInt.toNat v9) 111 14 v13) (fun o ho i => ((hk_mod ho rfl).trans ((hk_mod ho rfl).trans ((hk_mod ho rfl).trans ((e o (hk_ms rfl ho) i).trans rfl))))) (fun i hi => ((hk_ot rfl).trans ((hk_ot rfl).trans ((hk_neq (fun z => by subst z; cases hi)).trans ((e3 i (hk_ms rfl hi)).trans rfl))))) (fun i hi => ((hk_neq (fun z => by subst z; cases hi)).trans ((hk_ot rfl).trans ((hk_ot rfl).trans ((et i (hk_ms rfl hi)).trans rfl)))))
theorem px_emw111 {X : Option (Nat × (Nat → Int32))} {Z : Option Value → qm_H → Prop} {h : qm_H} {fu : Nat} (hH : hk_H h) (hT3 : h.2.2.2 3 3 = some 111) {s : Int32} (k : ∀ I : Nat → Nat → Int32, (∀ o, [3, 111, 112].contains o = false → ∀ i, I o i = h.2.1 o i) → (∀ i, [10].contains i = false → I 3 i = h.2.1 3 i) → (∀ i, [14].contains i = false → I 111 i = h.2.1 111 i) → Z none (h.1, I, h.2.2.1, h.2.2.2)) : qm_Rp fu X cd_52 (qm_ent 2 [.ref 3, .int s] h) Z := px_emwl111 hH hT3 k fu h.2.1 (fun _ _ _ => rfl) (fun _ _ => rfl) (fun _ _ => rfl)
set_option maxHeartbeats 20000000 in
theorem px_titlel {X : Option (Nat × (Nat → Int32))} {Z : Option Value → qm_H → Prop} {h : qm_H} (hH : hk_H h) {m lf lp sa : Int32} {x : Int64} (q_m : h.2.1 3 11 = m) (q_lf : h.2.1 3 12 = lf) (q_lp : h.2.1 3 13 = lp) (q_sa : h.2.1 1 4 = sa) (hm : 0 ≤ m.toInt ∧ m.toInt ≤ 15) (k : ∀ (I : Nat → Nat → Int32) (m2 lf2 lp2 : Int32), (∀ o, [3].contains o = false → ∀ i, I o i = h.2.1 o i) → (∀ i, [11, 12, 13].contains i = false → I 3 i = h.2.1 3 i) → I 3 11 = m2 → I 3 12 = lf2 → I 3 13 = lp2 → m2.toInt = m.toInt + 1 → lf2.toInt = (if lf.toInt = 0 ∧ ftw (fun j => h.2.2.1 5 j) x m.toInt.toNat = true then 3 else lf.toInt) → lp2.toInt = (if lf.toInt = 0 ∧ ftw (fun j => h.2.2.1 5 j) x m.toInt.toNat = true then sa.toInt else lp.toInt) → Z none (h.1, I, qm_up h.2.2.1 5 m.toInt.toNat x, h.2.2.2)) : ∀ (fu : Nat) (i : Int32), (0 ≤ i.toInt ∧ i.toInt ≤ m.toInt) → (∀ y : Nat, y < i.toInt.toNat → h.2.2.1 5 y ≠ x) → qm_Rp fu X cd_44 (2, [.ref 3, .long x, .float 0, .int i], [], h) Z := by
  intro fu
  induction fu using Nat.strongRecOn with
  | ind fu ih =>
    intro i hi hno
    have kz0 : (0 : Int32).toInt = 0 := rfl
    have kz1 : (1 : Int32).toInt = 1 := rfl
    have kz2 : (2 : Int32).toInt = 2 := rfl
    have kz3 : (3 : Int32).toInt = 3 := rfl
    have kz4 : (4 : Int32).toInt = 4 := rfl
    have kz5 : (5 : Int32).toInt = 5 := rfl
    have kz6 : (6 : Int32).toInt = 6 := rfl
    have kz7 : (7 : Int32).toInt = 7 := rfl
    have kz8 : (8 : Int32).toInt = 8 := rfl
    have kz9 : (9 : Int32).toInt = 9 := rfl
    have kzm1 : ((-1) : Int32).toInt = (-1) := rfl
    have kzm2 : ((-2) : Int32).toInt = (-2) := rfl
    have kzm3 : ((-3) : Int32).toInt = (-3) := rfl
    refine qm_Rp.go1 1 (c' := (4, [.ref 3, .long x, .float 0, .int i], [.ref 3, .int i], h)) rfl (fun g hg => ?_)
    refine hp_geti (v := m) rfl (hH.1 3 (8, 14) rfl) rfl q_m ?_
    refine qm_Rp.go 0 (c' := (7, [.ref 3, .long x, .float 0, .int i], [.int m, .int i], h)) rfl ?_
    refine hp_cge (ix := i.toInt) (iy := m.toInt) rfl rfl rfl (fun z1 => ?_) (fun z1 => ?_)
    · refine qm_Rp.go 1 (c' := (36, [.ref 3, .long x, .float 0, .int i], [.ref 3], h)) rfl ?_
      refine hp_geti (v := m) rfl (hH.1 3 (8, 14) rfl) rfl q_m ?_
      refine qm_Rp.go 1 (c' := (40, [.ref 3, .long x, .float 0, .int i], [.ref 3, .int m], h)) rfl ?_
      refine hp_getr rfl (hH.1 3 (8, 14) rfl) rfl (hH.2 3 2 (some 5) rfl) ?_
      refine qm_Rp.go 0 (c' := (43, [.ref 3, .long x, .float 0, .int i], [.ref 5, .int m], h)) rfl ?_
      refine hp_len rfl (hH.1 5 (3, 16) rfl) rfl ?_
      refine qm_Rp.go 0 (c' := (44, [.ref 3, .long x, .float 0, .int i], [.int 16, .int m], h)) rfl ?_
      refine hp_cge (ix := m.toInt) (iy := 16) rfl rfl rfl (fun z2 => by exfalso; omega) (fun z2 => ?_)
      refine qm_Rp.go 1 (c' := (48, [.ref 3, .long x, .float 0, .int i], [.ref 3], h)) rfl ?_
      refine hp_getr rfl (hH.1 3 (8, 14) rfl) rfl (hH.2 3 2 (some 5) rfl) ?_
      refine qm_Rp.go 1 (c' := (52, [.ref 3, .long x, .float 0, .int i], [.ref 3, .ref 5], h)) rfl ?_
      refine hp_geti (v := m) rfl (hH.1 3 (8, 14) rfl) rfl q_m ?_
      refine qm_Rp.go 1 (c' := (56, [.ref 3, .long x, .float 0, .int i], [.long x, .int m, .ref 5], h)) rfl ?_
      refine hp_las rfl (hH.1 5 (3, 16) rfl) (fun ia_2 ib_2 => ?_)
      refine qm_Rp.go 2 (c' := (59, [.ref 3, .long x, .float 0, .int i], [.ref 3, .ref 3], (h.1, h.2.1, qm_up h.2.2.1 5 m.toInt.toNat x, h.2.2.2))) rfl ?_
      refine hp_geti (v := m) rfl (hH.1 3 (8, 14) rfl) rfl q_m ?_
      refine qm_Rp.go 2 (c' := (64, [.ref 3, .long x, .float 0, .int i], [.int (m + 1), .ref 3], (h.1, h.2.1, qm_up h.2.2.1 5 m.toInt.toNat x, h.2.2.2))) rfl ?_
      obtain ⟨v4, q_v4, e_v4⟩ := hk_add (x := m) (y := 1) (a := m.toInt) (b := 1) rfl rfl (by omega) (by omega)
      rw [q_v4]
      refine hp_puti rfl (hH.1 3 (8, 14) rfl) rfl ?_
      refine qm_Rp.go 0 (c' := (67, [.ref 3, .long x, .float 0, .int i], [], (h.1, qm_up h.2.1 3 11 v4, qm_up h.2.2.1 5 m.toInt.toNat x, h.2.2.2))) rfl ?_
      refine qm_Rp.rt (v := none) (h' := (h.1, qm_up h.2.1 3 11 v4, qm_up h.2.2.1 5 m.toInt.toNat x, h.2.2.2)) rfl ?_
      have hw : ftw (fun j => h.2.2.1 5 j) x m.toInt.toNat = false := ftw_f (fun y hy => hno y (by omega))
      exact k (qm_up h.2.1 3 11 v4) v4 lf lp (fun o ho i => ((hk_mod ho rfl).trans rfl)) (fun i hi => ((hk_neq (fun z => by subst z; cases hi)).trans rfl)) (show (qm_up h.2.1 3 11 v4) 3 11 = _ from (hk_same)) (show (qm_up h.2.1 3 11 v4) 3 12 = _ from ((hk_neq (by decide)).trans q_lf)) (show (qm_up h.2.1 3 11 v4) 3 13 = _ from ((hk_neq (by decide)).trans q_lp)) (by omega) (by rw [hw]; exact (if_neg (fun z => Bool.false_ne_true z.2)).symm) (by rw [hw]; exact (if_neg (fun z => Bool.false_ne_true z.2)).symm)
    · refine qm_Rp.go 1 (c' := (11, [.ref 3, .long x, .float 0, .int i], [.ref 3], h)) rfl ?_
      refine hp_getr rfl (hH.1 3 (8, 14) rfl) rfl (hH.2 3 2 (some 5) rfl) ?_
      refine qm_Rp.go 1 (c' := (15, [.ref 3, .long x, .float 0, .int i], [.int i, .ref 5], h)) rfl ?_
      obtain ⟨w5, q_w5⟩ : ∃ v_, h.2.2.1 5 i.toInt.toNat = v_ := ⟨_, rfl⟩
      refine hp_lal (v := w5) rfl (hH.1 5 (3, 16) rfl) q_w5 (fun ia_5 ib_5 => ?_)
      refine qm_Rp.go 2 (c' := (18, [.ref 3, .long x, .float 0, .int i], [.int (lg_cmp w5 x)], h)) rfl ?_
      obtain ⟨v7, q_v7⟩ : ∃ v_, (lg_cmp w5 x) = v_ := ⟨_, rfl⟩
      rw [q_v7]
      refine hp_zne (ix := v7.toInt) rfl rfl (fun z8 => ?_) (fun z8 => ?_)
      · refine qm_Rp.go 1 (c' := (32, [.ref 3, .long x, .float 0, .int (i + 1)], [], h)) rfl ?_
        obtain ⟨v9, q_v9, e_v9⟩ := hk_add (x := i) (y := 1) (a := i.toInt) (b := 1) rfl rfl (by omega) (by omega)
        rw [q_v9]
        refine qm_Rp.go 1 (c' := (2, [.ref 3, .long x, .float 0, .int v9], [], h)) rfl ?_
        exact ih g (by omega) v9 (by omega) (fun y hy => by
          by_cases c : y = i.toInt.toNat
          · rw [c, q_w5]; exact kw_n q_v7 (by omega)
          · exact hno y (by omega))
      · refine qm_Rp.go 0 (c' := (21, [.ref 3, .long x, .float 0, .int i], [], h)) rfl ?_
        refine qm_Rp.go 2 (c' := (23, [.ref 3, .long x, .float 0, .int i], [.int 3, .ref 3], h)) rfl ?_
        refine hp_inv (o := 3) (r := []) (as := [.ref 3, .int 3]) rfl rfl (hH.1 3 (8, 14) rfl) rfl rfl rfl ?_
        refine qm_Rp.go 1 (c' := (1, [.ref 3, .int 3], [.ref 3], h)) rfl ?_
        refine hp_geti (v := lf) rfl (hH.1 3 (8, 14) rfl) rfl q_lf ?_
        refine qm_Rp.go 0 (c' := (4, [.ref 3, .int 3], [.int lf], h)) rfl ?_
        refine hp_zne (ix := lf.toInt) rfl rfl (fun z10 => ?_) (fun z10 => ?_)
        · refine qm_Rp.go 0 (c' := (23, [.ref 3, .int 3], [], h)) rfl ?_
          refine qm_Rp.rt (v := none) (h' := h) rfl ?_
          refine qm_Rp.go 2 (c' := (36, [.ref 3, .long x, .float 0, .int i], [.ref 3], h)) rfl ?_
          refine hp_geti (v := m) rfl (hH.1 3 (8, 14) rfl) rfl q_m ?_
          refine qm_Rp.go 1 (c' := (40, [.ref 3, .long x, .float 0, .int i], [.ref 3, .int m], h)) rfl ?_
          refine hp_getr rfl (hH.1 3 (8, 14) rfl) rfl (hH.2 3 2 (some 5) rfl) ?_
          refine qm_Rp.go 0 (c' := (43, [.ref 3, .long x, .float 0, .int i], [.ref 5, .int m], h)) rfl ?_
          refine hp_len rfl (hH.1 5 (3, 16) rfl) rfl ?_
          refine qm_Rp.go 0 (c' := (44, [.ref 3, .long x, .float 0, .int i], [.int 16, .int m], h)) rfl ?_
          refine hp_cge (ix := m.toInt) (iy := 16) rfl rfl rfl (fun z11 => by exfalso; omega) (fun z11 => ?_)
          refine qm_Rp.go 1 (c' := (48, [.ref 3, .long x, .float 0, .int i], [.ref 3], h)) rfl ?_
          refine hp_getr rfl (hH.1 3 (8, 14) rfl) rfl (hH.2 3 2 (some 5) rfl) ?_
          refine qm_Rp.go 1 (c' := (52, [.ref 3, .long x, .float 0, .int i], [.ref 3, .ref 5], h)) rfl ?_
          refine hp_geti (v := m) rfl (hH.1 3 (8, 14) rfl) rfl q_m ?_
          refine qm_Rp.go 1 (c' := (56, [.ref 3, .long x, .float 0, .int i], [.long x, .int m, .ref 5], h)) rfl ?_
          refine hp_las rfl (hH.1 5 (3, 16) rfl) (fun ia_11 ib_11 => ?_)
          refine qm_Rp.go 2 (c' := (59, [.ref 3, .long x, .float 0, .int i], [.ref 3, .ref 3], (h.1, h.2.1, qm_up h.2.2.1 5 m.toInt.toNat x, h.2.2.2))) rfl ?_
          refine hp_geti (v := m) rfl (hH.1 3 (8, 14) rfl) rfl q_m ?_
          refine qm_Rp.go 2 (c' := (64, [.ref 3, .long x, .float 0, .int i], [.int (m + 1), .ref 3], (h.1, h.2.1, qm_up h.2.2.1 5 m.toInt.toNat x, h.2.2.2))) rfl ?_
          obtain ⟨v13, q_v13, e_v13⟩ := hk_add (x := m) (y := 1) (a := m.toInt) (b := 1) rfl rfl (by omega) (by omega)
          rw [q_v13]
          refine hp_puti rfl (hH.1 3 (8, 14) rfl) rfl ?_
          refine qm_Rp.go 0 (c' := (67, [.ref 3, .long x, .float 0, .int i], [], (h.1, qm_up h.2.1 3 11 v13, qm_up h.2.2.1 5 m.toInt.toNat x, h.2.2.2))) rfl ?_
          refine qm_Rp.rt (v := none) (h' := (h.1, qm_up h.2.1 3 11 v13, qm_up h.2.2.1 5 m.toInt.toNat x, h.2.2.2)) rfl ?_
          have hw : ftw (fun j => h.2.2.1 5 j) x m.toInt.toNat = true := ftw_t (j := i.toInt.toNat) (by omega) (by show h.2.2.1 5 i.toInt.toNat = x; rw [q_w5]; exact kw_y q_v7 (by omega))
          exact k (qm_up h.2.1 3 11 v13) v13 lf lp (fun o ho i => ((hk_mod ho rfl).trans rfl)) (fun i hi => ((hk_neq (fun z => by subst z; cases hi)).trans rfl)) (show (qm_up h.2.1 3 11 v13) 3 11 = _ from (hk_same)) (show (qm_up h.2.1 3 11 v13) 3 12 = _ from ((hk_neq (by decide)).trans q_lf)) (show (qm_up h.2.1 3 11 v13) 3 13 = _ from ((hk_neq (by decide)).trans q_lp)) (by omega) (by rw [hw]; exact (if_neg (fun z => by omega)).symm) (by rw [hw]; exact (if_neg (fun z => by omega)).symm)
        · refine qm_Rp.go 2 (c' := (9, [.ref 3, .int 3], [.int 3, .ref 3], h)) rfl ?_
          refine hp_puti rfl (hH.1 3 (8, 14) rfl) rfl ?_
          refine qm_Rp.go 2 (c' := (14, [.ref 3, .int 3], [.ref 3, .ref 3], (h.1, qm_up h.2.1 3 12 3, h.2.2.1, h.2.2.2))) rfl ?_
          refine hp_getr rfl (hH.1 3 (8, 14) rfl) rfl (hH.2 3 0 (some 1) rfl) ?_
          refine qm_Rp.go 0 (c' := (17, [.ref 3, .int 3], [.ref 1, .ref 3], (h.1, qm_up h.2.1 3 12 3, h.2.2.1, h.2.2.2))) rfl ?_
          refine hp_geti (v := sa) rfl (hH.1 1 (12, 7) rfl) rfl (show (qm_up h.2.1 3 12 3) 1 4 = _ from ((hk_ot rfl).trans q_sa)) ?_
          refine qm_Rp.go 0 (c' := (20, [.ref 3, .int 3], [.int sa, .ref 3], (h.1, qm_up h.2.1 3 12 3, h.2.2.1, h.2.2.2))) rfl ?_
          refine hp_puti rfl (hH.1 3 (8, 14) rfl) rfl ?_
          refine qm_Rp.go 0 (c' := (23, [.ref 3, .int 3], [], (h.1, qm_up (qm_up h.2.1 3 12 3) 3 13 sa, h.2.2.1, h.2.2.2))) rfl ?_
          refine qm_Rp.rt (v := none) (h' := (h.1, qm_up (qm_up h.2.1 3 12 3) 3 13 sa, h.2.2.1, h.2.2.2)) rfl ?_
          refine qm_Rp.go 2 (c' := (36, [.ref 3, .long x, .float 0, .int i], [.ref 3], (h.1, qm_up (qm_up h.2.1 3 12 3) 3 13 sa, h.2.2.1, h.2.2.2))) rfl ?_
          refine hp_geti (v := m) rfl (hH.1 3 (8, 14) rfl) rfl (show (qm_up (qm_up h.2.1 3 12 3) 3 13 sa) 3 11 = _ from ((hk_neq (by decide)).trans ((hk_neq (by decide)).trans q_m))) ?_
          refine qm_Rp.go 1 (c' := (40, [.ref 3, .long x, .float 0, .int i], [.ref 3, .int m], (h.1, qm_up (qm_up h.2.1 3 12 3) 3 13 sa, h.2.2.1, h.2.2.2))) rfl ?_
          refine hp_getr rfl (hH.1 3 (8, 14) rfl) rfl (hH.2 3 2 (some 5) rfl) ?_
          refine qm_Rp.go 0 (c' := (43, [.ref 3, .long x, .float 0, .int i], [.ref 5, .int m], (h.1, qm_up (qm_up h.2.1 3 12 3) 3 13 sa, h.2.2.1, h.2.2.2))) rfl ?_
          refine hp_len rfl (hH.1 5 (3, 16) rfl) rfl ?_
          refine qm_Rp.go 0 (c' := (44, [.ref 3, .long x, .float 0, .int i], [.int 16, .int m], (h.1, qm_up (qm_up h.2.1 3 12 3) 3 13 sa, h.2.2.1, h.2.2.2))) rfl ?_
          refine hp_cge (ix := m.toInt) (iy := 16) rfl rfl rfl (fun z14 => by exfalso; omega) (fun z14 => ?_)
          refine qm_Rp.go 1 (c' := (48, [.ref 3, .long x, .float 0, .int i], [.ref 3], (h.1, qm_up (qm_up h.2.1 3 12 3) 3 13 sa, h.2.2.1, h.2.2.2))) rfl ?_
          refine hp_getr rfl (hH.1 3 (8, 14) rfl) rfl (hH.2 3 2 (some 5) rfl) ?_
          refine qm_Rp.go 1 (c' := (52, [.ref 3, .long x, .float 0, .int i], [.ref 3, .ref 5], (h.1, qm_up (qm_up h.2.1 3 12 3) 3 13 sa, h.2.2.1, h.2.2.2))) rfl ?_
          refine hp_geti (v := m) rfl (hH.1 3 (8, 14) rfl) rfl (show (qm_up (qm_up h.2.1 3 12 3) 3 13 sa) 3 11 = _ from ((hk_neq (by decide)).trans ((hk_neq (by decide)).trans q_m))) ?_
          refine qm_Rp.go 1 (c' := (56, [.ref 3, .long x, .float 0, .int i], [.long x, .int m, .ref 5], (h.1, qm_up (qm_up h.2.1 3 12 3) 3 13 sa, h.2.2.1, h.2.2.2))) rfl ?_
          refine hp_las rfl (hH.1 5 (3, 16) rfl) (fun ia_14 ib_14 => ?_)
          refine qm_Rp.go 2 (c' := (59, [.ref 3, .long x, .float 0, .int i], [.ref 3, .ref 3], (h.1, qm_up (qm_up h.2.1 3 12 3) 3 13 sa, qm_up h.2.2.1 5 m.toInt.toNat x, h.2.2.2))) rfl ?_
          refine hp_geti (v := m) rfl (hH.1 3 (8, 14) rfl) rfl (show (qm_up (qm_up h.2.1 3 12 3) 3 13 sa) 3 11 = _ from ((hk_neq (by decide)).trans ((hk_neq (by decide)).trans q_m))) ?_
          refine qm_Rp.go 2 (c' := (64, [.ref 3, .long x, .float 0, .int i], [.int (m + 1), .ref 3], (h.1, qm_up (qm_up h.2.1 3 12 3) 3 13 sa, qm_up h.2.2.1 5 m.toInt.toNat x, h.2.2.2))) rfl ?_
          obtain ⟨v16, q_v16, e_v16⟩ := hk_add (x := m) (y := 1) (a := m.toInt) (b := 1) rfl rfl (by omega) (by omega)
          rw [q_v16]
          refine hp_puti rfl (hH.1 3 (8, 14) rfl) rfl ?_
          refine qm_Rp.go 0 (c' := (67, [.ref 3, .long x, .float 0, .int i], [], (h.1, qm_up (qm_up (qm_up h.2.1 3 12 3) 3 13 sa) 3 11 v16, qm_up h.2.2.1 5 m.toInt.toNat x, h.2.2.2))) rfl ?_
          refine qm_Rp.rt (v := none) (h' := (h.1, qm_up (qm_up (qm_up h.2.1 3 12 3) 3 13 sa) 3 11 v16, qm_up h.2.2.1 5 m.toInt.toNat x, h.2.2.2)) rfl ?_
          have hw : ftw (fun j => h.2.2.1 5 j) x m.toInt.toNat = true := ftw_t (j := i.toInt.toNat) (by omega) (by show h.2.2.1 5 i.toInt.toNat = x; rw [q_w5]; exact kw_y q_v7 (by omega))
          exact k (qm_up (qm_up (qm_up h.2.1 3 12 3) 3 13 sa) 3 11 v16) v16 3 sa (fun o ho i => ((hk_mod ho rfl).trans ((hk_mod ho rfl).trans ((hk_mod ho rfl).trans rfl)))) (fun i hi => ((hk_neq (fun z => by subst z; cases hi)).trans ((hk_neq (fun z => by subst z; cases hi)).trans ((hk_neq (fun z => by subst z; cases hi)).trans rfl)))) (show (qm_up (qm_up (qm_up h.2.1 3 12 3) 3 13 sa) 3 11 v16) 3 11 = _ from (hk_same)) (show (qm_up (qm_up (qm_up h.2.1 3 12 3) 3 13 sa) 3 11 v16) 3 12 = _ from ((hk_neq (by decide)).trans ((hk_neq (by decide)).trans (hk_same)))) (show (qm_up (qm_up (qm_up h.2.1 3 12 3) 3 13 sa) 3 11 v16) 3 13 = _ from ((hk_neq (by decide)).trans (hk_same))) (by omega) (by rw [hw]; exact (if_pos ⟨by omega, rfl⟩).symm) (by rw [hw]; exact (if_pos ⟨by omega, rfl⟩).symm)
theorem px_title {X : Option (Nat × (Nat → Int32))} {Z : Option Value → qm_H → Prop} {h : qm_H} {fu : Nat} (hH : hk_H h) {m lf lp sa : Int32} {x : Int64} (q_m : h.2.1 3 11 = m) (q_lf : h.2.1 3 12 = lf) (q_lp : h.2.1 3 13 = lp) (q_sa : h.2.1 1 4 = sa) (hm : 0 ≤ m.toInt ∧ m.toInt ≤ 15) (k : ∀ (I : Nat → Nat → Int32) (m2 lf2 lp2 : Int32), (∀ o, [3].contains o = false → ∀ i, I o i = h.2.1 o i) → (∀ i, [11, 12, 13].contains i = false → I 3 i = h.2.1 3 i) → I 3 11 = m2 → I 3 12 = lf2 → I 3 13 = lp2 → m2.toInt = m.toInt + 1 → lf2.toInt = (if lf.toInt = 0 ∧ ftw (fun j => h.2.2.1 5 j) x m.toInt.toNat = true then 3 else lf.toInt) → lp2.toInt = (if lf.toInt = 0 ∧ ftw (fun j => h.2.2.1 5 j) x m.toInt.toNat = true then sa.toInt else lp.toInt) → Z none (h.1, I, qm_up h.2.2.1 5 m.toInt.toNat x, h.2.2.2)) : qm_Rp fu X cd_44 (qm_ent 4 [.ref 3, .long x] h) Z := by
  refine qm_Rp.go 2 (c' := (2, [.ref 3, .long x, .float 0, .int 0], [], h)) rfl ?_
  exact px_titlel hH q_m q_lf q_lp q_sa hm k fu 0 ⟨by decide, hm.1⟩ (fun y hy => absurd hy (Nat.not_lt_zero y))
