/-! boxes made, stored, fetched; covers; locks -/
/-- what holds of a run that ends holds of every run that is given -/
theorem qm_Rp.of {fu d0 : Nat} {X : Option (Nat × (Nat → Int32))} {cd : qm_Cd} {c : qm_C} {Q : Option Value → qm_H → Prop} (h : qm_Ru X d0 cd c Q) : qm_Rp fu X cd c Q := fun d m r h' _ e => by
  obtain ⟨n, r0, h0, e0, q⟩ := h
  have a := qm_run_le m (max m n) d (max d d0) cd c _ (Nat.le_max_left _ _) (Nat.le_max_left _ _) e
  have b := qm_run_le n (max m n) d0 (max d d0) cd c _ (Nat.le_max_right _ _) (Nat.le_max_right _ _) e0
  rw [a] at b
  have b := Option.some.inj b
  injection b with b1 b2
  rw [b1, b2]
  exact q
theorem px_cmk {X : Option (Nat × (Nat → Int32))} {Z : Option Value → qm_H → Prop} {h : qm_H} {fu : Nat} (hH : hk_H h) {n w p s : Int32} (q_n : h.2.1 6 0 = n) (hn : 0 ≤ n.toInt ∧ n.toInt ≤ 30) (k0 : 30 ≤ n.toInt → Z (some (.int (-1))) h) (k1 : ∀ (I : Nat → Nat → Int32) (n2 : Int32), n.toInt < 30 → (∀ o, [6, 7, 8, 9, 11, 12, 13, 14].contains o = false → ∀ i, I o i = h.2.1 o i) → (∀ i, [0].contains i = false → I 6 i = h.2.1 6 i) → I 6 0 = n2 → n2.toInt = n.toInt + 1 → pI I 7 = fu_up (pI h.2.1 7) (n.toInt.toNat) w.toInt → pI I 8 = fu_up (pI h.2.1 8) (n.toInt.toNat) p.toInt → pI I 9 = fu_up (pI h.2.1 9) (n.toInt.toNat) s.toInt → pI I 11 = fu_up (pI h.2.1 11) (n.toInt.toNat) (0 : Int32).toInt → pI I 12 = fu_up (pI h.2.1 12) (n.toInt.toNat) (-1 : Int32).toInt → pI I 13 = fu_up (pI h.2.1 13) (n.toInt.toNat) (-1 : Int32).toInt → pI I 14 = fu_up (pI h.2.1 14) (n.toInt.toNat) (-1 : Int32).toInt → Z (some (.int n)) (h.1, I, h.2.2.1, h.2.2.2)) : qm_Rp fu X cd_66 (qm_ent 4 [.ref 6, .int w, .int p, .int s] h) Z := by
  refine qm_Rp.go 0 (c' := (0, [.ref 6, .int w, .int p, .int s], [], h)) rfl ?_
  have kz0 : (0 : Int32).toInt = 0 := rfl
  have kz1 : (1 : Int32).toInt = 1 := rfl
  have kz2 : (2 : Int32).toInt = 2 := rfl
  have kz3 : (3 : Int32).toInt = 3 := rfl
  have kz4 : (4 : Int32).toInt = 4 := rfl
  have kz5 : (5 : Int32).toInt = 5 := rfl
  have kz6 : (6 : Int32).toInt = 6 := rfl
  have kz7 : (7 : Int32).toInt = 7 := rfl
  have kz8 : (8 : Int32).toInt = 8 := rfl
  have kz9 : (9 : Int32).toInt = 9 := rfl
  have kzm1 : ((-1) : Int32).toInt = (-1) := rfl
  have kzm2 : ((-2) : Int32).toInt = (-2) := rfl
  have kzm3 : ((-3) : Int32).toInt = (-3) := rfl
  refine qm_Rp.go 1 (c' := (1, [.ref 6, .int w, .int p, .int s], [.ref 6], h)) rfl ?_
  refine hp_geti (v := n) rfl (hH.1 6 (6, 9) rfl) rfl q_n ?_
  refine qm_Rp.go 1 (c' := (6, [.ref 6, .int w, .int p, .int s], [.int 30, .int n], h)) rfl ?_
  refine hp_clt (ix := n.toInt) (iy := 30) rfl rfl rfl (fun z1 => ?_) (fun z1 => ?_)
  · refine qm_Rp.go 1 (c' := (12, [.ref 6, .int w, .int p, .int s], [.ref 6], h)) rfl ?_
    refine hp_getr rfl (hH.1 6 (6, 9) rfl) rfl (hH.2 6 1 (some 7) rfl) ?_
    refine qm_Rp.go 1 (c' := (16, [.ref 6, .int w, .int p, .int s], [.ref 6, .ref 7], h)) rfl ?_
    refine hp_geti (v := n) rfl (hH.1 6 (6, 9) rfl) rfl q_n ?_
    refine qm_Rp.go 1 (c' := (20, [.ref 6, .int w, .int p, .int s], [.int w, .int n, .ref 7], h)) rfl ?_
    refine hp_ias rfl (hH.1 7 (0, 30) rfl) (fun ia_1 ib_1 => ?_)
    refine qm_Rp.go 1 (c' := (22, [.ref 6, .int w, .int p, .int s], [.ref 6], (h.1, qm_up h.2.1 7 n.toInt.toNat w, h.2.2.1, h.2.2.2))) rfl ?_
    refine hp_getr rfl (hH.1 6 (6, 9) rfl) rfl (hH.2 6 2 (some 8) rfl) ?_
    refine qm_Rp.go 1 (c' := (26, [.ref 6, .int w, .int p, .int s], [.ref 6, .ref 8], (h.1, qm_up h.2.1 7 n.toInt.toNat w, h.2.2.1, h.2.2.2))) rfl ?_
    refine hp_geti (v := n) rfl (hH.1 6 (6, 9) rfl) rfl (show (qm_up h.2.1 7 n.toInt.toNat w) 6 0 = _ from ((hk_ot rfl).trans q_n)) ?_
    refine qm_Rp.go 1 (c' := (30, [.ref 6, .int w, .int p, .int s], [.int p, .int n, .ref 8], (h.1, qm_up h.2.1 7 n.toInt.toNat w, h.2.2.1, h.2.2.2))) rfl ?_
    refine hp_ias rfl (hH.1 8 (0, 30) rfl) (fun ia_2 ib_2 => ?_)
    refine qm_Rp.go 1 (c' := (32, [.ref 6, .int w, .int p, .int s], [.ref 6], (h.1, qm_up (qm_up h.2.1 7 n.toInt.toNat w) 8 n.toInt.toNat p, h.2.2.1, h.2.2.2))) rfl ?_
    refine hp_getr rfl (hH.1 6 (6, 9) rfl) rfl (hH.2 6 3 (some 9) rfl) ?_
    refine qm_Rp.go 1 (c' := (36, [.ref 6, .int w, .int p, .int s], [.ref 6, .ref 9], (h.1, qm_up (qm_up h.2.1 7 n.toInt.toNat w) 8 n.toInt.toNat p, h.2.2.1, h.2.2.2))) rfl ?_
    refine hp_geti (v := n) rfl (hH.1 6 (6, 9) rfl) rfl (show (qm_up (qm_up h.2.1 7 n.toInt.toNat w) 8 n.toInt.toNat p) 6 0 = _ from ((hk_ot rfl).trans ((hk_ot rfl).trans q_n))) ?_
    refine qm_Rp.go 1 (c' := (40, [.ref 6, .int w, .int p, .int s], [.int s, .int n, .ref 9], (h.1, qm_up (qm_up h.2.1 7 n.toInt.toNat w) 8 n.toInt.toNat p, h.2.2.1, h.2.2.2))) rfl ?_
    refine hp_ias rfl (hH.1 9 (0, 30) rfl) (fun ia_3 ib_3 => ?_)
    refine qm_Rp.go 2 (c' := (43, [.ref 6, .int w, .int p, .int s], [.ref 6, .ref 6], (h.1, qm_up (qm_up (qm_up h.2.1 7 n.toInt.toNat w) 8 n.toInt.toNat p) 9 n.toInt.toNat s, h.2.2.1, h.2.2.2))) rfl ?_
    refine hp_geti (v := n) rfl (hH.1 6 (6, 9) rfl) rfl (show (qm_up (qm_up (qm_up h.2.1 7 n.toInt.toNat w) 8 n.toInt.toNat p) 9 n.toInt.toNat s) 6 0 = _ from ((hk_ot rfl).trans ((hk_ot rfl).trans ((hk_ot rfl).trans q_n)))) ?_
    refine qm_Rp.go 0 (c' := (46, [.ref 6, .int w, .int p, .int s], [.int n, .ref 6], (h.1, qm_up (qm_up (qm_up h.2.1 7 n.toInt.toNat w) 8 n.toInt.toNat p) 9 n.toInt.toNat s, h.2.2.1, h.2.2.2))) rfl ?_
    refine hp_inv (o := 6) (r := []) (as := [.ref 6, .int n]) rfl rfl (hH.1 6 (6, 9) rfl) rfl rfl rfl ?_
    refine qm_Rp.go 6 (c' := (6, [.ref 6, .int n], [.int (-1), .int (-1), .int (-1), .int 0, .int n, .ref 6], (h.1, qm_up (qm_up (qm_up h.2.1 7 n.toInt.toNat w) 8 n.toInt.toNat p) 9 n.toInt.toNat s, h.2.2.1, h.2.2.2))) rfl ?_
    refine hp_inv (o := 6) (r := []) (as := [.ref 6, .int n, .int 0, .int (-1), .int (-1), .int (-1)]) rfl rfl (hH.1 6 (6, 9) rfl) rfl rfl rfl ?_
    refine qm_Rp.go 1 (c' := (1, [.ref 6, .int n, .int 0, .int (-1), .int (-1), .int (-1)], [.ref 6], (h.1, qm_up (qm_up (qm_up h.2.1 7 n.toInt.toNat w) 8 n.toInt.toNat p) 9 n.toInt.toNat s, h.2.2.1, h.2.2.2))) rfl ?_
    refine hp_getr rfl (hH.1 6 (6, 9) rfl) rfl (hH.2 6 5 (some 11) rfl) ?_
    refine qm_Rp.go 2 (c' := (6, [.ref 6, .int n, .int 0, .int (-1), .int (-1), .int (-1)], [.int 0, .int n, .ref 11], (h.1, qm_up (qm_up (qm_up h.2.1 7 n.toInt.toNat w) 8 n.toInt.toNat p) 9 n.toInt.toNat s, h.2.2.1, h.2.2.2))) rfl ?_
    refine hp_ias rfl (hH.1 11 (0, 30) rfl) (fun ia_4 ib_4 => ?_)
    refine qm_Rp.go 1 (c' := (8, [.ref 6, .int n, .int 0, .int (-1), .int (-1), .int (-1)], [.ref 6], (h.1, qm_up (qm_up (qm_up (qm_up h.2.1 7 n.toInt.toNat w) 8 n.toInt.toNat p) 9 n.toInt.toNat s) 11 n.toInt.toNat 0, h.2.2.1, h.2.2.2))) rfl ?_
    refine hp_getr rfl (hH.1 6 (6, 9) rfl) rfl (hH.2 6 6 (some 12) rfl) ?_
    refine qm_Rp.go 2 (c' := (13, [.ref 6, .int n, .int 0, .int (-1), .int (-1), .int (-1)], [.int (-1), .int n, .ref 12], (h.1, qm_up (qm_up (qm_up (qm_up h.2.1 7 n.toInt.toNat w) 8 n.toInt.toNat p) 9 n.toInt.toNat s) 11 n.toInt.toNat 0, h.2.2.1, h.2.2.2))) rfl ?_
    refine hp_ias rfl (hH.1 12 (0, 30) rfl) (fun ia_5 ib_5 => ?_)
    refine qm_Rp.go 1 (c' := (15, [.ref 6, .int n, .int 0, .int (-1), .int (-1), .int (-1)], [.ref 6], (h.1, qm_up (qm_up (qm_up (qm_up (qm_up h.2.1 7 n.toInt.toNat w) 8 n.toInt.toNat p) 9 n.toInt.toNat s) 11 n.toInt.toNat 0) 12 n.toInt.toNat (-1), h.2.2.1, h.2.2.2))) rfl ?_
    refine hp_getr rfl (hH.1 6 (6, 9) rfl) rfl (hH.2 6 7 (some 13) rfl) ?_
    refine qm_Rp.go 2 (c' := (21, [.ref 6, .int n, .int 0, .int (-1), .int (-1), .int (-1)], [.int (-1), .int n, .ref 13], (h.1, qm_up (qm_up (qm_up (qm_up (qm_up h.2.1 7 n.toInt.toNat w) 8 n.toInt.toNat p) 9 n.toInt.toNat s) 11 n.toInt.toNat 0) 12 n.toInt.toNat (-1), h.2.2.1, h.2.2.2))) rfl ?_
    refine hp_ias rfl (hH.1 13 (0, 30) rfl) (fun ia_6 ib_6 => ?_)
    refine qm_Rp.go 1 (c' := (23, [.ref 6, .int n, .int 0, .int (-1), .int (-1), .int (-1)], [.ref 6], (h.1, qm_up (qm_up (qm_up (qm_up (qm_up (qm_up h.2.1 7 n.toInt.toNat w) 8 n.toInt.toNat p) 9 n.toInt.toNat s) 11 n.toInt.toNat 0) 12 n.toInt.toNat (-1)) 13 n.toInt.toNat (-1), h.2.2.1, h.2.2.2))) rfl ?_
    refine hp_getr rfl (hH.1 6 (6, 9) rfl) rfl (hH.2 6 8 (some 14) rfl) ?_
    refine qm_Rp.go 2 (c' := (29, [.ref 6, .int n, .int 0, .int (-1), .int (-1), .int (-1)], [.int (-1), .int n, .ref 14], (h.1, qm_up (qm_up (qm_up (qm_up (qm_up (qm_up h.2.1 7 n.toInt.toNat w) 8 n.toInt.toNat p) 9 n.toInt.toNat s) 11 n.toInt.toNat 0) 12 n.toInt.toNat (-1)) 13 n.toInt.toNat (-1), h.2.2.1, h.2.2.2))) rfl ?_
    refine hp_ias rfl (hH.1 14 (0, 30) rfl) (fun ia_7 ib_7 => ?_)
    refine qm_Rp.go 0 (c' := (30, [.ref 6, .int n, .int 0, .int (-1), .int (-1), .int (-1)], [], (h.1, qm_up (qm_up (qm_up (qm_up (qm_up (qm_up (qm_up h.2.1 7 n.toInt.toNat w) 8 n.toInt.toNat p) 9 n.toInt.toNat s) 11 n.toInt.toNat 0) 12 n.toInt.toNat (-1)) 13 n.toInt.toNat (-1)) 14 n.toInt.toNat (-1), h.2.2.1, h.2.2.2))) rfl ?_
    refine qm_Rp.rt (v := none) (h' := (h.1, qm_up (qm_up (qm_up (qm_up (qm_up (qm_up (qm_up h.2.1 7 n.toInt.toNat w) 8 n.toInt.toNat p) 9 n.toInt.toNat s) 11 n.toInt.toNat 0) 12 n.toInt.toNat (-1)) 13 n.toInt.toNat (-1)) 14 n.toInt.toNat (-1), h.2.2.1, h.2.2.2)) rfl ?_
    refine qm_Rp.go 0 (c' := (9, [.ref 6, .int n], [], (h.1, qm_up (qm_up (qm_up (qm_up (qm_up (qm_up (qm_up h.2.1 7 n.toInt.toNat w) 8 n.toInt.toNat p) 9 n.toInt.toNat s) 11 n.toInt.toNat 0) 12 n.toInt.toNat (-1)) 13 n.toInt.toNat (-1)) 14 n.toInt.toNat (-1), h.2.2.1, h.2.2.2))) rfl ?_
    refine qm_Rp.rt (v := none) (h' := (h.1, qm_up (qm_up (qm_up (qm_up (qm_up (qm_up (qm_up h.2.1 7 n.toInt.toNat w) 8 n.toInt.toNat p) 9 n.toInt.toNat s) 11 n.toInt.toNat 0) 12 n.toInt.toNat (-1)) 13 n.toInt.toNat (-1)) 14 n.toInt.toNat (-1), h.2.2.1, h.2.2.2)) rfl ?_
    refine qm_Rp.go 2 (c' := (51, [.ref 6, .int w, .int p, .int s], [.ref 6, .ref 6], (h.1, qm_up (qm_up (qm_up (qm_up (qm_up (qm_up (qm_up h.2.1 7 n.toInt.toNat w) 8 n.toInt.toNat p) 9 n.toInt.toNat s) 11 n.toInt.toNat 0) 12 n.toInt.toNat (-1)) 13 n.toInt.toNat (-1)) 14 n.toInt.toNat (-1), h.2.2.1, h.2.2.2))) rfl ?_
    refine hp_geti (v := n) rfl (hH.1 6 (6, 9) rfl) rfl (show (qm_up (qm_up (qm_up (qm_up (qm_up (qm_up (qm_up h.2.1 7 n.toInt.toNat w) 8 n.toInt.toNat p) 9 n.toInt.toNat s) 11 n.toInt.toNat 0) 12 n.toInt.toNat (-1)) 13 n.toInt.toNat (-1)) 14 n.toInt.toNat (-1)) 6 0 = _ from ((hk_ot rfl).trans ((hk_ot rfl).trans ((hk_ot rfl).trans ((hk_ot rfl).trans ((hk_ot rfl).trans ((hk_ot rfl).trans ((hk_ot rfl).trans q_n)))))))) ?_
    refine qm_Rp.go 2 (c' := (56, [.ref 6, .int w, .int p, .int s], [.int (n + 1), .ref 6], (h.1, qm_up (qm_up (qm_up (qm_up (qm_up (qm_up (qm_up h.2.1 7 n.toInt.toNat w) 8 n.toInt.toNat p) 9 n.toInt.toNat s) 11 n.toInt.toNat 0) 12 n.toInt.toNat (-1)) 13 n.toInt.toNat (-1)) 14 n.toInt.toNat (-1), h.2.2.1, h.2.2.2))) rfl ?_
    obtain ⟨v9, q_v9, e_v9⟩ := hk_add (x := n) (y := 1) (a := n.toInt) (b := 1) rfl rfl (by omega) (by omega)
    rw [q_v9]
    refine hp_puti rfl (hH.1 6 (6, 9) rfl) rfl ?_
    refine qm_Rp.go 1 (c' := (60, [.ref 6, .int w, .int p, .int s], [.ref 6], (h.1, qm_up (qm_up (qm_up (qm_up (qm_up (qm_up (qm_up (qm_up h.2.1 7 n.toInt.toNat w) 8 n.toInt.toNat p) 9 n.toInt.toNat s) 11 n.toInt.toNat 0) 12 n.toInt.toNat (-1)) 13 n.toInt.toNat (-1)) 14 n.toInt.toNat (-1)) 6 0 v9, h.2.2.1, h.2.2.2))) rfl ?_
    refine hp_geti (v := v9) rfl (hH.1 6 (6, 9) rfl) rfl (show (qm_up (qm_up (qm_up (qm_up (qm_up (qm_up (qm_up (qm_up h.2.1 7 n.toInt.toNat w) 8 n.toInt.toNat p) 9 n.toInt.toNat s) 11 n.toInt.toNat 0) 12 n.toInt.toNat (-1)) 13 n.toInt.toNat (-1)) 14 n.toInt.toNat (-1)) 6 0 v9) 6 0 = _ from (hk_same)) ?_
    refine qm_Rp.go 2 (c' := (65, [.ref 6, .int w, .int p, .int s], [.int (v9 - 1)], (h.1, qm_up (qm_up (qm_up (qm_up (qm_up (qm_up (qm_up (qm_up h.2.1 7 n.toInt.toNat w) 8 n.toInt.toNat p) 9 n.toInt.toNat s) 11 n.toInt.toNat 0) 12 n.toInt.toNat (-1)) 13 n.toInt.toNat (-1)) 14 n.toInt.toNat (-1)) 6 0 v9, h.2.2.1, h.2.2.2))) rfl ?_
    obtain ⟨v10, q_v10, e_v10⟩ := hk_sub (x := v9) (y := 1) (a := v9.toInt) (b := 1) rfl rfl (by omega) (by omega)
    rw [q_v10]
    refine qm_Rp.rt (v := (some (.int v10))) (h' := (h.1, qm_up (qm_up (qm_up (qm_up (qm_up (qm_up (qm_up (qm_up h.2.1 7 n.toInt.toNat w) 8 n.toInt.toNat p) 9 n.toInt.toNat s) 11 n.toInt.toNat 0) 12 n.toInt.toNat (-1)) 13 n.toInt.toNat (-1)) 14 n.toInt.toNat (-1)) 6 0 v9, h.2.2.1, h.2.2.2)) rfl ?_
    have er : v10 = n := hk_eqi.mpr (by omega)
    rw [er]
    exact k1 (qm_up (qm_up (qm_up (qm_up (qm_up (qm_up (qm_up (qm_up h.2.1 7 n.toInt.toNat w) 8 n.toInt.toNat p) 9 n.toInt.toNat s) 11 n.toInt.toNat 0) 12 n.toInt.toNat (-1)) 13 n.toInt.toNat (-1)) 14 n.toInt.toNat (-1)) 6 0 v9) v9 (by omega) (fun o ho i => ((hk_mod ho rfl).trans ((hk_mod ho rfl).trans ((hk_mod ho rfl).trans ((hk_mod ho rfl).trans ((hk_mod ho rfl).trans ((hk_mod ho rfl).trans ((hk_mod ho rfl).trans ((hk_mod ho rfl).trans rfl))))))))) (fun i hi => ((hk_neq (fun z => by subst z; cases hi)).trans ((hk_ot rfl).trans ((hk_ot rfl).trans ((hk_ot rfl).trans ((hk_ot rfl).trans ((hk_ot rfl).trans ((hk_ot rfl).trans ((hk_ot rfl).trans rfl))))))))) (show (qm_up (qm_up (qm_up (qm_up (qm_up (qm_up (qm_up (qm_up h.2.1 7 n.toInt.toNat w) 8 n.toInt.toNat p) 9 n.toInt.toNat s) 11 n.toInt.toNat 0) 12 n.toInt.toNat (-1)) 13 n.toInt.toNat (-1)) 14 n.toInt.toNat (-1)) 6 0 v9) 6 0 = _ from (hk_same)) (by omega) ((pI_sk rfl).trans ((pI_sk rfl).trans ((pI_sk rfl).trans ((pI_sk rfl).trans ((pI_sk rfl).trans ((pI_sk rfl).trans ((pI_sk rfl).trans pI_up))))))) ((pI_sk rfl).trans ((pI_sk rfl).trans ((pI_sk rfl).trans ((pI_sk rfl).trans ((pI_sk rfl).trans ((pI_sk rfl).trans (pI_up.trans (congrArg (fun f => fu_up f (n.toInt.toNat) (Int32.toInt p)) (pI_sk rfl))))))))) ((pI_sk rfl).trans ((pI_sk rfl).trans ((pI_sk rfl).trans ((pI_sk rfl).trans ((pI_sk rfl).trans (pI_up.trans (congrArg (fun f => fu_up f (n.toInt.toNat) (Int32.toInt s)) ((pI_sk rfl).trans (pI_sk rfl))))))))) ((pI_sk rfl).trans ((pI_sk rfl).trans ((pI_sk rfl).trans ((pI_sk rfl).trans (pI_up.trans (congrArg (fun f => fu_up f (n.toInt.toNat) (Int32.toInt 0)) ((pI_sk rfl).trans ((pI_sk rfl).trans (pI_sk rfl))))))))) ((pI_sk rfl).trans ((pI_sk rfl).trans ((pI_sk rfl).trans (pI_up.trans (congrArg (fun f => fu_up f (n.toInt.toNat) (Int32.toInt (-1))) ((pI_sk rfl).trans ((pI_sk rfl).trans ((pI_sk rfl).trans (pI_sk rfl))))))))) ((pI_sk rfl).trans ((pI_sk rfl).trans (pI_up.trans (congrArg (fun f => fu_up f (n.toInt.toNat) (Int32.toInt (-1))) ((pI_sk rfl).trans ((pI_sk rfl).trans ((pI_sk rfl).trans ((pI_sk rfl).trans (pI_sk rfl))))))))) ((pI_sk rfl).trans (pI_up.trans (congrArg (fun f => fu_up f (n.toInt.toNat) (Int32.toInt (-1))) ((pI_sk rfl).trans ((pI_sk rfl).trans ((pI_sk rfl).trans ((pI_sk rfl).trans ((pI_sk rfl).trans (pI_sk rfl)))))))))
  · refine qm_Rp.go 1 (c' := (10, [.ref 6, .int w, .int p, .int s], [.int (-1)], h)) rfl ?_
    refine qm_Rp.rt (v := (some (.int (-1)))) (h' := h) rfl ?_
    exact k0 (by omega)
theorem px_rbx {X : Option (Nat × (Nat → Int32))} {Z : Option Value → qm_H → Prop} {h : qm_H} {fu : Nat} (hH : hk_H h) {n w p s : Int32} (q_n : h.2.1 118 44 = n) (hn : 0 ≤ n.toInt ∧ n.toInt ≤ 30) (k0 : ¬ (n.toInt ≠ 30 ∧ 1 ≤ w.toInt ∧ w.toInt ≤ 40 ∧ 0 ≤ p.toInt ∧ p.toInt ≤ 4 ∧ 0 ≤ s.toInt ∧ s.toInt ≤ 5) → Z (some (.int (-1))) h) (k1 : ∀ (I : Nat → Nat → Int32) (n2 : Int32), (n.toInt ≠ 30 ∧ 1 ≤ w.toInt ∧ w.toInt ≤ 40 ∧ 0 ≤ p.toInt ∧ p.toInt ≤ 4 ∧ 0 ≤ s.toInt ∧ s.toInt ≤ 5) → (∀ o, [118, 146, 147, 148, 149, 150].contains o = false → ∀ i, I o i = h.2.1 o i) → (∀ i, [44].contains i = false → I 118 i = h.2.1 118 i) → I 118 44 = n2 → n2.toInt = n.toInt + 1 → pI I 146 = fu_up (pI h.2.1 146) (n.toInt.toNat) w.toInt → pI I 147 = fu_up (pI h.2.1 147) (n.toInt.toNat) p.toInt → pI I 148 = fu_up (pI h.2.1 148) (n.toInt.toNat) s.toInt → pI I 149 = fu_up (pI h.2.1 149) (n.toInt.toNat) (0 : Int32).toInt → pI I 150 = fu_up (pI h.2.1 150) (n.toInt.toNat) (0 : Int32).toInt → Z (some (.int n)) (h.1, I, h.2.2.1, h.2.2.2)) : qm_Rp fu X cd_269 (qm_ent 4 [.ref 118, .int w, .int p, .int s] h) Z := by
  refine qm_Rp.go 0 (c' := (0, [.ref 118, .int w, .int p, .int s], [], h)) rfl ?_
  have kz0 : (0 : Int32).toInt = 0 := rfl
  have kz1 : (1 : Int32).toInt = 1 := rfl
  have kz2 : (2 : Int32).toInt = 2 := rfl
  have kz3 : (3 : Int32).toInt = 3 := rfl
  have kz4 : (4 : Int32).toInt = 4 := rfl
  have kz5 : (5 : Int32).toInt = 5 := rfl
  have kz6 : (6 : Int32).toInt = 6 := rfl
  have kz7 : (7 : Int32).toInt = 7 := rfl
  have kz8 : (8 : Int32).toInt = 8 := rfl
  have kz9 : (9 : Int32).toInt = 9 := rfl
  have kzm1 : ((-1) : Int32).toInt = (-1) := rfl
  have kzm2 : ((-2) : Int32).toInt = (-2) := rfl
  have kzm3 : ((-3) : Int32).toInt = (-3) := rfl
  refine qm_Rp.go 1 (c' := (1, [.ref 118, .int w, .int p, .int s], [.ref 118], h)) rfl ?_
  refine hp_geti (v := n) rfl (hH.1 118 (17, 105) rfl) rfl q_n ?_
  refine qm_Rp.go 1 (c' := (6, [.ref 118, .int w, .int p, .int s], [.int 30, .int n], h)) rfl ?_
  refine hp_ceq (ix := n.toInt) (iy := 30) rfl rfl rfl (fun z1 => ?_) (fun z1 => ?_)
  · refine qm_Rp.go 1 (c' := (38, [.ref 118, .int w, .int p, .int s], [.int (-1)], h)) rfl ?_
    refine qm_Rp.rt (v := (some (.int (-1)))) (h' := h) rfl ?_
    exact k0 (fun z => by omega)
  · refine qm_Rp.go 3 (c' := (13, [.ref 118, .int w, .int p, .int s], [.int 40, .int 1, .int w], h)) rfl ?_
    refine qm_Rp.call (j := 270) (as := [.int w, .int 1, .int 40]) (c' := (16, [.ref 118, .int w, .int p, .int s], [], h)) rfl rfl ?_
    refine qm_Rp.go 2 (c' := (2, [.int w, .int 1, .int 40], [.int 1, .int w], h)) rfl ?_
    refine hp_clt (ix := w.toInt) (iy := 1) rfl rfl rfl (fun z2 => ?_) (fun z2 => ?_)
    · refine qm_Rp.go 1 (c' := (15, [.int w, .int 1, .int 40], [.int 0], h)) rfl ?_
      refine qm_Rp.rt (v := (some (.int 0))) (h' := h) rfl ?_
      refine qm_Rp.go 2 (c' := (38, [.ref 118, .int w, .int p, .int s], [.int (-1)], h)) rfl ?_
      refine qm_Rp.rt (v := (some (.int (-1)))) (h' := h) rfl ?_
      exact k0 (fun z => by omega)
    · refine qm_Rp.go 2 (c' := (7, [.int w, .int 1, .int 40], [.int 40, .int w], h)) rfl ?_
      refine hp_cgt (ix := w.toInt) (iy := 40) rfl rfl rfl (fun z3 => ?_) (fun z3 => ?_)
      · refine qm_Rp.go 1 (c' := (15, [.int w, .int 1, .int 40], [.int 0], h)) rfl ?_
        refine qm_Rp.rt (v := (some (.int 0))) (h' := h) rfl ?_
        refine qm_Rp.go 2 (c' := (38, [.ref 118, .int w, .int p, .int s], [.int (-1)], h)) rfl ?_
        refine qm_Rp.rt (v := (some (.int (-1)))) (h' := h) rfl ?_
        exact k0 (fun z => by omega)
      · refine qm_Rp.go 2 (c' := (15, [.int w, .int 1, .int 40], [.int 1], h)) rfl ?_
        refine qm_Rp.rt (v := (some (.int 1))) (h' := h) rfl ?_
        refine qm_Rp.go 4 (c' := (22, [.ref 118, .int w, .int p, .int s], [.int 4, .int 0, .int p], h)) rfl ?_
        refine qm_Rp.call (j := 270) (as := [.int p, .int 0, .int 4]) (c' := (25, [.ref 118, .int w, .int p, .int s], [], h)) rfl rfl ?_
        refine qm_Rp.go 2 (c' := (2, [.int p, .int 0, .int 4], [.int 0, .int p], h)) rfl ?_
        refine hp_clt (ix := p.toInt) (iy := 0) rfl rfl rfl (fun z4 => ?_) (fun z4 => ?_)
        · refine qm_Rp.go 1 (c' := (15, [.int p, .int 0, .int 4], [.int 0], h)) rfl ?_
          refine qm_Rp.rt (v := (some (.int 0))) (h' := h) rfl ?_
          refine qm_Rp.go 2 (c' := (38, [.ref 118, .int w, .int p, .int s], [.int (-1)], h)) rfl ?_
          refine qm_Rp.rt (v := (some (.int (-1)))) (h' := h) rfl ?_
          exact k0 (fun z => by omega)
        · refine qm_Rp.go 2 (c' := (7, [.int p, .int 0, .int 4], [.int 4, .int p], h)) rfl ?_
          refine hp_cgt (ix := p.toInt) (iy := 4) rfl rfl rfl (fun z5 => ?_) (fun z5 => ?_)
          · refine qm_Rp.go 1 (c' := (15, [.int p, .int 0, .int 4], [.int 0], h)) rfl ?_
            refine qm_Rp.rt (v := (some (.int 0))) (h' := h) rfl ?_
            refine qm_Rp.go 2 (c' := (38, [.ref 118, .int w, .int p, .int s], [.int (-1)], h)) rfl ?_
            refine qm_Rp.rt (v := (some (.int (-1)))) (h' := h) rfl ?_
            exact k0 (fun z => by omega)
          · refine qm_Rp.go 2 (c' := (15, [.int p, .int 0, .int 4], [.int 1], h)) rfl ?_
            refine qm_Rp.rt (v := (some (.int 1))) (h' := h) rfl ?_
            refine qm_Rp.go 4 (c' := (31, [.ref 118, .int w, .int p, .int s], [.int 5, .int 0, .int s], h)) rfl ?_
            refine qm_Rp.call (j := 270) (as := [.int s, .int 0, .int 5]) (c' := (34, [.ref 118, .int w, .int p, .int s], [], h)) rfl rfl ?_
            refine qm_Rp.go 2 (c' := (2, [.int s, .int 0, .int 5], [.int 0, .int s], h)) rfl ?_
            refine hp_clt (ix := s.toInt) (iy := 0) rfl rfl rfl (fun z6 => ?_) (fun z6 => ?_)
            · refine qm_Rp.go 1 (c' := (15, [.int s, .int 0, .int 5], [.int 0], h)) rfl ?_
              refine qm_Rp.rt (v := (some (.int 0))) (h' := h) rfl ?_
              refine qm_Rp.go 2 (c' := (38, [.ref 118, .int w, .int p, .int s], [.int (-1)], h)) rfl ?_
              refine qm_Rp.rt (v := (some (.int (-1)))) (h' := h) rfl ?_
              exact k0 (fun z => by omega)
            · refine qm_Rp.go 2 (c' := (7, [.int s, .int 0, .int 5], [.int 5, .int s], h)) rfl ?_
              refine hp_cgt (ix := s.toInt) (iy := 5) rfl rfl rfl (fun z7 => ?_) (fun z7 => ?_)
              · refine qm_Rp.go 1 (c' := (15, [.int s, .int 0, .int 5], [.int 0], h)) rfl ?_
                refine qm_Rp.rt (v := (some (.int 0))) (h' := h) rfl ?_
                refine qm_Rp.go 2 (c' := (38, [.ref 118, .int w, .int p, .int s], [.int (-1)], h)) rfl ?_
                refine qm_Rp.rt (v := (some (.int (-1)))) (h' := h) rfl ?_
                exact k0 (fun z => by omega)
              · refine qm_Rp.go 2 (c' := (15, [.int s, .int 0, .int 5], [.int 1], h)) rfl ?_
                refine qm_Rp.rt (v := (some (.int 1))) (h' := h) rfl ?_
                refine qm_Rp.go 2 (c' := (40, [.ref 118, .int w, .int p, .int s], [.ref 118], h)) rfl ?_
                refine hp_getr rfl (hH.1 118 (17, 105) rfl) rfl (hH.2 118 45 (some 146) rfl) ?_
                refine qm_Rp.go 1 (c' := (44, [.ref 118, .int w, .int p, .int s], [.ref 118, .ref 146], h)) rfl ?_
                refine hp_geti (v := n) rfl (hH.1 118 (17, 105) rfl) rfl q_n ?_
                refine qm_Rp.go 1 (c' := (48, [.ref 118, .int w, .int p, .int s], [.int w, .int n, .ref 146], h)) rfl ?_
                refine hp_ias rfl (hH.1 146 (0, 30) rfl) (fun ia_7 ib_7 => ?_)
                refine qm_Rp.go 1 (c' := (50, [.ref 118, .int w, .int p, .int s], [.ref 118], (h.1, qm_up h.2.1 146 n.toInt.toNat w, h.2.2.1, h.2.2.2))) rfl ?_
                refine hp_getr rfl (hH.1 118 (17, 105) rfl) rfl (hH.2 118 46 (some 147) rfl) ?_
                refine qm_Rp.go 1 (c' := (54, [.ref 118, .int w, .int p, .int s], [.ref 118, .ref 147], (h.1, qm_up h.2.1 146 n.toInt.toNat w, h.2.2.1, h.2.2.2))) rfl ?_
                refine hp_geti (v := n) rfl (hH.1 118 (17, 105) rfl) rfl (show (qm_up h.2.1 146 n.toInt.toNat w) 118 44 = _ from ((hk_ot rfl).trans q_n)) ?_
                refine qm_Rp.go 1 (c' := (58, [.ref 118, .int w, .int p, .int s], [.int p, .int n, .ref 147], (h.1, qm_up h.2.1 146 n.toInt.toNat w, h.2.2.1, h.2.2.2))) rfl ?_
                refine hp_ias rfl (hH.1 147 (0, 30) rfl) (fun ia_8 ib_8 => ?_)
                refine qm_Rp.go 1 (c' := (60, [.ref 118, .int w, .int p, .int s], [.ref 118], (h.1, qm_up (qm_up h.2.1 146 n.toInt.toNat w) 147 n.toInt.toNat p, h.2.2.1, h.2.2.2))) rfl ?_
                refine hp_getr rfl (hH.1 118 (17, 105) rfl) rfl (hH.2 118 47 (some 148) rfl) ?_
                refine qm_Rp.go 1 (c' := (64, [.ref 118, .int w, .int p, .int s], [.ref 118, .ref 148], (h.1, qm_up (qm_up h.2.1 146 n.toInt.toNat w) 147 n.toInt.toNat p, h.2.2.1, h.2.2.2))) rfl ?_
                refine hp_geti (v := n) rfl (hH.1 118 (17, 105) rfl) rfl (show (qm_up (qm_up h.2.1 146 n.toInt.toNat w) 147 n.toInt.toNat p) 118 44 = _ from ((hk_ot rfl).trans ((hk_ot rfl).trans q_n))) ?_
                refine qm_Rp.go 1 (c' := (68, [.ref 118, .int w, .int p, .int s], [.int s, .int n, .ref 148], (h.1, qm_up (qm_up h.2.1 146 n.toInt.toNat w) 147 n.toInt.toNat p, h.2.2.1, h.2.2.2))) rfl ?_
                refine hp_ias rfl (hH.1 148 (0, 30) rfl) (fun ia_9 ib_9 => ?_)
                refine qm_Rp.go 1 (c' := (70, [.ref 118, .int w, .int p, .int s], [.ref 118], (h.1, qm_up (qm_up (qm_up h.2.1 146 n.toInt.toNat w) 147 n.toInt.toNat p) 148 n.toInt.toNat s, h.2.2.1, h.2.2.2))) rfl ?_
                refine hp_getr rfl (hH.1 118 (17, 105) rfl) rfl (hH.2 118 48 (some 149) rfl) ?_
                refine qm_Rp.go 1 (c' := (74, [.ref 118, .int w, .int p, .int s], [.ref 118, .ref 149], (h.1, qm_up (qm_up (qm_up h.2.1 146 n.toInt.toNat w) 147 n.toInt.toNat p) 148 n.toInt.toNat s, h.2.2.1, h.2.2.2))) rfl ?_
                refine hp_geti (v := n) rfl (hH.1 118 (17, 105) rfl) rfl (show (qm_up (qm_up (qm_up h.2.1 146 n.toInt.toNat w) 147 n.toInt.toNat p) 148 n.toInt.toNat s) 118 44 = _ from ((hk_ot rfl).trans ((hk_ot rfl).trans ((hk_ot rfl).trans q_n)))) ?_
                refine qm_Rp.go 1 (c' := (78, [.ref 118, .int w, .int p, .int s], [.int 0, .int n, .ref 149], (h.1, qm_up (qm_up (qm_up h.2.1 146 n.toInt.toNat w) 147 n.toInt.toNat p) 148 n.toInt.toNat s, h.2.2.1, h.2.2.2))) rfl ?_
                refine hp_bas rfl (hH.1 149 (2, 30) rfl) rfl (fun ia_10 ib_10 => ?_)
                refine qm_Rp.go 1 (c' := (80, [.ref 118, .int w, .int p, .int s], [.ref 118], (h.1, qm_up (qm_up (qm_up (qm_up h.2.1 146 n.toInt.toNat w) 147 n.toInt.toNat p) 148 n.toInt.toNat s) 149 n.toInt.toNat 0, h.2.2.1, h.2.2.2))) rfl ?_
                refine hp_getr rfl (hH.1 118 (17, 105) rfl) rfl (hH.2 118 49 (some 150) rfl) ?_
                refine qm_Rp.go 1 (c' := (84, [.ref 118, .int w, .int p, .int s], [.ref 118, .ref 150], (h.1, qm_up (qm_up (qm_up (qm_up h.2.1 146 n.toInt.toNat w) 147 n.toInt.toNat p) 148 n.toInt.toNat s) 149 n.toInt.toNat 0, h.2.2.1, h.2.2.2))) rfl ?_
                refine hp_geti (v := n) rfl (hH.1 118 (17, 105) rfl) rfl (show (qm_up (qm_up (qm_up (qm_up h.2.1 146 n.toInt.toNat w) 147 n.toInt.toNat p) 148 n.toInt.toNat s) 149 n.toInt.toNat 0) 118 44 = _ from ((hk_ot rfl).trans ((hk_ot rfl).trans ((hk_ot rfl).trans ((hk_ot rfl).trans q_n))))) ?_
                refine qm_Rp.go 1 (c' := (88, [.ref 118, .int w, .int p, .int s], [.int 0, .int n, .ref 150], (h.1, qm_up (qm_up (qm_up (qm_up h.2.1 146 n.toInt.toNat w) 147 n.toInt.toNat p) 148 n.toInt.toNat s) 149 n.toInt.toNat 0, h.2.2.1, h.2.2.2))) rfl ?_
                refine hp_ias rfl (hH.1 150 (0, 30) rfl) (fun ia_11 ib_11 => ?_)
                refine qm_Rp.go 2 (c' := (91, [.ref 118, .int w, .int p, .int s], [.ref 118, .ref 118], (h.1, qm_up (qm_up (qm_up (qm_up (qm_up h.2.1 146 n.toInt.toNat w) 147 n.toInt.toNat p) 148 n.toInt.toNat s) 149 n.toInt.toNat 0) 150 n.toInt.toNat 0, h.2.2.1, h.2.2.2))) rfl ?_
                refine hp_geti (v := n) rfl (hH.1 118 (17, 105) rfl) rfl (show (qm_up (qm_up (qm_up (qm_up (qm_up h.2.1 146 n.toInt.toNat w) 147 n.toInt.toNat p) 148 n.toInt.toNat s) 149 n.toInt.toNat 0) 150 n.toInt.toNat 0) 118 44 = _ from ((hk_ot rfl).trans ((hk_ot rfl).trans ((hk_ot rfl).trans ((hk_ot rfl).trans ((hk_ot rfl).trans q_n)))))) ?_
                refine qm_Rp.go 2 (c' := (96, [.ref 118, .int w, .int p, .int s], [.int (n + 1), .ref 118], (h.1, qm_up (qm_up (qm_up (qm_up (qm_up h.2.1 146 n.toInt.toNat w) 147 n.toInt.toNat p) 148 n.toInt.toNat s) 149 n.toInt.toNat 0) 150 n.toInt.toNat 0, h.2.2.1, h.2.2.2))) rfl ?_
                obtain ⟨v13, q_v13, e_v13⟩ := hk_add (x := n) (y := 1) (a := n.toInt) (b := 1) rfl rfl (by omega) (by omega)
                rw [q_v13]
                refine hp_puti rfl (hH.1 118 (17, 105) rfl) rfl ?_
                refine qm_Rp.go 1 (c' := (100, [.ref 118, .int w, .int p, .int s], [.ref 118], (h.1, qm_up (qm_up (qm_up (qm_up (qm_up (qm_up h.2.1 146 n.toInt.toNat w) 147 n.toInt.toNat p) 148 n.toInt.toNat s) 149 n.toInt.toNat 0) 150 n.toInt.toNat 0) 118 44 v13, h.2.2.1, h.2.2.2))) rfl ?_
                refine hp_geti (v := v13) rfl (hH.1 118 (17, 105) rfl) rfl (show (qm_up (qm_up (qm_up (qm_up (qm_up (qm_up h.2.1 146 n.toInt.toNat w) 147 n.toInt.toNat p) 148 n.toInt.toNat s) 149 n.toInt.toNat 0) 150 n.toInt.toNat 0) 118 44 v13) 118 44 = _ from (hk_same)) ?_
                refine qm_Rp.go 2 (c' := (105, [.ref 118, .int w, .int p, .int s], [.int (v13 - 1)], (h.1, qm_up (qm_up (qm_up (qm_up (qm_up (qm_up h.2.1 146 n.toInt.toNat w) 147 n.toInt.toNat p) 148 n.toInt.toNat s) 149 n.toInt.toNat 0) 150 n.toInt.toNat 0) 118 44 v13, h.2.2.1, h.2.2.2))) rfl ?_
                obtain ⟨v14, q_v14, e_v14⟩ := hk_sub (x := v13) (y := 1) (a := v13.toInt) (b := 1) rfl rfl (by omega) (by omega)
                rw [q_v14]
                refine qm_Rp.rt (v := (some (.int v14))) (h' := (h.1, qm_up (qm_up (qm_up (qm_up (qm_up (qm_up h.2.1 146 n.toInt.toNat w) 147 n.toInt.toNat p) 148 n.toInt.toNat s) 149 n.toInt.toNat 0) 150 n.toInt.toNat 0) 118 44 v13, h.2.2.1, h.2.2.2)) rfl ?_
                have er : v14 = n := hk_eqi.mpr (by omega)
                rw [er]
                exact k1 (qm_up (qm_up (qm_up (qm_up (qm_up (qm_up h.2.1 146 n.toInt.toNat w) 147 n.toInt.toNat p) 148 n.toInt.toNat s) 149 n.toInt.toNat 0) 150 n.toInt.toNat 0) 118 44 v13) v13 ⟨by omega, by omega, by omega, by omega, by omega, by omega, by omega⟩ (fun o ho i => ((hk_mod ho rfl).trans ((hk_mod ho rfl).trans ((hk_mod ho rfl).trans ((hk_mod ho rfl).trans ((hk_mod ho rfl).trans ((hk_mod ho rfl).trans rfl))))))) (fun i hi => ((hk_neq (fun z => by subst z; cases hi)).trans ((hk_ot rfl).trans ((hk_ot rfl).trans ((hk_ot rfl).trans ((hk_ot rfl).trans ((hk_ot rfl).trans rfl))))))) (show (qm_up (qm_up (qm_up (qm_up (qm_up (qm_up h.2.1 146 n.toInt.toNat w) 147 n.toInt.toNat p) 148 n.toInt.toNat s) 149 n.toInt.toNat 0) 150 n.toInt.toNat 0) 118 44 v13) 118 44 = _ from (hk_same)) (by omega) ((pI_sk rfl).trans ((pI_sk rfl).trans ((pI_sk rfl).trans ((pI_sk rfl).trans ((pI_sk rfl).trans pI_up))))) ((pI_sk rfl).trans ((pI_sk rfl).trans ((pI_sk rfl).trans ((pI_sk rfl).trans (pI_up.trans (congrArg (fun f => fu_up f (n.toInt.toNat) (Int32.toInt p)) (pI_sk rfl))))))) ((pI_sk rfl).trans ((pI_sk rfl).trans ((pI_sk rfl).trans (pI_up.trans (congrArg (fun f => fu_up f (n.toInt.toNat) (Int32.toInt s)) ((pI_sk rfl).trans (pI_sk rfl))))))) ((pI_sk rfl).trans ((pI_sk rfl).trans (pI_up.trans (congrArg (fun f => fu_up f (n.toInt.toNat) (Int32.toInt 0)) ((pI_sk rfl).trans ((pI_sk rfl).trans (pI_sk rfl))))))) ((pI_sk rfl).trans (pI_up.trans (congrArg (fun f => fu_up f (n.toInt.toNat) (Int32.toInt 0)) ((pI_sk rfl).trans ((pI_sk rfl).trans ((pI_sk rfl).trans (pI_sk rfl)))))))
theorem px_cst {X : Option (Nat × (Nat → Int32))} {Z : Option Value → qm_H → Prop} {h : qm_H} {fu : Nat} (hH : hk_H h) {n b g : Int32} (q_n : h.2.1 6 0 = n) (hn : 0 ≤ n.toInt ∧ n.toInt ≤ 30) (hi4 : ∀ i, (0 : Int) ≤ (h.2.1 17 i).toInt ∧ (h.2.1 17 i).toInt ≤ 4) (k0 : ¬ (0 ≤ b.toInt ∧ b.toInt < n.toInt ∧ 0 ≤ g.toInt ∧ g.toInt ≤ 3 ∧ pI h.2.1 11 b.toInt.toNat = 0 ∧ pI h.2.1 17 g.toInt.toNat ≤ 3) → Z (some (.int (-1))) h) (k1 : ∀ (I : Nat → Nat → Int32) (r : Int32), (0 ≤ b.toInt ∧ b.toInt < n.toInt ∧ 0 ≤ g.toInt ∧ g.toInt ≤ 3 ∧ pI h.2.1 11 b.toInt.toNat = 0 ∧ pI h.2.1 17 g.toInt.toNat ≤ 3) → (∀ o, [11, 12, 13, 14, 16, 17].contains o = false → ∀ i, I o i = h.2.1 o i) → r.toInt = (pI h.2.1 17 g.toInt.toNat) → pI I 11 = fu_up (pI h.2.1 11) (b.toInt.toNat) (2 : Int32).toInt → pI I 12 = fu_up (pI h.2.1 12) (b.toInt.toNat) g.toInt → pI I 13 = fu_up (pI h.2.1 13) (b.toInt.toNat) (-1 : Int32).toInt → pI I 14 = fu_up (pI h.2.1 14) (b.toInt.toNat) (pI h.2.1 17 g.toInt.toNat) → pI I 16 = fu_up (pI h.2.1 16) (4 * g.toInt + (pI h.2.1 17 g.toInt.toNat)).toNat b.toInt → pI I 17 = fu_up (pI h.2.1 17) g.toInt.toNat ((pI h.2.1 17 g.toInt.toNat) + 1) → Z (some (.int r)) (h.1, I, h.2.2.1, h.2.2.2)) : qm_Rp fu X cd_76 (qm_ent 3 [.ref 0, .int b, .int g] h) Z := by
  refine qm_Rp.go 0 (c' := (0, [.ref 0, .int b, .int g], [], h)) rfl ?_
  have kz0 : (0 : Int32).toInt = 0 := rfl
  have kz1 : (1 : Int32).toInt = 1 := rfl
  have kz2 : (2 : Int32).toInt = 2 := rfl
  have kz3 : (3 : Int32).toInt = 3 := rfl
  have kz4 : (4 : Int32).toInt = 4 := rfl
  have kz5 : (5 : Int32).toInt = 5 := rfl
  have kz6 : (6 : Int32).toInt = 6 := rfl
  have kz7 : (7 : Int32).toInt = 7 := rfl
  have kz8 : (8 : Int32).toInt = 8 := rfl
  have kz9 : (9 : Int32).toInt = 9 := rfl
  have kzm1 : ((-1) : Int32).toInt = (-1) := rfl
  have kzm2 : ((-2) : Int32).toInt = (-2) := rfl
  have kzm3 : ((-3) : Int32).toInt = (-3) := rfl
  refine qm_Rp.go 1 (c' := (1, [.ref 0, .int b, .int g], [.ref 0], h)) rfl ?_
  refine hp_getr rfl (hH.1 0 (16, 10) rfl) rfl (hH.2 0 2 (some 6) rfl) ?_
  refine qm_Rp.go 1 (c' := (5, [.ref 0, .int b, .int g], [.int b, .ref 6], h)) rfl ?_
  refine hp_inv (o := 6) (r := []) (as := [.ref 6, .int b]) rfl rfl (hH.1 6 (6, 9) rfl) rfl rfl rfl ?_
  refine qm_Rp.go 2 (c' := (2, [.ref 6, .int b], [.int b, .ref 6], h)) rfl ?_
  refine hp_inv (o := 6) (r := []) (as := [.ref 6, .int b]) rfl rfl (hH.1 6 (6, 9) rfl) rfl rfl rfl ?_
  refine qm_Rp.go 1 (c' := (1, [.ref 6, .int b], [.int b], h)) rfl ?_
  refine hp_zlt (ix := b.toInt) rfl rfl (fun z1 => ?_) (fun z1 => ?_)
  · refine qm_Rp.go 1 (c' := (17, [.ref 6, .int b], [.int 0], h)) rfl ?_
    refine qm_Rp.rt (v := (some (.int 0))) (h' := h) rfl ?_
    refine qm_Rp.go 2 (c' := (22, [.ref 6, .int b], [.int 0], h)) rfl ?_
    refine qm_Rp.rt (v := (some (.int 0))) (h' := h) rfl ?_
    refine qm_Rp.go 2 (c' := (32, [.ref 0, .int b, .int g], [.int (-1)], h)) rfl ?_
    refine qm_Rp.rt (v := (some (.int (-1)))) (h' := h) rfl ?_
    exact k0 (fun z => by omega)
  · refine qm_Rp.go 2 (c' := (6, [.ref 6, .int b], [.ref 6, .int b], h)) rfl ?_
    refine hp_geti (v := n) rfl (hH.1 6 (6, 9) rfl) rfl q_n ?_
    refine qm_Rp.go 0 (c' := (9, [.ref 6, .int b], [.int n, .int b], h)) rfl ?_
    refine hp_cge (ix := b.toInt) (iy := n.toInt) rfl rfl rfl (fun z2 => ?_) (fun z2 => ?_)
    · refine qm_Rp.go 1 (c' := (17, [.ref 6, .int b], [.int 0], h)) rfl ?_
      refine qm_Rp.rt (v := (some (.int 0))) (h' := h) rfl ?_
      refine qm_Rp.go 2 (c' := (22, [.ref 6, .int b], [.int 0], h)) rfl ?_
      refine qm_Rp.rt (v := (some (.int 0))) (h' := h) rfl ?_
      refine qm_Rp.go 2 (c' := (32, [.ref 0, .int b, .int g], [.int (-1)], h)) rfl ?_
      refine qm_Rp.rt (v := (some (.int (-1)))) (h' := h) rfl ?_
      exact k0 (fun z => by omega)
    · refine qm_Rp.go 2 (c' := (17, [.ref 6, .int b], [.int 1], h)) rfl ?_
      refine qm_Rp.rt (v := (some (.int 1))) (h' := h) rfl ?_
      refine qm_Rp.go 2 (c' := (9, [.ref 6, .int b], [.ref 6], h)) rfl ?_
      refine hp_getr rfl (hH.1 6 (6, 9) rfl) rfl (hH.2 6 5 (some 11) rfl) ?_
      refine qm_Rp.go 1 (c' := (13, [.ref 6, .int b], [.int b, .ref 11], h)) rfl ?_
      obtain ⟨v3, q_v3⟩ : ∃ v_, h.2.1 11 b.toInt.toNat = v_ := ⟨_, rfl⟩
      refine hp_ial (v := v3) rfl (hH.1 11 (0, 30) rfl) q_v3 (fun ia_3 ib_3 => ?_)
      refine qm_Rp.go 0 (c' := (14, [.ref 6, .int b], [.int v3], h)) rfl ?_
      have ew : pI h.2.1 11 b.toInt.toNat = v3.toInt := congrArg Int32.toInt q_v3
      refine hp_zne (ix := v3.toInt) rfl rfl (fun z5 => ?_) (fun z5 => ?_)
      · refine qm_Rp.go 1 (c' := (22, [.ref 6, .int b], [.int 0], h)) rfl ?_
        refine qm_Rp.rt (v := (some (.int 0))) (h' := h) rfl ?_
        refine qm_Rp.go 2 (c' := (32, [.ref 0, .int b, .int g], [.int (-1)], h)) rfl ?_
        refine qm_Rp.rt (v := (some (.int (-1)))) (h' := h) rfl ?_
        exact k0 (fun z => by omega)
      · refine qm_Rp.go 2 (c' := (22, [.ref 6, .int b], [.int 1], h)) rfl ?_
        refine qm_Rp.rt (v := (some (.int 1))) (h' := h) rfl ?_
        refine qm_Rp.go 3 (c' := (13, [.ref 0, .int b, .int g], [.int 4, .int g], h)) rfl ?_
        refine qm_Rp.call (j := 65) (as := [.int g, .int 4]) (c' := (16, [.ref 0, .int b, .int g], [], h)) rfl rfl ?_
        refine qm_Rp.go 1 (c' := (1, [.int g, .int 4], [.int g], h)) rfl ?_
        refine hp_zlt (ix := g.toInt) rfl rfl (fun z6 => ?_) (fun z6 => ?_)
        · refine qm_Rp.go 1 (c' := (14, [.int g, .int 4], [.int 0], h)) rfl ?_
          refine qm_Rp.rt (v := (some (.int 0))) (h' := h) rfl ?_
          refine qm_Rp.go 2 (c' := (32, [.ref 0, .int b, .int g], [.int (-1)], h)) rfl ?_
          refine qm_Rp.rt (v := (some (.int (-1)))) (h' := h) rfl ?_
          exact k0 (fun z => by omega)
        · refine qm_Rp.go 2 (c' := (6, [.int g, .int 4], [.int 4, .int g], h)) rfl ?_
          refine hp_cge (ix := g.toInt) (iy := 4) rfl rfl rfl (fun z7 => ?_) (fun z7 => ?_)
          · refine qm_Rp.go 1 (c' := (14, [.int g, .int 4], [.int 0], h)) rfl ?_
            refine qm_Rp.rt (v := (some (.int 0))) (h' := h) rfl ?_
            refine qm_Rp.go 2 (c' := (32, [.ref 0, .int b, .int g], [.int (-1)], h)) rfl ?_
            refine qm_Rp.rt (v := (some (.int (-1)))) (h' := h) rfl ?_
            exact k0 (fun z => by omega)
          · refine qm_Rp.go 2 (c' := (14, [.int g, .int 4], [.int 1], h)) rfl ?_
            refine qm_Rp.rt (v := (some (.int 1))) (h' := h) rfl ?_
            refine qm_Rp.go 2 (c' := (20, [.ref 0, .int b, .int g], [.ref 0], h)) rfl ?_
            refine hp_getr rfl (hH.1 0 (16, 10) rfl) rfl (hH.2 0 3 (some 15) rfl) ?_
            refine qm_Rp.go 1 (c' := (24, [.ref 0, .int b, .int g], [.int g, .ref 15], h)) rfl ?_
            refine hp_inv (o := 15) (r := []) (as := [.ref 15, .int g]) rfl rfl (hH.1 15 (15, 8) rfl) rfl rfl rfl ?_
            refine qm_Rp.go 2 (c' := (2, [.ref 15, .int g], [.ref 15, .int 4], h)) rfl ?_
            refine hp_getr rfl (hH.1 15 (15, 8) rfl) rfl (hH.2 15 2 (some 17) rfl) ?_
            refine qm_Rp.go 1 (c' := (6, [.ref 15, .int g], [.int g, .ref 17, .int 4], h)) rfl ?_
            obtain ⟨v8, q_v8⟩ : ∃ v_, h.2.1 17 g.toInt.toNat = v_ := ⟨_, rfl⟩
            refine hp_ial (v := v8) rfl (hH.1 17 (0, 4) rfl) q_v8 (fun ia_8 ib_8 => ?_)
            refine qm_Rp.go 0 (c' := (7, [.ref 15, .int g], [.int v8, .int 4], h)) rfl ?_
            have eh : pI h.2.1 17 g.toInt.toNat = v8.toInt := congrArg Int32.toInt q_v8
            have bh := hi4 g.toInt.toNat
            rw [show (h.2.1 17 g.toInt.toNat).toInt = v8.toInt from eh] at bh
            refine qm_Rp.go 1 (c' := (8, [.ref 15, .int g], [.int (4 - v8)], h)) rfl ?_
            obtain ⟨v10, q_v10, e_v10⟩ := hk_sub (x := 4) (y := v8) (a := 4) (b := v8.toInt) rfl rfl (by omega) (by omega)
            rw [q_v10]
            refine qm_Rp.rt (v := (some (.int v10))) (h' := h) rfl ?_
            refine qm_Rp.go 1 (c' := (28, [.ref 0, .int b, .int g], [.int 1, .int v10], h)) rfl ?_
            refine hp_cge (ix := v10.toInt) (iy := 1) rfl rfl rfl (fun z11 => ?_) (fun z11 => ?_)
            · refine qm_Rp.go 1 (c' := (34, [.ref 0, .int b, .int g], [.ref 0], h)) rfl ?_
              refine hp_getr rfl (hH.1 0 (16, 10) rfl) rfl (hH.2 0 3 (some 15) rfl) ?_
              refine qm_Rp.go 2 (c' := (39, [.ref 0, .int b, .int g], [.int g, .int b, .ref 15], h)) rfl ?_
              refine hp_inv (o := 15) (r := []) (as := [.ref 15, .int b, .int g]) rfl rfl (hH.1 15 (15, 8) rfl) rfl rfl rfl (px_cyp (h := h) hH (v := v8) ⟨by omega, by omega⟩ q_v8 ⟨by omega, by omega⟩ (fun I12 f x11 x12 x13 x14 x16 x17 => ?_))
              rw [← eh] at x14 x16 x17
              refine qm_Rp.go 0 (c' := (42, [.ref 0, .int b, .int g], [.int v8], (h.1, I12, h.2.2.1, h.2.2.2))) rfl ?_
              refine qm_Rp.rt (v := (some (.int v8))) (h' := (h.1, I12, h.2.2.1, h.2.2.2)) rfl ?_
              exact k1 I12 v8 ⟨by omega, by omega, by omega, by omega, by omega, by omega⟩ f (by rw [eh]) x11 x12 x13 x14 x16 x17
            · refine qm_Rp.go 1 (c' := (32, [.ref 0, .int b, .int g], [.int (-1)], h)) rfl ?_
              refine qm_Rp.rt (v := (some (.int (-1)))) (h' := h) rfl ?_
              exact k0 (fun z => by omega)
theorem px_rst_ {X : Option (Nat × (Nat → Int32))} {Z : Option Value → qm_H → Prop} {h : qm_H} {fu : Nat} (hH : hk_H h) {n b g : Int32} (q_n : h.2.1 118 44 = n) (hn : 0 ≤ n.toInt ∧ n.toInt ≤ 30) (hi4 : ∀ i, (0 : Int) ≤ (h.2.1 154 i).toInt ∧ (h.2.1 154 i).toInt ≤ 4) (k0 : ¬ (0 ≤ b.toInt ∧ b.toInt < n.toInt ∧ 0 ≤ g.toInt ∧ g.toInt ≤ 3 ∧ pI h.2.1 150 b.toInt.toNat = 0 ∧ pI h.2.1 154 g.toInt.toNat ≤ 3) → Z (some (.int (-1))) h) (k1 : ∀ (I : Nat → Nat → Int32) (r : Int32), (0 ≤ b.toInt ∧ b.toInt < n.toInt ∧ 0 ≤ g.toInt ∧ g.toInt ≤ 3 ∧ pI h.2.1 150 b.toInt.toNat = 0 ∧ pI h.2.1 154 g.toInt.toNat ≤ 3) → (∀ o, [150, 151, 153, 154].contains o = false → ∀ i, I o i = h.2.1 o i) → r.toInt = (pI h.2.1 154 g.toInt.toNat) → pI I 150 = fu_up (pI h.2.1 150) (b.toInt.toNat) (2 : Int32).toInt → pI I 151 = fu_up (pI h.2.1 151) (b.toInt.toNat) (4 * g.toInt + (pI h.2.1 154 g.toInt.toNat)) → pI I 153 = fu_up (pI h.2.1 153) (4 * g.toInt + (pI h.2.1 154 g.toInt.toNat)).toNat b.toInt → pI I 154 = fu_up (pI h.2.1 154) g.toInt.toNat ((pI h.2.1 154 g.toInt.toNat) + 1) → Z (some (.int r)) (h.1, I, h.2.2.1, h.2.2.2)) : qm_Rp fu X cd_277 (qm_ent 3 [.ref 118, .int b, .int g] h) Z := by
  refine qm_Rp.go 0 (c' := (0, [.ref 118, .int b, .int g], [], h)) rfl ?_
  have kz0 : (0 : Int32).toInt = 0 := rfl
  have kz1 : (1 : Int32).toInt = 1 := rfl
  have kz2 : (2 : Int32).toInt = 2 := rfl
  have kz3 : (3 : Int32).toInt = 3 := rfl
  have kz4 : (4 : Int32).toInt = 4 := rfl
  have kz5 : (5 : Int32).toInt = 5 := rfl
  have kz6 : (6 : Int32).toInt = 6 := rfl
  have kz7 : (7 : Int32).toInt = 7 := rfl
  have kz8 : (8 : Int32).toInt = 8 := rfl
  have kz9 : (9 : Int32).toInt = 9 := rfl
  have kzm1 : ((-1) : Int32).toInt = (-1) := rfl
  have kzm2 : ((-2) : Int32).toInt = (-2) := rfl
  have kzm3 : ((-3) : Int32).toInt = (-3) := rfl
  refine qm_Rp.go 2 (c' := (2, [.ref 118, .int b, .int g], [.int b, .ref 118], h)) rfl ?_
  refine hp_inv (o := 118) (r := []) (as := [.ref 118, .int b]) rfl rfl (hH.1 118 (17, 105) rfl) rfl rfl rfl ?_
  refine qm_Rp.go 3 (c' := (3, [.ref 118, .int b], [.ref 118, .int 0, .int b], h)) rfl ?_
  refine hp_geti (v := n) rfl (hH.1 118 (17, 105) rfl) rfl q_n ?_
  refine qm_Rp.go 2 (c' := (8, [.ref 118, .int b], [.int (n - 1), .int 0, .int b], h)) rfl ?_
  obtain ⟨v1, q_v1, e_v1⟩ := hk_sub (x := n) (y := 1) (a := n.toInt) (b := 1) rfl rfl (by omega) (by omega)
  rw [q_v1]
  refine qm_Rp.call (j := 270) (as := [.int b, .int 0, .int v1]) (c' := (11, [.ref 118, .int b], [], h)) rfl rfl ?_
  refine qm_Rp.go 2 (c' := (2, [.int b, .int 0, .int v1], [.int 0, .int b], h)) rfl ?_
  refine hp_clt (ix := b.toInt) (iy := 0) rfl rfl rfl (fun z2 => ?_) (fun z2 => ?_)
  · refine qm_Rp.go 1 (c' := (15, [.int b, .int 0, .int v1], [.int 0], h)) rfl ?_
    refine qm_Rp.rt (v := (some (.int 0))) (h' := h) rfl ?_
    refine qm_Rp.go 0 (c' := (11, [.ref 118, .int b], [.int 0], h)) rfl ?_
    refine qm_Rp.rt (v := (some (.int 0))) (h' := h) rfl ?_
    refine qm_Rp.go 2 (c' := (35, [.ref 118, .int b, .int g], [.int (-1)], h)) rfl ?_
    refine qm_Rp.rt (v := (some (.int (-1)))) (h' := h) rfl ?_
    exact k0 (fun z => by omega)
  · refine qm_Rp.go 2 (c' := (7, [.int b, .int 0, .int v1], [.int v1, .int b], h)) rfl ?_
    refine hp_cgt (ix := b.toInt) (iy := v1.toInt) rfl rfl rfl (fun z3 => ?_) (fun z3 => ?_)
    · refine qm_Rp.go 1 (c' := (15, [.int b, .int 0, .int v1], [.int 0], h)) rfl ?_
      refine qm_Rp.rt (v := (some (.int 0))) (h' := h) rfl ?_
      refine qm_Rp.go 0 (c' := (11, [.ref 118, .int b], [.int 0], h)) rfl ?_
      refine qm_Rp.rt (v := (some (.int 0))) (h' := h) rfl ?_
      refine qm_Rp.go 2 (c' := (35, [.ref 118, .int b, .int g], [.int (-1)], h)) rfl ?_
      refine qm_Rp.rt (v := (some (.int (-1)))) (h' := h) rfl ?_
      exact k0 (fun z => by omega)
    · refine qm_Rp.go 2 (c' := (15, [.int b, .int 0, .int v1], [.int 1], h)) rfl ?_
      refine qm_Rp.rt (v := (some (.int 1))) (h' := h) rfl ?_
      refine qm_Rp.go 0 (c' := (11, [.ref 118, .int b], [.int 1], h)) rfl ?_
      refine qm_Rp.rt (v := (some (.int 1))) (h' := h) rfl ?_
      refine qm_Rp.go 2 (c' := (9, [.ref 118, .int b, .int g], [.int g], h)) rfl ?_
      refine qm_Rp.call (j := 278) (as := [.int g]) (c' := (12, [.ref 118, .int b, .int g], [], h)) rfl rfl ?_
      refine qm_Rp.go 3 (c' := (3, [.int g], [.int 3, .int 0, .int g], h)) rfl ?_
      refine qm_Rp.call (j := 270) (as := [.int g, .int 0, .int 3]) (c' := (6, [.int g], [], h)) rfl rfl ?_
      refine qm_Rp.go 2 (c' := (2, [.int g, .int 0, .int 3], [.int 0, .int g], h)) rfl ?_
      refine hp_clt (ix := g.toInt) (iy := 0) rfl rfl rfl (fun z4 => ?_) (fun z4 => ?_)
      · refine qm_Rp.go 1 (c' := (15, [.int g, .int 0, .int 3], [.int 0], h)) rfl ?_
        refine qm_Rp.rt (v := (some (.int 0))) (h' := h) rfl ?_
        refine qm_Rp.go 0 (c' := (6, [.int g], [.int 0], h)) rfl ?_
        refine qm_Rp.rt (v := (some (.int 0))) (h' := h) rfl ?_
        refine qm_Rp.go 2 (c' := (35, [.ref 118, .int b, .int g], [.int (-1)], h)) rfl ?_
        refine qm_Rp.rt (v := (some (.int (-1)))) (h' := h) rfl ?_
        exact k0 (fun z => by omega)
      · refine qm_Rp.go 2 (c' := (7, [.int g, .int 0, .int 3], [.int 3, .int g], h)) rfl ?_
        refine hp_cgt (ix := g.toInt) (iy := 3) rfl rfl rfl (fun z5 => ?_) (fun z5 => ?_)
        · refine qm_Rp.go 1 (c' := (15, [.int g, .int 0, .int 3], [.int 0], h)) rfl ?_
          refine qm_Rp.rt (v := (some (.int 0))) (h' := h) rfl ?_
          refine qm_Rp.go 0 (c' := (6, [.int g], [.int 0], h)) rfl ?_
          refine qm_Rp.rt (v := (some (.int 0))) (h' := h) rfl ?_
          refine qm_Rp.go 2 (c' := (35, [.ref 118, .int b, .int g], [.int (-1)], h)) rfl ?_
          refine qm_Rp.rt (v := (some (.int (-1)))) (h' := h) rfl ?_
          exact k0 (fun z => by omega)
        · refine qm_Rp.go 2 (c' := (15, [.int g, .int 0, .int 3], [.int 1], h)) rfl ?_
          refine qm_Rp.rt (v := (some (.int 1))) (h' := h) rfl ?_
          refine qm_Rp.go 0 (c' := (6, [.int g], [.int 1], h)) rfl ?_
          refine qm_Rp.rt (v := (some (.int 1))) (h' := h) rfl ?_
          refine qm_Rp.go 2 (c' := (16, [.ref 118, .int b, .int g], [.ref 118], h)) rfl ?_
          refine hp_getr rfl (hH.1 118 (17, 105) rfl) rfl (hH.2 118 49 (some 150) rfl) ?_
          refine qm_Rp.go 1 (c' := (20, [.ref 118, .int b, .int g], [.int b, .ref 150], h)) rfl ?_
          obtain ⟨v6, q_v6⟩ : ∃ v_, h.2.1 150 b.toInt.toNat = v_ := ⟨_, rfl⟩
          refine hp_ial (v := v6) rfl (hH.1 150 (0, 30) rfl) q_v6 (fun ia_6 ib_6 => ?_)
          refine qm_Rp.go 0 (c' := (21, [.ref 118, .int b, .int g], [.int v6], h)) rfl ?_
          have ew : pI h.2.1 150 b.toInt.toNat = v6.toInt := congrArg Int32.toInt q_v6
          refine hp_zne (ix := v6.toInt) rfl rfl (fun z8 => ?_) (fun z8 => ?_)
          · refine qm_Rp.go 1 (c' := (35, [.ref 118, .int b, .int g], [.int (-1)], h)) rfl ?_
            refine qm_Rp.rt (v := (some (.int (-1)))) (h' := h) rfl ?_
            exact k0 (fun z => by omega)
          · refine qm_Rp.go 1 (c' := (25, [.ref 118, .int b, .int g], [.ref 118], h)) rfl ?_
            refine hp_getr rfl (hH.1 118 (17, 105) rfl) rfl (hH.2 118 53 (some 154) rfl) ?_
            refine qm_Rp.go 1 (c' := (29, [.ref 118, .int b, .int g], [.int g, .ref 154], h)) rfl ?_
            obtain ⟨v9, q_v9⟩ : ∃ v_, h.2.1 154 g.toInt.toNat = v_ := ⟨_, rfl⟩
            refine hp_ial (v := v9) rfl (hH.1 154 (0, 4) rfl) q_v9 (fun ia_9 ib_9 => ?_)
            refine qm_Rp.go 0 (c' := (30, [.ref 118, .int b, .int g], [.int v9], h)) rfl ?_
            have eh : pI h.2.1 154 g.toInt.toNat = v9.toInt := congrArg Int32.toInt q_v9
            have bh := hi4 g.toInt.toNat
            rw [show (h.2.1 154 g.toInt.toNat).toInt = v9.toInt from eh] at bh
            refine qm_Rp.go 1 (c' := (31, [.ref 118, .int b, .int g], [.int 4, .int v9], h)) rfl ?_
            refine hp_cne (ix := v9.toInt) (iy := 4) rfl rfl rfl (fun z11 => ?_) (fun z11 => ?_)
            · refine qm_Rp.go 3 (c' := (39, [.ref 118, .int b, .int g], [.int g, .int b, .ref 118], h)) rfl ?_
              refine hp_inv (o := 118) (r := []) (as := [.ref 118, .int b, .int g]) rfl rfl (hH.1 118 (17, 105) rfl) rfl rfl rfl (px_puts (h := h) hH (v := v9) ⟨by omega, by omega⟩ q_v9 ⟨by omega, by omega⟩ (fun I12 f x50 x51 x53 x54 => ?_))
              obtain ⟨u, q_u⟩ : ∃ v_, I12 154 g.toInt.toNat = v_ := ⟨_, rfl⟩
              have eu : u.toInt = v9.toInt + 1 := by rw [← q_u]; exact (congrFun x54 _).trans fu_eq
              rw [← eh] at x51 x53 x54
              refine qm_Rp.go 1 (c' := (43, [.ref 118, .int b, .int g], [.ref 118], (h.1, I12, h.2.2.1, h.2.2.2))) rfl ?_
              refine hp_getr rfl (hH.1 118 (17, 105) rfl) rfl (hH.2 118 53 (some 154) rfl) ?_
              refine qm_Rp.go 1 (c' := (47, [.ref 118, .int b, .int g], [.int g, .ref 154], (h.1, I12, h.2.2.1, h.2.2.2))) rfl ?_
              refine hp_ial (v := u) rfl (hH.1 154 (0, 4) rfl) q_u (fun ia_12 ib_12 => ?_)
              refine qm_Rp.go 2 (c' := (50, [.ref 118, .int b, .int g], [.int (u - 1)], (h.1, I12, h.2.2.1, h.2.2.2))) rfl ?_
              obtain ⟨v14, q_v14, e_v14⟩ := hk_sub (x := u) (y := 1) (a := u.toInt) (b := 1) rfl rfl (by omega) (by omega)
              rw [q_v14]
              refine qm_Rp.rt (v := (some (.int v14))) (h' := (h.1, I12, h.2.2.1, h.2.2.2)) rfl ?_
              exact k1 I12 v14 ⟨by omega, by omega, by omega, by omega, by omega, by omega⟩ f (by omega) x50 x51 x53 x54
            · refine qm_Rp.go 1 (c' := (35, [.ref 118, .int b, .int g], [.int (-1)], h)) rfl ?_
              refine qm_Rp.rt (v := (some (.int (-1)))) (h' := h) rfl ?_
              exact k0 (fun z => by omega)
/-- a box stands on deck -/
noncomputable def dkV (c : Nat → Int) (y : Int) : Prop := ¬ c (16 * y + 2).toNat = -1 ∨ ¬ c (16 * y + 4 + 2).toNat = -1 ∨ ¬ c (16 * y + 8 + 2).toNat = -1 ∨ ¬ c (16 * y + 12 + 2).toNat = -1
theorem px_cdk {X : Option (Nat × (Nat → Int32))} {Z : Option Value → qm_H → Prop} {h : qm_H} {fu : Nat} (hH : hk_H h) {y : Int32} (hy : 0 ≤ y.toInt ∧ y.toInt ≤ 4) (k : ∀ r : Int32, (r.toInt = 1 ∧ dkV (pI h.2.1 36) y.toInt ∨ r.toInt = 0 ∧ ¬ dkV (pI h.2.1 36) y.toInt) → Z (some (.int r)) h) : qm_Rp fu X cd_74 (qm_ent 3 [.ref 28, .int y] h) Z := by
  refine qm_Rp.go 0 (c' := (0, [.ref 28, .int y, .float 0], [], h)) rfl ?_
  have kz0 : (0 : Int32).toInt = 0 := rfl
  have kz1 : (1 : Int32).toInt = 1 := rfl
  have kz2 : (2 : Int32).toInt = 2 := rfl
  have kz3 : (3 : Int32).toInt = 3 := rfl
  have kz4 : (4 : Int32).toInt = 4 := rfl
  have kz5 : (5 : Int32).toInt = 5 := rfl
  have kz6 : (6 : Int32).toInt = 6 := rfl
  have kz7 : (7 : Int32).toInt = 7 := rfl
  have kz8 : (8 : Int32).toInt = 8 := rfl
  have kz9 : (9 : Int32).toInt = 9 := rfl
  have kzm1 : ((-1) : Int32).toInt = (-1) := rfl
  have kzm2 : ((-2) : Int32).toInt = (-2) := rfl
  have kzm3 : ((-3) : Int32).toInt = (-3) := rfl
  refine qm_Rp.go 6 (c' := (8, [.ref 28, .int y, .int 0], [.ref 28], h)) rfl ?_
  refine hp_getr rfl (hH.1 28 (9, 8) rfl) rfl (hH.2 28 3 (some 36) rfl) ?_
  refine qm_Rp.go 3 (c' := (14, [.ref 28, .int y, .int 0], [.int 2, .int 0, .int y, .ref 36], h)) rfl ?_
  refine qm_Rp.call (j := 75) (as := [.int y, .int 0, .int 2]) (c' := (17, [.ref 28, .int y, .int 0], [.ref 36], h)) rfl rfl ?_
  refine qm_Rp.go 3 (c' := (3, [.int y, .int 0, .int 2], [.int (y * 4)], h)) rfl ?_
  obtain ⟨v1, q_v1, e_v1⟩ := hk_mul (x := y) (y := 4) (a := y.toInt) (b := 4) rfl rfl (by omega) (by omega)
  rw [q_v1]
  refine qm_Rp.go 2 (c' := (5, [.int y, .int 0, .int 2], [.int (v1 + 0)], h)) rfl ?_
  obtain ⟨v2, q_v2, e_v2⟩ := hk_add (x := v1) (y := 0) (a := v1.toInt) (b := 0) rfl rfl (by omega) (by omega)
  rw [q_v2]
  refine qm_Rp.go 2 (c' := (7, [.int y, .int 0, .int 2], [.int (v2 * 4)], h)) rfl ?_
  obtain ⟨v3, q_v3, e_v3⟩ := hk_mul (x := v2) (y := 4) (a := v2.toInt) (b := 4) rfl rfl (by omega) (by omega)
  rw [q_v3]
  refine qm_Rp.go 2 (c' := (9, [.int y, .int 0, .int 2], [.int (v3 + 2)], h)) rfl ?_
  obtain ⟨v4, q_v4, e_v4⟩ := hk_add (x := v3) (y := 2) (a := v3.toInt) (b := 2) rfl rfl (by omega) (by omega)
  rw [q_v4]
  refine qm_Rp.rt (v := (some (.int v4))) (h' := h) rfl ?_
  refine qm_Rp.go 0 (c' := (17, [.ref 28, .int y, .int 0], [.int v4, .ref 36], h)) rfl ?_
  obtain ⟨v5, q_v5⟩ : ∃ v_, h.2.1 36 v4.toInt.toNat = v_ := ⟨_, rfl⟩
  refine hp_ial (v := v5) rfl (hH.1 36 (0, 80) rfl) q_v5 (fun ia_5 ib_5 => ?_)
  refine qm_Rp.go 0 (c' := (18, [.ref 28, .int y, .int 0], [.int v5], h)) rfl ?_
  have w0 : pI h.2.1 36 (16 * y.toInt + 2).toNat = v5.toInt := by rw [show (16 * y.toInt + 2).toNat = v4.toInt.toNat by omega]; exact congrArg Int32.toInt q_v5
  refine qm_Rp.go 1 (c' := (19, [.ref 28, .int y, .int 0], [.int (-1), .int v5], h)) rfl ?_
  refine hp_ceq (ix := v5.toInt) (iy := (-1)) rfl rfl rfl (fun z7 => ?_) (fun z7 => ?_)
  · refine qm_Rp.go 6 (c' := (8, [.ref 28, .int y, .int 1], [.ref 28], h)) rfl ?_
    refine hp_getr rfl (hH.1 28 (9, 8) rfl) rfl (hH.2 28 3 (some 36) rfl) ?_
    refine qm_Rp.go 3 (c' := (14, [.ref 28, .int y, .int 1], [.int 2, .int 1, .int y, .ref 36], h)) rfl ?_
    refine qm_Rp.call (j := 75) (as := [.int y, .int 1, .int 2]) (c' := (17, [.ref 28, .int y, .int 1], [.ref 36], h)) rfl rfl ?_
    refine qm_Rp.go 3 (c' := (3, [.int y, .int 1, .int 2], [.int (y * 4)], h)) rfl ?_
    rw [q_v1]
    refine qm_Rp.go 2 (c' := (5, [.int y, .int 1, .int 2], [.int (v1 + 1)], h)) rfl ?_
    obtain ⟨v8, q_v8, e_v8⟩ := hk_add (x := v1) (y := 1) (a := v1.toInt) (b := 1) rfl rfl (by omega) (by omega)
    rw [q_v8]
    refine qm_Rp.go 2 (c' := (7, [.int y, .int 1, .int 2], [.int (v8 * 4)], h)) rfl ?_
    obtain ⟨v9, q_v9, e_v9⟩ := hk_mul (x := v8) (y := 4) (a := v8.toInt) (b := 4) rfl rfl (by omega) (by omega)
    rw [q_v9]
    refine qm_Rp.go 2 (c' := (9, [.int y, .int 1, .int 2], [.int (v9 + 2)], h)) rfl ?_
    obtain ⟨v10, q_v10, e_v10⟩ := hk_add (x := v9) (y := 2) (a := v9.toInt) (b := 2) rfl rfl (by omega) (by omega)
    rw [q_v10]
    refine qm_Rp.rt (v := (some (.int v10))) (h' := h) rfl ?_
    refine qm_Rp.go 0 (c' := (17, [.ref 28, .int y, .int 1], [.int v10, .ref 36], h)) rfl ?_
    obtain ⟨v11, q_v11⟩ : ∃ v_, h.2.1 36 v10.toInt.toNat = v_ := ⟨_, rfl⟩
    refine hp_ial (v := v11) rfl (hH.1 36 (0, 80) rfl) q_v11 (fun ia_11 ib_11 => ?_)
    refine qm_Rp.go 0 (c' := (18, [.ref 28, .int y, .int 1], [.int v11], h)) rfl ?_
    have w1 : pI h.2.1 36 (16 * y.toInt + 4 + 2).toNat = v11.toInt := by rw [show (16 * y.toInt + 4 + 2).toNat = v10.toInt.toNat by omega]; exact congrArg Int32.toInt q_v11
    refine qm_Rp.go 1 (c' := (19, [.ref 28, .int y, .int 1], [.int (-1), .int v11], h)) rfl ?_
    refine hp_ceq (ix := v11.toInt) (iy := (-1)) rfl rfl rfl (fun z13 => ?_) (fun z13 => ?_)
    · refine qm_Rp.go 6 (c' := (8, [.ref 28, .int y, .int 2], [.ref 28], h)) rfl ?_
      refine hp_getr rfl (hH.1 28 (9, 8) rfl) rfl (hH.2 28 3 (some 36) rfl) ?_
      refine qm_Rp.go 3 (c' := (14, [.ref 28, .int y, .int 2], [.int 2, .int 2, .int y, .ref 36], h)) rfl ?_
      refine qm_Rp.call (j := 75) (as := [.int y, .int 2, .int 2]) (c' := (17, [.ref 28, .int y, .int 2], [.ref 36], h)) rfl rfl ?_
      refine qm_Rp.go 3 (c' := (3, [.int y, .int 2, .int 2], [.int (y * 4)], h)) rfl ?_
      rw [q_v1]
      refine qm_Rp.go 2 (c' := (5, [.int y, .int 2, .int 2], [.int (v1 + 2)], h)) rfl ?_
      obtain ⟨v14, q_v14, e_v14⟩ := hk_add (x := v1) (y := 2) (a := v1.toInt) (b := 2) rfl rfl (by omega) (by omega)
      rw [q_v14]
      refine qm_Rp.go 2 (c' := (7, [.int y, .int 2, .int 2], [.int (v14 * 4)], h)) rfl ?_
      obtain ⟨v15, q_v15, e_v15⟩ := hk_mul (x := v14) (y := 4) (a := v14.toInt) (b := 4) rfl rfl (by omega) (by omega)
      rw [q_v15]
      refine qm_Rp.go 2 (c' := (9, [.int y, .int 2, .int 2], [.int (v15 + 2)], h)) rfl ?_
      obtain ⟨v16, q_v16, e_v16⟩ := hk_add (x := v15) (y := 2) (a := v15.toInt) (b := 2) rfl rfl (by omega) (by omega)
      rw [q_v16]
      refine qm_Rp.rt (v := (some (.int v16))) (h' := h) rfl ?_
      refine qm_Rp.go 0 (c' := (17, [.ref 28, .int y, .int 2], [.int v16, .ref 36], h)) rfl ?_
      obtain ⟨v17, q_v17⟩ : ∃ v_, h.2.1 36 v16.toInt.toNat = v_ := ⟨_, rfl⟩
      refine hp_ial (v := v17) rfl (hH.1 36 (0, 80) rfl) q_v17 (fun ia_17 ib_17 => ?_)
      refine qm_Rp.go 0 (c' := (18, [.ref 28, .int y, .int 2], [.int v17], h)) rfl ?_
      have w2 : pI h.2.1 36 (16 * y.toInt + 8 + 2).toNat = v17.toInt := by rw [show (16 * y.toInt + 8 + 2).toNat = v16.toInt.toNat by omega]; exact congrArg Int32.toInt q_v17
      refine qm_Rp.go 1 (c' := (19, [.ref 28, .int y, .int 2], [.int (-1), .int v17], h)) rfl ?_
      refine hp_ceq (ix := v17.toInt) (iy := (-1)) rfl rfl rfl (fun z19 => ?_) (fun z19 => ?_)
      · refine qm_Rp.go 6 (c' := (8, [.ref 28, .int y, .int 3], [.ref 28], h)) rfl ?_
        refine hp_getr rfl (hH.1 28 (9, 8) rfl) rfl (hH.2 28 3 (some 36) rfl) ?_
        refine qm_Rp.go 3 (c' := (14, [.ref 28, .int y, .int 3], [.int 2, .int 3, .int y, .ref 36], h)) rfl ?_
        refine qm_Rp.call (j := 75) (as := [.int y, .int 3, .int 2]) (c' := (17, [.ref 28, .int y, .int 3], [.ref 36], h)) rfl rfl ?_
        refine qm_Rp.go 3 (c' := (3, [.int y, .int 3, .int 2], [.int (y * 4)], h)) rfl ?_
        rw [q_v1]
        refine qm_Rp.go 2 (c' := (5, [.int y, .int 3, .int 2], [.int (v1 + 3)], h)) rfl ?_
        obtain ⟨v20, q_v20, e_v20⟩ := hk_add (x := v1) (y := 3) (a := v1.toInt) (b := 3) rfl rfl (by omega) (by omega)
        rw [q_v20]
        refine qm_Rp.go 2 (c' := (7, [.int y, .int 3, .int 2], [.int (v20 * 4)], h)) rfl ?_
        obtain ⟨v21, q_v21, e_v21⟩ := hk_mul (x := v20) (y := 4) (a := v20.toInt) (b := 4) rfl rfl (by omega) (by omega)
        rw [q_v21]
        refine qm_Rp.go 2 (c' := (9, [.int y, .int 3, .int 2], [.int (v21 + 2)], h)) rfl ?_
        obtain ⟨v22, q_v22, e_v22⟩ := hk_add (x := v21) (y := 2) (a := v21.toInt) (b := 2) rfl rfl (by omega) (by omega)
        rw [q_v22]
        refine qm_Rp.rt (v := (some (.int v22))) (h' := h) rfl ?_
        refine qm_Rp.go 0 (c' := (17, [.ref 28, .int y, .int 3], [.int v22, .ref 36], h)) rfl ?_
        obtain ⟨v23, q_v23⟩ : ∃ v_, h.2.1 36 v22.toInt.toNat = v_ := ⟨_, rfl⟩
        refine hp_ial (v := v23) rfl (hH.1 36 (0, 80) rfl) q_v23 (fun ia_23 ib_23 => ?_)
        refine qm_Rp.go 0 (c' := (18, [.ref 28, .int y, .int 3], [.int v23], h)) rfl ?_
        have w3 : pI h.2.1 36 (16 * y.toInt + 12 + 2).toNat = v23.toInt := by rw [show (16 * y.toInt + 12 + 2).toNat = v22.toInt.toNat by omega]; exact congrArg Int32.toInt q_v23
        refine qm_Rp.go 1 (c' := (19, [.ref 28, .int y, .int 3], [.int (-1), .int v23], h)) rfl ?_
        refine hp_ceq (ix := v23.toInt) (iy := (-1)) rfl rfl rfl (fun z25 => ?_) (fun z25 => ?_)
        · refine qm_Rp.go 6 (c' := (31, [.ref 28, .int y, .int 4], [.int 0], h)) rfl ?_
          refine qm_Rp.rt (v := (some (.int 0))) (h' := h) rfl ?_
          exact k 0 (Or.inr ⟨rfl, by unfold dkV; omega⟩)
        · refine qm_Rp.go 1 (c' := (23, [.ref 28, .int y, .int 3], [.int 1], h)) rfl ?_
          refine qm_Rp.rt (v := (some (.int 1))) (h' := h) rfl ?_
          exact k 1 (Or.inl ⟨rfl, by unfold dkV; omega⟩)
      · refine qm_Rp.go 1 (c' := (23, [.ref 28, .int y, .int 2], [.int 1], h)) rfl ?_
        refine qm_Rp.rt (v := (some (.int 1))) (h' := h) rfl ?_
        exact k 1 (Or.inl ⟨rfl, by unfold dkV; omega⟩)
    · refine qm_Rp.go 1 (c' := (23, [.ref 28, .int y, .int 1], [.int 1], h)) rfl ?_
      refine qm_Rp.rt (v := (some (.int 1))) (h' := h) rfl ?_
      exact k 1 (Or.inl ⟨rfl, by unfold dkV; omega⟩)
  · refine qm_Rp.go 1 (c' := (23, [.ref 28, .int y, .int 0], [.int 1], h)) rfl ?_
    refine qm_Rp.rt (v := (some (.int 1))) (h' := h) rfl ?_
    exact k 1 (Or.inl ⟨rfl, by unfold dkV; omega⟩)
theorem px_rdk {X : Option (Nat × (Nat → Int32))} {Z : Option Value → qm_H → Prop} {h : qm_H} {fu : Nat} (hH : hk_H h) {y : Int32} (hy : 0 ≤ y.toInt ∧ y.toInt ≤ 4) (k : ∀ r : Int32, (r.toInt = 1 ∧ dkV (pI h.2.1 152) y.toInt ∨ r.toInt = 0 ∧ ¬ dkV (pI h.2.1 152) y.toInt) → Z (some (.int r)) h) : qm_Rp fu X cd_276 (qm_ent 3 [.ref 118, .int y] h) Z := by
  refine qm_Rp.go 0 (c' := (0, [.ref 118, .int y, .float 0], [], h)) rfl ?_
  have kz0 : (0 : Int32).toInt = 0 := rfl
  have kz1 : (1 : Int32).toInt = 1 := rfl
  have kz2 : (2 : Int32).toInt = 2 := rfl
  have kz3 : (3 : Int32).toInt = 3 := rfl
  have kz4 : (4 : Int32).toInt = 4 := rfl
  have kz5 : (5 : Int32).toInt = 5 := rfl
  have kz6 : (6 : Int32).toInt = 6 := rfl
  have kz7 : (7 : Int32).toInt = 7 := rfl
  have kz8 : (8 : Int32).toInt = 8 := rfl
  have kz9 : (9 : Int32).toInt = 9 := rfl
  have kzm1 : ((-1) : Int32).toInt = (-1) := rfl
  have kzm2 : ((-2) : Int32).toInt = (-2) := rfl
  have kzm3 : ((-3) : Int32).toInt = (-3) := rfl
  refine qm_Rp.go 6 (c' := (8, [.ref 118, .int y, .int 0], [.ref 118], h)) rfl ?_
  refine hp_getr rfl (hH.1 118 (17, 105) rfl) rfl (hH.2 118 51 (some 152) rfl) ?_
  refine qm_Rp.go 3 (c' := (15, [.ref 118, .int y, .int 0], [.int (16 * y), .ref 152], h)) rfl ?_
  obtain ⟨v1, q_v1, e_v1⟩ := hk_mul (x := 16) (y := y) (a := 16) (b := y.toInt) rfl rfl (by omega) (by omega)
  rw [q_v1]
  refine qm_Rp.go 4 (c' := (19, [.ref 118, .int y, .int 0], [.int (v1 + 0), .ref 152], h)) rfl ?_
  obtain ⟨v2, q_v2, e_v2⟩ := hk_add (x := v1) (y := 0) (a := v1.toInt) (b := 0) rfl rfl (by omega) (by omega)
  rw [q_v2]
  refine qm_Rp.go 2 (c' := (21, [.ref 118, .int y, .int 0], [.int (v2 + 2), .ref 152], h)) rfl ?_
  obtain ⟨v3, q_v3, e_v3⟩ := hk_add (x := v2) (y := 2) (a := v2.toInt) (b := 2) rfl rfl (by omega) (by omega)
  rw [q_v3]
  obtain ⟨v4, q_v4⟩ : ∃ v_, h.2.1 152 v3.toInt.toNat = v_ := ⟨_, rfl⟩
  refine hp_ial (v := v4) rfl (hH.1 152 (0, 80) rfl) q_v4 (fun ia_4 ib_4 => ?_)
  refine qm_Rp.go 0 (c' := (22, [.ref 118, .int y, .int 0], [.int v4], h)) rfl ?_
  have w0 : pI h.2.1 152 (16 * y.toInt + 2).toNat = v4.toInt := by rw [show (16 * y.toInt + 2).toNat = v3.toInt.toNat by omega]; exact congrArg Int32.toInt q_v4
  refine qm_Rp.go 1 (c' := (23, [.ref 118, .int y, .int 0], [.int (-1), .int v4], h)) rfl ?_
  refine hp_ceq (ix := v4.toInt) (iy := (-1)) rfl rfl rfl (fun z6 => ?_) (fun z6 => ?_)
  · refine qm_Rp.go 6 (c' := (8, [.ref 118, .int y, .int 1], [.ref 118], h)) rfl ?_
    refine hp_getr rfl (hH.1 118 (17, 105) rfl) rfl (hH.2 118 51 (some 152) rfl) ?_
    refine qm_Rp.go 3 (c' := (15, [.ref 118, .int y, .int 1], [.int (16 * y), .ref 152], h)) rfl ?_
    rw [q_v1]
    refine qm_Rp.go 4 (c' := (19, [.ref 118, .int y, .int 1], [.int (v1 + 4), .ref 152], h)) rfl ?_
    obtain ⟨v7, q_v7, e_v7⟩ := hk_add (x := v1) (y := 4) (a := v1.toInt) (b := 4) rfl rfl (by omega) (by omega)
    rw [q_v7]
    refine qm_Rp.go 2 (c' := (21, [.ref 118, .int y, .int 1], [.int (v7 + 2), .ref 152], h)) rfl ?_
    obtain ⟨v8, q_v8, e_v8⟩ := hk_add (x := v7) (y := 2) (a := v7.toInt) (b := 2) rfl rfl (by omega) (by omega)
    rw [q_v8]
    obtain ⟨v9, q_v9⟩ : ∃ v_, h.2.1 152 v8.toInt.toNat = v_ := ⟨_, rfl⟩
    refine hp_ial (v := v9) rfl (hH.1 152 (0, 80) rfl) q_v9 (fun ia_9 ib_9 => ?_)
    refine qm_Rp.go 0 (c' := (22, [.ref 118, .int y, .int 1], [.int v9], h)) rfl ?_
    have w1 : pI h.2.1 152 (16 * y.toInt + 4 + 2).toNat = v9.toInt := by rw [show (16 * y.toInt + 4 + 2).toNat = v8.toInt.toNat by omega]; exact congrArg Int32.toInt q_v9
    refine qm_Rp.go 1 (c' := (23, [.ref 118, .int y, .int 1], [.int (-1), .int v9], h)) rfl ?_
    refine hp_ceq (ix := v9.toInt) (iy := (-1)) rfl rfl rfl (fun z11 => ?_) (fun z11 => ?_)
    · refine qm_Rp.go 6 (c' := (8, [.ref 118, .int y, .int 2], [.ref 118], h)) rfl ?_
      refine hp_getr rfl (hH.1 118 (17, 105) rfl) rfl (hH.2 118 51 (some 152) rfl) ?_
      refine qm_Rp.go 3 (c' := (15, [.ref 118, .int y, .int 2], [.int (16 * y), .ref 152], h)) rfl ?_
      rw [q_v1]
      refine qm_Rp.go 4 (c' := (19, [.ref 118, .int y, .int 2], [.int (v1 + 8), .ref 152], h)) rfl ?_
      obtain ⟨v12, q_v12, e_v12⟩ := hk_add (x := v1) (y := 8) (a := v1.toInt) (b := 8) rfl rfl (by omega) (by omega)
      rw [q_v12]
      refine qm_Rp.go 2 (c' := (21, [.ref 118, .int y, .int 2], [.int (v12 + 2), .ref 152], h)) rfl ?_
      obtain ⟨v13, q_v13, e_v13⟩ := hk_add (x := v12) (y := 2) (a := v12.toInt) (b := 2) rfl rfl (by omega) (by omega)
      rw [q_v13]
      obtain ⟨v14, q_v14⟩ : ∃ v_, h.2.1 152 v13.toInt.toNat = v_ := ⟨_, rfl⟩
      refine hp_ial (v := v14) rfl (hH.1 152 (0, 80) rfl) q_v14 (fun ia_14 ib_14 => ?_)
      refine qm_Rp.go 0 (c' := (22, [.ref 118, .int y, .int 2], [.int v14], h)) rfl ?_
      have w2 : pI h.2.1 152 (16 * y.toInt + 8 + 2).toNat = v14.toInt := by rw [show (16 * y.toInt + 8 + 2).toNat = v13.toInt.toNat by omega]; exact congrArg Int32.toInt q_v14
      refine qm_Rp.go 1 (c' := (23, [.ref 118, .int y, .int 2], [.int (-1), .int v14], h)) rfl ?_
      refine hp_ceq (ix := v14.toInt) (iy := (-1)) rfl rfl rfl (fun z16 => ?_) (fun z16 => ?_)
      · refine qm_Rp.go 6 (c' := (8, [.ref 118, .int y, .int 3], [.ref 118], h)) rfl ?_
        refine hp_getr rfl (hH.1 118 (17, 105) rfl) rfl (hH.2 118 51 (some 152) rfl) ?_
        refine qm_Rp.go 3 (c' := (15, [.ref 118, .int y, .int 3], [.int (16 * y), .ref 152], h)) rfl ?_
        rw [q_v1]
        refine qm_Rp.go 4 (c' := (19, [.ref 118, .int y, .int 3], [.int (v1 + 12), .ref 152], h)) rfl ?_
        obtain ⟨v17, q_v17, e_v17⟩ := hk_add (x := v1) (y := 12) (a := v1.toInt) (b := 12) rfl rfl (by omega) (by omega)
        rw [q_v17]
        refine qm_Rp.go 2 (c' := (21, [.ref 118, .int y, .int 3], [.int (v17 + 2), .ref 152], h)) rfl ?_
        obtain ⟨v18, q_v18, e_v18⟩ := hk_add (x := v17) (y := 2) (a := v17.toInt) (b := 2) rfl rfl (by omega) (by omega)
        rw [q_v18]
        obtain ⟨v19, q_v19⟩ : ∃ v_, h.2.1 152 v18.toInt.toNat = v_ := ⟨_, rfl⟩
        refine hp_ial (v := v19) rfl (hH.1 152 (0, 80) rfl) q_v19 (fun ia_19 ib_19 => ?_)
        refine qm_Rp.go 0 (c' := (22, [.ref 118, .int y, .int 3], [.int v19], h)) rfl ?_
        have w3 : pI h.2.1 152 (16 * y.toInt + 12 + 2).toNat = v19.toInt := by rw [show (16 * y.toInt + 12 + 2).toNat = v18.toInt.toNat by omega]; exact congrArg Int32.toInt q_v19
        refine qm_Rp.go 1 (c' := (23, [.ref 118, .int y, .int 3], [.int (-1), .int v19], h)) rfl ?_
        refine hp_ceq (ix := v19.toInt) (iy := (-1)) rfl rfl rfl (fun z21 => ?_) (fun z21 => ?_)
        · refine qm_Rp.go 6 (c' := (35, [.ref 118, .int y, .int 4], [.int 0], h)) rfl ?_
          refine qm_Rp.rt (v := (some (.int 0))) (h' := h) rfl ?_
          exact k 0 (Or.inr ⟨rfl, by unfold dkV; omega⟩)
        · refine qm_Rp.go 1 (c' := (27, [.ref 118, .int y, .int 3], [.int 1], h)) rfl ?_
          refine qm_Rp.rt (v := (some (.int 1))) (h' := h) rfl ?_
          exact k 1 (Or.inl ⟨rfl, by unfold dkV; omega⟩)
      · refine qm_Rp.go 1 (c' := (27, [.ref 118, .int y, .int 2], [.int 1], h)) rfl ?_
        refine qm_Rp.rt (v := (some (.int 1))) (h' := h) rfl ?_
        exact k 1 (Or.inl ⟨rfl, by unfold dkV; omega⟩)
    · refine qm_Rp.go 1 (c' := (27, [.ref 118, .int y, .int 1], [.int 1], h)) rfl ?_
      refine qm_Rp.rt (v := (some (.int 1))) (h' := h) rfl ?_
      exact k 1 (Or.inl ⟨rfl, by unfold dkV; omega⟩)
  · refine qm_Rp.go 1 (c' := (27, [.ref 118, .int y, .int 0], [.int 1], h)) rfl ?_
    refine qm_Rp.rt (v := (some (.int 1))) (h' := h) rfl ?_
    exact k 1 (Or.inl ⟨rfl, by unfold dkV; omega⟩)
theorem px_cfe {X : Option (Nat × (Nat → Int32))} {Z : Option Value → qm_H → Prop} {h : qm_H} {fu : Nat} (hH : hk_H h) {g : Int32} (hi4 : ∀ i, (0 : Int) ≤ (h.2.1 17 i).toInt ∧ (h.2.1 17 i).toInt ≤ 4) (h29 : ∀ i, (0 : Int) ≤ (h.2.1 16 i).toInt ∧ (h.2.1 16 i).toInt ≤ 29) {S : Int32 → Int32 → Prop} {nf : Int32} (q_nf : h.2.1 42 7 = nf) (hst : ∀ (b : Int32) (Z2 : Option Value → qm_H → Prop) (f2 : Nat), (∀ v : Int32, 0 ≤ v.toInt ∧ v.toInt ≤ 1 → S b v → Z2 (some (.int v)) h) → qm_Rp f2 X cd_82 (qm_ent 7 [.ref 42, .int b, .int nf] h) Z2) (k0 : ¬ (0 ≤ g.toInt ∧ g.toInt ≤ 3 ∧ pI h.2.1 17 g.toInt.toNat ≠ 0) → Z (some (.int (-1))) h) (k1 : ∀ b v : Int32, (0 ≤ g.toInt ∧ g.toInt ≤ 3 ∧ pI h.2.1 17 g.toInt.toNat ≠ 0) → b.toInt = pI h.2.1 16 (4 * g.toInt + pI h.2.1 17 g.toInt.toNat - 1).toNat → S b v → v.toInt ≠ 0 → Z (some (.int (-2))) h) (k2 : ∀ (I : Nat → Nat → Int32) (b v : Int32), (0 ≤ g.toInt ∧ g.toInt ≤ 3 ∧ pI h.2.1 17 g.toInt.toNat ≠ 0) → b.toInt = pI h.2.1 16 (4 * g.toInt + pI h.2.1 17 g.toInt.toNat - 1).toNat → S b v → v.toInt = 0 → (∀ o, [11, 12, 13, 14, 17].contains o = false → ∀ i, I o i = h.2.1 o i) → pI I 11 = fu_up (pI h.2.1 11) (b.toInt.toNat) (0 : Int32).toInt → pI I 12 = fu_up (pI h.2.1 12) (b.toInt.toNat) (-1 : Int32).toInt → pI I 13 = fu_up (pI h.2.1 13) (b.toInt.toNat) (-1 : Int32).toInt → pI I 14 = fu_up (pI h.2.1 14) (b.toInt.toNat) (-1 : Int32).toInt → pI I 17 = fu_up (pI h.2.1 17) g.toInt.toNat (pI h.2.1 17 g.toInt.toNat - 1) → Z (some (.int b)) (h.1, I, h.2.2.1, h.2.2.2)) : qm_Rp fu X cd_80 (qm_ent 3 [.ref 0, .int g] h) Z := by
  refine qm_Rp.go 0 (c' := (0, [.ref 0, .int g, .float 0], [], h)) rfl ?_
  have kz0 : (0 : Int32).toInt = 0 := rfl
  have kz1 : (1 : Int32).toInt = 1 := rfl
  have kz2 : (2 : Int32).toInt = 2 := rfl
  have kz3 : (3 : Int32).toInt = 3 := rfl
  have kz4 : (4 : Int32).toInt = 4 := rfl
  have kz5 : (5 : Int32).toInt = 5 := rfl
  have kz6 : (6 : Int32).toInt = 6 := rfl
  have kz7 : (7 : Int32).toInt = 7 := rfl
  have kz8 : (8 : Int32).toInt = 8 := rfl
  have kz9 : (9 : Int32).toInt = 9 := rfl
  have kzm1 : ((-1) : Int32).toInt = (-1) := rfl
  have kzm2 : ((-2) : Int32).toInt = (-2) := rfl
  have kzm3 : ((-3) : Int32).toInt = (-3) := rfl
  refine qm_Rp.go 2 (c' := (2, [.ref 0, .int g, .float 0], [.int 4, .int g], h)) rfl ?_
  refine qm_Rp.call (j := 65) (as := [.int g, .int 4]) (c' := (5, [.ref 0, .int g, .float 0], [], h)) rfl rfl ?_
  refine qm_Rp.go 1 (c' := (1, [.int g, .int 4], [.int g], h)) rfl ?_
  refine hp_zlt (ix := g.toInt) rfl rfl (fun z1 => ?_) (fun z1 => ?_)
  · refine qm_Rp.go 1 (c' := (14, [.int g, .int 4], [.int 0], h)) rfl ?_
    refine qm_Rp.rt (v := (some (.int 0))) (h' := h) rfl ?_
    refine qm_Rp.go 2 (c' := (21, [.ref 0, .int g, .float 0], [.int (-1)], h)) rfl ?_
    refine qm_Rp.rt (v := (some (.int (-1)))) (h' := h) rfl ?_
    exact k0 (fun z => by omega)
  · refine qm_Rp.go 2 (c' := (6, [.int g, .int 4], [.int 4, .int g], h)) rfl ?_
    refine hp_cge (ix := g.toInt) (iy := 4) rfl rfl rfl (fun z2 => ?_) (fun z2 => ?_)
    · refine qm_Rp.go 1 (c' := (14, [.int g, .int 4], [.int 0], h)) rfl ?_
      refine qm_Rp.rt (v := (some (.int 0))) (h' := h) rfl ?_
      refine qm_Rp.go 2 (c' := (21, [.ref 0, .int g, .float 0], [.int (-1)], h)) rfl ?_
      refine qm_Rp.rt (v := (some (.int (-1)))) (h' := h) rfl ?_
      exact k0 (fun z => by omega)
    · refine qm_Rp.go 2 (c' := (14, [.int g, .int 4], [.int 1], h)) rfl ?_
      refine qm_Rp.rt (v := (some (.int 1))) (h' := h) rfl ?_
      refine qm_Rp.go 2 (c' := (9, [.ref 0, .int g, .float 0], [.ref 0], h)) rfl ?_
      refine hp_getr rfl (hH.1 0 (16, 10) rfl) rfl (hH.2 0 3 (some 15) rfl) ?_
      refine qm_Rp.go 0 (c' := (12, [.ref 0, .int g, .float 0], [.ref 15], h)) rfl ?_
      refine hp_getr rfl (hH.1 15 (15, 8) rfl) rfl (hH.2 15 2 (some 17) rfl) ?_
      refine qm_Rp.go 1 (c' := (16, [.ref 0, .int g, .float 0], [.int g, .ref 17], h)) rfl ?_
      obtain ⟨v3, q_v3⟩ : ∃ v_, h.2.1 17 g.toInt.toNat = v_ := ⟨_, rfl⟩
      refine hp_ial (v := v3) rfl (hH.1 17 (0, 4) rfl) q_v3 (fun ia_3 ib_3 => ?_)
      refine qm_Rp.go 0 (c' := (17, [.ref 0, .int g, .float 0], [.int v3], h)) rfl ?_
      have eh : pI h.2.1 17 g.toInt.toNat = v3.toInt := congrArg Int32.toInt q_v3
      have bh := hi4 g.toInt.toNat
      rw [show (h.2.1 17 g.toInt.toNat).toInt = v3.toInt from eh] at bh
      refine hp_zne (ix := v3.toInt) rfl rfl (fun z5 => ?_) (fun z5 => ?_)
      · refine qm_Rp.go 1 (c' := (23, [.ref 0, .int g, .float 0], [.ref 0], h)) rfl ?_
        refine hp_getr rfl (hH.1 0 (16, 10) rfl) rfl (hH.2 0 3 (some 15) rfl) ?_
        refine qm_Rp.go 1 (c' := (27, [.ref 0, .int g, .float 0], [.int g, .ref 15], h)) rfl ?_
        refine hp_inv (o := 15) (r := []) (as := [.ref 15, .int g]) rfl rfl (hH.1 15 (15, 8) rfl) rfl rfl rfl ?_
        refine qm_Rp.go 1 (c' := (1, [.ref 15, .int g], [.ref 15], h)) rfl ?_
        refine hp_getr rfl (hH.1 15 (15, 8) rfl) rfl (hH.2 15 2 (some 17) rfl) ?_
        refine qm_Rp.go 1 (c' := (5, [.ref 15, .int g], [.int g, .ref 17], h)) rfl ?_
        refine hp_ial (v := v3) rfl (hH.1 17 (0, 4) rfl) q_v3 (fun ia_5 ib_5 => ?_)
        refine qm_Rp.go 0 (c' := (6, [.ref 15, .int g], [.int v3], h)) rfl ?_
        refine hp_zne (ix := v3.toInt) rfl rfl (fun z7 => ?_) (fun z7 => by exfalso; omega)
        refine qm_Rp.go 1 (c' := (14, [.ref 15, .int g], [.ref 15], h)) rfl ?_
        refine hp_getr rfl (hH.1 15 (15, 8) rfl) rfl (hH.2 15 1 (some 16) rfl) ?_
        refine qm_Rp.go 3 (c' := (20, [.ref 15, .int g], [.int (g * 4), .ref 16], h)) rfl ?_
        obtain ⟨v8, q_v8, e_v8⟩ := hk_mul (x := g) (y := 4) (a := g.toInt) (b := 4) rfl rfl (by omega) (by omega)
        rw [q_v8]
        refine qm_Rp.go 1 (c' := (21, [.ref 15, .int g], [.ref 15, .int v8, .ref 16], h)) rfl ?_
        refine hp_getr rfl (hH.1 15 (15, 8) rfl) rfl (hH.2 15 2 (some 17) rfl) ?_
        refine qm_Rp.go 1 (c' := (25, [.ref 15, .int g], [.int g, .ref 17, .int v8, .ref 16], h)) rfl ?_
        refine hp_ial (v := v3) rfl (hH.1 17 (0, 4) rfl) q_v3 (fun ia_8 ib_8 => ?_)
        refine qm_Rp.go 0 (c' := (26, [.ref 15, .int g], [.int v3, .int v8, .ref 16], h)) rfl ?_
        refine qm_Rp.go 1 (c' := (27, [.ref 15, .int g], [.int (v8 + v3), .ref 16], h)) rfl ?_
        obtain ⟨v10, q_v10, e_v10⟩ := hk_add (x := v8) (y := v3) (a := v8.toInt) (b := v3.toInt) rfl rfl (by omega) (by omega)
        rw [q_v10]
        refine qm_Rp.go 2 (c' := (29, [.ref 15, .int g], [.int (v10 - 1), .ref 16], h)) rfl ?_
        obtain ⟨v11, q_v11, e_v11⟩ := hk_sub (x := v10) (y := 1) (a := v10.toInt) (b := 1) rfl rfl (by omega) (by omega)
        rw [q_v11]
        obtain ⟨v12, q_v12⟩ : ∃ v_, h.2.1 16 v11.toInt.toNat = v_ := ⟨_, rfl⟩
        refine hp_ial (v := v12) rfl (hH.1 16 (0, 16) rfl) q_v12 (fun ia_12 ib_12 => ?_)
        refine qm_Rp.go 0 (c' := (30, [.ref 15, .int g], [.int v12], h)) rfl ?_
        have et : pI h.2.1 16 (4 * g.toInt + pI h.2.1 17 g.toInt.toNat - 1).toNat = v12.toInt := by rw [eh, show (4 * g.toInt + v3.toInt - 1).toNat = v11.toInt.toNat by omega]; exact congrArg Int32.toInt q_v12
        have b16 := h29 (4 * g.toInt + pI h.2.1 17 g.toInt.toNat - 1).toNat
        rw [show (h.2.1 16 (4 * g.toInt + pI h.2.1 17 g.toInt.toNat - 1).toNat).toInt = v12.toInt from et] at b16
        refine qm_Rp.rt (v := (some (.int v12))) (h' := h) rfl ?_
        refine qm_Rp.go 2 (c' := (32, [.ref 0, .int g, .int v12], [.ref 0], h)) rfl ?_
        refine hp_getr rfl (hH.1 0 (16, 10) rfl) rfl (hH.2 0 6 (some 42) rfl) ?_
        refine qm_Rp.go 2 (c' := (37, [.ref 0, .int g, .int v12], [.ref 0, .int v12, .ref 42], h)) rfl ?_
        refine hp_getr rfl (hH.1 0 (16, 10) rfl) rfl (hH.2 0 6 (some 42) rfl) ?_
        refine qm_Rp.go 0 (c' := (40, [.ref 0, .int g, .int v12], [.ref 42, .int v12, .ref 42], h)) rfl ?_
        refine hp_geti (v := nf) rfl (hH.1 42 (7, 11) rfl) rfl q_nf ?_
        refine qm_Rp.go 0 (c' := (43, [.ref 0, .int g, .int v12], [.int nf, .int v12, .ref 42], h)) rfl ?_
        refine hp_inv (o := 42) (r := []) (as := [.ref 42, .int v12, .int nf]) rfl rfl (hH.1 42 (7, 11) rfl) rfl rfl rfl (hst v12 _ _ (fun s14 b_s14 e_s14 => ?_))
        refine qm_Rp.go 0 (c' := (46, [.ref 0, .int g, .int v12], [.int s14], h)) rfl ?_
        refine hp_zeq (ix := s14.toInt) rfl rfl (fun z15 => ?_) (fun z15 => ?_)
        · refine qm_Rp.go 1 (c' := (53, [.ref 0, .int g, .int v12], [.ref 0], h)) rfl ?_
          refine hp_getr rfl (hH.1 0 (16, 10) rfl) rfl (hH.2 0 3 (some 15) rfl) ?_
          refine qm_Rp.go 1 (c' := (57, [.ref 0, .int g, .int v12], [.int g, .ref 15], h)) rfl ?_
          refine hp_inv (o := 15) (r := []) (as := [.ref 15, .int g]) rfl rfl (hH.1 15 (15, 8) rfl) rfl rfl rfl (px_cth (h := h) (b := v12) (v := v3) hH ⟨by omega, by omega⟩ q_v3 ⟨by omega, by omega⟩ (hk_eqi.mpr (by rw [← et, eh]; rfl)) ⟨by omega, by omega⟩ (fun I16 f x11 x12 x13 x14 x17 => ?_))
          rw [← eh] at x17
          refine qm_Rp.go 1 (c' := (61, [.ref 0, .int g, .int v12], [.int v12], (h.1, I16, h.2.2.1, h.2.2.2))) rfl ?_
          refine qm_Rp.rt (v := (some (.int v12))) (h' := (h.1, I16, h.2.2.1, h.2.2.2)) rfl ?_
          exact k2 I16 v12 s14 ⟨by omega, by omega, by omega⟩ et.symm e_s14 (by omega) f x11 x12 x13 x14 x17
        · refine qm_Rp.go 1 (c' := (51, [.ref 0, .int g, .int v12], [.int (-2)], h)) rfl ?_
          refine qm_Rp.rt (v := (some (.int (-2)))) (h' := h) rfl ?_
          exact k1 v12 s14 ⟨by omega, by omega, by omega⟩ et.symm e_s14 (by omega)
      · refine qm_Rp.go 1 (c' := (21, [.ref 0, .int g, .float 0], [.int (-1)], h)) rfl ?_
        refine qm_Rp.rt (v := (some (.int (-1)))) (h' := h) rfl ?_
        exact k0 (fun z => by omega)
theorem px_rfe {X : Option (Nat × (Nat → Int32))} {Z : Option Value → qm_H → Prop} {h : qm_H} {fu : Nat} (hH : hk_H h) {g : Int32} (hi4 : ∀ i, (0 : Int) ≤ (h.2.1 154 i).toInt ∧ (h.2.1 154 i).toInt ≤ 4) (h29 : ∀ i, (0 : Int) ≤ (h.2.1 153 i).toInt ∧ (h.2.1 153 i).toInt ≤ 29) (hC : sr_C (pI h.2.1 150) (pI h.2.1 151) (pI h.2.1 153) (pI h.2.1 154)) {S : Int32 → Int32 → Prop} {nf : Int32} (q_nf : h.2.1 118 70 = nf) (hst : ∀ (b : Int32) (Z2 : Option Value → qm_H → Prop) (f2 : Nat), (∀ v : Int32, 0 ≤ v.toInt ∧ v.toInt ≤ 1 → S b v → Z2 (some (.int v)) h) → qm_Rp f2 X cd_281 (qm_ent 5 [.ref 118, .int b, .int nf] h) Z2) (k0 : ¬ (0 ≤ g.toInt ∧ g.toInt ≤ 3 ∧ pI h.2.1 154 g.toInt.toNat ≠ 0) → Z (some (.int (-1))) h) (k1 : ∀ b v : Int32, (0 ≤ g.toInt ∧ g.toInt ≤ 3 ∧ pI h.2.1 154 g.toInt.toNat ≠ 0) → b.toInt = pI h.2.1 153 (4 * g.toInt + pI h.2.1 154 g.toInt.toNat - 1).toNat → S b v → v.toInt ≠ 0 → Z (some (.int (-2))) h) (k2 : ∀ (I : Nat → Nat → Int32) (b v : Int32), (0 ≤ g.toInt ∧ g.toInt ≤ 3 ∧ pI h.2.1 154 g.toInt.toNat ≠ 0) → b.toInt = pI h.2.1 153 (4 * g.toInt + pI h.2.1 154 g.toInt.toNat - 1).toNat → S b v → v.toInt = 0 → (∀ o, [150, 154].contains o = false → ∀ i, I o i = h.2.1 o i) → pI I 150 = fu_up (pI h.2.1 150) (b.toInt.toNat) (0 : Int32).toInt → pI I 154 = fu_up (pI h.2.1 154) g.toInt.toNat (pI h.2.1 154 g.toInt.toNat - 1) → Z (some (.int b)) (h.1, I, h.2.2.1, h.2.2.2)) : qm_Rp fu X cd_280 (qm_ent 3 [.ref 118, .int g] h) Z := by
  refine qm_Rp.go 0 (c' := (0, [.ref 118, .int g, .float 0], [], h)) rfl ?_
  have kz0 : (0 : Int32).toInt = 0 := rfl
  have kz1 : (1 : Int32).toInt = 1 := rfl
  have kz2 : (2 : Int32).toInt = 2 := rfl
  have kz3 : (3 : Int32).toInt = 3 := rfl
  have kz4 : (4 : Int32).toInt = 4 := rfl
  have kz5 : (5 : Int32).toInt = 5 := rfl
  have kz6 : (6 : Int32).toInt = 6 := rfl
  have kz7 : (7 : Int32).toInt = 7 := rfl
  have kz8 : (8 : Int32).toInt = 8 := rfl
  have kz9 : (9 : Int32).toInt = 9 := rfl
  have kzm1 : ((-1) : Int32).toInt = (-1) := rfl
  have kzm2 : ((-2) : Int32).toInt = (-2) := rfl
  have kzm3 : ((-3) : Int32).toInt = (-3) := rfl
  refine qm_Rp.go 1 (c' := (1, [.ref 118, .int g, .float 0], [.int g], h)) rfl ?_
  refine qm_Rp.call (j := 278) (as := [.int g]) (c' := (4, [.ref 118, .int g, .float 0], [], h)) rfl rfl ?_
  refine qm_Rp.go 3 (c' := (3, [.int g], [.int 3, .int 0, .int g], h)) rfl ?_
  refine qm_Rp.call (j := 270) (as := [.int g, .int 0, .int 3]) (c' := (6, [.int g], [], h)) rfl rfl ?_
  refine qm_Rp.go 2 (c' := (2, [.int g, .int 0, .int 3], [.int 0, .int g], h)) rfl ?_
  refine hp_clt (ix := g.toInt) (iy := 0) rfl rfl rfl (fun z1 => ?_) (fun z1 => ?_)
  · refine qm_Rp.go 1 (c' := (15, [.int g, .int 0, .int 3], [.int 0], h)) rfl ?_
    refine qm_Rp.rt (v := (some (.int 0))) (h' := h) rfl ?_
    refine qm_Rp.go 0 (c' := (6, [.int g], [.int 0], h)) rfl ?_
    refine qm_Rp.rt (v := (some (.int 0))) (h' := h) rfl ?_
    refine qm_Rp.go 2 (c' := (17, [.ref 118, .int g, .float 0], [.int (-1)], h)) rfl ?_
    refine qm_Rp.rt (v := (some (.int (-1)))) (h' := h) rfl ?_
    exact k0 (fun z => by omega)
  · refine qm_Rp.go 2 (c' := (7, [.int g, .int 0, .int 3], [.int 3, .int g], h)) rfl ?_
    refine hp_cgt (ix := g.toInt) (iy := 3) rfl rfl rfl (fun z2 => ?_) (fun z2 => ?_)
    · refine qm_Rp.go 1 (c' := (15, [.int g, .int 0, .int 3], [.int 0], h)) rfl ?_
      refine qm_Rp.rt (v := (some (.int 0))) (h' := h) rfl ?_
      refine qm_Rp.go 0 (c' := (6, [.int g], [.int 0], h)) rfl ?_
      refine qm_Rp.rt (v := (some (.int 0))) (h' := h) rfl ?_
      refine qm_Rp.go 2 (c' := (17, [.ref 118, .int g, .float 0], [.int (-1)], h)) rfl ?_
      refine qm_Rp.rt (v := (some (.int (-1)))) (h' := h) rfl ?_
      exact k0 (fun z => by omega)
    · refine qm_Rp.go 2 (c' := (15, [.int g, .int 0, .int 3], [.int 1], h)) rfl ?_
      refine qm_Rp.rt (v := (some (.int 1))) (h' := h) rfl ?_
      refine qm_Rp.go 0 (c' := (6, [.int g], [.int 1], h)) rfl ?_
      refine qm_Rp.rt (v := (some (.int 1))) (h' := h) rfl ?_
      refine qm_Rp.go 2 (c' := (8, [.ref 118, .int g, .float 0], [.ref 118], h)) rfl ?_
      refine hp_getr rfl (hH.1 118 (17, 105) rfl) rfl (hH.2 118 53 (some 154) rfl) ?_
      refine qm_Rp.go 1 (c' := (12, [.ref 118, .int g, .float 0], [.int g, .ref 154], h)) rfl ?_
      obtain ⟨v3, q_v3⟩ : ∃ v_, h.2.1 154 g.toInt.toNat = v_ := ⟨_, rfl⟩
      refine hp_ial (v := v3) rfl (hH.1 154 (0, 4) rfl) q_v3 (fun ia_3 ib_3 => ?_)
      refine qm_Rp.go 0 (c' := (13, [.ref 118, .int g, .float 0], [.int v3], h)) rfl ?_
      have eh : pI h.2.1 154 g.toInt.toNat = v3.toInt := congrArg Int32.toInt q_v3
      have bh := hi4 g.toInt.toNat
      rw [show (h.2.1 154 g.toInt.toNat).toInt = v3.toInt from eh] at bh
      refine hp_zne (ix := v3.toInt) rfl rfl (fun z5 => ?_) (fun z5 => ?_)
      · refine qm_Rp.go 1 (c' := (19, [.ref 118, .int g, .float 0], [.ref 118], h)) rfl ?_
        refine hp_getr rfl (hH.1 118 (17, 105) rfl) rfl (hH.2 118 52 (some 153) rfl) ?_
        refine qm_Rp.go 3 (c' := (25, [.ref 118, .int g, .float 0], [.int (4 * g), .ref 153], h)) rfl ?_
        obtain ⟨v6, q_v6, e_v6⟩ := hk_mul (x := 4) (y := g) (a := 4) (b := g.toInt) rfl rfl (by omega) (by omega)
        rw [q_v6]
        refine qm_Rp.go 1 (c' := (26, [.ref 118, .int g, .float 0], [.ref 118, .int v6, .ref 153], h)) rfl ?_
        refine hp_getr rfl (hH.1 118 (17, 105) rfl) rfl (hH.2 118 53 (some 154) rfl) ?_
        refine qm_Rp.go 1 (c' := (30, [.ref 118, .int g, .float 0], [.int g, .ref 154, .int v6, .ref 153], h)) rfl ?_
        refine hp_ial (v := v3) rfl (hH.1 154 (0, 4) rfl) q_v3 (fun ia_6 ib_6 => ?_)
        refine qm_Rp.go 0 (c' := (31, [.ref 118, .int g, .float 0], [.int v3, .int v6, .ref 153], h)) rfl ?_
        refine qm_Rp.go 1 (c' := (32, [.ref 118, .int g, .float 0], [.int (v6 + v3), .ref 153], h)) rfl ?_
        obtain ⟨v8, q_v8, e_v8⟩ := hk_add (x := v6) (y := v3) (a := v6.toInt) (b := v3.toInt) rfl rfl (by omega) (by omega)
        rw [q_v8]
        refine qm_Rp.go 2 (c' := (34, [.ref 118, .int g, .float 0], [.int (v8 - 1), .ref 153], h)) rfl ?_
        obtain ⟨v9, q_v9, e_v9⟩ := hk_sub (x := v8) (y := 1) (a := v8.toInt) (b := 1) rfl rfl (by omega) (by omega)
        rw [q_v9]
        obtain ⟨v10, q_v10⟩ : ∃ v_, h.2.1 153 v9.toInt.toNat = v_ := ⟨_, rfl⟩
        refine hp_ial (v := v10) rfl (hH.1 153 (0, 16) rfl) q_v10 (fun ia_10 ib_10 => ?_)
        refine qm_Rp.go 0 (c' := (35, [.ref 118, .int g, .float 0], [.int v10], h)) rfl ?_
        have et : pI h.2.1 153 (4 * g.toInt + pI h.2.1 154 g.toInt.toNat - 1).toNat = v10.toInt := by rw [eh, show (4 * g.toInt + v3.toInt - 1).toNat = v9.toInt.toNat by omega]; exact congrArg Int32.toInt q_v10
        have b16 := h29 (4 * g.toInt + pI h.2.1 154 g.toInt.toNat - 1).toNat
        rw [show (h.2.1 153 (4 * g.toInt + pI h.2.1 154 g.toInt.toNat - 1).toNat).toInt = v10.toInt from et] at b16
        refine qm_Rp.go 4 (c' := (39, [.ref 118, .int g, .int v10], [.ref 118, .int v10, .ref 118], h)) rfl ?_
        refine hp_geti (v := nf) rfl (hH.1 118 (17, 105) rfl) rfl q_nf ?_
        refine qm_Rp.go 0 (c' := (42, [.ref 118, .int g, .int v10], [.int nf, .int v10, .ref 118], h)) rfl ?_
        refine hp_inv (o := 118) (r := []) (as := [.ref 118, .int v10, .int nf]) rfl rfl (hH.1 118 (17, 105) rfl) rfl rfl rfl (hst v10 _ _ (fun s12 b_s12 e_s12 => ?_))
        refine qm_Rp.go 0 (c' := (45, [.ref 118, .int g, .int v10], [.int s12], h)) rfl ?_
        refine hp_zeq (ix := s12.toInt) rfl rfl (fun z13 => ?_) (fun z13 => ?_)
        · refine qm_Rp.go 2 (c' := (53, [.ref 118, .int g, .int v10], [.int v10, .ref 118], h)) rfl ?_
          have ab := hC g.toInt.toNat (v3.toInt - 1).toNat (by omega) (by omega) (by rw [eh]; omega)
          rw [show 4 * g.toInt.toNat + (v3.toInt - 1).toNat = (4 * g.toInt + pI h.2.1 154 g.toInt.toNat - 1).toNat by rw [eh]; omega, et] at ab
          refine hp_inv (o := 118) (r := []) (as := [.ref 118, .int v10]) rfl rfl (hH.1 118 (17, 105) rfl) rfl rfl rfl (px_lv2 (h := h) hH (u := h.2.1 151 (v10.toInt.toNat)) (hk_eqi.mpr ab.1) rfl (by rw [show (h.2.1 151 (v10.toInt.toNat)).toInt = pI h.2.1 151 (v10.toInt.toNat) from rfl, ab.2]; omega) hi4 (fun I14 f x50 x54 => ?_))
          rw [show (pI h.2.1 151 (v10.toInt.toNat) / 4).toNat = g.toInt.toNat by rw [ab.2]; omega] at x54
          refine qm_Rp.go 1 (c' := (57, [.ref 118, .int g, .int v10], [.int v10], (h.1, I14, h.2.2.1, h.2.2.2))) rfl ?_
          refine qm_Rp.rt (v := (some (.int v10))) (h' := (h.1, I14, h.2.2.1, h.2.2.2)) rfl ?_
          exact k2 I14 v10 s12 ⟨by omega, by omega, by omega⟩ et.symm e_s12 (by omega) f x50 x54
        · refine qm_Rp.go 1 (c' := (50, [.ref 118, .int g, .int v10], [.int (-2)], h)) rfl ?_
          refine qm_Rp.rt (v := (some (.int (-2)))) (h' := h) rfl ?_
          exact k1 v10 s12 ⟨by omega, by omega, by omega⟩ et.symm e_s12 (by omega)
      · refine qm_Rp.go 1 (c' := (17, [.ref 118, .int g, .float 0], [.int (-1)], h)) rfl ?_
        refine qm_Rp.rt (v := (some (.int (-1)))) (h' := h) rfl ?_
        exact k0 (fun z => by omega)
theorem px_ccv29 {X : Option (Nat × (Nat → Int32))} {Z : Option Value → qm_H → Prop} {h : qm_H} {fu : Nat} (hH : hk_H h) (hT : h.2.2.2 28 2 = some 29) {B : Int32} (q_B : h.2.1 29 0 = B) (hB : 1 ≤ B.toInt ∧ B.toInt ≤ 5) {y on cv : Int32} (hon : 0 ≤ on.toInt ∧ on.toInt ≤ 1) (q_cv : h.2.1 28 4 = cv) (k0 : ¬ (0 ≤ y.toInt ∧ y.toInt < B.toInt ∧ ¬ (((cv >>> (y &&& 31)) &&& 1).toInt = 1 ↔ on.toInt = 1) ∧ (on.toInt = 0 → ¬ dkV (pI h.2.1 36) y.toInt)) → Z (some (.int 0)) h) (k1 : ∀ (I : Nat → Nat → Int32), (0 ≤ y.toInt ∧ y.toInt < B.toInt ∧ ¬ (((cv >>> (y &&& 31)) &&& 1).toInt = 1 ↔ on.toInt = 1) ∧ (on.toInt = 0 → ¬ dkV (pI h.2.1 36) y.toInt)) → (∀ o, [28].contains o = false → ∀ i, I o i = h.2.1 o i) → (∀ i, [4].contains i = false → I 28 i = h.2.1 28 i) → I 28 4 = cv ^^^ (1 <<< (y &&& 31)) → Z (some (.int 1)) (h.1, I, h.2.2.1, h.2.2.2)) : qm_Rp fu X cd_71 (qm_ent 3 [.ref 0, .int y, .int on] h) Z := by
  refine qm_Rp.go 0 (c' := (0, [.ref 0, .int y, .int on], [], h)) rfl ?_
  have kz0 : (0 : Int32).toInt = 0 := rfl
  have kz1 : (1 : Int32).toInt = 1 := rfl
  have kz2 : (2 : Int32).toInt = 2 := rfl
  have kz3 : (3 : Int32).toInt = 3 := rfl
  have kz4 : (4 : Int32).toInt = 4 := rfl
  have kz5 : (5 : Int32).toInt = 5 := rfl
  have kz6 : (6 : Int32).toInt = 6 := rfl
  have kz7 : (7 : Int32).toInt = 7 := rfl
  have kz8 : (8 : Int32).toInt = 8 := rfl
  have kz9 : (9 : Int32).toInt = 9 := rfl
  have kzm1 : ((-1) : Int32).toInt = (-1) := rfl
  have kzm2 : ((-2) : Int32).toInt = (-2) := rfl
  have kzm3 : ((-3) : Int32).toInt = (-3) := rfl
  refine qm_Rp.go 1 (c' := (1, [.ref 0, .int y, .int on], [.ref 0], h)) rfl ?_
  refine hp_getr rfl (hH.1 0 (16, 10) rfl) rfl (hH.2 0 4 (some 28) rfl) ?_
  refine qm_Rp.go 1 (c' := (5, [.ref 0, .int y, .int on], [.int y, .ref 28], h)) rfl ?_
  refine hp_inv (o := 28) (r := []) (as := [.ref 28, .int y]) rfl rfl (hH.1 28 (9, 8) rfl) rfl rfl rfl ?_
  refine qm_Rp.go 1 (c' := (1, [.ref 28, .int y], [.int y], h)) rfl ?_
  refine hp_zlt (ix := y.toInt) rfl rfl (fun z1 => ?_) (fun z1 => ?_)
  · refine qm_Rp.go 1 (c' := (20, [.ref 28, .int y], [.int 0], h)) rfl ?_
    refine qm_Rp.rt (v := (some (.int 0))) (h' := h) rfl ?_
    refine qm_Rp.go 2 (c' := (24, [.ref 0, .int y, .int on], [.int 0], h)) rfl ?_
    refine qm_Rp.rt (v := (some (.int 0))) (h' := h) rfl ?_
    exact k0 (fun z => by omega)
  · refine qm_Rp.go 2 (c' := (6, [.ref 28, .int y], [.ref 28, .int y], h)) rfl ?_
    refine hp_getr rfl (hH.1 28 (9, 8) rfl) rfl hT ?_
    refine qm_Rp.go 0 (c' := (9, [.ref 28, .int y], [.ref 29, .int y], h)) rfl ?_
    refine hp_geti (v := B) rfl (hH.1 29 (11, 16) rfl) rfl q_B ?_
    refine qm_Rp.go 0 (c' := (12, [.ref 28, .int y], [.int B, .int y], h)) rfl ?_
    refine hp_cge (ix := y.toInt) (iy := B.toInt) rfl rfl rfl (fun z2 => ?_) (fun z2 => ?_)
    · refine qm_Rp.go 1 (c' := (20, [.ref 28, .int y], [.int 0], h)) rfl ?_
      refine qm_Rp.rt (v := (some (.int 0))) (h' := h) rfl ?_
      refine qm_Rp.go 2 (c' := (24, [.ref 0, .int y, .int on], [.int 0], h)) rfl ?_
      refine qm_Rp.rt (v := (some (.int 0))) (h' := h) rfl ?_
      exact k0 (fun z => by omega)
    · refine qm_Rp.go 2 (c' := (20, [.ref 28, .int y], [.int 1], h)) rfl ?_
      refine qm_Rp.rt (v := (some (.int 1))) (h' := h) rfl ?_
      refine qm_Rp.go 2 (c' := (12, [.ref 0, .int y, .int on], [.ref 0], h)) rfl ?_
      refine hp_getr rfl (hH.1 0 (16, 10) rfl) rfl (hH.2 0 4 (some 28) rfl) ?_
      refine qm_Rp.go 1 (c' := (16, [.ref 0, .int y, .int on], [.int y, .ref 28], h)) rfl ?_
      refine hp_inv (o := 28) (r := []) (as := [.ref 28, .int y]) rfl rfl (hH.1 28 (9, 8) rfl) rfl rfl rfl ?_
      refine qm_Rp.go 1 (c' := (1, [.ref 28, .int y], [.ref 28], h)) rfl ?_
      refine hp_geti (v := cv) rfl (hH.1 28 (9, 8) rfl) rfl q_cv ?_
      refine qm_Rp.go 2 (c' := (6, [.ref 28, .int y], [.int (cv >>> (y &&& 31))], h)) rfl ?_
      obtain ⟨v3, q_v3⟩ : ∃ v_, (cv >>> (y &&& 31)) = v_ := ⟨_, rfl⟩
      rw [q_v3]
      refine qm_Rp.go 2 (c' := (8, [.ref 28, .int y], [.int (v3 &&& 1)], h)) rfl ?_
      obtain ⟨v4, q_v4⟩ : ∃ v_, (v3 &&& 1) = v_ := ⟨_, rfl⟩
      rw [q_v4]
      refine qm_Rp.go 1 (c' := (9, [.ref 28, .int y], [.int 1, .int v4], h)) rfl ?_
      have ecv : ((cv >>> (y &&& 31)) &&& 1) = v4 := by rw [q_v3, q_v4]
      refine hp_cne (ix := v4.toInt) (iy := 1) rfl rfl rfl (fun z5 => ?_) (fun z5 => ?_)
      · refine qm_Rp.go 1 (c' := (17, [.ref 28, .int y], [.int 0], h)) rfl ?_
        refine qm_Rp.rt (v := (some (.int 0))) (h' := h) rfl ?_
        refine qm_Rp.go 1 (c' := (20, [.ref 0, .int y, .int on], [.int on, .int 0], h)) rfl ?_
        refine hp_cne (ix := 0) (iy := on.toInt) rfl rfl rfl (fun z6 => ?_) (fun z6 => ?_)
        · refine qm_Rp.go 1 (c' := (26, [.ref 0, .int y, .int on], [.int on], h)) rfl ?_
          refine hp_zne (ix := on.toInt) rfl rfl (fun z7 => ?_) (fun z7 => by exfalso; omega)
          refine qm_Rp.go 1 (c' := (43, [.ref 0, .int y, .int on], [.ref 0], h)) rfl ?_
          refine hp_getr rfl (hH.1 0 (16, 10) rfl) rfl (hH.2 0 4 (some 28) rfl) ?_
          refine qm_Rp.go 1 (c' := (47, [.ref 0, .int y, .int on], [.ref 28, .ref 28], h)) rfl ?_
          refine hp_geti (v := cv) rfl (hH.1 28 (9, 8) rfl) rfl q_cv ?_
          refine qm_Rp.go 3 (c' := (53, [.ref 0, .int y, .int on], [.int (1 <<< (y &&& 31)), .int cv, .ref 28], h)) rfl ?_
          obtain ⟨v8, q_v8⟩ : ∃ v_, (1 <<< (y &&& 31)) = v_ := ⟨_, rfl⟩
          rw [q_v8]
          refine qm_Rp.go 1 (c' := (54, [.ref 0, .int y, .int on], [.int (cv ^^^ v8), .ref 28], h)) rfl ?_
          obtain ⟨v9, q_v9⟩ : ∃ v_, (cv ^^^ v8) = v_ := ⟨_, rfl⟩
          rw [q_v9]
          refine hp_puti rfl (hH.1 28 (9, 8) rfl) rfl ?_
          refine qm_Rp.go 1 (c' := (58, [.ref 0, .int y, .int on], [.int 1], (h.1, qm_up h.2.1 28 4 v9, h.2.2.1, h.2.2.2))) rfl ?_
          refine qm_Rp.rt (v := (some (.int 1))) (h' := (h.1, qm_up h.2.1 28 4 v9, h.2.2.1, h.2.2.2)) rfl ?_
          exact k1 (qm_up h.2.1 28 4 v9) ⟨by omega, by omega, by rw [ecv]; omega, fun z => by omega⟩ (fun o ho i => ((hk_mod ho rfl).trans rfl)) (fun i hi => ((hk_neq (fun z => by subst z; cases hi)).trans rfl)) (hk_same.trans (by rw [← q_v9, ← q_v8]))
        · refine qm_Rp.go 1 (c' := (24, [.ref 0, .int y, .int on], [.int 0], h)) rfl ?_
          refine qm_Rp.rt (v := (some (.int 0))) (h' := h) rfl ?_
          exact k0 (fun z => by have := z.2.2.1; rw [ecv] at this; omega)
      · refine qm_Rp.go 2 (c' := (17, [.ref 28, .int y], [.int 1], h)) rfl ?_
        refine qm_Rp.rt (v := (some (.int 1))) (h' := h) rfl ?_
        refine qm_Rp.go 1 (c' := (20, [.ref 0, .int y, .int on], [.int on, .int 1], h)) rfl ?_
        refine hp_cne (ix := 1) (iy := on.toInt) rfl rfl rfl (fun z10 => ?_) (fun z10 => ?_)
        · refine qm_Rp.go 1 (c' := (26, [.ref 0, .int y, .int on], [.int on], h)) rfl ?_
          refine hp_zne (ix := on.toInt) rfl rfl (fun z11 => by exfalso; omega) (fun z11 => ?_)
          refine qm_Rp.go 1 (c' := (30, [.ref 0, .int y, .int on], [.ref 0], h)) rfl ?_
          refine hp_getr rfl (hH.1 0 (16, 10) rfl) rfl (hH.2 0 4 (some 28) rfl) ?_
          refine qm_Rp.go 1 (c' := (34, [.ref 0, .int y, .int on], [.int y, .ref 28], h)) rfl ?_
          refine hp_inv (o := 28) (r := []) (as := [.ref 28, .int y]) rfl rfl (hH.1 28 (9, 8) rfl) rfl rfl rfl (px_cdk (h := h) hH ⟨by omega, by omega⟩ (fun r12 e_r12 => ?_))
          rcases e_r12 with ⟨hr, hdk⟩ | ⟨hr, hdk⟩
          · obtain rfl : r12 = 1 := hk_eqi.mpr (hr.trans rfl)
            refine qm_Rp.go 2 (c' := (41, [.ref 0, .int y, .int on], [.int 0], h)) rfl ?_
            refine qm_Rp.rt (v := (some (.int 0))) (h' := h) rfl ?_
            exact k0 (fun z => z.2.2.2 (by omega) hdk)
          · obtain rfl : r12 = 0 := hk_eqi.mpr (hr.trans rfl)
            refine qm_Rp.go 2 (c' := (43, [.ref 0, .int y, .int on], [.ref 0], h)) rfl ?_
            refine hp_getr rfl (hH.1 0 (16, 10) rfl) rfl (hH.2 0 4 (some 28) rfl) ?_
            refine qm_Rp.go 1 (c' := (47, [.ref 0, .int y, .int on], [.ref 28, .ref 28], h)) rfl ?_
            refine hp_geti (v := cv) rfl (hH.1 28 (9, 8) rfl) rfl q_cv ?_
            refine qm_Rp.go 3 (c' := (53, [.ref 0, .int y, .int on], [.int (1 <<< (y &&& 31)), .int cv, .ref 28], h)) rfl ?_
            obtain ⟨v13, q_v13⟩ : ∃ v_, (1 <<< (y &&& 31)) = v_ := ⟨_, rfl⟩
            rw [q_v13]
            refine qm_Rp.go 1 (c' := (54, [.ref 0, .int y, .int on], [.int (cv ^^^ v13), .ref 28], h)) rfl ?_
            obtain ⟨v14, q_v14⟩ : ∃ v_, (cv ^^^ v13) = v_ := ⟨_, rfl⟩
            rw [q_v14]
            refine hp_puti rfl (hH.1 28 (9, 8) rfl) rfl ?_
            refine qm_Rp.go 1 (c' := (58, [.ref 0, .int y, .int on], [.int 1], (h.1, qm_up h.2.1 28 4 v14, h.2.2.1, h.2.2.2))) rfl ?_
            refine qm_Rp.rt (v := (some (.int 1))) (h' := (h.1, qm_up h.2.1 28 4 v14, h.2.2.1, h.2.2.2)) rfl ?_
            exact k1 (qm_up h.2.1 28 4 v14) ⟨by omega, by omega, by rw [ecv]; omega, fun z => hdk⟩ (fun o ho i => ((hk_mod ho rfl).trans rfl)) (fun i hi => ((hk_neq (fun z => by subst z; cases hi)).trans rfl)) (hk_same.trans (by rw [← q_v14, ← q_v13]))
        · refine qm_Rp.go 1 (c' := (24, [.ref 0, .int y, .int on], [.int 0], h)) rfl ?_
          refine qm_Rp.rt (v := (some (.int 0))) (h' := h) rfl ?_
          exact k0 (fun z => by have := z.2.2.1; rw [ecv] at this; omega)
theorem px_ccv111 {X : Option (Nat × (Nat → Int32))} {Z : Option Value → qm_H → Prop} {h : qm_H} {fu : Nat} (hH : hk_H h) (hT : h.2.2.2 28 2 = some 111) {B : Int32} (q_B : h.2.1 111 0 = B) (hB : 1 ≤ B.toInt ∧ B.toInt ≤ 5) {y on cv : Int32} (hon : 0 ≤ on.toInt ∧ on.toInt ≤ 1) (q_cv : h.2.1 28 4 = cv) (k0 : ¬ (0 ≤ y.toInt ∧ y.toInt < B.toInt ∧ ¬ (((cv >>> (y &&& 31)) &&& 1).toInt = 1 ↔ on.toInt = 1) ∧ (on.toInt = 0 → ¬ dkV (pI h.2.1 36) y.toInt)) → Z (some (.int 0)) h) (k1 : ∀ (I : Nat → Nat → Int32), (0 ≤ y.toInt ∧ y.toInt < B.toInt ∧ ¬ (((cv >>> (y &&& 31)) &&& 1).toInt = 1 ↔ on.toInt = 1) ∧ (on.toInt = 0 → ¬ dkV (pI h.2.1 36) y.toInt)) → (∀ o, [28].contains o = false → ∀ i, I o i = h.2.1 o i) → (∀ i, [4].contains i = false → I 28 i = h.2.1 28 i) → I 28 4 = cv ^^^ (1 <<< (y &&& 31)) → Z (some (.int 1)) (h.1, I, h.2.2.1, h.2.2.2)) : qm_Rp fu X cd_71 (qm_ent 3 [.ref 0, .int y, .int on] h) Z := by
  refine qm_Rp.go 0 (c' := (0, [.ref 0, .int y, .int on], [], h)) rfl ?_
  have kz0 : (0 : Int32).toInt = 0 := rfl
  have kz1 : (1 : Int32).toInt = 1 := rfl
  have kz2 : (2 : Int32).toInt = 2 := rfl
  have kz3 : (3 : Int32).toInt = 3 := rfl
  have kz4 : (4 : Int32).toInt = 4 := rfl
  have kz5 : (5 : Int32).toInt = 5 := rfl
  have kz6 : (6 : Int32).toInt = 6 := rfl
  have kz7 : (7 : Int32).toInt = 7 := rfl
  have kz8 : (8 : Int32).toInt = 8 := rfl
  have kz9 : (9 : Int32).toInt = 9 := rfl
  have kzm1 : ((-1) : Int32).toInt = (-1) := rfl
  have kzm2 : ((-2) : Int32).toInt = (-2) := rfl
  have kzm3 : ((-3) : Int32).toInt = (-3) := rfl
  refine qm_Rp.go 1 (c' := (1, [.ref 0, .int y, .int on], [.ref 0], h)) rfl ?_
  refine hp_getr rfl (hH.1 0 (16, 10) rfl) rfl (hH.2 0 4 (some 28) rfl) ?_
  refine qm_Rp.go 1 (c' := (5, [.ref 0, .int y, .int on], [.int y, .ref 28], h)) rfl ?_
  refine hp_inv (o := 28) (r := []) (as := [.ref 28, .int y]) rfl rfl (hH.1 28 (9, 8) rfl) rfl rfl rfl ?_
  refine qm_Rp.go 1 (c' := (1, [.ref 28, .int y], [.int y], h)) rfl ?_
  refine hp_zlt (ix := y.toInt) rfl rfl (fun z1 => ?_) (fun z1 => ?_)
  · refine qm_Rp.go 1 (c' := (20, [.ref 28, .int y], [.int 0], h)) rfl ?_
    refine qm_Rp.rt (v := (some (.int 0))) (h' := h) rfl ?_
    refine qm_Rp.go 2 (c' := (24, [.ref 0, .int y, .int on], [.int 0], h)) rfl ?_
    refine qm_Rp.rt (v := (some (.int 0))) (h' := h) rfl ?_
    exact k0 (fun z => by omega)
  · refine qm_Rp.go 2 (c' := (6, [.ref 28, .int y], [.ref 28, .int y], h)) rfl ?_
    refine hp_getr rfl (hH.1 28 (9, 8) rfl) rfl hT ?_
    refine qm_Rp.go 0 (c' := (9, [.ref 28, .int y], [.ref 111, .int y], h)) rfl ?_
    refine hp_geti (v := B) rfl (hH.1 111 (11, 16) rfl) rfl q_B ?_
    refine qm_Rp.go 0 (c' := (12, [.ref 28, .int y], [.int B, .int y], h)) rfl ?_
    refine hp_cge (ix := y.toInt) (iy := B.toInt) rfl rfl rfl (fun z2 => ?_) (fun z2 => ?_)
    · refine qm_Rp.go 1 (c' := (20, [.ref 28, .int y], [.int 0], h)) rfl ?_
      refine qm_Rp.rt (v := (some (.int 0))) (h' := h) rfl ?_
      refine qm_Rp.go 2 (c' := (24, [.ref 0, .int y, .int on], [.int 0], h)) rfl ?_
      refine qm_Rp.rt (v := (some (.int 0))) (h' := h) rfl ?_
      exact k0 (fun z => by omega)
    · refine qm_Rp.go 2 (c' := (20, [.ref 28, .int y], [.int 1], h)) rfl ?_
      refine qm_Rp.rt (v := (some (.int 1))) (h' := h) rfl ?_
      refine qm_Rp.go 2 (c' := (12, [.ref 0, .int y, .int on], [.ref 0], h)) rfl ?_
      refine hp_getr rfl (hH.1 0 (16, 10) rfl) rfl (hH.2 0 4 (some 28) rfl) ?_
      refine qm_Rp.go 1 (c' := (16, [.ref 0, .int y, .int on], [.int y, .ref 28], h)) rfl ?_
      refine hp_inv (o := 28) (r := []) (as := [.ref 28, .int y]) rfl rfl (hH.1 28 (9, 8) rfl) rfl rfl rfl ?_
      refine qm_Rp.go 1 (c' := (1, [.ref 28, .int y], [.ref 28], h)) rfl ?_
      refine hp_geti (v := cv) rfl (hH.1 28 (9, 8) rfl) rfl q_cv ?_
      refine qm_Rp.go 2 (c' := (6, [.ref 28, .int y], [.int (cv >>> (y &&& 31))], h)) rfl ?_
      obtain ⟨v3, q_v3⟩ : ∃ v_, (cv >>> (y &&& 31)) = v_ := ⟨_, rfl⟩
      rw [q_v3]
      refine qm_Rp.go 2 (c' := (8, [.ref 28, .int y], [.int (v3 &&& 1)], h)) rfl ?_
      obtain ⟨v4, q_v4⟩ : ∃ v_, (v3 &&& 1) = v_ := ⟨_, rfl⟩
      rw [q_v4]
      refine qm_Rp.go 1 (c' := (9, [.ref 28, .int y], [.int 1, .int v4], h)) rfl ?_
      have ecv : ((cv >>> (y &&& 31)) &&& 1) = v4 := by rw [q_v3, q_v4]
      refine hp_cne (ix := v4.toInt) (iy := 1) rfl rfl rfl (fun z5 => ?_) (fun z5 => ?_)
      · refine qm_Rp.go 1 (c' := (17, [.ref 28, .int y], [.int 0], h)) rfl ?_
        refine qm_Rp.rt (v := (some (.int 0))) (h' := h) rfl ?_
        refine qm_Rp.go 1 (c' := (20, [.ref 0, .int y, .int on], [.int on, .int 0], h)) rfl ?_
        refine hp_cne (ix := 0) (iy := on.toInt) rfl rfl rfl (fun z6 => ?_) (fun z6 => ?_)
        · refine qm_Rp.go 1 (c' := (26, [.ref 0, .int y, .int on], [.int on], h)) rfl ?_
          refine hp_zne (ix := on.toInt) rfl rfl (fun z7 => ?_) (fun z7 => by exfalso; omega)
          refine qm_Rp.go 1 (c' := (43, [.ref 0, .int y, .int on], [.ref 0], h)) rfl ?_
          refine hp_getr rfl (hH.1 0 (16, 10) rfl) rfl (hH.2 0 4 (some 28) rfl) ?_
          refine qm_Rp.go 1 (c' := (47, [.ref 0, .int y, .int on], [.ref 28, .ref 28], h)) rfl ?_
          refine hp_geti (v := cv) rfl (hH.1 28 (9, 8) rfl) rfl q_cv ?_
          refine qm_Rp.go 3 (c' := (53, [.ref 0, .int y, .int on], [.int (1 <<< (y &&& 31)), .int cv, .ref 28], h)) rfl ?_
          obtain ⟨v8, q_v8⟩ : ∃ v_, (1 <<< (y &&& 31)) = v_ := ⟨_, rfl⟩
          rw [q_v8]
          refine qm_Rp.go 1 (c' := (54, [.ref 0, .int y, .int on], [.int (cv ^^^ v8), .ref 28], h)) rfl ?_
          obtain ⟨v9, q_v9⟩ : ∃ v_, (cv ^^^ v8) = v_ := ⟨_, rfl⟩
          rw [q_v9]
          refine hp_puti rfl (hH.1 28 (9, 8) rfl) rfl ?_
          refine qm_Rp.go 1 (c' := (58, [.ref 0, .int y, .int on], [.int 1], (h.1, qm_up h.2.1 28 4 v9, h.2.2.1, h.2.2.2))) rfl ?_
          refine qm_Rp.rt (v := (some (.int 1))) (h' := (h.1, qm_up h.2.1 28 4 v9, h.2.2.1, h.2.2.2)) rfl ?_
          exact k1 (qm_up h.2.1 28 4 v9) ⟨by omega, by omega, by rw [ecv]; omega, fun z => by omega⟩ (fun o ho i => ((hk_mod ho rfl).trans rfl)) (fun i hi => ((hk_neq (fun z => by subst z; cases hi)).trans rfl)) (hk_same.trans (by rw [← q_v9, ← q_v8]))
        · refine qm_Rp.go 1 (c' := (24, [.ref 0, .int y, .int on], [.int 0], h)) rfl ?_
          refine qm_Rp.rt (v := (some (.int 0))) (h' := h) rfl ?_
          exact k0 (fun z => by have := z.2.2.1; rw [ecv] at this; omega)
      · refine qm_Rp.go 2 (c' := (17, [.ref 28, .int y], [.int 1], h)) rfl ?_
        refine qm_Rp.rt (v := (some (.int 1))) (h' := h) rfl ?_
        refine qm_Rp.go 1 (c' := (20, [.ref 0, .int y, .int on], [.int on, .int 1], h)) rfl ?_
        refine hp_cne (ix := 1) (iy := on.toInt) rfl rfl rfl (fun z10 => ?_) (fun z10 => ?_)
        · refine qm_Rp.go 1 (c' := (26, [.ref 0, .int y, .int on], [.int on], h)) rfl ?_
          refine hp_zne (ix := on.toInt) rfl rfl (fun z11 => by exfalso; omega) (fun z11 => ?_)
          refine qm_Rp.go 1 (c' := (30, [.ref 0, .int y, .int on], [.ref 0], h)) rfl ?_
          refine hp_getr rfl (hH.1 0 (16, 10) rfl) rfl (hH.2 0 4 (some 28) rfl) ?_
          refine qm_Rp.go 1 (c' := (34, [.ref 0, .int y, .int on], [.int y, .ref 28], h)) rfl ?_
          refine hp_inv (o := 28) (r := []) (as := [.ref 28, .int y]) rfl rfl (hH.1 28 (9, 8) rfl) rfl rfl rfl (px_cdk (h := h) hH ⟨by omega, by omega⟩ (fun r12 e_r12 => ?_))
          rcases e_r12 with ⟨hr, hdk⟩ | ⟨hr, hdk⟩
          · obtain rfl : r12 = 1 := hk_eqi.mpr (hr.trans rfl)
            refine qm_Rp.go 2 (c' := (41, [.ref 0, .int y, .int on], [.int 0], h)) rfl ?_
            refine qm_Rp.rt (v := (some (.int 0))) (h' := h) rfl ?_
            exact k0 (fun z => z.2.2.2 (by omega) hdk)
          · obtain rfl : r12 = 0 := hk_eqi.mpr (hr.trans rfl)
            refine qm_Rp.go 2 (c' := (43, [.ref 0, .int y, .int on], [.ref 0], h)) rfl ?_
            refine hp_getr rfl (hH.1 0 (16, 10) rfl) rfl (hH.2 0 4 (some 28) rfl) ?_
            refine qm_Rp.go 1 (c' := (47, [.ref 0, .int y, .int on], [.ref 28, .ref 28], h)) rfl ?_
            refine hp_geti (v := cv) rfl (hH.1 28 (9, 8) rfl) rfl q_cv ?_
            refine qm_Rp.go 3 (c' := (53, [.ref 0, .int y, .int on], [.int (1 <<< (y &&& 31)), .int cv, .ref 28], h)) rfl ?_
            obtain ⟨v13, q_v13⟩ : ∃ v_, (1 <<< (y &&& 31)) = v_ := ⟨_, rfl⟩
            rw [q_v13]
            refine qm_Rp.go 1 (c' := (54, [.ref 0, .int y, .int on], [.int (cv ^^^ v13), .ref 28], h)) rfl ?_
            obtain ⟨v14, q_v14⟩ : ∃ v_, (cv ^^^ v13) = v_ := ⟨_, rfl⟩
            rw [q_v14]
            refine hp_puti rfl (hH.1 28 (9, 8) rfl) rfl ?_
            refine qm_Rp.go 1 (c' := (58, [.ref 0, .int y, .int on], [.int 1], (h.1, qm_up h.2.1 28 4 v14, h.2.2.1, h.2.2.2))) rfl ?_
            refine qm_Rp.rt (v := (some (.int 1))) (h' := (h.1, qm_up h.2.1 28 4 v14, h.2.2.1, h.2.2.2)) rfl ?_
            exact k1 (qm_up h.2.1 28 4 v14) ⟨by omega, by omega, by rw [ecv]; omega, fun z => hdk⟩ (fun o ho i => ((hk_mod ho rfl).trans rfl)) (fun i hi => ((hk_neq (fun z => by subst z; cases hi)).trans rfl)) (hk_same.trans (by rw [← q_v14, ← q_v13]))
        · refine qm_Rp.go 1 (c' := (24, [.ref 0, .int y, .int on], [.int 0], h)) rfl ?_
          refine qm_Rp.rt (v := (some (.int 0))) (h' := h) rfl ?_
          exact k0 (fun z => by have := z.2.2.1; rw [ecv] at this; omega)
theorem px_rcv0 {X : Option (Nat × (Nat → Int32))} {Z : Option Value → qm_H → Prop} {h : qm_H} {fu : Nat} (hH : hk_H h) {B : Int32} (q_lv : h.2.1 118 18 = 0) (q_B : h.2.1 127 0 = B) (hB : 1 ≤ B.toInt ∧ B.toInt ≤ 5) {y on cv : Int32} (hon : 0 ≤ on.toInt ∧ on.toInt ≤ 1) (q_cv : h.2.1 118 54 = cv) (k0 : ¬ (0 ≤ y.toInt ∧ y.toInt < B.toInt ∧ ¬ (((cv >>> (y &&& 31)) &&& 1).toInt = 1 ↔ on.toInt = 1) ∧ (on.toInt = 0 → ¬ dkV (pI h.2.1 152) y.toInt)) → Z (some (.int 0)) h) (k1 : ∀ (I : Nat → Nat → Int32), (0 ≤ y.toInt ∧ y.toInt < B.toInt ∧ ¬ (((cv >>> (y &&& 31)) &&& 1).toInt = 1 ↔ on.toInt = 1) ∧ (on.toInt = 0 → ¬ dkV (pI h.2.1 152) y.toInt)) → (∀ o, [118].contains o = false → ∀ i, I o i = h.2.1 o i) → (∀ i, [54].contains i = false → I 118 i = h.2.1 118 i) → I 118 54 = cv ^^^ (1 <<< (y &&& 31)) → Z (some (.int 1)) (h.1, I, h.2.2.1, h.2.2.2)) : qm_Rp fu X cd_273 (qm_ent 3 [.ref 118, .int y, .int on] h) Z := by
  refine qm_Rp.go 0 (c' := (0, [.ref 118, .int y, .int on], [], h)) rfl ?_
  have kz0 : (0 : Int32).toInt = 0 := rfl
  have kz1 : (1 : Int32).toInt = 1 := rfl
  have kz2 : (2 : Int32).toInt = 2 := rfl
  have kz3 : (3 : Int32).toInt = 3 := rfl
  have kz4 : (4 : Int32).toInt = 4 := rfl
  have kz5 : (5 : Int32).toInt = 5 := rfl
  have kz6 : (6 : Int32).toInt = 6 := rfl
  have kz7 : (7 : Int32).toInt = 7 := rfl
  have kz8 : (8 : Int32).toInt = 8 := rfl
  have kz9 : (9 : Int32).toInt = 9 := rfl
  have kzm1 : ((-1) : Int32).toInt = (-1) := rfl
  have kzm2 : ((-2) : Int32).toInt = (-2) := rfl
  have kzm3 : ((-3) : Int32).toInt = (-3) := rfl
  refine qm_Rp.go 2 (c' := (2, [.ref 118, .int y, .int on], [.int y, .ref 118], h)) rfl ?_
  refine hp_inv (o := 118) (r := []) (as := [.ref 118, .int y]) rfl rfl (hH.1 118 (17, 105) rfl) rfl rfl rfl ?_
  refine qm_Rp.go 3 (c' := (3, [.ref 118, .int y], [.ref 118, .int 0, .int y], h)) rfl ?_
  refine hp_getr rfl (hH.1 118 (17, 105) rfl) rfl (hH.2 118 22 (some 127) rfl) ?_
  refine qm_Rp.go 1 (c' := (7, [.ref 118, .int y], [.ref 118, .ref 127, .int 0, .int y], h)) rfl ?_
  refine hp_geti (v := 0) rfl (hH.1 118 (17, 105) rfl) rfl q_lv ?_
  refine qm_Rp.go 0 (c' := (10, [.ref 118, .int y], [.int 0, .ref 127, .int 0, .int y], h)) rfl ?_
  refine hp_ial (v := B) rfl (hH.1 127 (0, 2) rfl) q_B (fun ia_0 ib_0 => ?_)
  refine qm_Rp.go 2 (c' := (13, [.ref 118, .int y], [.int (B - 1), .int 0, .int y], h)) rfl ?_
  obtain ⟨v2, q_v2, e_v2⟩ := hk_sub (x := B) (y := 1) (a := B.toInt) (b := 1) rfl rfl (by omega) (by omega)
  rw [q_v2]
  refine qm_Rp.call (j := 270) (as := [.int y, .int 0, .int v2]) (c' := (16, [.ref 118, .int y], [], h)) rfl rfl ?_
  refine qm_Rp.go 2 (c' := (2, [.int y, .int 0, .int v2], [.int 0, .int y], h)) rfl ?_
  refine hp_clt (ix := y.toInt) (iy := 0) rfl rfl rfl (fun z3 => ?_) (fun z3 => ?_)
  · refine qm_Rp.go 1 (c' := (15, [.int y, .int 0, .int v2], [.int 0], h)) rfl ?_
    refine qm_Rp.rt (v := (some (.int 0))) (h' := h) rfl ?_
    refine qm_Rp.go 0 (c' := (16, [.ref 118, .int y], [.int 0], h)) rfl ?_
    refine qm_Rp.rt (v := (some (.int 0))) (h' := h) rfl ?_
    refine qm_Rp.go 2 (c' := (30, [.ref 118, .int y, .int on], [.int 0], h)) rfl ?_
    refine qm_Rp.rt (v := (some (.int 0))) (h' := h) rfl ?_
    exact k0 (fun z => by omega)
  · refine qm_Rp.go 2 (c' := (7, [.int y, .int 0, .int v2], [.int v2, .int y], h)) rfl ?_
    refine hp_cgt (ix := y.toInt) (iy := v2.toInt) rfl rfl rfl (fun z4 => ?_) (fun z4 => ?_)
    · refine qm_Rp.go 1 (c' := (15, [.int y, .int 0, .int v2], [.int 0], h)) rfl ?_
      refine qm_Rp.rt (v := (some (.int 0))) (h' := h) rfl ?_
      refine qm_Rp.go 0 (c' := (16, [.ref 118, .int y], [.int 0], h)) rfl ?_
      refine qm_Rp.rt (v := (some (.int 0))) (h' := h) rfl ?_
      refine qm_Rp.go 2 (c' := (30, [.ref 118, .int y, .int on], [.int 0], h)) rfl ?_
      refine qm_Rp.rt (v := (some (.int 0))) (h' := h) rfl ?_
      exact k0 (fun z => by omega)
    · refine qm_Rp.go 2 (c' := (15, [.int y, .int 0, .int v2], [.int 1], h)) rfl ?_
      refine qm_Rp.rt (v := (some (.int 1))) (h' := h) rfl ?_
      refine qm_Rp.go 0 (c' := (16, [.ref 118, .int y], [.int 1], h)) rfl ?_
      refine qm_Rp.rt (v := (some (.int 1))) (h' := h) rfl ?_
      refine qm_Rp.go 3 (c' := (10, [.ref 118, .int y, .int on], [.int y, .ref 118], h)) rfl ?_
      refine hp_inv (o := 118) (r := []) (as := [.ref 118, .int y]) rfl rfl (hH.1 118 (17, 105) rfl) rfl rfl rfl ?_
      refine qm_Rp.go 1 (c' := (1, [.ref 118, .int y], [.ref 118], h)) rfl ?_
      refine hp_geti (v := cv) rfl (hH.1 118 (17, 105) rfl) rfl q_cv ?_
      refine qm_Rp.go 2 (c' := (6, [.ref 118, .int y], [.int (cv >>> (y &&& 31))], h)) rfl ?_
      obtain ⟨v5, q_v5⟩ : ∃ v_, (cv >>> (y &&& 31)) = v_ := ⟨_, rfl⟩
      rw [q_v5]
      refine qm_Rp.go 2 (c' := (8, [.ref 118, .int y], [.int (v5 &&& 1)], h)) rfl ?_
      obtain ⟨v6, q_v6⟩ : ∃ v_, (v5 &&& 1) = v_ := ⟨_, rfl⟩
      rw [q_v6]
      refine qm_Rp.go 1 (c' := (9, [.ref 118, .int y], [.int 1, .int v6], h)) rfl ?_
      have ecv : ((cv >>> (y &&& 31)) &&& 1) = v6 := by rw [q_v5, q_v6]
      refine hp_cne (ix := v6.toInt) (iy := 1) rfl rfl rfl (fun z7 => ?_) (fun z7 => ?_)
      · refine qm_Rp.go 1 (c' := (17, [.ref 118, .int y], [.int 0], h)) rfl ?_
        refine qm_Rp.rt (v := (some (.int 0))) (h' := h) rfl ?_
        refine qm_Rp.go 1 (c' := (14, [.ref 118, .int y, .int on], [.int on, .int 0], h)) rfl ?_
        refine hp_ceq (ix := 0) (iy := on.toInt) rfl rfl rfl (fun z8 => ?_) (fun z8 => ?_)
        · refine qm_Rp.go 1 (c' := (30, [.ref 118, .int y, .int on], [.int 0], h)) rfl ?_
          refine qm_Rp.rt (v := (some (.int 0))) (h' := h) rfl ?_
          exact k0 (fun z => by have := z.2.2.1; rw [ecv] at this; omega)
        · refine qm_Rp.go 1 (c' := (18, [.ref 118, .int y, .int on], [.int on], h)) rfl ?_
          refine hp_zne (ix := on.toInt) rfl rfl (fun z9 => ?_) (fun z9 => by exfalso; omega)
          refine qm_Rp.go 2 (c' := (33, [.ref 118, .int y, .int on], [.ref 118, .ref 118], h)) rfl ?_
          refine hp_geti (v := cv) rfl (hH.1 118 (17, 105) rfl) rfl q_cv ?_
          refine qm_Rp.go 3 (c' := (39, [.ref 118, .int y, .int on], [.int (1 <<< (y &&& 31)), .int cv, .ref 118], h)) rfl ?_
          obtain ⟨v10, q_v10⟩ : ∃ v_, (1 <<< (y &&& 31)) = v_ := ⟨_, rfl⟩
          rw [q_v10]
          refine qm_Rp.go 1 (c' := (40, [.ref 118, .int y, .int on], [.int (cv ^^^ v10), .ref 118], h)) rfl ?_
          obtain ⟨v11, q_v11⟩ : ∃ v_, (cv ^^^ v10) = v_ := ⟨_, rfl⟩
          rw [q_v11]
          refine hp_puti rfl (hH.1 118 (17, 105) rfl) rfl ?_
          refine qm_Rp.go 1 (c' := (44, [.ref 118, .int y, .int on], [.int 1], (h.1, qm_up h.2.1 118 54 v11, h.2.2.1, h.2.2.2))) rfl ?_
          refine qm_Rp.rt (v := (some (.int 1))) (h' := (h.1, qm_up h.2.1 118 54 v11, h.2.2.1, h.2.2.2)) rfl ?_
          exact k1 (qm_up h.2.1 118 54 v11) ⟨by omega, by omega, by rw [ecv]; omega, fun z => by omega⟩ (fun o ho i => ((hk_mod ho rfl).trans rfl)) (fun i hi => ((hk_neq (fun z => by subst z; cases hi)).trans rfl)) (hk_same.trans (by rw [← q_v11, ← q_v10]))
      · refine qm_Rp.go 2 (c' := (17, [.ref 118, .int y], [.int 1], h)) rfl ?_
        refine qm_Rp.rt (v := (some (.int 1))) (h' := h) rfl ?_
        refine qm_Rp.go 1 (c' := (14, [.ref 118, .int y, .int on], [.int on, .int 1], h)) rfl ?_
        refine hp_ceq (ix := 1) (iy := on.toInt) rfl rfl rfl (fun z12 => ?_) (fun z12 => ?_)
        · refine qm_Rp.go 1 (c' := (30, [.ref 118, .int y, .int on], [.int 0], h)) rfl ?_
          refine qm_Rp.rt (v := (some (.int 0))) (h' := h) rfl ?_
          exact k0 (fun z => by have := z.2.2.1; rw [ecv] at this; omega)
        · refine qm_Rp.go 1 (c' := (18, [.ref 118, .int y, .int on], [.int on], h)) rfl ?_
          refine hp_zne (ix := on.toInt) rfl rfl (fun z13 => by exfalso; omega) (fun z13 => ?_)
          refine qm_Rp.go 2 (c' := (23, [.ref 118, .int y, .int on], [.int y, .ref 118], h)) rfl ?_
          refine hp_inv (o := 118) (r := []) (as := [.ref 118, .int y]) rfl rfl (hH.1 118 (17, 105) rfl) rfl rfl rfl (px_rdk (h := h) hH ⟨by omega, by omega⟩ (fun r14 e_r14 => ?_))
          rcases e_r14 with ⟨hr, hdk⟩ | ⟨hr, hdk⟩
          · obtain rfl : r14 = 1 := hk_eqi.mpr (hr.trans rfl)
            refine qm_Rp.go 2 (c' := (30, [.ref 118, .int y, .int on], [.int 0], h)) rfl ?_
            refine qm_Rp.rt (v := (some (.int 0))) (h' := h) rfl ?_
            exact k0 (fun z => z.2.2.2 (by omega) hdk)
          · obtain rfl : r14 = 0 := hk_eqi.mpr (hr.trans rfl)
            refine qm_Rp.go 3 (c' := (33, [.ref 118, .int y, .int on], [.ref 118, .ref 118], h)) rfl ?_
            refine hp_geti (v := cv) rfl (hH.1 118 (17, 105) rfl) rfl q_cv ?_
            refine qm_Rp.go 3 (c' := (39, [.ref 118, .int y, .int on], [.int (1 <<< (y &&& 31)), .int cv, .ref 118], h)) rfl ?_
            obtain ⟨v15, q_v15⟩ : ∃ v_, (1 <<< (y &&& 31)) = v_ := ⟨_, rfl⟩
            rw [q_v15]
            refine qm_Rp.go 1 (c' := (40, [.ref 118, .int y, .int on], [.int (cv ^^^ v15), .ref 118], h)) rfl ?_
            obtain ⟨v16, q_v16⟩ : ∃ v_, (cv ^^^ v15) = v_ := ⟨_, rfl⟩
            rw [q_v16]
            refine hp_puti rfl (hH.1 118 (17, 105) rfl) rfl ?_
            refine qm_Rp.go 1 (c' := (44, [.ref 118, .int y, .int on], [.int 1], (h.1, qm_up h.2.1 118 54 v16, h.2.2.1, h.2.2.2))) rfl ?_
            refine qm_Rp.rt (v := (some (.int 1))) (h' := (h.1, qm_up h.2.1 118 54 v16, h.2.2.1, h.2.2.2)) rfl ?_
            exact k1 (qm_up h.2.1 118 54 v16) ⟨by omega, by omega, by rw [ecv]; omega, fun z => hdk⟩ (fun o ho i => ((hk_mod ho rfl).trans rfl)) (fun i hi => ((hk_neq (fun z => by subst z; cases hi)).trans rfl)) (hk_same.trans (by rw [← q_v16, ← q_v15]))
theorem px_rcv1 {X : Option (Nat × (Nat → Int32))} {Z : Option Value → qm_H → Prop} {h : qm_H} {fu : Nat} (hH : hk_H h) {B : Int32} (q_lv : h.2.1 118 18 = 1) (q_B : h.2.1 127 1 = B) (hB : 1 ≤ B.toInt ∧ B.toInt ≤ 5) {y on cv : Int32} (hon : 0 ≤ on.toInt ∧ on.toInt ≤ 1) (q_cv : h.2.1 118 54 = cv) (k0 : ¬ (0 ≤ y.toInt ∧ y.toInt < B.toInt ∧ ¬ (((cv >>> (y &&& 31)) &&& 1).toInt = 1 ↔ on.toInt = 1) ∧ (on.toInt = 0 → ¬ dkV (pI h.2.1 152) y.toInt)) → Z (some (.int 0)) h) (k1 : ∀ (I : Nat → Nat → Int32), (0 ≤ y.toInt ∧ y.toInt < B.toInt ∧ ¬ (((cv >>> (y &&& 31)) &&& 1).toInt = 1 ↔ on.toInt = 1) ∧ (on.toInt = 0 → ¬ dkV (pI h.2.1 152) y.toInt)) → (∀ o, [118].contains o = false → ∀ i, I o i = h.2.1 o i) → (∀ i, [54].contains i = false → I 118 i = h.2.1 118 i) → I 118 54 = cv ^^^ (1 <<< (y &&& 31)) → Z (some (.int 1)) (h.1, I, h.2.2.1, h.2.2.2)) : qm_Rp fu X cd_273 (qm_ent 3 [.ref 118, .int y, .int on] h) Z := by
  refine qm_Rp.go 0 (c' := (0, [.ref 118, .int y, .int on], [], h)) rfl ?_
  have kz0 : (0 : Int32).toInt = 0 := rfl
  have kz1 : (1 : Int32).toInt = 1 := rfl
  have kz2 : (2 : Int32).toInt = 2 := rfl
  have kz3 : (3 : Int32).toInt = 3 := rfl
  have kz4 : (4 : Int32).toInt = 4 := rfl
  have kz5 : (5 : Int32).toInt = 5 := rfl
  have kz6 : (6 : Int32).toInt = 6 := rfl
  have kz7 : (7 : Int32).toInt = 7 := rfl
  have kz8 : (8 : Int32).toInt = 8 := rfl
  have kz9 : (9 : Int32).toInt = 9 := rfl
  have kzm1 : ((-1) : Int32).toInt = (-1) := rfl
  have kzm2 : ((-2) : Int32).toInt = (-2) := rfl
  have kzm3 : ((-3) : Int32).toInt = (-3) := rfl
  refine qm_Rp.go 2 (c' := (2, [.ref 118, .int y, .int on], [.int y, .ref 118], h)) rfl ?_
  refine hp_inv (o := 118) (r := []) (as := [.ref 118, .int y]) rfl rfl (hH.1 118 (17, 105) rfl) rfl rfl rfl ?_
  refine qm_Rp.go 3 (c' := (3, [.ref 118, .int y], [.ref 118, .int 0, .int y], h)) rfl ?_
  refine hp_getr rfl (hH.1 118 (17, 105) rfl) rfl (hH.2 118 22 (some 127) rfl) ?_
  refine qm_Rp.go 1 (c' := (7, [.ref 118, .int y], [.ref 118, .ref 127, .int 0, .int y], h)) rfl ?_
  refine hp_geti (v := 1) rfl (hH.1 118 (17, 105) rfl) rfl q_lv ?_
  refine qm_Rp.go 0 (c' := (10, [.ref 118, .int y], [.int 1, .ref 127, .int 0, .int y], h)) rfl ?_
  refine hp_ial (v := B) rfl (hH.1 127 (0, 2) rfl) q_B (fun ia_0 ib_0 => ?_)
  refine qm_Rp.go 2 (c' := (13, [.ref 118, .int y], [.int (B - 1), .int 0, .int y], h)) rfl ?_
  obtain ⟨v2, q_v2, e_v2⟩ := hk_sub (x := B) (y := 1) (a := B.toInt) (b := 1) rfl rfl (by omega) (by omega)
  rw [q_v2]
  refine qm_Rp.call (j := 270) (as := [.int y, .int 0, .int v2]) (c' := (16, [.ref 118, .int y], [], h)) rfl rfl ?_
  refine qm_Rp.go 2 (c' := (2, [.int y, .int 0, .int v2], [.int 0, .int y], h)) rfl ?_
  refine hp_clt (ix := y.toInt) (iy := 0) rfl rfl rfl (fun z3 => ?_) (fun z3 => ?_)
  · refine qm_Rp.go 1 (c' := (15, [.int y, .int 0, .int v2], [.int 0], h)) rfl ?_
    refine qm_Rp.rt (v := (some (.int 0))) (h' := h) rfl ?_
    refine qm_Rp.go 0 (c' := (16, [.ref 118, .int y], [.int 0], h)) rfl ?_
    refine qm_Rp.rt (v := (some (.int 0))) (h' := h) rfl ?_
    refine qm_Rp.go 2 (c' := (30, [.ref 118, .int y, .int on], [.int 0], h)) rfl ?_
    refine qm_Rp.rt (v := (some (.int 0))) (h' := h) rfl ?_
    exact k0 (fun z => by omega)
  · refine qm_Rp.go 2 (c' := (7, [.int y, .int 0, .int v2], [.int v2, .int y], h)) rfl ?_
    refine hp_cgt (ix := y.toInt) (iy := v2.toInt) rfl rfl rfl (fun z4 => ?_) (fun z4 => ?_)
    · refine qm_Rp.go 1 (c' := (15, [.int y, .int 0, .int v2], [.int 0], h)) rfl ?_
      refine qm_Rp.rt (v := (some (.int 0))) (h' := h) rfl ?_
      refine qm_Rp.go 0 (c' := (16, [.ref 118, .int y], [.int 0], h)) rfl ?_
      refine qm_Rp.rt (v := (some (.int 0))) (h' := h) rfl ?_
      refine qm_Rp.go 2 (c' := (30, [.ref 118, .int y, .int on], [.int 0], h)) rfl ?_
      refine qm_Rp.rt (v := (some (.int 0))) (h' := h) rfl ?_
      exact k0 (fun z => by omega)
    · refine qm_Rp.go 2 (c' := (15, [.int y, .int 0, .int v2], [.int 1], h)) rfl ?_
      refine qm_Rp.rt (v := (some (.int 1))) (h' := h) rfl ?_
      refine qm_Rp.go 0 (c' := (16, [.ref 118, .int y], [.int 1], h)) rfl ?_
      refine qm_Rp.rt (v := (some (.int 1))) (h' := h) rfl ?_
      refine qm_Rp.go 3 (c' := (10, [.ref 118, .int y, .int on], [.int y, .ref 118], h)) rfl ?_
      refine hp_inv (o := 118) (r := []) (as := [.ref 118, .int y]) rfl rfl (hH.1 118 (17, 105) rfl) rfl rfl rfl ?_
      refine qm_Rp.go 1 (c' := (1, [.ref 118, .int y], [.ref 118], h)) rfl ?_
      refine hp_geti (v := cv) rfl (hH.1 118 (17, 105) rfl) rfl q_cv ?_
      refine qm_Rp.go 2 (c' := (6, [.ref 118, .int y], [.int (cv >>> (y &&& 31))], h)) rfl ?_
      obtain ⟨v5, q_v5⟩ : ∃ v_, (cv >>> (y &&& 31)) = v_ := ⟨_, rfl⟩
      rw [q_v5]
      refine qm_Rp.go 2 (c' := (8, [.ref 118, .int y], [.int (v5 &&& 1)], h)) rfl ?_
      obtain ⟨v6, q_v6⟩ : ∃ v_, (v5 &&& 1) = v_ := ⟨_, rfl⟩
      rw [q_v6]
      refine qm_Rp.go 1 (c' := (9, [.ref 118, .int y], [.int 1, .int v6], h)) rfl ?_
      have ecv : ((cv >>> (y &&& 31)) &&& 1) = v6 := by rw [q_v5, q_v6]
      refine hp_cne (ix := v6.toInt) (iy := 1) rfl rfl rfl (fun z7 => ?_) (fun z7 => ?_)
      · refine qm_Rp.go 1 (c' := (17, [.ref 118, .int y], [.int 0], h)) rfl ?_
        refine qm_Rp.rt (v := (some (.int 0))) (h' := h) rfl ?_
        refine qm_Rp.go 1 (c' := (14, [.ref 118, .int y, .int on], [.int on, .int 0], h)) rfl ?_
        refine hp_ceq (ix := 0) (iy := on.toInt) rfl rfl rfl (fun z8 => ?_) (fun z8 => ?_)
        · refine qm_Rp.go 1 (c' := (30, [.ref 118, .int y, .int on], [.int 0], h)) rfl ?_
          refine qm_Rp.rt (v := (some (.int 0))) (h' := h) rfl ?_
          exact k0 (fun z => by have := z.2.2.1; rw [ecv] at this; omega)
        · refine qm_Rp.go 1 (c' := (18, [.ref 118, .int y, .int on], [.int on], h)) rfl ?_
          refine hp_zne (ix := on.toInt) rfl rfl (fun z9 => ?_) (fun z9 => by exfalso; omega)
          refine qm_Rp.go 2 (c' := (33, [.ref 118, .int y, .int on], [.ref 118, .ref 118], h)) rfl ?_
          refine hp_geti (v := cv) rfl (hH.1 118 (17, 105) rfl) rfl q_cv ?_
          refine qm_Rp.go 3 (c' := (39, [.ref 118, .int y, .int on], [.int (1 <<< (y &&& 31)), .int cv, .ref 118], h)) rfl ?_
          obtain ⟨v10, q_v10⟩ : ∃ v_, (1 <<< (y &&& 31)) = v_ := ⟨_, rfl⟩
          rw [q_v10]
          refine qm_Rp.go 1 (c' := (40, [.ref 118, .int y, .int on], [.int (cv ^^^ v10), .ref 118], h)) rfl ?_
          obtain ⟨v11, q_v11⟩ : ∃ v_, (cv ^^^ v10) = v_ := ⟨_, rfl⟩
          rw [q_v11]
          refine hp_puti rfl (hH.1 118 (17, 105) rfl) rfl ?_
          refine qm_Rp.go 1 (c' := (44, [.ref 118, .int y, .int on], [.int 1], (h.1, qm_up h.2.1 118 54 v11, h.2.2.1, h.2.2.2))) rfl ?_
          refine qm_Rp.rt (v := (some (.int 1))) (h' := (h.1, qm_up h.2.1 118 54 v11, h.2.2.1, h.2.2.2)) rfl ?_
          exact k1 (qm_up h.2.1 118 54 v11) ⟨by omega, by omega, by rw [ecv]; omega, fun z => by omega⟩ (fun o ho i => ((hk_mod ho rfl).trans rfl)) (fun i hi => ((hk_neq (fun z => by subst z; cases hi)).trans rfl)) (hk_same.trans (by rw [← q_v11, ← q_v10]))
      · refine qm_Rp.go 2 (c' := (17, [.ref 118, .int y], [.int 1], h)) rfl ?_
        refine qm_Rp.rt (v := (some (.int 1))) (h' := h) rfl ?_
        refine qm_Rp.go 1 (c' := (14, [.ref 118, .int y, .int on], [.int on, .int 1], h)) rfl ?_
        refine hp_ceq (ix := 1) (iy := on.toInt) rfl rfl rfl (fun z12 => ?_) (fun z12 => ?_)
        · refine qm_Rp.go 1 (c' := (30, [.ref 118, .int y, .int on], [.int 0], h)) rfl ?_
          refine qm_Rp.rt (v := (some (.int 0))) (h' := h) rfl ?_
          exact k0 (fun z => by have := z.2.2.1; rw [ecv] at this; omega)
        · refine qm_Rp.go 1 (c' := (18, [.ref 118, .int y, .int on], [.int on], h)) rfl ?_
          refine hp_zne (ix := on.toInt) rfl rfl (fun z13 => by exfalso; omega) (fun z13 => ?_)
          refine qm_Rp.go 2 (c' := (23, [.ref 118, .int y, .int on], [.int y, .ref 118], h)) rfl ?_
          refine hp_inv (o := 118) (r := []) (as := [.ref 118, .int y]) rfl rfl (hH.1 118 (17, 105) rfl) rfl rfl rfl (px_rdk (h := h) hH ⟨by omega, by omega⟩ (fun r14 e_r14 => ?_))
          rcases e_r14 with ⟨hr, hdk⟩ | ⟨hr, hdk⟩
          · obtain rfl : r14 = 1 := hk_eqi.mpr (hr.trans rfl)
            refine qm_Rp.go 2 (c' := (30, [.ref 118, .int y, .int on], [.int 0], h)) rfl ?_
            refine qm_Rp.rt (v := (some (.int 0))) (h' := h) rfl ?_
            exact k0 (fun z => z.2.2.2 (by omega) hdk)
          · obtain rfl : r14 = 0 := hk_eqi.mpr (hr.trans rfl)
            refine qm_Rp.go 3 (c' := (33, [.ref 118, .int y, .int on], [.ref 118, .ref 118], h)) rfl ?_
            refine hp_geti (v := cv) rfl (hH.1 118 (17, 105) rfl) rfl q_cv ?_
            refine qm_Rp.go 3 (c' := (39, [.ref 118, .int y, .int on], [.int (1 <<< (y &&& 31)), .int cv, .ref 118], h)) rfl ?_
            obtain ⟨v15, q_v15⟩ : ∃ v_, (1 <<< (y &&& 31)) = v_ := ⟨_, rfl⟩
            rw [q_v15]
            refine qm_Rp.go 1 (c' := (40, [.ref 118, .int y, .int on], [.int (cv ^^^ v15), .ref 118], h)) rfl ?_
            obtain ⟨v16, q_v16⟩ : ∃ v_, (cv ^^^ v15) = v_ := ⟨_, rfl⟩
            rw [q_v16]
            refine hp_puti rfl (hH.1 118 (17, 105) rfl) rfl ?_
            refine qm_Rp.go 1 (c' := (44, [.ref 118, .int y, .int on], [.int 1], (h.1, qm_up h.2.1 118 54 v16, h.2.2.1, h.2.2.2))) rfl ?_
            refine qm_Rp.rt (v := (some (.int 1))) (h' := (h.1, qm_up h.2.1 118 54 v16, h.2.2.1, h.2.2.2)) rfl ?_
            exact k1 (qm_up h.2.1 118 54 v16) ⟨by omega, by omega, by rw [ecv]; omega, fun z => hdk⟩ (fun o ho i => ((hk_mod ho rfl).trans rfl)) (fun i hi => ((hk_neq (fun z => by subst z; cases hi)).trans rfl)) (hk_same.trans (by rw [← q_v16, ← q_v15]))
theorem px_csk {X : Option (Nat × (Nat → Int32))} {Z : Option Value → qm_H → Prop} {h : qm_H} {fu : Nat} (hH : hk_H h) {n b on : Int32} (q_n : h.2.1 6 0 = n) (hn : 0 ≤ n.toInt ∧ n.toInt ≤ 30) (hon : 0 ≤ on.toInt ∧ on.toInt ≤ 1) (k0 : ¬ (0 ≤ b.toInt ∧ b.toInt < n.toInt) → Z (some (.int 0)) h) (k1 : ∀ (I : Nat → Nat → Int32), (0 ≤ b.toInt ∧ b.toInt < n.toInt) → (∀ o, [10].contains o = false → ∀ i, I o i = h.2.1 o i) → pI I 10 = fu_up (pI h.2.1 10) (b.toInt.toNat) on.toInt → Z (some (.int 1)) (h.1, I, h.2.2.1, h.2.2.2)) : qm_Rp fu X cd_69 (qm_ent 3 [.ref 0, .int b, .int on] h) Z := by
  refine qm_Rp.go 0 (c' := (0, [.ref 0, .int b, .int on], [], h)) rfl ?_
  have kz0 : (0 : Int32).toInt = 0 := rfl
  have kz1 : (1 : Int32).toInt = 1 := rfl
  have kz2 : (2 : Int32).toInt = 2 := rfl
  have kz3 : (3 : Int32).toInt = 3 := rfl
  have kz4 : (4 : Int32).toInt = 4 := rfl
  have kz5 : (5 : Int32).toInt = 5 := rfl
  have kz6 : (6 : Int32).toInt = 6 := rfl
  have kz7 : (7 : Int32).toInt = 7 := rfl
  have kz8 : (8 : Int32).toInt = 8 := rfl
  have kz9 : (9 : Int32).toInt = 9 := rfl
  have kzm1 : ((-1) : Int32).toInt = (-1) := rfl
  have kzm2 : ((-2) : Int32).toInt = (-2) := rfl
  have kzm3 : ((-3) : Int32).toInt = (-3) := rfl
  refine qm_Rp.go 1 (c' := (1, [.ref 0, .int b, .int on], [.ref 0], h)) rfl ?_
  refine hp_getr rfl (hH.1 0 (16, 10) rfl) rfl (hH.2 0 2 (some 6) rfl) ?_
  refine qm_Rp.go 1 (c' := (5, [.ref 0, .int b, .int on], [.int b, .ref 6], h)) rfl ?_
  refine hp_inv (o := 6) (r := []) (as := [.ref 6, .int b]) rfl rfl (hH.1 6 (6, 9) rfl) rfl rfl rfl ?_
  refine qm_Rp.go 1 (c' := (1, [.ref 6, .int b], [.int b], h)) rfl ?_
  refine hp_zlt (ix := b.toInt) rfl rfl (fun z1 => ?_) (fun z1 => ?_)
  · refine qm_Rp.go 1 (c' := (17, [.ref 6, .int b], [.int 0], h)) rfl ?_
    refine qm_Rp.rt (v := (some (.int 0))) (h' := h) rfl ?_
    refine qm_Rp.go 2 (c' := (12, [.ref 0, .int b, .int on], [.int 0], h)) rfl ?_
    refine qm_Rp.rt (v := (some (.int 0))) (h' := h) rfl ?_
    exact k0 (fun z => by omega)
  · refine qm_Rp.go 2 (c' := (6, [.ref 6, .int b], [.ref 6, .int b], h)) rfl ?_
    refine hp_geti (v := n) rfl (hH.1 6 (6, 9) rfl) rfl q_n ?_
    refine qm_Rp.go 0 (c' := (9, [.ref 6, .int b], [.int n, .int b], h)) rfl ?_
    refine hp_cge (ix := b.toInt) (iy := n.toInt) rfl rfl rfl (fun z2 => ?_) (fun z2 => ?_)
    · refine qm_Rp.go 1 (c' := (17, [.ref 6, .int b], [.int 0], h)) rfl ?_
      refine qm_Rp.rt (v := (some (.int 0))) (h' := h) rfl ?_
      refine qm_Rp.go 2 (c' := (12, [.ref 0, .int b, .int on], [.int 0], h)) rfl ?_
      refine qm_Rp.rt (v := (some (.int 0))) (h' := h) rfl ?_
      exact k0 (fun z => by omega)
    · refine qm_Rp.go 2 (c' := (17, [.ref 6, .int b], [.int 1], h)) rfl ?_
      refine qm_Rp.rt (v := (some (.int 1))) (h' := h) rfl ?_
      refine qm_Rp.go 2 (c' := (14, [.ref 0, .int b, .int on], [.ref 0], h)) rfl ?_
      refine hp_getr rfl (hH.1 0 (16, 10) rfl) rfl (hH.2 0 2 (some 6) rfl) ?_
      refine qm_Rp.go 0 (c' := (17, [.ref 0, .int b, .int on], [.ref 6], h)) rfl ?_
      refine hp_getr rfl (hH.1 6 (6, 9) rfl) rfl (hH.2 6 4 (some 10) rfl) ?_
      refine qm_Rp.go 2 (c' := (22, [.ref 0, .int b, .int on], [.int on, .int b, .ref 10], h)) rfl ?_
      refine hp_bas rfl (hH.1 10 (2, 30) rfl) (hk_nar (by omega)) (fun ia_2 ib_2 => ?_)
      refine qm_Rp.go 1 (c' := (24, [.ref 0, .int b, .int on], [.int 1], (h.1, qm_up h.2.1 10 b.toInt.toNat on, h.2.2.1, h.2.2.2))) rfl ?_
      refine qm_Rp.rt (v := (some (.int 1))) (h' := (h.1, qm_up h.2.1 10 b.toInt.toNat on, h.2.2.1, h.2.2.2)) rfl ?_
      exact k1 (qm_up h.2.1 10 b.toInt.toNat on) ⟨by omega, by omega⟩ (fun o ho i => ((hk_mod ho rfl).trans rfl)) pI_up
theorem px_rsk {X : Option (Nat × (Nat → Int32))} {Z : Option Value → qm_H → Prop} {h : qm_H} {fu : Nat} (hH : hk_H h) {n b on : Int32} (q_n : h.2.1 118 44 = n) (hn : 0 ≤ n.toInt ∧ n.toInt ≤ 30) (hon : 0 ≤ on.toInt ∧ on.toInt ≤ 1) (k0 : ¬ (0 ≤ b.toInt ∧ b.toInt < n.toInt) → Z (some (.int 0)) h) (k1 : ∀ (I : Nat → Nat → Int32), (0 ≤ b.toInt ∧ b.toInt < n.toInt) → (∀ o, [149].contains o = false → ∀ i, I o i = h.2.1 o i) → pI I 149 = fu_up (pI h.2.1 149) (b.toInt.toNat) on.toInt → Z (some (.int 1)) (h.1, I, h.2.2.1, h.2.2.2)) : qm_Rp fu X cd_271 (qm_ent 3 [.ref 118, .int b, .int on] h) Z := by
  refine qm_Rp.go 0 (c' := (0, [.ref 118, .int b, .int on], [], h)) rfl ?_
  have kz0 : (0 : Int32).toInt = 0 := rfl
  have kz1 : (1 : Int32).toInt = 1 := rfl
  have kz2 : (2 : Int32).toInt = 2 := rfl
  have kz3 : (3 : Int32).toInt = 3 := rfl
  have kz4 : (4 : Int32).toInt = 4 := rfl
  have kz5 : (5 : Int32).toInt = 5 := rfl
  have kz6 : (6 : Int32).toInt = 6 := rfl
  have kz7 : (7 : Int32).toInt = 7 := rfl
  have kz8 : (8 : Int32).toInt = 8 := rfl
  have kz9 : (9 : Int32).toInt = 9 := rfl
  have kzm1 : ((-1) : Int32).toInt = (-1) := rfl
  have kzm2 : ((-2) : Int32).toInt = (-2) := rfl
  have kzm3 : ((-3) : Int32).toInt = (-3) := rfl
  refine qm_Rp.go 2 (c' := (2, [.ref 118, .int b, .int on], [.int b, .ref 118], h)) rfl ?_
  refine hp_inv (o := 118) (r := []) (as := [.ref 118, .int b]) rfl rfl (hH.1 118 (17, 105) rfl) rfl rfl rfl ?_
  refine qm_Rp.go 3 (c' := (3, [.ref 118, .int b], [.ref 118, .int 0, .int b], h)) rfl ?_
  refine hp_geti (v := n) rfl (hH.1 118 (17, 105) rfl) rfl q_n ?_
  refine qm_Rp.go 2 (c' := (8, [.ref 118, .int b], [.int (n - 1), .int 0, .int b], h)) rfl ?_
  obtain ⟨v1, q_v1, e_v1⟩ := hk_sub (x := n) (y := 1) (a := n.toInt) (b := 1) rfl rfl (by omega) (by omega)
  rw [q_v1]
  refine qm_Rp.call (j := 270) (as := [.int b, .int 0, .int v1]) (c' := (11, [.ref 118, .int b], [], h)) rfl rfl ?_
  refine qm_Rp.go 2 (c' := (2, [.int b, .int 0, .int v1], [.int 0, .int b], h)) rfl ?_
  refine hp_clt (ix := b.toInt) (iy := 0) rfl rfl rfl (fun z2 => ?_) (fun z2 => ?_)
  · refine qm_Rp.go 1 (c' := (15, [.int b, .int 0, .int v1], [.int 0], h)) rfl ?_
    refine qm_Rp.rt (v := (some (.int 0))) (h' := h) rfl ?_
    refine qm_Rp.go 0 (c' := (11, [.ref 118, .int b], [.int 0], h)) rfl ?_
    refine qm_Rp.rt (v := (some (.int 0))) (h' := h) rfl ?_
    refine qm_Rp.go 2 (c' := (9, [.ref 118, .int b, .int on], [.int 0], h)) rfl ?_
    refine qm_Rp.rt (v := (some (.int 0))) (h' := h) rfl ?_
    exact k0 (fun z => by omega)
  · refine qm_Rp.go 2 (c' := (7, [.int b, .int 0, .int v1], [.int v1, .int b], h)) rfl ?_
    refine hp_cgt (ix := b.toInt) (iy := v1.toInt) rfl rfl rfl (fun z3 => ?_) (fun z3 => ?_)
    · refine qm_Rp.go 1 (c' := (15, [.int b, .int 0, .int v1], [.int 0], h)) rfl ?_
      refine qm_Rp.rt (v := (some (.int 0))) (h' := h) rfl ?_
      refine qm_Rp.go 0 (c' := (11, [.ref 118, .int b], [.int 0], h)) rfl ?_
      refine qm_Rp.rt (v := (some (.int 0))) (h' := h) rfl ?_
      refine qm_Rp.go 2 (c' := (9, [.ref 118, .int b, .int on], [.int 0], h)) rfl ?_
      refine qm_Rp.rt (v := (some (.int 0))) (h' := h) rfl ?_
      exact k0 (fun z => by omega)
    · refine qm_Rp.go 2 (c' := (15, [.int b, .int 0, .int v1], [.int 1], h)) rfl ?_
      refine qm_Rp.rt (v := (some (.int 1))) (h' := h) rfl ?_
      refine qm_Rp.go 0 (c' := (11, [.ref 118, .int b], [.int 1], h)) rfl ?_
      refine qm_Rp.rt (v := (some (.int 1))) (h' := h) rfl ?_
      refine qm_Rp.go 2 (c' := (11, [.ref 118, .int b, .int on], [.ref 118], h)) rfl ?_
      refine hp_getr rfl (hH.1 118 (17, 105) rfl) rfl (hH.2 118 48 (some 149) rfl) ?_
      refine qm_Rp.go 2 (c' := (16, [.ref 118, .int b, .int on], [.int on, .int b, .ref 149], h)) rfl ?_
      refine hp_bas rfl (hH.1 149 (2, 30) rfl) (hk_nar (by omega)) (fun ia_3 ib_3 => ?_)
      refine qm_Rp.go 1 (c' := (18, [.ref 118, .int b, .int on], [.int 1], (h.1, qm_up h.2.1 149 b.toInt.toNat on, h.2.2.1, h.2.2.2))) rfl ?_
      refine qm_Rp.rt (v := (some (.int 1))) (h' := (h.1, qm_up h.2.1 149 b.toInt.toNat on, h.2.2.1, h.2.2.2)) rfl ?_
      exact k1 (qm_up h.2.1 149 b.toInt.toNat on) ⟨by omega, by omega⟩ (fun o ho i => ((hk_mod ho rfl).trans rfl)) pI_up
