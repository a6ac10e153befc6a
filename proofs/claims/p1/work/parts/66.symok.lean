/-! the steps over unknown numbers are the small machine's -/
theorem qm_il_sv {r : Nat → Int32} {w : Value} (h : qm_il w = true) : ∃ x, qm_sv r w = .int x := by
  cases w with
  | int x => exact ⟨x, rfl⟩
  | float n =>
    have hn : ¬ n = 0 := of_decide_eq_true h
    exact ⟨r n.toNat, by simp [qm_sv, hn]⟩
  | _ => cases h
theorem qm_rs_sv {r : Nat → Int32} {E : qm_En} (hs : qm_sat r E) (v : Value) : qm_sv r (qm_rs E v) = qm_sv r v := by
  cases v with
  | float n =>
    by_cases hn : n = 0
    · subst hn
      rfl
    · have hp : 0 < n.toNat := by
        rcases Nat.eq_zero_or_pos n.toNat with z | z
        · exact absurd (UInt32.toNat_inj.mp z) hn
        · exact z
      have hb := hs.1 n.toNat hp
      by_cases he : (qm_bd E n.toNat).1 = (qm_bd E n.toNat).2
      · have h1 : qm_rs E (.float n) = .int (Int32.ofInt (qm_bd E n.toNat).1) := by simp [qm_rs, hn, he]
        rw [h1]
        have h2 : (r n.toNat).toInt = (qm_bd E n.toNat).1 := by omega
        rw [← h2, Int32.ofInt_toInt]
        simp [qm_sv, hn]
      · have h1 : qm_rs E (.float n) = .float n := by simp [qm_rs, hn, he]
        rw [h1]
  | _ => rfl
theorem qm_rs_int {r : Nat → Int32} {E : qm_En} (hs : qm_sat r E) {v : Value} {x : Int32} (h : qm_rs E v = .int x) : qm_sv r v = .int x := by
  rw [← qm_rs_sv hs v, h]
  rfl
theorem qm_map_s1 (r : Nat → Int32) (ls : List Value) (a : Nat) (v : Value) : (qm_s1 ls a v).map (qm_sv r) = qm_s1 (ls.map (qm_sv r)) a (qm_sv r v) := by
  unfold qm_s1
  cases a with
  | zero => simp [List.map_set]
  | succ j =>
    dsimp only
    rw [List.getElem?_map]
    cases hj : ls[j]? with
    | none => simp [List.map_set]
    | some w =>
      cases w with
      | float n =>
        by_cases hn : n = 0
        · simp [List.map_set, qm_sv, hn]
        · simp [List.map_set, qm_sv, hn]
      | _ => simp [List.map_set, qm_sv]
theorem qm_map_s2 (r : Nat → Int32) (ls : List Value) (a : Nat) (v : Value) : (qm_s2 ls a v).map (qm_sv r) = qm_s2 (ls.map (qm_sv r)) a (qm_sv r v) := by
  unfold qm_s2
  rw [List.map_set, qm_map_s1]
  rfl
theorem qm_hs_up {r : Nat → Int32} {us : List (Nat × Nat × Value)} {o i : Nat} {w : Value} {x : Int32} (h : qm_sv r w = .int x) : qm_up (fun k i => qm_toI (qm_sv r (qm_lu (.int 0) us k i))) o i x = fun k j => qm_toI (qm_sv r (qm_lu (.int 0) ((o, i, w) :: us) k j)) := by
  funext k j
  show (bif Nat.beq k o && Nat.beq j i then x else qm_toI (qm_sv r (qm_lu (.int 0) us k j))) = qm_toI (qm_sv r (bif Nat.beq k o && Nat.beq j i then w else qm_lu (.int 0) us k j))
  cases Nat.beq k o && Nat.beq j i with
  | true => rw [cond_true, cond_true, h]; rfl
  | false => rfl
theorem qm_hs_cp {r : Nat → Int32} {us : List (Nat × Nat × Value)} {o sp d dp n : Nat} : qm_cp (fun k i => qm_toI (qm_sv r (qm_lu (.int 0) us k i))) o sp d dp n = fun k j => qm_toI (qm_sv r (qm_lu (.int 0) ((List.range n).map (fun t => (d, dp + t, qm_lu (.int 0) us o (sp + t))) ++ us) k j)) := by
  funext k i
  rw [qm_lu_map (.int 0) us d dp (fun t => qm_lu (.int 0) us o (sp + t)) (List.range n) k i]
  by_cases hk : k = d
  · subst hk
    by_cases hi : dp ≤ i ∧ i < dp + n
    · have g1 : Nat.ble dp i = true := Nat.ble_eq_true_of_le hi.1
      have g2 : Nat.blt i (dp + n) = true := Nat.ble_eq_true_of_le hi.2
      have g3 : i - dp < n := by omega
      simp [qm_cp, g1, g2, g3, hi.1]
    · have g3 : (Nat.ble dp i && Nat.blt i (dp + n)) = false := by
        cases g1 : Nat.ble dp i with
        | false => rfl
        | true =>
          cases g2 : Nat.blt i (dp + n) with
          | false => rfl
          | true => exact absurd ⟨Nat.le_of_ble_eq_true g1, Nat.le_of_ble_eq_true g2⟩ hi
      have g4 : ¬ (dp ≤ i ∧ i - dp < n) := by omega
      simp only [qm_cp, g3, Bool.and_false, cond_false, List.mem_range, true_and]
      rw [if_neg g4]
  · simp [qm_cp, qm_bne hk, hk]
theorem qm_sv_rv (r : Nat → Int32) (q : Option Nat) : qm_sv r (qm_rv q) = qm_rv q := by cases q <;> rfl
theorem qm_sv_cat (r : Nat → Int32) (v : Value) : (qm_sv r v).category = v.category := by
  cases v with
  | float n => by_cases hn : n = 0 <;> simp [qm_sv, hn, Value.category]
  | _ => rfl
theorem qm_cat_sv (r : Nat → Int32) (st : List Value) : qm_cat (st.map (qm_sv r)) = qm_cat st := by
  unfold qm_cat
  rw [List.map_map]
  congr 1
  exact List.map_congr_left fun v _ => qm_sv_cat r v
theorem qm_toI_sv {r : Nat → Int32} {w : Value} (h : qm_il w = true) : Value.int (qm_toI (qm_sv r w)) = qm_sv r w := by
  obtain ⟨x, hx⟩ := qm_il_sv (r := r) h
  rw [hx]
  rfl
/-- a result over unknown numbers, as the small machine has it -/
def qm_f2 (r : Nat → Int32) (R : qm_SS) : qm_R := match R with
  | .inl c => some (.inl (qm_cs r c))
  | .inr (.inl q) => (match qm_sv r q.2.1, qm_sv r q.2.2.1 with
    | .int x, .int y => some (.inr (.inl (qm_cc q.1 x y, qm_cs r q.2.2.2.1, qm_cs r q.2.2.2.2)))
    | _, _ => none)
  | .inr (.inr (.inl q)) => some (.inr (.inr (.inl (q.1.map (qm_sv r), qm_hs r q.2))))
  | .inr (.inr (.inr (.inl q))) => some (.inr (.inr (.inr (q.1, q.2.1.map (qm_sv r), qm_cs r q.2.2))))
  | .inr (.inr (.inr (.inr _))) => none
def qm_isp (R : qm_SS) : Bool := match R with
  | .inr (.inr (.inr (.inr _))) => true
  | _ => false
theorem qm_outS_ok {r : Nat → Int32} {E : qm_En} (hs : qm_sat r E) {v : Value} {lo hi : Int} (h : qm_outS E v lo hi = true) : ∃ x', qm_sv r v = .int x' ∧ (x'.toInt < lo ∨ hi < x'.toInt) := by
  cases v with
  | float n =>
    simp only [qm_outS, Bool.and_eq_true, Bool.or_eq_true, decide_eq_true_eq] at h
    have hp : 0 < n.toNat := by
      rcases Nat.eq_zero_or_pos n.toNat with z | z
      · exact absurd (UInt32.toNat_inj.mp z) h.1
      · exact z
    have hb := hs.1 n.toNat hp
    refine ⟨r n.toNat, by simp [qm_sv, h.1], ?_⟩
    have h2 := h.2
    omega
  | _ => cases h
theorem qm_su_ok {xs ys : Nat → Int32} {v : Value} (h : qm_ev v = true) : ∃ x, qm_sv (qm_rho xs ys) v = .int x ∧ qm_sv (qm_rho xs ys) (qm_su v) = .int (x + 1) := by
  cases v with
  | float n =>
    simp only [qm_ev, Bool.and_eq_true, decide_eq_true_eq] at h
    obtain ⟨h1, h2, h3⟩ := h
    have hn : ¬ n = 0 := fun z => by subst z; simp at h1
    have e1 : (UInt32.ofNat (n.toNat + 1)).toNat = n.toNat + 1 := by
      rw [UInt32.toNat_ofNat']
      exact Nat.mod_eq_of_lt (by omega)
    have hn1 : ¬ UInt32.ofNat (n.toNat + 1) = 0 := fun z => by
      rw [z] at e1
      simp at e1
    refine ⟨ys ((n.toNat - 300) / 2), ?_, ?_⟩
    · simp only [qm_sv, hn, decide_false, cond_false, qm_rho]
      rw [if_neg (by omega), if_neg (by omega), if_neg (by omega), if_neg (by omega), if_pos h3]
    · simp only [qm_su, qm_sv, hn1, decide_false, cond_false, qm_rho, e1]
      rw [if_neg (by omega), if_neg (by omega), if_neg (by omega), if_neg (by omega), if_neg (by omega)]
      rw [show (n.toNat + 1 - 300) / 2 = (n.toNat - 300) / 2 by omega]
  | _ => cases h
theorem qm_1S_ok {r : Nat → Int32} {E : qm_En} (hs : qm_sat r E) {x : Value} {k : Int32 → qm_RS} {R : qm_SS} (h : qm_1S (qm_rs E x) k = some R) (hR : qm_isp R = false) : ∃ x', qm_sv r x = .int x' ∧ k x' = some R := by
  unfold qm_1S at h
  split at h
  · rename_i x' hx
    exact ⟨x', qm_rs_int hs hx, h⟩
  · cases h
    cases hR
  · cases h
theorem qm_2S_ok {r : Nat → Int32} {E : qm_En} (hs : qm_sat r E) {y x : Value} {k : Int32 → Int32 → qm_RS} {R : qm_SS} (h : qm_2S (qm_rs E y) (qm_rs E x) k = some R) (hR : qm_isp R = false) : ∃ y' x', qm_sv r y = .int y' ∧ qm_sv r x = .int x' ∧ k y' x' = some R := by
  unfold qm_2S at h
  split at h
  · rename_i y' x' hy hx
    exact ⟨y', x', qm_rs_int hs hy, qm_rs_int hs hx, h⟩
  · cases h
    cases hR
  · cases h
    cases hR
  · cases h
section QSY
variable {xs ys : Nat → Int32} {E : qm_En} {pc np a f : Nat} {v : Value} {ls st : List Value} {h : qm_HS} {R : qm_SS}

theorem qm_y_iconst {n : Int} (hs : qm_sat (qm_rho xs ys) E) (hx : qm_xS E (pc, np, .iconst n, a, f, v) (pc, ls, st, h) = some R) (hR : qm_isp R = false) : qm_x (some (6, xs)) (pc, np, .iconst n, a, f, v) (qm_cs (qm_rho xs ys) (pc, ls, st, h)) = qm_f2 (qm_rho xs ys) R := by
  simp only [qm_xS, qm_nxS] at hx
  split at hx
  · cases hx
    rfl
  · cases hx

theorem qm_y_bipush {n : Int} (hs : qm_sat (qm_rho xs ys) E) (hx : qm_xS E (pc, np, .bipush n, a, f, v) (pc, ls, st, h) = some R) (hR : qm_isp R = false) : qm_x (some (6, xs)) (pc, np, .bipush n, a, f, v) (qm_cs (qm_rho xs ys) (pc, ls, st, h)) = qm_f2 (qm_rho xs ys) R := by
  simp only [qm_xS, qm_nxS] at hx
  split at hx
  · cases hx
    rfl
  · cases hx

theorem qm_y_sipush {n : Int} (hs : qm_sat (qm_rho xs ys) E) (hx : qm_xS E (pc, np, .sipush n, a, f, v) (pc, ls, st, h) = some R) (hR : qm_isp R = false) : qm_x (some (6, xs)) (pc, np, .sipush n, a, f, v) (qm_cs (qm_rho xs ys) (pc, ls, st, h)) = qm_f2 (qm_rho xs ys) R := by
  simp only [qm_xS, qm_nxS] at hx
  split at hx
  · cases hx
    rfl
  · cases hx

theorem qm_y_ldc {n : Nat} (hs : qm_sat (qm_rho xs ys) E) (hx : qm_xS E (pc, np, .ldc n, a, f, v) (pc, ls, st, h) = some R) (hR : qm_isp R = false) : qm_x (some (6, xs)) (pc, np, .ldc n, a, f, v) (qm_cs (qm_rho xs ys) (pc, ls, st, h)) = qm_f2 (qm_rho xs ys) R := by
  simp only [qm_xS, qm_nxS] at hx
  split at hx
  · cases hx
    rfl
  · cases hx

theorem qm_y_ldc_w {n : Nat} (hs : qm_sat (qm_rho xs ys) E) (hx : qm_xS E (pc, np, .ldc_w n, a, f, v) (pc, ls, st, h) = some R) (hR : qm_isp R = false) : qm_x (some (6, xs)) (pc, np, .ldc_w n, a, f, v) (qm_cs (qm_rho xs ys) (pc, ls, st, h)) = qm_f2 (qm_rho xs ys) R := by
  simp only [qm_xS, qm_nxS] at hx
  split at hx
  · cases hx
    rfl
  · cases hx

theorem qm_y_lconst {n : Fin 2} (hs : qm_sat (qm_rho xs ys) E) (hx : qm_xS E (pc, np, .lconst n, a, f, v) (pc, ls, st, h) = some R) (hR : qm_isp R = false) : qm_x (some (6, xs)) (pc, np, .lconst n, a, f, v) (qm_cs (qm_rho xs ys) (pc, ls, st, h)) = qm_f2 (qm_rho xs ys) R := by
  simp only [qm_xS, qm_nxS] at hx
  split at hx
  · cases hx
    rfl
  · cases hx

theorem qm_y_iload {i : Nat} (hs : qm_sat (qm_rho xs ys) E) (hx : qm_xS E (pc, np, .iload i, a, f, v) (pc, ls, st, h) = some R) (hR : qm_isp R = false) : qm_x (some (6, xs)) (pc, np, .iload i, a, f, v) (qm_cs (qm_rho xs ys) (pc, ls, st, h)) = qm_f2 (qm_rho xs ys) R := by
  simp only [qm_xS, qm_nxS, Bool.cond_eq_ite] at hx
  split at hx
  · rename_i w hl
    split at hx
    · rename_i hw
      cases hx
      obtain ⟨x, hx2⟩ := qm_il_sv (r := qm_rho xs ys) hw
      simp only [qm_x, qm_cs, List.getElem?_map, hl, Option.map_some, hx2, qm_nx, qm_f2, List.map_cons]
    · cases hx
  · cases hx

theorem qm_y_lload {i : Nat} (hs : qm_sat (qm_rho xs ys) E) (hx : qm_xS E (pc, np, .lload i, a, f, v) (pc, ls, st, h) = some R) (hR : qm_isp R = false) : qm_x (some (6, xs)) (pc, np, .lload i, a, f, v) (qm_cs (qm_rho xs ys) (pc, ls, st, h)) = qm_f2 (qm_rho xs ys) R := by
  simp only [qm_xS, qm_nxS] at hx
  split at hx
  · rename_i x hl
    cases hx
    simp only [qm_x, qm_cs, List.getElem?_map, hl, Option.map_some, qm_sv, qm_nx, qm_f2, List.map_cons]
  · cases hx

theorem qm_y_aload {i : Nat} (hs : qm_sat (qm_rho xs ys) E) (hx : qm_xS E (pc, np, .aload i, a, f, v) (pc, ls, st, h) = some R) (hR : qm_isp R = false) : qm_x (some (6, xs)) (pc, np, .aload i, a, f, v) (qm_cs (qm_rho xs ys) (pc, ls, st, h)) = qm_f2 (qm_rho xs ys) R := by
  simp only [qm_xS, qm_nxS] at hx
  split at hx
  · rename_i x hl
    cases hx
    simp only [qm_x, qm_cs, List.getElem?_map, hl, Option.map_some, qm_sv, qm_nx, qm_f2, List.map_cons]
  · rename_i x hl
    cases hx
    simp only [qm_x, qm_cs, List.getElem?_map, hl, Option.map_some, qm_sv, qm_nx, qm_f2, List.map_cons]
  · cases hx

theorem qm_y_istore {i : Nat} (hs : qm_sat (qm_rho xs ys) E) (hx : qm_xS E (pc, np, .istore i, a, f, v) (pc, ls, st, h) = some R) (hR : qm_isp R = false) : qm_x (some (6, xs)) (pc, np, .istore i, a, f, v) (qm_cs (qm_rho xs ys) (pc, ls, st, h)) = qm_f2 (qm_rho xs ys) R := by
  simp only [qm_xS, qm_nxS, Bool.cond_eq_ite] at hx
  split at hx
  · rename_i w q
    split at hx
    · rename_i hw
      cases hx
      obtain ⟨x, hx2⟩ := qm_il_sv (r := qm_rho xs ys) hw
      simp only [qm_x, qm_cs, hx2, qm_nx, qm_f2, List.map_cons, qm_map_s1]
    · cases hx
  · cases hx

theorem qm_y_astore {i : Nat} (hs : qm_sat (qm_rho xs ys) E) (hx : qm_xS E (pc, np, .astore i, a, f, v) (pc, ls, st, h) = some R) (hR : qm_isp R = false) : qm_x (some (6, xs)) (pc, np, .astore i, a, f, v) (qm_cs (qm_rho xs ys) (pc, ls, st, h)) = qm_f2 (qm_rho xs ys) R := by
  simp only [qm_xS, qm_nxS] at hx
  split at hx
  · cases hx
    simp only [qm_x, qm_cs, qm_sv, qm_nx, qm_f2, List.map_cons, qm_map_s1]
  · cases hx

theorem qm_y_iload_n {i : Fin 4} (hs : qm_sat (qm_rho xs ys) E) (hx : qm_xS E (pc, np, .iload_n i, a, f, v) (pc, ls, st, h) = some R) (hR : qm_isp R = false) : qm_x (some (6, xs)) (pc, np, .iload_n i, a, f, v) (qm_cs (qm_rho xs ys) (pc, ls, st, h)) = qm_f2 (qm_rho xs ys) R := by
  simp only [qm_xS, qm_nxS, Bool.cond_eq_ite] at hx
  split at hx
  · rename_i w hl
    split at hx
    · rename_i hw
      cases hx
      obtain ⟨x, hx2⟩ := qm_il_sv (r := qm_rho xs ys) hw
      simp only [qm_x, qm_cs, List.getElem?_map, hl, Option.map_some, hx2, qm_nx, qm_f2, List.map_cons]
    · cases hx
  · cases hx

theorem qm_y_lload_n {i : Fin 4} (hs : qm_sat (qm_rho xs ys) E) (hx : qm_xS E (pc, np, .lload_n i, a, f, v) (pc, ls, st, h) = some R) (hR : qm_isp R = false) : qm_x (some (6, xs)) (pc, np, .lload_n i, a, f, v) (qm_cs (qm_rho xs ys) (pc, ls, st, h)) = qm_f2 (qm_rho xs ys) R := by
  simp only [qm_xS, qm_nxS] at hx
  split at hx
  · rename_i x hl
    cases hx
    simp only [qm_x, qm_cs, List.getElem?_map, hl, Option.map_some, qm_sv, qm_nx, qm_f2, List.map_cons]
  · cases hx

theorem qm_y_aload_n {i : Fin 4} (hs : qm_sat (qm_rho xs ys) E) (hx : qm_xS E (pc, np, .aload_n i, a, f, v) (pc, ls, st, h) = some R) (hR : qm_isp R = false) : qm_x (some (6, xs)) (pc, np, .aload_n i, a, f, v) (qm_cs (qm_rho xs ys) (pc, ls, st, h)) = qm_f2 (qm_rho xs ys) R := by
  simp only [qm_xS, qm_nxS] at hx
  split at hx
  · rename_i x hl
    cases hx
    simp only [qm_x, qm_cs, List.getElem?_map, hl, Option.map_some, qm_sv, qm_nx, qm_f2, List.map_cons]
  · rename_i x hl
    cases hx
    simp only [qm_x, qm_cs, List.getElem?_map, hl, Option.map_some, qm_sv, qm_nx, qm_f2, List.map_cons]
  · cases hx

theorem qm_y_istore_n {i : Fin 4} (hs : qm_sat (qm_rho xs ys) E) (hx : qm_xS E (pc, np, .istore_n i, a, f, v) (pc, ls, st, h) = some R) (hR : qm_isp R = false) : qm_x (some (6, xs)) (pc, np, .istore_n i, a, f, v) (qm_cs (qm_rho xs ys) (pc, ls, st, h)) = qm_f2 (qm_rho xs ys) R := by
  simp only [qm_xS, qm_nxS, Bool.cond_eq_ite] at hx
  split at hx
  · rename_i w q
    split at hx
    · rename_i hw
      cases hx
      obtain ⟨x, hx2⟩ := qm_il_sv (r := qm_rho xs ys) hw
      simp only [qm_x, qm_cs, hx2, qm_nx, qm_f2, List.map_cons, qm_map_s1]
    · cases hx
  · cases hx

theorem qm_y_astore_n {i : Fin 4} (hs : qm_sat (qm_rho xs ys) E) (hx : qm_xS E (pc, np, .astore_n i, a, f, v) (pc, ls, st, h) = some R) (hR : qm_isp R = false) : qm_x (some (6, xs)) (pc, np, .astore_n i, a, f, v) (qm_cs (qm_rho xs ys) (pc, ls, st, h)) = qm_f2 (qm_rho xs ys) R := by
  simp only [qm_xS, qm_nxS] at hx
  split at hx
  · cases hx
    simp only [qm_x, qm_cs, qm_sv, qm_nx, qm_f2, List.map_cons, qm_map_s1]
  · cases hx

theorem qm_y_lstore_n {i : Fin 4} (hs : qm_sat (qm_rho xs ys) E) (hx : qm_xS E (pc, np, .lstore_n i, a, f, v) (pc, ls, st, h) = some R) (hR : qm_isp R = false) : qm_x (some (6, xs)) (pc, np, .lstore_n i, a, f, v) (qm_cs (qm_rho xs ys) (pc, ls, st, h)) = qm_f2 (qm_rho xs ys) R := by
  simp only [qm_xS, qm_nxS] at hx
  split at hx
  · cases hx
    simp only [qm_x, qm_cs, qm_sv, qm_nx, qm_f2, List.map_cons, qm_map_s2]
  · cases hx

theorem qm_y_iinc {i : Nat} {n : Int} (hs : qm_sat (qm_rho xs ys) E) (hx : qm_xS E (pc, np, .iinc i n, a, f, v) (pc, ls, st, h) = some R) (hR : qm_isp R = false) : qm_x (some (6, xs)) (pc, np, .iinc i n, a, f, v) (qm_cs (qm_rho xs ys) (pc, ls, st, h)) = qm_f2 (qm_rho xs ys) R := by
  simp only [qm_xS] at hx
  split at hx
  · rename_i w y hl
    cases he : qm_ev w && decide (y = 1) with
    | true =>
      simp only [he, cond_true, qm_nxS] at hx
      rw [Bool.and_eq_true, decide_eq_true_eq] at he
      obtain ⟨x, h1, h2⟩ := qm_su_ok (xs := xs) (ys := ys) he.1
      have hy := he.2
      subst hy
      cases hx
      simp only [qm_x, qm_cs, List.getElem?_map, hl, Option.map_some, h1, qm_nx, qm_f2, qm_map_s1, h2]
    | false =>
      simp only [he, cond_false] at hx
      obtain ⟨x, hx2, hx3⟩ := qm_1S_ok hs hx hR
      cases hx3
      simp only [qm_x, qm_cs, List.getElem?_map, hl, Option.map_some, hx2, qm_nx, qm_f2, List.map_cons, qm_map_s1]
      rfl
  · cases hx

theorem qm_y_iadd  (hs : qm_sat (qm_rho xs ys) E) (hx : qm_xS E (pc, np, .iadd, a, f, v) (pc, ls, st, h) = some R) (hR : qm_isp R = false) : qm_x (some (6, xs)) (pc, np, .iadd, a, f, v) (qm_cs (qm_rho xs ys) (pc, ls, st, h)) = qm_f2 (qm_rho xs ys) R := by
  simp only [qm_xS] at hx
  split at hx
  · rename_i y0 x0 q
    cases he : qm_ev x0 && decide (y0 = .int 1) with
    | true =>
      simp only [he, cond_true, qm_nxS] at hx
      rw [Bool.and_eq_true, decide_eq_true_eq] at he
      obtain ⟨x, h1, h2⟩ := qm_su_ok (xs := xs) (ys := ys) he.1
      have hy := he.2
      subst hy
      cases hx
      have e1 : qm_sv (qm_rho xs ys) (.int 1) = .int 1 := rfl
      simp only [qm_x, qm_cs, List.map_cons, h1, e1, qm_nx, qm_f2, h2]
    | false =>
      simp only [he, cond_false] at hx
      obtain ⟨y, x, h1, h2, h3⟩ := qm_2S_ok hs hx hR
      cases h3
      simp only [qm_x, qm_cs, List.map_cons, h1, h2, qm_nx, qm_f2]
      rfl
  · cases hx

theorem qm_y_isub  (hs : qm_sat (qm_rho xs ys) E) (hx : qm_xS E (pc, np, .isub, a, f, v) (pc, ls, st, h) = some R) (hR : qm_isp R = false) : qm_x (some (6, xs)) (pc, np, .isub, a, f, v) (qm_cs (qm_rho xs ys) (pc, ls, st, h)) = qm_f2 (qm_rho xs ys) R := by
  simp only [qm_xS] at hx
  split at hx
  · obtain ⟨y, x, h1, h2, h3⟩ := qm_2S_ok hs hx hR
    cases h3
    simp only [qm_x, qm_cs, List.map_cons, h1, h2, qm_nx, qm_f2]
    rfl
  · cases hx

theorem qm_y_imul  (hs : qm_sat (qm_rho xs ys) E) (hx : qm_xS E (pc, np, .imul, a, f, v) (pc, ls, st, h) = some R) (hR : qm_isp R = false) : qm_x (some (6, xs)) (pc, np, .imul, a, f, v) (qm_cs (qm_rho xs ys) (pc, ls, st, h)) = qm_f2 (qm_rho xs ys) R := by
  simp only [qm_xS] at hx
  split at hx
  · obtain ⟨y, x, h1, h2, h3⟩ := qm_2S_ok hs hx hR
    cases h3
    simp only [qm_x, qm_cs, List.map_cons, h1, h2, qm_nx, qm_f2]
    rfl
  · cases hx

theorem qm_y_ixor  (hs : qm_sat (qm_rho xs ys) E) (hx : qm_xS E (pc, np, .ixor, a, f, v) (pc, ls, st, h) = some R) (hR : qm_isp R = false) : qm_x (some (6, xs)) (pc, np, .ixor, a, f, v) (qm_cs (qm_rho xs ys) (pc, ls, st, h)) = qm_f2 (qm_rho xs ys) R := by
  simp only [qm_xS] at hx
  split at hx
  · obtain ⟨y, x, h1, h2, h3⟩ := qm_2S_ok hs hx hR
    cases h3
    simp only [qm_x, qm_cs, List.map_cons, h1, h2, qm_nx, qm_f2]
    rfl
  · cases hx

theorem qm_y_ishl  (hs : qm_sat (qm_rho xs ys) E) (hx : qm_xS E (pc, np, .ishl, a, f, v) (pc, ls, st, h) = some R) (hR : qm_isp R = false) : qm_x (some (6, xs)) (pc, np, .ishl, a, f, v) (qm_cs (qm_rho xs ys) (pc, ls, st, h)) = qm_f2 (qm_rho xs ys) R := by
  simp only [qm_xS] at hx
  split at hx
  · obtain ⟨y, x, h1, h2, h3⟩ := qm_2S_ok hs hx hR
    cases h3
    simp only [qm_x, qm_cs, List.map_cons, h1, h2, qm_nx, qm_f2]
    rfl
  · cases hx

theorem qm_y_idiv  (hs : qm_sat (qm_rho xs ys) E) (hx : qm_xS E (pc, np, .idiv, a, f, v) (pc, ls, st, h) = some R) (hR : qm_isp R = false) : qm_x (some (6, xs)) (pc, np, .idiv, a, f, v) (qm_cs (qm_rho xs ys) (pc, ls, st, h)) = qm_f2 (qm_rho xs ys) R := by
  simp only [qm_xS] at hx
  split at hx
  · obtain ⟨y, x, h1, h2, h3⟩ := qm_2S_ok hs hx hR
    by_cases hy : y = 0
    · simp [hy] at h3
    · simp only [hy, decide_false, cond_false] at h3
      cases h3
      simp only [qm_x, qm_cs, List.map_cons, h1, h2, qm_nx, qm_f2, hy, decide_false, cond_false]
      rfl
  · cases hx

theorem qm_y_irem  (hs : qm_sat (qm_rho xs ys) E) (hx : qm_xS E (pc, np, .irem, a, f, v) (pc, ls, st, h) = some R) (hR : qm_isp R = false) : qm_x (some (6, xs)) (pc, np, .irem, a, f, v) (qm_cs (qm_rho xs ys) (pc, ls, st, h)) = qm_f2 (qm_rho xs ys) R := by
  simp only [qm_xS] at hx
  split at hx
  · obtain ⟨y, x, h1, h2, h3⟩ := qm_2S_ok hs hx hR
    by_cases hy : y = 0
    · simp [hy] at h3
    · simp only [hy, decide_false, cond_false] at h3
      cases h3
      simp only [qm_x, qm_cs, List.map_cons, h1, h2, qm_nx, qm_f2, hy, decide_false, cond_false]
      rfl
  · cases hx

theorem qm_y_iand  (hs : qm_sat (qm_rho xs ys) E) (hx : qm_xS E (pc, np, .iand, a, f, v) (pc, ls, st, h) = some R) (hR : qm_isp R = false) : qm_x (some (6, xs)) (pc, np, .iand, a, f, v) (qm_cs (qm_rho xs ys) (pc, ls, st, h)) = qm_f2 (qm_rho xs ys) R := by
  simp only [qm_xS, qm_nxS, Bool.cond_eq_ite] at hx
  split at hx
  · split at hx
    · rename_i y n
      split at hx
      · rename_i hc
        rw [Bool.and_eq_true, decide_eq_true_eq, decide_eq_true_eq] at hc
        obtain ⟨rfl, rfl⟩ := hc
        cases hx
        rfl
      · obtain ⟨y, x, h1, h2, h3⟩ := qm_2S_ok hs hx hR
        cases h3
        simp only [qm_x, qm_cs, List.map_cons, h1, h2, qm_nx, qm_f2]
        rfl
    · obtain ⟨y, x, h1, h2, h3⟩ := qm_2S_ok hs hx hR
      cases h3
      simp only [qm_x, qm_cs, List.map_cons, h1, h2, qm_nx, qm_f2]
      rfl
  · cases hx

theorem qm_y_ishr  (hs : qm_sat (qm_rho xs ys) E) (hx : qm_xS E (pc, np, .ishr, a, f, v) (pc, ls, st, h) = some R) (hR : qm_isp R = false) : qm_x (some (6, xs)) (pc, np, .ishr, a, f, v) (qm_cs (qm_rho xs ys) (pc, ls, st, h)) = qm_f2 (qm_rho xs ys) R := by
  simp only [qm_xS, qm_nxS, Bool.cond_eq_ite] at hx
  split at hx
  · split at hx
    · rename_i y n hy
      split at hx
      · rename_i hc
        simp only [Bool.and_eq_true, decide_eq_true_eq] at hc
        obtain ⟨⟨c1, c2⟩, c3, c4⟩ := hc
        cases hx
        have h1 := qm_rs_int hs hy
        have hn0 : ¬ n = 0 := fun z => by subst z; simp at c1
        have e1 : (UInt32.ofNat (100 + 4 * n.toNat + y.toNatClampNeg / 8)).toNat = 100 + 4 * n.toNat + y.toNatClampNeg / 8 := by
          rw [UInt32.toNat_ofNat']
          exact Nat.mod_eq_of_lt (by omega)
        have e2 : ¬ UInt32.ofNat (100 + 4 * n.toNat + y.toNatClampNeg / 8) = 0 := by
          intro z
          have := congrArg UInt32.toNat z
          rw [e1] at this
          simp at this
        have e3 : qm_sv (qm_rho xs ys) (.float n) = .int (xs (n.toNat - 1)) := by
          simp only [qm_sv, hn0, decide_false, cond_false, qm_rho, if_pos c2]
        have e4 : qm_sv (qm_rho xs ys) (.float (UInt32.ofNat (100 + 4 * n.toNat + y.toNatClampNeg / 8))) = .int (xs (n.toNat - 1) >>> (y &&& 31)) := by
          simp only [qm_sv, e2, decide_false, cond_false, e1, qm_rho]
          rw [if_neg (by omega), if_neg (by omega), if_pos (by omega)]
          have g1 : (100 + 4 * n.toNat + y.toNatClampNeg / 8 - 100) / 4 - 1 = n.toNat - 1 := by omega
          have g2 : (100 + 4 * n.toNat + y.toNatClampNeg / 8 - 100) % 4 = y.toNatClampNeg / 8 := by omega
          rw [g1, g2, ← c3]
        simp only [qm_x, qm_cs, List.map_cons, h1, e3, e4, qm_nx, qm_f2]
      · obtain ⟨y, x, h1, h2, h3⟩ := qm_2S_ok hs hx hR
        cases h3
        simp only [qm_x, qm_cs, List.map_cons, h1, h2, qm_nx, qm_f2]
        rfl
    · obtain ⟨y, x, h1, h2, h3⟩ := qm_2S_ok hs hx hR
      cases h3
      simp only [qm_x, qm_cs, List.map_cons, h1, h2, qm_nx, qm_f2]
      rfl
  · cases hx

theorem qm_y_i2b  (hs : qm_sat (qm_rho xs ys) E) (hx : qm_xS E (pc, np, .i2b, a, f, v) (pc, ls, st, h) = some R) (hR : qm_isp R = false) : qm_x (some (6, xs)) (pc, np, .i2b, a, f, v) (qm_cs (qm_rho xs ys) (pc, ls, st, h)) = qm_f2 (qm_rho xs ys) R := by
  simp only [qm_xS, qm_nxS, Bool.cond_eq_ite] at hx
  split at hx
  · cases hx
    rfl
  · rename_i n q
    split at hx
    · rename_i hc
      simp only [Bool.and_eq_true, decide_eq_true_eq] at hc
      cases hx
      have hn0 : ¬ n = 0 := fun z => by subst z; simp at hc
      have e1 : (UInt32.ofNat (n.toNat + 100)).toNat = n.toNat + 100 := by
        rw [UInt32.toNat_ofNat']
        exact Nat.mod_eq_of_lt (by omega)
      have e2 : ¬ UInt32.ofNat (n.toNat + 100) = 0 := by
        intro z
        have := congrArg UInt32.toNat z
        rw [e1] at this
        simp at this
      have e3 : qm_sv (qm_rho xs ys) (.float n) = .int (xs ((n.toNat - 100) / 4 - 1) >>> (Int32.ofNat (8 * ((n.toNat - 100) % 4)) &&& 31)) := by
        simp only [qm_sv, hn0, decide_false, cond_false, qm_rho]
        rw [if_neg (by omega), if_neg (by omega), if_pos (by omega)]
      have e4 : qm_sv (qm_rho xs ys) (.float (UInt32.ofNat (n.toNat + 100))) = .int (xs ((n.toNat - 100) / 4 - 1) >>> (Int32.ofNat (8 * ((n.toNat - 100) % 4)) &&& 31)).toInt8.toInt32 := by
        simp only [qm_sv, e2, decide_false, cond_false, e1, qm_rho]
        rw [if_neg (by omega), if_neg (by omega), if_neg (by omega), if_pos (by omega)]
        rw [show n.toNat + 100 - 200 = n.toNat - 100 by omega]
      simp only [qm_x, qm_cs, List.map_cons, e3, e4, qm_nx, qm_f2]
    · cases hx
  · cases hx

theorem qm_y_dup  (hs : qm_sat (qm_rho xs ys) E) (hx : qm_xS E (pc, np, .dup, a, f, v) (pc, ls, st, h) = some R) (hR : qm_isp R = false) : qm_x (some (6, xs)) (pc, np, .dup, a, f, v) (qm_cs (qm_rho xs ys) (pc, ls, st, h)) = qm_f2 (qm_rho xs ys) R := by
  simp only [qm_xS, qm_nxS, Bool.cond_eq_ite] at hx
  split at hx
  · split at hx
    · rename_i hc
      cases hx
      simp only [qm_x, qm_cs, List.map_cons, qm_sv_cat, hc, qm_nx, qm_f2, cond_true]
    · cases hx
  · cases hx

theorem qm_y_pop  (hs : qm_sat (qm_rho xs ys) E) (hx : qm_xS E (pc, np, .pop, a, f, v) (pc, ls, st, h) = some R) (hR : qm_isp R = false) : qm_x (some (6, xs)) (pc, np, .pop, a, f, v) (qm_cs (qm_rho xs ys) (pc, ls, st, h)) = qm_f2 (qm_rho xs ys) R := by
  simp only [qm_xS, qm_nxS, Bool.cond_eq_ite] at hx
  split at hx
  · split at hx
    · rename_i hc
      cases hx
      simp only [qm_x, qm_cs, List.map_cons, qm_sv_cat, hc, qm_nx, qm_f2, cond_true]
    · cases hx
  · cases hx

theorem qm_y_dup2  (hs : qm_sat (qm_rho xs ys) E) (hx : qm_xS E (pc, np, .dup2, a, f, v) (pc, ls, st, h) = some R) (hR : qm_isp R = false) : qm_x (some (6, xs)) (pc, np, .dup2, a, f, v) (qm_cs (qm_rho xs ys) (pc, ls, st, h)) = qm_f2 (qm_rho xs ys) R := by
  simp only [qm_xS, qm_nxS, Bool.cond_eq_ite] at hx
  split at hx
  · split at hx
    · rename_i hc
      cases hx
      simp only [qm_x, qm_cs, List.map_cons, qm_sv, qm_nx, qm_f2]
      have hc2 : Nat.beq (qm_sv (qm_rho xs ys) _).category 1 = true := (congrArg (fun z => Nat.beq z 1) (qm_sv_cat (qm_rho xs ys) _)).trans hc
      simp only [qm_sv] at hc2
      rw [hc2]
      rfl
    · cases hx
  · cases hx

theorem qm_y_goto {o : Int} (hs : qm_sat (qm_rho xs ys) E) (hx : qm_xS E (pc, np, .goto o, a, f, v) (pc, ls, st, h) = some R) (hR : qm_isp R = false) : qm_x (some (6, xs)) (pc, np, .goto o, a, f, v) (qm_cs (qm_rho xs ys) (pc, ls, st, h)) = qm_f2 (qm_rho xs ys) R := by
  simp only [qm_xS, qm_nxS] at hx
  cases hx
  rfl

theorem qm_y_ifCond {q : ClassFile.Cond} {o : Int} (hs : qm_sat (qm_rho xs ys) E) (hx : qm_xS E (pc, np, .ifCond q o, a, f, v) (pc, ls, st, h) = some R) (hR : qm_isp R = false) : qm_x (some (6, xs)) (pc, np, .ifCond q o, a, f, v) (qm_cs (qm_rho xs ys) (pc, ls, st, h)) = qm_f2 (qm_rho xs ys) R := by
  simp only [qm_xS, qm_brS, Bool.cond_eq_ite] at hx
  split at hx
  · split at hx
    · rename_i hw
      cases hx
      obtain ⟨x, hx2⟩ := qm_il_sv (r := qm_rho xs ys) hw
      simp only [qm_x, qm_cs, List.map_cons, hx2, qm_br, qm_f2, qm_rs_sv hs]
      cases q <;> rfl
    · cases hx
  · cases hx

theorem qm_y_if_icmp {q : ClassFile.Cond} {o : Int} (hs : qm_sat (qm_rho xs ys) E) (hx : qm_xS E (pc, np, .if_icmp q o, a, f, v) (pc, ls, st, h) = some R) (hR : qm_isp R = false) : qm_x (some (6, xs)) (pc, np, .if_icmp q o, a, f, v) (qm_cs (qm_rho xs ys) (pc, ls, st, h)) = qm_f2 (qm_rho xs ys) R := by
  simp only [qm_xS, qm_brS, Bool.cond_eq_ite] at hx
  split at hx
  · split at hx
    · rename_i hw
      rw [Bool.and_eq_true] at hw
      cases hx
      obtain ⟨x, hx2⟩ := qm_il_sv (r := qm_rho xs ys) hw.1
      obtain ⟨y, hy2⟩ := qm_il_sv (r := qm_rho xs ys) hw.2
      simp only [qm_x, qm_cs, List.map_cons, hx2, hy2, qm_br, qm_f2, qm_rs_sv hs]
    · cases hx
  · cases hx

theorem qm_y_tableswitch {d lo hi : Int} {offs : Array Int} (hs : qm_sat (qm_rho xs ys) E) (hx : qm_xS E (pc, np, .tableswitch d lo hi offs, a, f, v) (pc, ls, st, h) = some R) (hR : qm_isp R = false) : qm_x (some (6, xs)) (pc, np, .tableswitch d lo hi offs, a, f, v) (qm_cs (qm_rho xs ys) (pc, ls, st, h)) = qm_f2 (qm_rho xs ys) R := by
  simp only [qm_xS] at hx
  split at hx
  · rename_i w q
    cases ho : qm_outS E w lo hi with
    | true =>
      obtain ⟨x, h2, hr⟩ := qm_outS_ok hs ho
      simp only [ho, cond_true, qm_nxS] at hx
      cases hx
      simp only [qm_x, qm_cs, List.map_cons, h2, qm_nx, qm_f2, hr, decide_true, cond_true]
    | false =>
      simp only [ho, cond_false] at hx
      obtain ⟨x, h2, h3⟩ := qm_1S_ok hs hx hR
      by_cases hr : x.toInt < lo ∨ hi < x.toInt
      · simp only [hr, decide_true, cond_true, qm_nxS] at h3
        cases h3
        simp only [qm_x, qm_cs, List.map_cons, h2, qm_nx, qm_f2, hr, decide_true, cond_true]
      · simp only [hr, decide_false, cond_false, qm_nxS] at h3
        split at h3
        · rename_i off ho
          cases h3
          simp only [qm_x, qm_cs, List.map_cons, h2, qm_nx, qm_f2, hr, decide_false, cond_false, ho]
        · cases h3
  · cases hx

theorem qm_y_getfield {i : Nat} (hs : qm_sat (qm_rho xs ys) E) (hx : qm_xS E (pc, np, .getfield i, a, f, v) (pc, ls, st, h) = some R) (hR : qm_isp R = false) : qm_x (some (6, xs)) (pc, np, .getfield i, a, f, v) (qm_cs (qm_rho xs ys) (pc, ls, st, h)) = qm_f2 (qm_rho xs ys) R := by
  simp only [qm_xS, qm_nxS, Bool.cond_eq_ite] at hx
  split at hx
  · split at hx
    · rename_i q hq
      split at hx
      · rename_i hb
        split at hx
        · split at hx
          · rename_i hw
            cases hx
            simp only [qm_x, qm_cs, qm_hs, List.map_cons, qm_sv, hq, hb, cond_true, qm_nx, qm_f2, qm_tv]
            have := qm_toI_sv (r := qm_rho xs ys) hw
            simp only [qm_sv] at this
            rw [this]
          · cases hx
        · cases hx
          simp only [qm_x, qm_cs, qm_hs, List.map_cons, qm_sv, hq, hb, cond_true, qm_nx, qm_f2, qm_tv]
        · cases hx
          have e1 := qm_sv_rv (qm_rho xs ys)
          simp only [qm_x, qm_cs, qm_hs, List.map_cons, e1, hq, hb, cond_true, qm_nx, qm_f2, qm_tv]
          simp only [qm_sv, hq, hb, cond_true]
        · cases hx
      · cases hx
    · cases hx
  · cases hx

theorem qm_y_putfield {i : Nat} (hs : qm_sat (qm_rho xs ys) E) (hx : qm_xS E (pc, np, .putfield i, a, f, v) (pc, ls, st, h) = some R) (hR : qm_isp R = false) : qm_x (some (6, xs)) (pc, np, .putfield i, a, f, v) (qm_cs (qm_rho xs ys) (pc, ls, st, h)) = qm_f2 (qm_rho xs ys) R := by
  simp only [qm_xS, qm_nxS, Bool.cond_eq_ite] at hx
  split at hx
  · rename_i w o q
    split at hx
    · rename_i z hq
      split at hx
      · rename_i hb
        split at hx
        · rename_i t
          split at hx
          · rename_i hw
            rw [Bool.and_eq_true] at hw
            cases hx
            obtain ⟨x, hx2⟩ := qm_il_sv (r := qm_rho xs ys) hw.1
            have hc : (decide (t = 0) || (decide (x = 0) || decide (x = 1))) = true := by
              have h2 := hw.2
              simp only [Bool.or_eq_true, decide_eq_true_eq] at h2 ⊢
              rcases h2 with z | z | z
              · exact Or.inl z
              · subst z
                cases hx2
                exact Or.inr (Or.inl rfl)
              · subst z
                cases hx2
                exact Or.inr (Or.inr rfl)
            have e0 : qm_sv (qm_rho xs ys) (.ref o) = .ref o := rfl
            simp only [qm_x, qm_cs, qm_hs, List.map_cons, e0, hx2, hq, hb, hc, cond_true, qm_nx, qm_f2]
            rw [qm_hs_up hx2]
          · cases hx
        · split at hx
          · cases hx
            simp only [qm_x, qm_cs, qm_hs, List.map_cons, qm_sv, hq, hb, cond_true, qm_nx, qm_f2, qm_lu_up]
          · cases hx
        · split at hx
          · cases hx
            simp only [qm_x, qm_cs, qm_hs, List.map_cons, qm_sv, hq, hb, cond_true, qm_nx, qm_f2, qm_lu_up]
          · cases hx
            simp only [qm_x, qm_cs, qm_hs, List.map_cons, qm_sv, hq, hb, cond_true, qm_nx, qm_f2, qm_lu_up]
          · cases hx
        · cases hx
      · cases hx
    · cases hx
  · cases hx

theorem qm_y_iaload  (hs : qm_sat (qm_rho xs ys) E) (hx : qm_xS E (pc, np, .iaload, a, f, v) (pc, ls, st, h) = some R) (hR : qm_isp R = false) : qm_x (some (6, xs)) (pc, np, .iaload, a, f, v) (qm_cs (qm_rho xs ys) (pc, ls, st, h)) = qm_f2 (qm_rho xs ys) R := by
  simp only [qm_xS] at hx
  split at hx
  · obtain ⟨i, h2, h3⟩ := qm_1S_ok hs hx hR
    simp only [qm_nxS, Bool.cond_eq_ite] at h3
    split at h3
    · rename_i n hq
      split at h3
      · rename_i hc
        rw [Bool.and_eq_true] at hc
        cases h3
        have := qm_toI_sv (r := qm_rho xs ys) hc.2
        simp only [qm_x, qm_cs, qm_hs, List.map_cons, h2, hc.1, cond_true, qm_nx, qm_f2]
        rw [← this]
        simp only [qm_sv, hq, hc.1, cond_true]
      · cases h3
    · cases h3
  · obtain ⟨i, h2, h3⟩ := qm_1S_ok hs hx hR
    simp only [qm_nxS, Bool.cond_eq_ite] at h3
    split at h3
    · rename_i hc
      cases h3
      have hin := qm_in_iff hc
      have hlt : i.toNatClampNeg < 6 := Nat.not_le.mp fun q => hin (Or.inr q)
      have e1 : (UInt32.ofNat (i.toNatClampNeg + 1)).toNat = i.toNatClampNeg + 1 := by
        rw [UInt32.toNat_ofNat']
        exact Nat.mod_eq_of_lt (by omega)
      have e2 : ¬ UInt32.ofNat (i.toNatClampNeg + 1) = 0 := by
        intro z
        have := congrArg UInt32.toNat z
        rw [e1] at this
        simp at this
      have e3 : qm_sv (qm_rho xs ys) (.float (UInt32.ofNat (i.toNatClampNeg + 1))) = .int (xs i.toNatClampNeg) := by
        simp only [qm_sv, e2, decide_false, cond_false, e1, qm_rho]
        rw [if_pos (by omega), Nat.add_sub_cancel]
      simp only [qm_x, qm_cs, List.map_cons, h2, e3, hc, cond_true, qm_nx, qm_f2]
      simp only [qm_sv, hc, cond_true]
    · cases h3
  · cases hx

theorem qm_y_aaload  (hs : qm_sat (qm_rho xs ys) E) (hx : qm_xS E (pc, np, .aaload, a, f, v) (pc, ls, st, h) = some R) (hR : qm_isp R = false) : qm_x (some (6, xs)) (pc, np, .aaload, a, f, v) (qm_cs (qm_rho xs ys) (pc, ls, st, h)) = qm_f2 (qm_rho xs ys) R := by
  simp only [qm_xS] at hx
  split at hx
  · obtain ⟨i, h2, h3⟩ := qm_1S_ok hs hx hR
    simp only [qm_nxS, Bool.cond_eq_ite] at h3
    split at h3
    · rename_i n hq
      split at h3
      · rename_i hc
        cases h3
        have e1 := qm_sv_rv (qm_rho xs ys)
        simp only [qm_x, qm_cs, qm_hs, List.map_cons, h2, e1, qm_nx, qm_f2]
        simp only [qm_sv, hq, hc, cond_true]
      · cases h3
    · cases h3
  · cases hx

theorem qm_y_iastore  (hs : qm_sat (qm_rho xs ys) E) (hx : qm_xS E (pc, np, .iastore, a, f, v) (pc, ls, st, h) = some R) (hR : qm_isp R = false) : qm_x (some (6, xs)) (pc, np, .iastore, a, f, v) (qm_cs (qm_rho xs ys) (pc, ls, st, h)) = qm_f2 (qm_rho xs ys) R := by
  simp only [qm_xS] at hx
  split at hx
  · obtain ⟨i, h2, h3⟩ := qm_1S_ok hs hx hR
    simp only [qm_nxS, Bool.cond_eq_ite] at h3
    split at h3
    · rename_i n hq
      split at h3
      · rename_i hc
        rw [Bool.and_eq_true] at hc
        cases h3
        obtain ⟨x, hx2⟩ := qm_il_sv (r := qm_rho xs ys) hc.2
        have e0 : ∀ z : Addr, qm_sv (qm_rho xs ys) (.ref z) = .ref z := fun _ => rfl
        simp only [qm_x, qm_cs, qm_hs, List.map_cons, e0, h2, hx2, hq, hc.1, cond_true, qm_nx, qm_f2]
        rw [qm_hs_up hx2]
      · cases h3
    · cases h3
  · cases hx

theorem qm_y_bastore  (hs : qm_sat (qm_rho xs ys) E) (hx : qm_xS E (pc, np, .bastore, a, f, v) (pc, ls, st, h) = some R) (hR : qm_isp R = false) : qm_x (some (6, xs)) (pc, np, .bastore, a, f, v) (qm_cs (qm_rho xs ys) (pc, ls, st, h)) = qm_f2 (qm_rho xs ys) R := by
  simp only [qm_xS] at hx
  split at hx
  · obtain ⟨i, h2, h3⟩ := qm_1S_ok hs hx hR
    simp only [qm_nxS, Bool.cond_eq_ite] at h3
    split at h3
    · rename_i n x hq
      split at h3
      · rename_i hc
        cases h3
        have hx2 : qm_sv (qm_rho xs ys) (.int (vp_nar .byte x)) = .int (vp_nar .byte x) := rfl
        have hx3 : qm_sv (qm_rho xs ys) (.int x) = .int x := rfl
        simp only [qm_x, qm_cs, qm_hs, List.map_cons, h2, hx3, qm_nx, qm_f2, ← qm_hs_up hx2]
        simp only [qm_sv, hq, hc, cond_true]
      · cases h3
    · rename_i n m hq
      split at h3
      · rename_i hc
        simp only [Bool.and_eq_true, decide_eq_true_eq] at hc
        cases h3
        have hm0 : ¬ m = 0 := fun z => by subst z; simp at hc
        have hx2 : qm_sv (qm_rho xs ys) (.float m) = .int (xs ((m.toNat - 200) / 4 - 1) >>> (Int32.ofNat (8 * ((m.toNat - 200) % 4)) &&& 31)).toInt8.toInt32 := by
          simp only [qm_sv, hm0, decide_false, cond_false, qm_rho]
          rw [if_neg (by omega), if_neg (by omega), if_neg (by omega), if_pos (by omega)]
        have e0 : ∀ z : Addr, qm_sv (qm_rho xs ys) (.ref z) = .ref z := fun _ => rfl
        simp only [qm_x, qm_cs, qm_hs, List.map_cons, e0, h2, hx2, hq, hc.1, cond_true, qm_nx, qm_f2, pk_vb]
        rw [qm_hs_up hx2]
      · cases h3
    · rename_i n x hq
      split at h3
      · rename_i hc
        cases h3
        have hx2 : qm_sv (qm_rho xs ys) (.int (vp_nar .boolean x)) = .int (vp_nar .boolean x) := rfl
        have hx3 : qm_sv (qm_rho xs ys) (.int x) = .int x := rfl
        simp only [qm_x, qm_cs, qm_hs, List.map_cons, h2, hx3, qm_nx, qm_f2, ← qm_hs_up hx2]
        simp only [qm_sv, hq, hc, cond_true]
      · cases h3
    · cases h3
  · cases hx

theorem qm_y_lastore  (hs : qm_sat (qm_rho xs ys) E) (hx : qm_xS E (pc, np, .lastore, a, f, v) (pc, ls, st, h) = some R) (hR : qm_isp R = false) : qm_x (some (6, xs)) (pc, np, .lastore, a, f, v) (qm_cs (qm_rho xs ys) (pc, ls, st, h)) = qm_f2 (qm_rho xs ys) R := by
  simp only [qm_xS] at hx
  split at hx
  · obtain ⟨i, h2, h3⟩ := qm_1S_ok hs hx hR
    simp only [qm_nxS, Bool.cond_eq_ite] at h3
    split at h3
    · rename_i n hq
      split at h3
      · rename_i hc
        cases h3
        simp only [qm_x, qm_cs, qm_hs, List.map_cons, h2, qm_nx, qm_f2, ← qm_lu_up]
        simp only [qm_sv, hq, hc, cond_true]
      · cases h3
    · cases h3
  · cases hx

theorem qm_y_arraylength  (hs : qm_sat (qm_rho xs ys) E) (hx : qm_xS E (pc, np, .arraylength, a, f, v) (pc, ls, st, h) = some R) (hR : qm_isp R = false) : qm_x (some (6, xs)) (pc, np, .arraylength, a, f, v) (qm_cs (qm_rho xs ys) (pc, ls, st, h)) = qm_f2 (qm_rho xs ys) R := by
  simp only [qm_xS, qm_nxS, Bool.cond_eq_ite] at hx
  split at hx
  · split at hx
    · rename_i q hq
      split at hx
      · rename_i hb
        cases hx
        simp only [qm_x, qm_cs, qm_hs, List.map_cons, qm_sv, hq, hb, cond_true, qm_nx, qm_f2]
      · cases hx
    · cases hx
  · cases hx
    rfl
  · cases hx

theorem qm_y_invokevirtual {i : Nat} (hs : qm_sat (qm_rho xs ys) E) (hx : qm_xS E (pc, np, .invokevirtual i, a, f, v) (pc, ls, st, h) = some R) (hR : qm_isp R = false) : qm_x (some (6, xs)) (pc, np, .invokevirtual i, a, f, v) (qm_cs (qm_rho xs ys) (pc, ls, st, h)) = qm_f2 (qm_rho xs ys) R := by
  simp only [qm_xS, qm_clS, Bool.cond_eq_ite] at hx
  split at hx
  · rename_i o q hdr
    split at hx
    · rename_i z ci hq
      split at hx
      · rename_i hc
        cases hx
        have e1 : (st.map (qm_sv (qm_rho xs ys))).drop f = .ref o :: q.map (qm_sv (qm_rho xs ys)) := by
          rw [← List.map_drop, hdr]
          rfl
        have hc2 : (Nat.beq z.1 (ci + 5) && Nat.ble (qm_cat (q.map (qm_sv (qm_rho xs ys)))) 8) = true := by rw [qm_cat_sv]; exact hc
        simp only [qm_x, qm_cs, qm_hs, e1, hq, hc2, cond_true, qm_cl, qm_f2, List.map_cons, List.map_reverse, List.map_take]
        rfl
      · cases hx
    · cases hx
  · cases hx

theorem qm_y_invokestatic {i : Nat} (hs : qm_sat (qm_rho xs ys) E) (hx : qm_xS E (pc, np, .invokestatic i, a, f, v) (pc, ls, st, h) = some R) (hR : qm_isp R = false) : qm_x (some (6, xs)) (pc, np, .invokestatic i, a, f, v) (qm_cs (qm_rho xs ys) (pc, ls, st, h)) = qm_f2 (qm_rho xs ys) R := by
  simp only [qm_xS, qm_nxS, qm_clS, Bool.cond_eq_ite] at hx
  split at hx
  · split at hx
    · rename_i n dp d sp o q
      split at hx
      · rename_i m k ho hd
        split at hx
        · rename_i hc
          cases hx
          have e0 : ∀ z : Addr, qm_sv (qm_rho xs ys) (.ref z) = .ref z := fun _ => rfl
          have e1 : ∀ z : Int32, qm_sv (qm_rho xs ys) (.int z) = .int z := fun _ => rfl
          simp only [qm_x, qm_cs, qm_hs, List.map_cons, e0, e1, ho, hd, qm_cat_sv, hc, cond_true, qm_nx, qm_f2]
          rw [qm_hs_cp]
        · cases hx
      · cases hx
    · cases hx
  · split at hx
    · rename_i y x q
      split at hx
      · rename_i hc
        cases hx
        have hcat := qm_cat_sv (qm_rho xs ys) q
        simp only [qm_x, qm_cs, List.map_cons, qm_sv, qm_nx, qm_f2] at hcat ⊢
        rw [hcat, hc]
        rfl
      · cases hx
    · rename_i y x q
      split at hx
      · rename_i hc
        cases hx
        have hcat := qm_cat_sv (qm_rho xs ys) q
        simp only [qm_x, qm_cs, List.map_cons, qm_sv, qm_nx, qm_f2] at hcat ⊢
        rw [hcat, hc]
        rfl
      · cases hx
    · rename_i x q
      split at hx
      · rename_i hc
        cases hx
        have hcat := qm_cat_sv (qm_rho xs ys) q
        simp only [qm_x, qm_cs, List.map_cons, qm_sv, qm_nx, qm_f2] at hcat ⊢
        rw [hcat, hc]
        rfl
      · cases hx
    · cases hx
  · split at hx
    · rename_i hc
      cases hx
      have hc2 : (Nat.ble f (st.map (qm_sv (qm_rho xs ys))).length && Nat.ble (qm_cat ((st.map (qm_sv (qm_rho xs ys))).drop f)) 8) = true := by
        rw [List.length_map, ← List.map_drop, qm_cat_sv]
        exact hc
      simp only [qm_x, qm_cs, hc2, cond_true, qm_cl, qm_f2, List.map_reverse, List.map_take, List.map_drop]
    · cases hx
  · cases hx

theorem qm_y_ireturn  (hs : qm_sat (qm_rho xs ys) E) (hx : qm_xS E (pc, np, .ireturn, a, f, v) (pc, ls, st, h) = some R) (hR : qm_isp R = false) : qm_x (some (6, xs)) (pc, np, .ireturn, a, f, v) (qm_cs (qm_rho xs ys) (pc, ls, st, h)) = qm_f2 (qm_rho xs ys) R := by
  simp only [qm_xS, qm_rtS, Bool.cond_eq_ite] at hx
  split at hx
  · rename_i w
    split at hx
    · rename_i hw
      rw [Bool.and_eq_true] at hw
      cases hx
      obtain ⟨x, hx2⟩ := qm_il_sv (r := qm_rho xs ys) hw.1
      have hc : (Nat.beq a 0 || (decide (x = 0) || decide (x = 1))) = true := by
        have h2 := hw.2
        simp only [Bool.or_eq_true, decide_eq_true_eq] at h2 ⊢
        rcases h2 with z | z | z
        · exact Or.inl z
        · subst z
          cases hx2
          exact Or.inr (Or.inl rfl)
        · subst z
          cases hx2
          exact Or.inr (Or.inr rfl)
      simp only [qm_x, qm_cs, List.map_cons, List.map_nil, hx2, hc, cond_true, qm_rt, qm_f2, Option.map_some]
    · cases hx
  · cases hx

theorem qm_y_lreturn  (hs : qm_sat (qm_rho xs ys) E) (hx : qm_xS E (pc, np, .lreturn, a, f, v) (pc, ls, st, h) = some R) (hR : qm_isp R = false) : qm_x (some (6, xs)) (pc, np, .lreturn, a, f, v) (qm_cs (qm_rho xs ys) (pc, ls, st, h)) = qm_f2 (qm_rho xs ys) R := by
  simp only [qm_xS, qm_rtS] at hx
  split at hx
  · cases hx
    rfl
  · cases hx

theorem qm_y_return_  (hs : qm_sat (qm_rho xs ys) E) (hx : qm_xS E (pc, np, .return_, a, f, v) (pc, ls, st, h) = some R) (hR : qm_isp R = false) : qm_x (some (6, xs)) (pc, np, .return_, a, f, v) (qm_cs (qm_rho xs ys) (pc, ls, st, h)) = qm_f2 (qm_rho xs ys) R := by
  simp only [qm_xS, qm_rtS] at hx
  split at hx
  · cases hx
    rfl
  · cases hx

theorem qm_y {ins : Instr} (hs : qm_sat (qm_rho xs ys) E) (hx : qm_xS E (pc, np, ins, a, f, v) (pc, ls, st, h) = some R) (hR : qm_isp R = false) : qm_x (some (6, xs)) (pc, np, ins, a, f, v) (qm_cs (qm_rho xs ys) (pc, ls, st, h)) = qm_f2 (qm_rho xs ys) R := by
  cases ins with
  | iconst _ => exact qm_y_iconst hs hx hR
  | bipush _ => exact qm_y_bipush hs hx hR
  | sipush _ => exact qm_y_sipush hs hx hR
  | ldc _ => exact qm_y_ldc hs hx hR
  | ldc_w _ => exact qm_y_ldc_w hs hx hR
  | lconst _ => exact qm_y_lconst hs hx hR
  | iload _ => exact qm_y_iload hs hx hR
  | iload_n _ => exact qm_y_iload_n hs hx hR
  | lload _ => exact qm_y_lload hs hx hR
  | lload_n _ => exact qm_y_lload_n hs hx hR
  | aload _ => exact qm_y_aload hs hx hR
  | aload_n _ => exact qm_y_aload_n hs hx hR
  | istore _ => exact qm_y_istore hs hx hR
  | istore_n _ => exact qm_y_istore_n hs hx hR
  | astore _ => exact qm_y_astore hs hx hR
  | astore_n _ => exact qm_y_astore_n hs hx hR
  | lstore_n _ => exact qm_y_lstore_n hs hx hR
  | iinc _ _ => exact qm_y_iinc hs hx hR
  | iadd => exact qm_y_iadd hs hx hR
  | isub => exact qm_y_isub hs hx hR
  | imul => exact qm_y_imul hs hx hR
  | ixor => exact qm_y_ixor hs hx hR
  | ishl => exact qm_y_ishl hs hx hR
  | idiv => exact qm_y_idiv hs hx hR
  | irem => exact qm_y_irem hs hx hR
  | iand => exact qm_y_iand hs hx hR
  | ishr => exact qm_y_ishr hs hx hR
  | i2b => exact qm_y_i2b hs hx hR
  | dup => exact qm_y_dup hs hx hR
  | pop => exact qm_y_pop hs hx hR
  | dup2 => exact qm_y_dup2 hs hx hR
  | goto _ => exact qm_y_goto hs hx hR
  | ifCond _ _ => exact qm_y_ifCond hs hx hR
  | if_icmp _ _ => exact qm_y_if_icmp hs hx hR
  | tableswitch _ _ _ _ => exact qm_y_tableswitch hs hx hR
  | getfield _ => exact qm_y_getfield hs hx hR
  | putfield _ => exact qm_y_putfield hs hx hR
  | iaload => exact qm_y_iaload hs hx hR
  | aaload => exact qm_y_aaload hs hx hR
  | iastore => exact qm_y_iastore hs hx hR
  | bastore => exact qm_y_bastore hs hx hR
  | lastore => exact qm_y_lastore hs hx hR
  | arraylength => exact qm_y_arraylength hs hx hR
  | invokevirtual _ => exact qm_y_invokevirtual hs hx hR
  | invokestatic _ => exact qm_y_invokestatic hs hx hR
  | ireturn => exact qm_y_ireturn hs hx hR
  | lreturn => exact qm_y_lreturn hs hx hR
  | return_ => exact qm_y_return_ hs hx hR
  | _ => cases hx
end QSY
