/-! the explorer over digits and sums -/
section TIB
variable {xs : Nat → Int32} {r : Nat → Int32} {pc np a f : Nat} {v : Value} {ls s : List Value} {h : qm_HS}
theorem ti_icmp {q : ClassFile.Cond} {t : Int} {y x Y X : Value} {i j : Int32} (gy : qm_sv r y = .int i) (gx : qm_sv r x = .int j) (gY : qm_sv r Y = .int i) (gX : qm_sv r X = .int j) : qm_x (some (6, xs)) (pc, np, .if_icmp q t, a, f, v) (qm_cs r (pc, ls, y :: x :: s, h)) = qm_f2 r (.inr (.inl (q, X, Y, (a, ls, s, h), (np, ls, s, h)))) := by
  simp only [qm_x, qm_cs, List.map_cons, gx, gy, qm_br, qm_f2, gX, gY]
theorem ti_ifc {q : ClassFile.Cond} {t : Int} {x Y X : Value} {j : Int32} (gx : qm_sv r x = .int j) (gY : qm_sv r Y = .int 0) (gX : qm_sv r X = .int j) : qm_x (some (6, xs)) (pc, np, .ifCond q t, a, f, v) (qm_cs r (pc, ls, x :: s, h)) = qm_f2 r (.inr (.inl (q, X, Y, (a, ls, s, h), (np, ls, s, h)))) := by
  simp only [qm_x, qm_cs, List.map_cons, gx, qm_br, qm_f2, gX, gY]
  cases q <;> rfl
theorem ti_max {n : Nat} {t : Int32} {y x V : Value} {i j : Int32} (gy : qm_sv r y = .int i) (gx : qm_sv r x = .int j) (gV : qm_sv r V = .int (if j < i then i else j)) (hc : Nat.ble (qm_cat s) 8 = true) : qm_x (some (6, xs)) (pc, np, .invokestatic n, 0, f, .int t) (qm_cs r (pc, ls, y :: x :: s, h)) = qm_f2 r (.inl (np, ls, V :: s, h)) := by
  have hcat := qm_cat_sv r s
  simp only [qm_x, qm_cs, List.map_cons, gx, gy, qm_nx, qm_f2, gV] at hcat ⊢
  rw [hcat, hc]
  rfl
end TIB
theorem ti_mx1 {i j : Int32} (h : i < j) : (if j < i then i else j) = j := if_neg (ti_asy h)
theorem ti_mx2 {i j : Int32} (h : ¬ i < j) : (if j < i then i else j) = i := by
  by_cases k : j < i
  · exact if_pos k
  · rw [if_neg k]
    apply Int32.toInt_inj.mp
    have h1 : ¬ i.toInt < j.toInt := fun w => h (Int32.lt_iff_toInt_lt.mpr w)
    have h2 : ¬ j.toInt < i.toInt := fun w => k (Int32.lt_iff_toInt_lt.mpr w)
    omega
def ti_1 (g : Bool) (E : qm_En) (v : Value) : Option Nat := bif g then (match v with
  | .float n => (match ti_of (.float n) with
    | some a => some (ti_n E a)
    | none => none)
  | _ => none) else none
theorem ti_1_ok {xs : Nat → Int32} {E : qm_En} (hs : qm_sat (qm_rho xs (ti_y xs)) E) {g : Bool} (hG : g = true → ti_G (xs 1)) {x : Value} {m : Nat} (h : ti_1 g E x = some m) : qm_sv (qm_rho xs (ti_y xs)) x = .int (ti_l (xs 1) m) ∧ m < 30000 := by
  cases g with
  | false => cases h
  | true =>
    have hG := hG rfl
    unfold ti_1 at h
    rw [cond_true] at h
    split at h
    · rename_i n
      split at h
      · rename_i a ha
        cases h
        obtain ⟨a1, a2⟩ := ti_of_ok (xs := xs) ha
        have := ti_n_le E a
        exact ⟨by rw [ti_n_ok hs hG]; exact a1, by omega⟩
      · cases h
    · cases h
def ti_xb (g : Bool) (E : qm_En) (it : qm_It) (q : ClassFile.Cond) (c : qm_CS) : qm_RS := match c.2.2.1 with
  | y :: x :: r => (match ti_2 g E y x with
    | some (m, k) => qm_brS q (.float (ti_id k)) (.float (ti_id m)) (it.2.2.2.1, c.2.1, r, c.2.2.2) (it.2.1, c.2.1, r, c.2.2.2)
    | none => qm_xS E it c)
  | _ => qm_xS E it c
def ti_xc (g : Bool) (E : qm_En) (it : qm_It) (q : ClassFile.Cond) (c : qm_CS) : qm_RS := match c.2.2.1 with
  | x :: r => (match ti_1 g E x with
    | some m => qm_brS q (.float (ti_id m)) (.float (ti_id 0)) (it.2.2.2.1, c.2.1, r, c.2.2.2) (it.2.1, c.2.1, r, c.2.2.2)
    | none => qm_xS E it c)
  | _ => qm_xS E it c
/-- is it Math.max of two ints -/
def ti_im (a : Nat) (v : Value) : Bool := Nat.beq a 0 && (match v with
  | .int _ => true
  | _ => false)
theorem ti_im_ok {a : Nat} {v : Value} (h : ti_im a v = true) : a = 0 ∧ ∃ t, v = .int t := by
  unfold ti_im at h
  rw [Bool.and_eq_true] at h
  refine ⟨Nat.eq_of_beq_eq_true h.1, ?_⟩
  cases v with
  | int t => exact ⟨t, rfl⟩
  | _ => cases h.2
def ti_xx (g : Bool) (E : qm_En) (it : qm_It) (c : qm_CS) : qm_RS := bif ti_im it.2.2.2.1 it.2.2.2.2.2 then (match c.2.2.1 with
  | y :: x :: r => (match ti_2 g E y x with
    | some (m, k) => bif Nat.ble (qm_cat r) 8 then (match ti_fa g E (400 + 2 * m) (400 + 2 * k) with
      | some true => qm_nxS (it.2.1, c.2.1, ti_to k :: r, c.2.2.2)
      | some false => qm_nxS (it.2.1, c.2.1, ti_to m :: r, c.2.2.2)
      | none => none) else none
    | none => qm_xS E it c)
  | _ => qm_xS E it c) else qm_xS E it c
/-- the two sums of a Math.max that must be told apart first -/
def ti_q (g : Bool) (E : qm_En) (it : qm_It) (c : qm_CS) : Option (Nat × Nat) := match it.2.2.1 with
  | .invokestatic _ => bif ti_im it.2.2.2.1 it.2.2.2.2.2 then (match c.2.2.1 with
    | y :: x :: _ => (match ti_2 g E y x with
      | some (m, k) => (match ti_fa g E (400 + 2 * m) (400 + 2 * k) with
        | none => some (400 + 2 * m, 400 + 2 * k)
        | some _ => none)
      | none => none)
    | _ => none) else none
  | _ => none
section TIC
variable {xs : Nat → Int32} {E : qm_En} {pc np a f : Nat} {v : Value} {ls st : List Value} {h : qm_HS} {R : qm_SS} {g : Bool}
theorem ti_y_icmp {q : ClassFile.Cond} {t : Int} (hs : qm_sat (qm_rho xs (ti_y xs)) E) (hG : g = true → ti_G (xs 1)) (hx : ti_xb g E (pc, np, .if_icmp q t, a, f, v) q (pc, ls, st, h) = some R) (hR : qm_isp R = false) : qm_x (some (6, xs)) (pc, np, .if_icmp q t, a, f, v) (qm_cs (qm_rho xs (ti_y xs)) (pc, ls, st, h)) = qm_f2 (qm_rho xs (ti_y xs)) R := by
  unfold ti_xb at hx
  split at hx
  · rename_i y x r hst
    have hst : st = y :: x :: r := hst
    subst hst
    split at hx
    · rename_i m k h2
      obtain ⟨g1, g2, g3, g4⟩ := ti_2_ok hs hG h2
      have hx : R = .inr (.inl (q, .float (ti_id k), .float (ti_id m), (a, ls, r, h), (np, ls, r, h))) := (Option.some.inj hx).symm
      rw [hx]
      exact ti_icmp g1 g2 (ti_fl (by omega)) (ti_fl (by omega))
    · exact qm_y hs hx hR
  · exact qm_y hs hx hR
theorem ti_y_ifc {q : ClassFile.Cond} {t : Int} (hs : qm_sat (qm_rho xs (ti_y xs)) E) (hG : g = true → ti_G (xs 1)) (hx : ti_xc g E (pc, np, .ifCond q t, a, f, v) q (pc, ls, st, h) = some R) (hR : qm_isp R = false) : qm_x (some (6, xs)) (pc, np, .ifCond q t, a, f, v) (qm_cs (qm_rho xs (ti_y xs)) (pc, ls, st, h)) = qm_f2 (qm_rho xs (ti_y xs)) R := by
  unfold ti_xc at hx
  split at hx
  · rename_i x r hst
    have hst : st = x :: r := hst
    subst hst
    split at hx
    · rename_i m h2
      obtain ⟨g1, g3⟩ := ti_1_ok hs hG h2
      have hx : R = .inr (.inl (q, .float (ti_id m), .float (ti_id 0), (a, ls, r, h), (np, ls, r, h))) := (Option.some.inj hx).symm
      rw [hx]
      have e0 := ti_fl (xs := xs) (m := 0) (by omega)
      rw [ti_con (xs 1) (by omega)] at e0
      exact ti_ifc g1 e0 (ti_fl (by omega))
    · exact qm_y hs hx hR
  · exact qm_y hs hx hR
theorem ti_y_max {i : Nat} (hs : qm_sat (qm_rho xs (ti_y xs)) E) (hG : g = true → ti_G (xs 1)) (hx : ti_xx g E (pc, np, .invokestatic i, a, f, v) (pc, ls, st, h) = some R) (hR : qm_isp R = false) : qm_x (some (6, xs)) (pc, np, .invokestatic i, a, f, v) (qm_cs (qm_rho xs (ti_y xs)) (pc, ls, st, h)) = qm_f2 (qm_rho xs (ti_y xs)) R := by
  unfold ti_xx at hx
  cases hi : ti_im a v with
  | false =>
    simp only [hi, cond_false] at hx
    exact qm_y hs hx hR
  | true =>
    simp only [hi, cond_true] at hx
    split at hx
    · rename_i y x r
      split at hx
      · rename_i m k h2
        obtain ⟨g1, g2, g3, g4⟩ := ti_2_ok hs hG h2
        obtain ⟨ha, t, hv⟩ := ti_im_ok hi
        subst ha
        subst hv
        cases ho : Nat.ble (qm_cat r) 8 with
        | false =>
          rw [ho, cond_false] at hx
          cases hx
        | true =>
          rw [ho, cond_true] at hx
          split at hx
          · rename_i hf
            have h1 := of_decide_eq_true (ti_fa_g hs ti_0 (fun n => ti_pos_ok hs hG) hf)
            rw [ti_r400, ti_r400] at h1
            have hx : R = .inl (np, ls, ti_to k :: r, h) := (Option.some.inj hx).symm
            rw [hx]
            exact ti_max g1 g2 (by rw [ti_mx1 h1]; exact ti_to_ok (by omega)) ho
          · rename_i hf
            have h1 := of_decide_eq_false (ti_fa_g hs ti_0 (fun n => ti_pos_ok hs hG) hf)
            rw [ti_r400, ti_r400] at h1
            have hx : R = .inl (np, ls, ti_to m :: r, h) := (Option.some.inj hx).symm
            rw [hx]
            exact ti_max g1 g2 (by rw [ti_mx2 h1]; exact ti_to_ok (by omega)) ho
          · cases hx
      · exact qm_y hs hx hR
    · exact qm_y hs hx hR
end TIC
def ti_x (g : Bool) (E : qm_En) (it : qm_It) (c : qm_CS) : qm_RS := match it.2.2.1 with
  | .idiv => ti_xd E it c
  | .irem => ti_xr E it c
  | .iadd => ti_xa g E it c
  | .isub => ti_xs g E it c
  | .imul => ti_xm g E it c
  | .if_icmp q _ => ti_xb g E it q c
  | .ifCond q _ => ti_xc g E it q c
  | .invokestatic _ => ti_xx g E it c
  | _ => qm_xS E it c
theorem ti_x_ok {xs : Nat → Int32} {E : qm_En} {pc np a f : Nat} {v : Value} {ls st : List Value} {h : qm_HS} {R : qm_SS} {g : Bool} {ins : Instr} (hG : g = true → ti_G (xs 1)) (hs : qm_sat (qm_rho xs (ti_y xs)) E) (hx : ti_x g E (pc, np, ins, a, f, v) (pc, ls, st, h) = some R) (hR : qm_isp R = false) : qm_x (some (6, xs)) (pc, np, ins, a, f, v) (qm_cs (qm_rho xs (ti_y xs)) (pc, ls, st, h)) = qm_f2 (qm_rho xs (ti_y xs)) R := by
  unfold ti_x at hx
  dsimp only at hx
  split at hx
  · exact ti_y_idiv hs hx hR
  · exact ti_y_irem hs hx hR
  · exact ti_y_iadd hs hG hx hR
  · exact ti_y_isub hs hG hx hR
  · exact ti_y_imul hs hG hx hR
  · exact ti_y_icmp hs hG hx hR
  · exact ti_y_ifc hs hG hx hR
  · exact ti_y_max hs hG hx hR
  · exact qm_y hs hx hR
