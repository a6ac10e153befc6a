/-! by hand over the small machine: a lemma an instruction -/
theorem hk_in {i : Int32} {n : Nat} (h0 : 0 ≤ i.toInt) (h1 : i.toInt < (n : Int)) : qm_in i n = true := by
  unfold qm_in
  refine decide_eq_true ?_
  intro h
  rcases h with h | h
  · have := Int32.lt_iff_toInt_lt.mp h
    have e : (0 : Int32).toInt = 0 := rfl
    omega
  · have e : i.toNatClampNeg = i.toInt.toNat := rfl
    omega
theorem hk_lti {x y : Int32} : x < y ↔ x.toInt < y.toInt := Int32.lt_iff_toInt_lt
theorem hk_lei {x y : Int32} : x ≤ y ↔ x.toInt ≤ y.toInt := Int32.le_iff_toInt_le
theorem hk_eqi {x y : Int32} : x = y ↔ x.toInt = y.toInt := ⟨fun h => by rw [h], fun h => Int32.toInt_inj.mp h⟩
theorem hk_rng (x : Int32) : (-2147483648 : Int) ≤ x.toInt ∧ x.toInt ≤ 2147483647 := qa_in_full x
theorem hk_bm {z : Int} (h1 : -2147483648 ≤ z) (h2 : z ≤ 2147483647) : z.bmod 4294967296 = z := by
  rw [Int.bmod_def]
  omega
theorem hk_add {x y : Int32} {a b : Int} (ex : x.toInt = a) (ey : y.toInt = b) (h1 : -2147483648 ≤ a + b) (h2 : a + b ≤ 2147483647) : ∃ z, x + y = z ∧ z.toInt = a + b := by
  refine ⟨_, rfl, ?_⟩
  rw [Int32.toInt_add, ex, ey]
  exact hk_bm h1 h2
theorem hk_sub {x y : Int32} {a b : Int} (ex : x.toInt = a) (ey : y.toInt = b) (h1 : -2147483648 ≤ a - b) (h2 : a - b ≤ 2147483647) : ∃ z, x - y = z ∧ z.toInt = a - b := by
  refine ⟨_, rfl, ?_⟩
  rw [Int32.toInt_sub, ex, ey]
  exact hk_bm h1 h2
theorem hk_mul {x y : Int32} {a b : Int} (ex : x.toInt = a) (ey : y.toInt = b) (h1 : -2147483648 ≤ a * b) (h2 : a * b ≤ 2147483647) : ∃ z, x * y = z ∧ z.toInt = a * b := by
  refine ⟨_, rfl, ?_⟩
  rw [Int32.toInt_mul, ex, ey]
  exact hk_bm h1 h2
theorem hk_div {x y : Int32} {a b : Int} (ex : x.toInt = a) (ey : y.toInt = b) (h0 : 0 ≤ a) (h1 : 1 ≤ b) : ∃ z, x / y = z ∧ z.toInt = a / b := by
  subst ex
  subst ey
  exact ⟨_, rfl, qa_tdiv h0 h1⟩
theorem hk_rem {x y : Int32} {a b : Int} (ex : x.toInt = a) (ey : y.toInt = b) (h0 : 0 ≤ a) (h1 : 1 ≤ b) : ∃ z, x - x / y * y = z ∧ z.toInt = a % b := by
  subst ex
  subst ey
  refine ⟨_, rfl, ?_⟩
  have hd := qa_tdiv h0 h1
  have r1 := hk_rng x
  have e1 : x.toInt / y.toInt * y.toInt ≤ x.toInt := Int.ediv_mul_le _ (by omega)
  have e0 : 0 ≤ x.toInt / y.toInt * y.toInt := Int.mul_nonneg (Int.ediv_nonneg h0 (by omega)) (by omega)
  rw [Int32.toInt_sub, Int32.toInt_mul, hd, hk_bm (z := x.toInt / y.toInt * y.toInt) (by omega) (by omega), hk_bm (by omega) (by omega)]
  have := Int.mul_ediv_add_emod x.toInt y.toInt
  rw [Int.mul_comm] at this
  omega
theorem hk_neg {x : Int32} {a : Int} (ex : x.toInt = a) (h1 : -2147483647 ≤ a) : ∃ z, -x = z ∧ z.toInt = -a := by
  refine ⟨_, rfl, ?_⟩
  have r := hk_rng x
  rw [Int32.toInt_neg, ex]
  exact hk_bm (by omega) (by omega)
section HK
variable {X : Option (Nat × (Nat → Int32))} {d : Nat} {cd : qm_Cd} {Z : Option Value → qm_H → Prop} {pc np a b o : Nat} {ls r : List Value} {h : qm_H} {k : Nat} {q : Nat × Nat}
theorem hk_st {it : qm_It} {c : qm_C} (hf : qm_fetch cd c.1 = some it) : qm_step X cd c = qm_x X it c := by
  unfold qm_step
  rw [hf]
theorem hk_geti {t v : Int32} (hf : qm_fetch cd pc = some (pc, np, .getfield k, a, b, .int t)) (hs : h.1[o]? = some q) (hq : Nat.beq q.1 (a + 5) = true) (hv : h.2.1 o b = v) (kk : qm_Ru X d cd (np, ls, .int v :: r, h) Z) : qm_Ru X d cd (pc, ls, .ref o :: r, h) Z := by
  refine qm_Ru.nx ?_ kk
  rw [hk_st (c := (pc, ls, .ref o :: r, h)) hf]
  show (match h.1[o]? with
    | some q => bif Nat.beq q.1 (a + 5) then qm_nx (np, ls, .int (h.2.1 o b) :: r, h) else none
    | none => none) = _
  rw [hs]
  dsimp only
  rw [hq, hv]
  rfl
theorem hk_getr {o2 : Nat} (hf : qm_fetch cd pc = some (pc, np, .getfield k, a, b, .null)) (hs : h.1[o]? = some q) (hq : Nat.beq q.1 (a + 5) = true) (hv : h.2.2.2 o b = some o2) (kk : qm_Ru X d cd (np, ls, .ref o2 :: r, h) Z) : qm_Ru X d cd (pc, ls, .ref o :: r, h) Z := by
  refine qm_Ru.nx ?_ kk
  rw [hk_st (c := (pc, ls, .ref o :: r, h)) hf]
  show (match h.1[o]? with
    | some q => bif Nat.beq q.1 (a + 5) then qm_nx (np, ls, qm_rv (h.2.2.2 o b) :: r, h) else none
    | none => none) = _
  rw [hs]
  dsimp only
  rw [hq, hv]
  rfl
theorem hk_getl {t v : Int64} (hf : qm_fetch cd pc = some (pc, np, .getfield k, a, b, .long t)) (hs : h.1[o]? = some q) (hq : Nat.beq q.1 (a + 5) = true) (hv : h.2.2.1 o b = v) (kk : qm_Ru X d cd (np, ls, .long v :: r, h) Z) : qm_Ru X d cd (pc, ls, .ref o :: r, h) Z := by
  refine qm_Ru.nx ?_ kk
  rw [hk_st (c := (pc, ls, .ref o :: r, h)) hf]
  show (match h.1[o]? with
    | some q => bif Nat.beq q.1 (a + 5) then qm_nx (np, ls, .long (h.2.2.1 o b) :: r, h) else none
    | none => none) = _
  rw [hs]
  dsimp only
  rw [hq, hv]
  rfl
theorem hk_puti {x : Int32} (hf : qm_fetch cd pc = some (pc, np, .putfield k, a, b, .int 0)) (hs : h.1[o]? = some q) (hq : Nat.beq q.1 (a + 5) = true) (kk : qm_Ru X d cd (np, ls, r, (h.1, qm_up h.2.1 o b x, h.2.2.1, h.2.2.2)) Z) : qm_Ru X d cd (pc, ls, .int x :: .ref o :: r, h) Z := by
  refine qm_Ru.nx ?_ kk
  rw [hk_st (c := (pc, ls, .int x :: .ref o :: r, h)) hf]
  show (match h.1[o]? with
    | some q => bif Nat.beq q.1 (a + 5) then qm_nx (np, ls, r, (h.1, qm_up h.2.1 o b x, h.2.2.1, h.2.2.2)) else none
    | none => none) = _
  rw [hs]
  dsimp only
  rw [hq]
  rfl
theorem hk_ial {n : Nat} {i v : Int32} (hf : qm_fetch cd pc = some (pc, np, .iaload, a, b, .null)) (hs : h.1[o]? = some (0, n)) (h0 : 0 ≤ i.toInt) (h1 : i.toInt < (n : Int)) (hv : h.2.1 o i.toInt.toNat = v) (kk : qm_Ru X d cd (np, ls, .int v :: r, h) Z) : qm_Ru X d cd (pc, ls, .int i :: .ref o :: r, h) Z := by
  refine qm_Ru.nx ?_ kk
  rw [hk_st (c := (pc, ls, .int i :: .ref o :: r, h)) hf]
  show (match h.1[o]? with
    | some (0, n) => bif qm_in i n then qm_nx (np, ls, .int (h.2.1 o i.toInt.toNat) :: r, h) else none
    | _ => none) = _
  rw [hs]
  show (bif qm_in i n then qm_nx (np, ls, .int (h.2.1 o i.toInt.toNat) :: r, h) else none) = _
  rw [hk_in h0 h1, hv]
  rfl
theorem hk_bal {n kd : Nat} {i v : Int32} (hf : qm_fetch cd pc = some (pc, np, .baload, a, b, .null)) (hs : h.1[o]? = some (kd, n)) (hk : kd = 1 ∨ kd = 2) (h0 : 0 ≤ i.toInt) (h1 : i.toInt < (n : Int)) (hv : h.2.1 o i.toInt.toNat = v) (kk : qm_Ru X d cd (np, ls, .int v :: r, h) Z) : qm_Ru X d cd (pc, ls, .int i :: .ref o :: r, h) Z := by
  refine qm_Ru.nx ?_ kk
  rw [hk_st (c := (pc, ls, .int i :: .ref o :: r, h)) hf]
  show (match h.1[o]? with
    | some (1, n) => bif qm_in i n then qm_nx (np, ls, .int (h.2.1 o i.toInt.toNat) :: r, h) else none
    | some (2, n) => bif qm_in i n then qm_nx (np, ls, .int (h.2.1 o i.toInt.toNat) :: r, h) else none
    | _ => none) = _
  rw [hs]
  rcases hk with rfl | rfl
  · show (bif qm_in i n then qm_nx (np, ls, .int (h.2.1 o i.toInt.toNat) :: r, h) else none) = _
    rw [hk_in h0 h1, hv]
    rfl
  · show (bif qm_in i n then qm_nx (np, ls, .int (h.2.1 o i.toInt.toNat) :: r, h) else none) = _
    rw [hk_in h0 h1, hv]
    rfl
theorem hk_lal {n : Nat} {i : Int32} {v : Int64} (hf : qm_fetch cd pc = some (pc, np, .laload, a, b, .null)) (hs : h.1[o]? = some (3, n)) (h0 : 0 ≤ i.toInt) (h1 : i.toInt < (n : Int)) (hv : h.2.2.1 o i.toInt.toNat = v) (kk : qm_Ru X d cd (np, ls, .long v :: r, h) Z) : qm_Ru X d cd (pc, ls, .int i :: .ref o :: r, h) Z := by
  refine qm_Ru.nx ?_ kk
  rw [hk_st (c := (pc, ls, .int i :: .ref o :: r, h)) hf]
  show (match h.1[o]? with
    | some (3, n) => bif qm_in i n then qm_nx (np, ls, .long (h.2.2.1 o i.toInt.toNat) :: r, h) else none
    | _ => none) = _
  rw [hs]
  show (bif qm_in i n then qm_nx (np, ls, .long (h.2.2.1 o i.toInt.toNat) :: r, h) else none) = _
  rw [hk_in h0 h1, hv]
  rfl
theorem hk_ias {n : Nat} {i x : Int32} (hf : qm_fetch cd pc = some (pc, np, .iastore, a, b, .null)) (hs : h.1[o]? = some (0, n)) (h0 : 0 ≤ i.toInt) (h1 : i.toInt < (n : Int)) (kk : qm_Ru X d cd (np, ls, r, (h.1, qm_up h.2.1 o i.toInt.toNat x, h.2.2.1, h.2.2.2)) Z) : qm_Ru X d cd (pc, ls, .int x :: .int i :: .ref o :: r, h) Z := by
  refine qm_Ru.nx ?_ kk
  rw [hk_st (c := (pc, ls, .int x :: .int i :: .ref o :: r, h)) hf]
  show (match h.1[o]? with
    | some (0, n) => bif qm_in i n then qm_nx (np, ls, r, (h.1, qm_up h.2.1 o i.toInt.toNat x, h.2.2.1, h.2.2.2)) else none
    | _ => none) = _
  rw [hs]
  show (bif qm_in i n then qm_nx (np, ls, r, (h.1, qm_up h.2.1 o i.toInt.toNat x, h.2.2.1, h.2.2.2)) else none) = _
  rw [hk_in h0 h1]
  rfl
/-- into a row of booleans -/
theorem hk_bas {n : Nat} {i x : Int32} (hf : qm_fetch cd pc = some (pc, np, .bastore, a, b, .null)) (hs : h.1[o]? = some (2, n)) (h0 : 0 ≤ i.toInt) (h1 : i.toInt < (n : Int)) (hx : vp_nar .boolean x = x) (kk : qm_Ru X d cd (np, ls, r, (h.1, qm_up h.2.1 o i.toInt.toNat x, h.2.2.1, h.2.2.2)) Z) : qm_Ru X d cd (pc, ls, .int x :: .int i :: .ref o :: r, h) Z := by
  refine qm_Ru.nx ?_ kk
  rw [hk_st (c := (pc, ls, .int x :: .int i :: .ref o :: r, h)) hf]
  show (match h.1[o]? with
    | some (1, n) => bif qm_in i n then qm_nx (np, ls, r, (h.1, qm_up h.2.1 o i.toInt.toNat (vp_nar .byte x), h.2.2.1, h.2.2.2)) else none
    | some (2, n) => bif qm_in i n then qm_nx (np, ls, r, (h.1, qm_up h.2.1 o i.toInt.toNat (vp_nar .boolean x), h.2.2.1, h.2.2.2)) else none
    | _ => none) = _
  rw [hs]
  show (bif qm_in i n then qm_nx (np, ls, r, (h.1, qm_up h.2.1 o i.toInt.toNat (vp_nar .boolean x), h.2.2.1, h.2.2.2)) else none) = _
  rw [hk_in h0 h1, hx]
  rfl
theorem hk_las {n : Nat} {i : Int32} {x : Int64} (hf : qm_fetch cd pc = some (pc, np, .lastore, a, b, .null)) (hs : h.1[o]? = some (3, n)) (h0 : 0 ≤ i.toInt) (h1 : i.toInt < (n : Int)) (kk : qm_Ru X d cd (np, ls, r, (h.1, h.2.1, qm_up h.2.2.1 o i.toInt.toNat x, h.2.2.2)) Z) (h25 : Nat.beq n 25 = false := by rfl) : qm_Ru X d cd (pc, ls, .long x :: .int i :: .ref o :: r, h) Z := by
  refine qm_Ru.nx ?_ kk
  rw [hk_st (c := (pc, ls, .long x :: .int i :: .ref o :: r, h)) hf]
  show (match h.1[o]? with
    | some (3, n) => bif qm_in i n && qm_w25 n (h.2.2.1 o i.toInt.toNat) then qm_nx (np, ls, r, (h.1, h.2.1, qm_up h.2.2.1 o i.toInt.toNat x, h.2.2.2)) else none
    | _ => none) = _
  rw [hs]
  show (bif qm_in i n && qm_w25 n (h.2.2.1 o i.toInt.toNat) then qm_nx (np, ls, r, (h.1, h.2.1, qm_up h.2.2.1 o i.toInt.toNat x, h.2.2.2)) else none) = _
  rw [hk_in h0 h1, show qm_w25 n (h.2.2.1 o i.toInt.toNat) = true from by unfold qm_w25; rw [h25]; rfl]
  rfl
theorem hk_aal {n o2 : Nat} {i : Int32} (hf : qm_fetch cd pc = some (pc, np, .aaload, a, b, .null)) (hs : h.1[o]? = some (4, n)) (h0 : 0 ≤ i.toInt) (h1 : i.toInt < (n : Int)) (hv : h.2.2.2 o i.toInt.toNat = some o2) (kk : qm_Ru X d cd (np, ls, .ref o2 :: r, h) Z) : qm_Ru X d cd (pc, ls, .int i :: .ref o :: r, h) Z := by
  refine qm_Ru.nx ?_ kk
  rw [hk_st (c := (pc, ls, .int i :: .ref o :: r, h)) hf]
  show (match h.1[o]? with
    | some (4, n) => bif qm_in i n then qm_nx (np, ls, qm_rv (h.2.2.2 o i.toInt.toNat) :: r, h) else none
    | _ => none) = _
  rw [hs]
  show (bif qm_in i n then qm_nx (np, ls, qm_rv (h.2.2.2 o i.toInt.toNat) :: r, h) else none) = _
  rw [hk_in h0 h1, hv]
  rfl
theorem hk_len {n kd : Nat} (hf : qm_fetch cd pc = some (pc, np, .arraylength, a, b, .null)) (hs : h.1[o]? = some (kd, n)) (hq : Nat.blt kd 5 = true) (kk : qm_Ru X d cd (np, ls, .int (Int32.ofNat n) :: r, h) Z) : qm_Ru X d cd (pc, ls, .ref o :: r, h) Z := by
  refine qm_Ru.nx ?_ kk
  rw [hk_st (c := (pc, ls, .ref o :: r, h)) hf]
  show (match h.1[o]? with
    | some q => bif Nat.blt q.1 5 then qm_nx (np, ls, .int (Int32.ofNat q.2) :: r, h) else none
    | none => none) = _
  rw [hs]
  dsimp only
  rw [hq]
  rfl
/-- a call of a method of an object -/
theorem hk_inv {st as : List Value} {nl ci : Nat} {cd' : qm_Cd} (hf : qm_fetch cd pc = some (pc, np, .invokevirtual k, a, b, .retAddr ci)) (hd : st.drop b = .ref o :: r) (hs : h.1[o]? = some q) (hq : (Nat.beq q.1 (ci + 5) && Nat.ble (qm_cat r) 8) = true) (ha : .ref o :: (st.take b).reverse = as) (hF : qm_F a = (nl, cd')) (hl : Nat.ble (qm_la as).length nl = true) (kk : qm_Ru X d cd' (qm_ent nl as h) (fun v h1 => qm_Ru X (d + 1) cd (np, ls, v.toList ++ r, h1) Z)) : qm_Ru X (d + 1) cd (pc, ls, st, h) Z := by
  subst ha
  refine qm_Ru.call (j := a) (c' := (np, ls, r, h)) ?_ hF hl kk
  rw [hk_st (c := (pc, ls, st, h)) hf]
  show (match st.drop b with
    | .ref o :: r => match h.1[o]?, Value.retAddr ci with
      | some q, .retAddr ci => bif Nat.beq q.1 (ci + 5) && (Nat.ble (qm_cat r) 8) then qm_cl a (.ref o :: (st.take b).reverse) (np, ls, r, h) else none
      | _, _ => none
    | _ => none) = _
  rw [hd]
  dsimp only
  rw [hs]
  dsimp only
  rw [hq]
  rfl
theorem hk_rtb {x : Int32} (hf : qm_fetch cd pc = some (pc, np, .ireturn, a, b, .null)) (hx : x.toInt = 0 ∨ x.toInt = 1) (kk : Z (some (.int x)) h) : qm_Ru X d cd (pc, ls, [.int x], h) Z := by
  refine qm_Ru.rt ?_ kk
  rw [hk_st (c := (pc, ls, [.int x], h)) hf]
  show (bif Nat.beq a 0 || (decide (x = 0) || decide (x = 1)) then qm_rt (some (.int x)) h else none) = _
  have e : (decide (x = 0) || decide (x = 1)) = true := by
    rcases hx with hx | hx
    · rw [show x = 0 from hk_eqi.mpr hx]
      rfl
    · rw [show x = 1 from hk_eqi.mpr hx]
      rfl
  rw [e, Bool.or_true]
  rfl
theorem hk_clt {x y : Int32} {ix iy : Int} {off : Int} {v : Value} (hf : qm_fetch cd pc = some (pc, np, .if_icmp .lt off, a, b, v)) (ex : x.toInt = ix) (ey : y.toInt = iy) (k1 : ix < iy → qm_Ru X d cd (a, ls, r, h) Z) (k2 : iy ≤ ix → qm_Ru X d cd (np, ls, r, h) Z) : qm_Ru X d cd (pc, ls, .int y :: .int x :: r, h) Z := by
  subst ex
  subst ey
  exact qm_Ru.br (b := qm_cc .lt x y) (hk_st (c := (pc, ls, .int y :: .int x :: r, h)) hf) (fun z => k1 (hk_lti.mp (of_decide_eq_true z))) (fun z => k2 (Int.not_lt.mp (fun c => of_decide_eq_false z (hk_lti.mpr c))))
theorem hk_zlt {x : Int32} {ix : Int} {off : Int} {v : Value} (hf : qm_fetch cd pc = some (pc, np, .ifCond .lt off, a, b, v)) (ex : x.toInt = ix) (k1 : ix < 0 → qm_Ru X d cd (a, ls, r, h) Z) (k2 : 0 ≤ ix → qm_Ru X d cd (np, ls, r, h) Z) : qm_Ru X d cd (pc, ls, .int x :: r, h) Z := by
  subst ex
  exact qm_Ru.br (b := qm_cz .lt x) (hk_st (c := (pc, ls, .int x :: r, h)) hf) (fun z => k1 (hk_lti.mp (of_decide_eq_true z))) (fun z => k2 (Int.not_lt.mp (fun c => of_decide_eq_false z (hk_lti.mpr c))))
theorem hk_cge {x y : Int32} {ix iy : Int} {off : Int} {v : Value} (hf : qm_fetch cd pc = some (pc, np, .if_icmp .ge off, a, b, v)) (ex : x.toInt = ix) (ey : y.toInt = iy) (k1 : iy ≤ ix → qm_Ru X d cd (a, ls, r, h) Z) (k2 : ix < iy → qm_Ru X d cd (np, ls, r, h) Z) : qm_Ru X d cd (pc, ls, .int y :: .int x :: r, h) Z := by
  subst ex
  subst ey
  exact qm_Ru.br (b := qm_cc .ge x y) (hk_st (c := (pc, ls, .int y :: .int x :: r, h)) hf) (fun z => k1 (hk_lei.mp (of_decide_eq_true z))) (fun z => k2 (Int.not_le.mp (fun c => of_decide_eq_false z (hk_lei.mpr c))))
theorem hk_zge {x : Int32} {ix : Int} {off : Int} {v : Value} (hf : qm_fetch cd pc = some (pc, np, .ifCond .ge off, a, b, v)) (ex : x.toInt = ix) (k1 : 0 ≤ ix → qm_Ru X d cd (a, ls, r, h) Z) (k2 : ix < 0 → qm_Ru X d cd (np, ls, r, h) Z) : qm_Ru X d cd (pc, ls, .int x :: r, h) Z := by
  subst ex
  exact qm_Ru.br (b := qm_cz .ge x) (hk_st (c := (pc, ls, .int x :: r, h)) hf) (fun z => k1 (hk_lei.mp (of_decide_eq_true z))) (fun z => k2 (Int.not_le.mp (fun c => of_decide_eq_false z (hk_lei.mpr c))))
theorem hk_cgt {x y : Int32} {ix iy : Int} {off : Int} {v : Value} (hf : qm_fetch cd pc = some (pc, np, .if_icmp .gt off, a, b, v)) (ex : x.toInt = ix) (ey : y.toInt = iy) (k1 : iy < ix → qm_Ru X d cd (a, ls, r, h) Z) (k2 : ix ≤ iy → qm_Ru X d cd (np, ls, r, h) Z) : qm_Ru X d cd (pc, ls, .int y :: .int x :: r, h) Z := by
  subst ex
  subst ey
  exact qm_Ru.br (b := qm_cc .gt x y) (hk_st (c := (pc, ls, .int y :: .int x :: r, h)) hf) (fun z => k1 (hk_lti.mp (of_decide_eq_true z))) (fun z => k2 (Int.not_lt.mp (fun c => of_decide_eq_false z (hk_lti.mpr c))))
theorem hk_zgt {x : Int32} {ix : Int} {off : Int} {v : Value} (hf : qm_fetch cd pc = some (pc, np, .ifCond .gt off, a, b, v)) (ex : x.toInt = ix) (k1 : 0 < ix → qm_Ru X d cd (a, ls, r, h) Z) (k2 : ix ≤ 0 → qm_Ru X d cd (np, ls, r, h) Z) : qm_Ru X d cd (pc, ls, .int x :: r, h) Z := by
  subst ex
  exact qm_Ru.br (b := qm_cz .gt x) (hk_st (c := (pc, ls, .int x :: r, h)) hf) (fun z => k1 (hk_lti.mp (of_decide_eq_true z))) (fun z => k2 (Int.not_lt.mp (fun c => of_decide_eq_false z (hk_lti.mpr c))))
theorem hk_cle {x y : Int32} {ix iy : Int} {off : Int} {v : Value} (hf : qm_fetch cd pc = some (pc, np, .if_icmp .le off, a, b, v)) (ex : x.toInt = ix) (ey : y.toInt = iy) (k1 : ix ≤ iy → qm_Ru X d cd (a, ls, r, h) Z) (k2 : iy < ix → qm_Ru X d cd (np, ls, r, h) Z) : qm_Ru X d cd (pc, ls, .int y :: .int x :: r, h) Z := by
  subst ex
  subst ey
  exact qm_Ru.br (b := qm_cc .le x y) (hk_st (c := (pc, ls, .int y :: .int x :: r, h)) hf) (fun z => k1 (hk_lei.mp (of_decide_eq_true z))) (fun z => k2 (Int.not_le.mp (fun c => of_decide_eq_false z (hk_lei.mpr c))))
theorem hk_zle {x : Int32} {ix : Int} {off : Int} {v : Value} (hf : qm_fetch cd pc = some (pc, np, .ifCond .le off, a, b, v)) (ex : x.toInt = ix) (k1 : ix ≤ 0 → qm_Ru X d cd (a, ls, r, h) Z) (k2 : 0 < ix → qm_Ru X d cd (np, ls, r, h) Z) : qm_Ru X d cd (pc, ls, .int x :: r, h) Z := by
  subst ex
  exact qm_Ru.br (b := qm_cz .le x) (hk_st (c := (pc, ls, .int x :: r, h)) hf) (fun z => k1 (hk_lei.mp (of_decide_eq_true z))) (fun z => k2 (Int.not_le.mp (fun c => of_decide_eq_false z (hk_lei.mpr c))))
theorem hk_ceq {x y : Int32} {ix iy : Int} {off : Int} {v : Value} (hf : qm_fetch cd pc = some (pc, np, .if_icmp .eq off, a, b, v)) (ex : x.toInt = ix) (ey : y.toInt = iy) (k1 : ix = iy → qm_Ru X d cd (a, ls, r, h) Z) (k2 : ix ≠ iy → qm_Ru X d cd (np, ls, r, h) Z) : qm_Ru X d cd (pc, ls, .int y :: .int x :: r, h) Z := by
  subst ex
  subst ey
  exact qm_Ru.br (b := qm_cc .eq x y) (hk_st (c := (pc, ls, .int y :: .int x :: r, h)) hf) (fun z => k1 (hk_eqi.mp (of_decide_eq_true z))) (fun z => k2 (fun c => of_decide_eq_false z (hk_eqi.mpr c)))
theorem hk_zeq {x : Int32} {ix : Int} {off : Int} {v : Value} (hf : qm_fetch cd pc = some (pc, np, .ifCond .eq off, a, b, v)) (ex : x.toInt = ix) (k1 : ix = 0 → qm_Ru X d cd (a, ls, r, h) Z) (k2 : ix ≠ 0 → qm_Ru X d cd (np, ls, r, h) Z) : qm_Ru X d cd (pc, ls, .int x :: r, h) Z := by
  subst ex
  exact qm_Ru.br (b := qm_cz .eq x) (hk_st (c := (pc, ls, .int x :: r, h)) hf) (fun z => k1 (hk_eqi.mp (of_decide_eq_true z))) (fun z => k2 (fun c => of_decide_eq_false z (hk_eqi.mpr c)))
theorem hk_cne {x y : Int32} {ix iy : Int} {off : Int} {v : Value} (hf : qm_fetch cd pc = some (pc, np, .if_icmp .ne off, a, b, v)) (ex : x.toInt = ix) (ey : y.toInt = iy) (k1 : ix ≠ iy → qm_Ru X d cd (a, ls, r, h) Z) (k2 : ix = iy → qm_Ru X d cd (np, ls, r, h) Z) : qm_Ru X d cd (pc, ls, .int y :: .int x :: r, h) Z := by
  subst ex
  subst ey
  exact qm_Ru.br (b := qm_cc .ne x y) (hk_st (c := (pc, ls, .int y :: .int x :: r, h)) hf) (fun z => k1 (fun c => of_decide_eq_true z (hk_eqi.mpr c))) (fun z => k2 (Classical.byContradiction (fun c => of_decide_eq_false z (fun e => c (hk_eqi.mp e)))))
theorem hk_zne {x : Int32} {ix : Int} {off : Int} {v : Value} (hf : qm_fetch cd pc = some (pc, np, .ifCond .ne off, a, b, v)) (ex : x.toInt = ix) (k1 : ix ≠ 0 → qm_Ru X d cd (a, ls, r, h) Z) (k2 : ix = 0 → qm_Ru X d cd (np, ls, r, h) Z) : qm_Ru X d cd (pc, ls, .int x :: r, h) Z := by
  subst ex
  exact qm_Ru.br (b := qm_cz .ne x) (hk_st (c := (pc, ls, .int x :: r, h)) hf) (fun z => k1 (fun c => of_decide_eq_true z (hk_eqi.mpr c))) (fun z => k2 (Classical.byContradiction (fun c => of_decide_eq_false z (fun e => c (hk_eqi.mp e)))))
end HK
