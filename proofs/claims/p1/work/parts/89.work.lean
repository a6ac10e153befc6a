/-! op 44 (work): its ticks, by induction; the two loops' counters and the two clocks are free numbers -/
theorem qm_rho_cg {xs ys ys' : Nat → Int32} {K : Nat} (h : ∀ k, k < K → ys k = ys' k) {n : Nat} (hn : n < 300 + 2 * K) : qm_rho xs ys n = qm_rho xs ys' n := by
  unfold qm_rho
  by_cases h3 : n < 300
  · simp only [h3, if_true]
  · rw [h ((n - 300) / 2) (by omega)]
def qm_lw (K : Nat) (v : Value) : Bool := match v with
  | .float n => decide (n.toNat < 300 + 2 * K)
  | _ => true
theorem qm_sv_cg {xs ys ys' : Nat → Int32} {K : Nat} (h : ∀ k, k < K → ys k = ys' k) {v : Value} (hv : qm_lw K v = true) : qm_sv (qm_rho xs ys) v = qm_sv (qm_rho xs ys') v := by
  cases v with
  | float n =>
    have hn : n.toNat < 300 + 2 * K := of_decide_eq_true hv
    simp only [qm_sv, qm_rho_cg h hn]
  | _ => rfl
theorem qm_map_cg {xs ys ys' : Nat → Int32} {K : Nat} (h : ∀ k, k < K → ys k = ys' k) {l : List Value} (hl : l.all (qm_lw K) = true) : l.map (qm_sv (qm_rho xs ys)) = l.map (qm_sv (qm_rho xs ys')) :=
  List.map_congr_left fun v hv => qm_sv_cg h (List.all_eq_true.mp hl v hv)
theorem qm_lu_cg {xs ys ys' : Nat → Int32} {K : Nat} (h : ∀ k, k < K → ys k = ys' k) : ∀ {I : List (Nat × Nat × Value)}, I.all (fun q => qm_lw K q.2.2) = true → ∀ k i, qm_sv (qm_rho xs ys) (qm_lu (.int 0) I k i) = qm_sv (qm_rho xs ys') (qm_lu (.int 0) I k i)
  | [], _, _, _ => rfl
  | q :: t, hI, k, i => by
    rw [List.all_cons, Bool.and_eq_true] at hI
    have ih := qm_lu_cg (xs := xs) h hI.2 k i
    show qm_sv _ (bif Nat.beq k q.1 && Nat.beq i q.2.1 then q.2.2 else qm_lu (.int 0) t k i) = qm_sv _ (bif Nat.beq k q.1 && Nat.beq i q.2.1 then q.2.2 else qm_lu (.int 0) t k i)
    cases Nat.beq k q.1 && Nat.beq i q.2.1 with
    | true => exact qm_sv_cg h hI.1
    | false => exact ih
theorem qm_K_cg {X : Option (Nat × (Nat → Int32))} {xs ys ys' : Nat → Int32} {K : Nat} (h : ∀ k, k < K → ys k = ys' k) : ∀ (fs : List (qm_Cd × Nat × List Value × List Value)) (d : Nat), fs.all (fun g => g.2.2.1.all (qm_lw K) && g.2.2.2.all (qm_lw K)) = true → qm_K X (qm_rho xs ys) d fs = qm_K X (qm_rho xs ys') d fs
  | [], _, _ => rfl
  | g :: t, d, hf => by
    rw [List.all_cons, Bool.and_eq_true, Bool.and_eq_true] at hf
    have ih := qm_K_cg (X := X) (xs := xs) h t (d + 1) hf.2
    unfold qm_K
    rw [ih, qm_map_cg h hf.1.1, qm_map_cg h hf.1.2]
/-- a place is written again -/
theorem qm_hs_w {r r' : Nat → Int32} {s : List (Nat × Nat)} {I : List (Nat × Nat × Value)} {J : List (Nat × Nat × Int64)} {R : List (Nat × Nat × Option Nat)} {o b : Nat} {v v' v0 : Value} (h1 : qm_sv r v = qm_sv r' v') (h2 : ∀ k i, qm_sv r (qm_lu (.int 0) I k i) = qm_sv r' (qm_lu (.int 0) I k i)) : qm_hs r (s, (o, b, v) :: (o, b, v0) :: I, J, R) = qm_hs r' (s, (o, b, v') :: I, J, R) := by
  have e : (fun k i => qm_toI (qm_sv r (qm_lu (.int 0) ((o, b, v) :: (o, b, v0) :: I) k i))) = fun k i => qm_toI (qm_sv r' (qm_lu (.int 0) ((o, b, v') :: I) k i)) := by
    funext k i
    show qm_toI (qm_sv r (bif Nat.beq k o && Nat.beq i b then v else (bif Nat.beq k o && Nat.beq i b then v0 else qm_lu (.int 0) I k i))) = qm_toI (qm_sv r' (bif Nat.beq k o && Nat.beq i b then v' else qm_lu (.int 0) I k i))
    cases Nat.beq k o && Nat.beq i b with
    | true => simp only [cond_true, h1]
    | false => simp only [cond_false, h2]
  unfold qm_hs
  dsimp only
  rw [e]
theorem qm_hs_n {r : Nat → Int32} {s : List (Nat × Nat)} {I : List (Nat × Nat × Value)} {J : List (Nat × Nat × Int64)} {R : List (Nat × Nat × Option Nat)} {o b : Nat} {v : Value} (h1 : qm_sv r v = qm_sv r (qm_lu (.int 0) I o b)) : qm_hs r (s, I, J, R) = qm_hs r (s, (o, b, v) :: I, J, R) := by
  have e : (fun k i => qm_toI (qm_sv r (qm_lu (.int 0) I k i))) = fun k i => qm_toI (qm_sv r (qm_lu (.int 0) ((o, b, v) :: I) k i)) := by
    funext k i
    show qm_toI (qm_sv r (qm_lu (.int 0) I k i)) = qm_toI (qm_sv r (bif Nat.beq k o && Nat.beq i b then v else qm_lu (.int 0) I k i))
    cases hb : Nat.beq k o && Nat.beq i b with
    | true =>
      rw [Bool.and_eq_true] at hb
      have h2 := Nat.eq_of_beq_eq_true hb.1
      have h3 := Nat.eq_of_beq_eq_true hb.2
      subst h2
      subst h3
      rw [cond_true, h1]
    | false => rfl
  unfold qm_hs
  dsimp only
  rw [e]
def wk_E (f : List (Nat × Nat × Bool)) : qm_En := ((qm_E2 44 (0, 200) (-2147483648, 2147483647)).1, f)
def wk_fA : qm_Fs := [(201, 23, [.ref 0, .float 2], []), (1000, 1639, [.retAddr 0, .ref 0, .ref 118, .int 0], [])]
def wk_fB : qm_Fs := [(1000, 1648, [.retAddr 0, .ref 0, .ref 118, .int 0], [.int 0])]
def wk_IA : List (Nat × Nat × Value) := (51, 8, .float 302) :: qm_d2_V
def wk_IB : List (Nat × Nat × Value) := (118, 85, .float 306) :: wk_IA
def wk_A0 : qm_CS := (7, [.ref 51, .float 2, .int 0, .int 0, .float 0], [], qm_s0)
def wk_A (v : Value) : qm_CS := (7, [.ref 51, .float 2, .int 0, .float 300, v], [], (qm_d2_s, wk_IA, qm_d2_J, qm_d2_R))
def wk_A1 : qm_CS := (7, [.ref 51, .float 2, .int 0, .float 301, .int 2], [], (qm_d2_s, (51, 8, .float 303) :: wk_IA, qm_d2_J, qm_d2_R))
def wk_B0 : qm_CS := (17, [.ref 118, .float 2, .int 0, .int 0, .float 0, .float 0], [], (qm_d2_s, wk_IA, qm_d2_J, qm_d2_R))
def wk_B (v w : Value) : qm_CS := (17, [.ref 118, .float 2, .int 0, .float 304, v, w], [], (qm_d2_s, wk_IB, qm_d2_J, qm_d2_R))
def wk_B1 : qm_CS := (17, [.ref 118, .float 2, .int 0, .float 305, .int 0, .int 2], [], (qm_d2_s, (118, 85, .float 307) :: wk_IB, qm_d2_J, qm_d2_R))
theorem wk_a : qm_adv qm_F 43 (wk_E []) 12 1000 qm_c0 [] = some (10, 202, wk_A0, wk_fA) := qm_eqA_ok (by decide +kernel)
theorem wk_i0 : qm_adv qm_F 98 (wk_E [(300, 2, true)]) 10 202 (wk_A (.float 0)) wk_fA = some (10, 202, wk_A1, wk_fA) := qm_eqA_ok (by decide +kernel)
theorem wk_i1 : qm_adv qm_F 98 (wk_E [(300, 2, true)]) 10 202 (wk_A (.int 2)) wk_fA = some (10, 202, wk_A1, wk_fA) := qm_eqA_ok (by decide +kernel)
theorem wk_x0 : qm_adv qm_F 44 (wk_E [(300, 2, false)]) 10 202 (wk_A (.float 0)) wk_fA = some (11, 361, wk_B0, wk_fB) := qm_eqA_ok (by decide +kernel)
theorem wk_x1 : qm_adv qm_F 44 (wk_E [(300, 2, false)]) 10 202 (wk_A (.int 2)) wk_fA = some (11, 361, wk_B0, wk_fB) := qm_eqA_ok (by decide +kernel)
theorem wk_j0 : qm_adv qm_F 91 (wk_E [(304, 2, true)]) 11 361 (wk_B (.float 0) (.float 0)) wk_fB = some (11, 361, wk_B1, wk_fB) := qm_eqA_ok (by decide +kernel)
theorem wk_j1 : qm_adv qm_F 91 (wk_E [(304, 2, true)]) 11 361 (wk_B (.int 0) (.int 2)) wk_fB = some (11, 361, wk_B1, wk_fB) := qm_eqA_ok (by decide +kernel)
theorem wk_y0 : qm_all qm_F 75 11 (wk_E [(304, 2, false)]) (qm_cod qm_F 361) (wk_B (.float 0) (.float 0)) (qm_fx qm_F wk_fB) = true := by decide +kernel
theorem wk_y1 : qm_all qm_F 75 11 (wk_E [(304, 2, false)]) (qm_cod qm_F 361) (wk_B (.int 0) (.int 2)) (qm_fx qm_F wk_fB) = true := by decide +kernel
theorem wk_n : qm_all qm_F 200 12 (qm_E2 44 (-2147483648, -1) (-2147483648, 2147483647)) cd_law qm_c0 [] = true := by decide +kernel
theorem wk_p : qm_all qm_F 200 12 (qm_E2 44 (201, 2147483647) (-2147483648, 2147483647)) cd_law qm_c0 [] = true := by decide +kernel
/-- one more at two places -/
def wk_s (ys : Nat → Int32) (a : Nat) : Nat → Int32 := fun k => if k = a ∨ k = a + 1 then ys k + 1 else ys k
theorem wk_lA : wk_IA.tail.all (fun q => qm_lw 0 q.2.2) = true := by decide +kernel
theorem wk_lB : wk_IB.tail.all (fun q => qm_lw 2 q.2.2) = true := by decide +kernel
section WK
variable {xs : Nat → Int32}
theorem wk_sat {ys : Nat → Int32} (h0 : (xs 0 &&& 63).toInt = 44) (h1 : (0 : Int) ≤ (xs 1).toInt) (h2 : (xs 1).toInt ≤ 200) {n : Nat} {b : Bool} (hf : decide (qm_rho xs ys n < xs 1) = b) : qm_sat (qm_rho xs ys) (wk_E [(n, 2, b)]) := by
  have h := qm_sat2 xs ys h0 (a := (0, 200)) (b := (-2147483648, 2147483647)) ⟨h1, h2⟩ (by
    have g1 := Int32.le_toInt (xs 2)
    have g2 := Int32.toInt_lt (xs 2)
    dsimp only
    omega)
  refine ⟨h.1, fun q hq => ?_⟩
  rcases List.mem_cons.mp hq with rfl | hq
  · exact hf
  · cases hq
theorem wk_eA {ys : Nat → Int32} (h0 : ys 0 = 0) (h1 : ys 1 = 0) : qm_cs (qm_rho xs ys) wk_A0 = qm_cs (qm_rho xs ys) (wk_A (.float 0)) := by
  have e1 : qm_sv (qm_rho xs ys) (.float 300) = .int (ys 0) := rfl
  have e2 : qm_sv (qm_rho xs ys) (.float 302) = .int (ys 1) := rfl
  have e3 : qm_lu (.int 0) qm_d2_V 51 8 = .int 0 := by decide +kernel
  have e4 : qm_hs (qm_rho xs ys) qm_s0 = qm_hs (qm_rho xs ys) (qm_d2_s, wk_IA, qm_d2_J, qm_d2_R) := qm_hs_n (by rw [e2, h1, e3]; rfl)
  unfold qm_cs wk_A0 wk_A
  dsimp only
  rw [e4]
  simp only [List.map_cons, List.map_nil, e1, h0]
  rfl
theorem wk_rx {ys : Nat → Int32} : qm_sv (qm_rho xs ys) (.float 2) = .int (xs 1) := rfl
theorem wk_r0 {ys : Nat → Int32} : qm_sv (qm_rho xs ys) (.float 300) = .int (ys 0) := rfl
theorem wk_r1 {ys : Nat → Int32} : qm_sv (qm_rho xs ys) (.float 302) = .int (ys 1) := rfl
theorem wk_r2 {ys : Nat → Int32} : qm_sv (qm_rho xs ys) (.float 304) = .int (ys 2) := rfl
theorem wk_r3 {ys : Nat → Int32} : qm_sv (qm_rho xs ys) (.float 306) = .int (ys 3) := rfl
theorem wk_q1 {ys : Nat → Int32} : qm_sv (qm_rho xs ys) (.float 303) = .int (ys 1 + 1) := rfl
theorem wk_q3 {ys : Nat → Int32} : qm_sv (qm_rho xs ys) (.float 307) = .int (ys 3 + 1) := rfl
theorem wk_eA1 {ys : Nat → Int32} : qm_cs (qm_rho xs ys) wk_A1 = qm_cs (qm_rho xs (wk_s ys 0)) (wk_A (.int 2)) := by
  have e1 : qm_sv (qm_rho xs ys) (.float 301) = .int (ys 0 + 1) := rfl
  have e2 : qm_sv (qm_rho xs (wk_s ys 0)) (.float 300) = .int (wk_s ys 0 0) := wk_r0 (ys := wk_s ys 0)
  have e5 : wk_s ys 0 0 = ys 0 + 1 := by
    unfold wk_s
    rw [if_pos (Or.inl rfl)]
  have e3 : qm_hs (qm_rho xs ys) (qm_d2_s, (51, 8, .float 303) :: wk_IA, qm_d2_J, qm_d2_R) = qm_hs (qm_rho xs (wk_s ys 0)) (qm_d2_s, wk_IA, qm_d2_J, qm_d2_R) := qm_hs_w (by rw [wk_q1, wk_r1]; unfold wk_s; rw [if_pos (Or.inr rfl)]) (qm_lu_cg (K := 0) (fun k hk => by omega) wk_lA)
  unfold qm_cs wk_A1 wk_A
  dsimp only
  rw [e3]
  simp only [List.map_cons, List.map_nil, e1, e2, e5, wk_rx]
  rfl
theorem wk_eB {ys : Nat → Int32} (h0 : ys 2 = 0) (h1 : ys 3 = 0) : qm_cs (qm_rho xs ys) wk_B0 = qm_cs (qm_rho xs ys) (wk_B (.float 0) (.float 0)) := by
  have e1 : qm_sv (qm_rho xs ys) (.float 304) = .int (ys 2) := rfl
  have e2 : qm_sv (qm_rho xs ys) (.float 306) = .int (ys 3) := rfl
  have e3 : qm_lu (.int 0) wk_IA 118 85 = .int 0 := by decide +kernel
  have e4 : qm_hs (qm_rho xs ys) (qm_d2_s, wk_IA, qm_d2_J, qm_d2_R) = qm_hs (qm_rho xs ys) (qm_d2_s, wk_IB, qm_d2_J, qm_d2_R) := qm_hs_n (by rw [e2, h1, e3]; rfl)
  unfold qm_cs wk_B0 wk_B
  dsimp only
  rw [e4]
  simp only [List.map_cons, List.map_nil, e1, h0]
  rfl
theorem wk_eB1 {ys : Nat → Int32} : qm_cs (qm_rho xs ys) wk_B1 = qm_cs (qm_rho xs (wk_s ys 2)) (wk_B (.int 0) (.int 2)) := by
  have e1 : qm_sv (qm_rho xs ys) (.float 305) = .int (ys 2 + 1) := rfl
  have e2 : qm_sv (qm_rho xs (wk_s ys 2)) (.float 304) = .int (wk_s ys 2 2) := wk_r2 (ys := wk_s ys 2)
  have e5 : wk_s ys 2 2 = ys 2 + 1 := by
    unfold wk_s
    rw [if_pos (Or.inl rfl)]
  have hlow : ∀ k, k < 2 → ys k = wk_s ys 2 k := fun k hk => by
    unfold wk_s
    rw [if_neg (by omega)]
  have e3 : qm_hs (qm_rho xs ys) (qm_d2_s, (118, 85, .float 307) :: wk_IB, qm_d2_J, qm_d2_R) = qm_hs (qm_rho xs (wk_s ys 2)) (qm_d2_s, wk_IB, qm_d2_J, qm_d2_R) := qm_hs_w (by rw [wk_q3, wk_r3]; unfold wk_s; rw [if_pos (Or.inr rfl)]) (qm_lu_cg (K := 2) hlow wk_lB)
  unfold qm_cs wk_B1 wk_B
  dsimp only
  rw [e3]
  simp only [List.map_cons, List.map_nil, e1, e2, e5, wk_rx]
  rfl
theorem wk_up {x y : Int32} (h : x < y) (hy : y.toInt ≤ 200) (hx : (0 : Int) ≤ x.toInt) : (x + 1).toInt = x.toInt + 1 := by
  have h1 := Int32.lt_iff_toInt_lt.mp h
  rw [Int32.toInt_add]
  show (x.toInt + 1).bmod (2 ^ 32) = x.toInt + 1
  rw [Int.bmod_def]
  omega
/-- the reference's loop, from any tick on -/
theorem wk_lB1 (h0 : (xs 0 &&& 63).toInt = 44) (h1 : (0 : Int) ≤ (xs 1).toInt) (h2 : (xs 1).toInt ≤ 200) : ∀ (m : Nat) (ys : Nat → Int32), (0 : Int) ≤ (ys 2).toInt → (xs 1).toInt - (ys 2).toInt = (m : Int) → qm_Ru (some (6, xs)) 11 (qm_cod qm_F 361) (qm_cs (qm_rho xs ys) (wk_B (.int 0) (.int 2))) (qm_K (some (6, xs)) (qm_rho xs ys) 11 (qm_fx qm_F wk_fB))
  | 0, ys, hp, hm => by
    refine qm_all_ok xs ys _ _ _ _ _ _ (wk_sat (ys := ys) (n := 304) h0 h1 h2 (b := false) ?_) wk_y1
    show decide (ys 2 < xs 1) = false
    refine decide_eq_false (fun z => ?_)
    have := Int32.lt_iff_toInt_lt.mp z
    omega
  | m + 1, ys, hp, hm => by
    have hlt : ys 2 < xs 1 := Int32.lt_iff_toInt_lt.mpr (by omega)
    have hup := wk_up hlt h2 hp
    refine qm_adv_ok xs ys _ _ _ _ _ _ _ _ _ _ (wk_sat (ys := ys) (n := 304) h0 h1 h2 (b := true) (decide_eq_true hlt)) wk_j1 ?_
    have e2 : wk_s ys 2 2 = ys 2 + 1 := rfl
    have ih := wk_lB1 h0 h1 h2 m (wk_s ys 2) (by rw [e2, hup]; omega) (by rw [e2, hup]; omega)
    rw [← wk_eB1, ← qm_K_cg (X := some (6, xs)) (xs := xs) (ys := ys) (ys' := wk_s ys 2) (K := 2) (fun k hk => by unfold wk_s; rw [if_neg (by omega)]) (qm_fx qm_F wk_fB) 11 (by decide +kernel)] at ih
    exact ih
theorem wk_lB0 (h0 : (xs 0 &&& 63).toInt = 44) (h1 : (0 : Int) ≤ (xs 1).toInt) (h2 : (xs 1).toInt ≤ 200) (ys : Nat → Int32) (y2 : ys 2 = 0) (y3 : ys 3 = 0) : qm_Ru (some (6, xs)) 11 (qm_cod qm_F 361) (qm_cs (qm_rho xs ys) wk_B0) (qm_K (some (6, xs)) (qm_rho xs ys) 11 (qm_fx qm_F wk_fB)) := by
  rw [wk_eB y2 y3]
  by_cases hlt : ys 2 < xs 1
  · have z2 : (ys 2).toInt = 0 := by rw [y2]; rfl
    have hup := wk_up hlt h2 (by omega)
    have hl := Int32.lt_iff_toInt_lt.mp hlt
    refine qm_adv_ok xs ys _ _ _ _ _ _ _ _ _ _ (wk_sat (ys := ys) (n := 304) h0 h1 h2 (b := true) (decide_eq_true hlt)) wk_j0 ?_
    have e2 : wk_s ys 2 2 = ys 2 + 1 := rfl
    have ih := wk_lB1 h0 h1 h2 ((xs 1).toInt - 1).toNat (wk_s ys 2) (by rw [e2, hup]; omega) (by rw [e2, hup]; omega)
    rw [← wk_eB1, ← qm_K_cg (X := some (6, xs)) (xs := xs) (ys := ys) (ys' := wk_s ys 2) (K := 2) (fun k hk => by unfold wk_s; rw [if_neg (by omega)]) (qm_fx qm_F wk_fB) 11 (by decide +kernel)] at ih
    exact ih
  · exact qm_all_ok xs ys _ _ _ _ _ _ (wk_sat (ys := ys) (n := 304) h0 h1 h2 (b := false) (decide_eq_false hlt)) wk_y0
/-- the class's loop, from any tick on -/
theorem wk_lA1 (h0 : (xs 0 &&& 63).toInt = 44) (h1 : (0 : Int) ≤ (xs 1).toInt) (h2 : (xs 1).toInt ≤ 200) : ∀ (m : Nat) (ys : Nat → Int32), ys 2 = 0 → ys 3 = 0 → (0 : Int) ≤ (ys 0).toInt → (xs 1).toInt - (ys 0).toInt = (m : Int) → qm_Ru (some (6, xs)) 10 (qm_cod qm_F 202) (qm_cs (qm_rho xs ys) (wk_A (.int 2))) (qm_K (some (6, xs)) (qm_rho xs ys) 10 (qm_fx qm_F wk_fA))
  | 0, ys, y2, y3, hp, hm => by
    refine qm_adv_ok xs ys _ _ _ _ _ _ _ _ _ _ (wk_sat (ys := ys) (n := 300) h0 h1 h2 (b := false) ?_) wk_x1 (wk_lB0 h0 h1 h2 ys y2 y3)
    show decide (ys 0 < xs 1) = false
    refine decide_eq_false (fun z => ?_)
    have := Int32.lt_iff_toInt_lt.mp z
    omega
  | m + 1, ys, y2, y3, hp, hm => by
    have hlt : ys 0 < xs 1 := Int32.lt_iff_toInt_lt.mpr (by omega)
    have hup := wk_up hlt h2 hp
    refine qm_adv_ok xs ys _ _ _ _ _ _ _ _ _ _ (wk_sat (ys := ys) (n := 300) h0 h1 h2 (b := true) (decide_eq_true hlt)) wk_i1 ?_
    have e2 : wk_s ys 0 0 = ys 0 + 1 := rfl
    have ih := wk_lA1 h0 h1 h2 m (wk_s ys 0) y2 y3 (by rw [e2, hup]; omega) (by rw [e2, hup]; omega)
    rw [← wk_eA1, ← qm_K_cg (X := some (6, xs)) (xs := xs) (ys := ys) (ys' := wk_s ys 0) (K := 0) (fun k hk => by omega) (qm_fx qm_F wk_fA) 10 (by decide +kernel)] at ih
    exact ih
theorem wk_lA0 (h0 : (xs 0 &&& 63).toInt = 44) (h1 : (0 : Int) ≤ (xs 1).toInt) (h2 : (xs 1).toInt ≤ 200) : qm_Ru (some (6, xs)) 10 (qm_cod qm_F 202) (qm_cs (qm_rho xs (fun _ => 0)) wk_A0) (qm_K (some (6, xs)) (qm_rho xs (fun _ => 0)) 10 (qm_fx qm_F wk_fA)) := by
  rw [wk_eA rfl rfl]
  by_cases hlt : (0 : Int32) < xs 1
  · have z2 : (0 : Int32).toInt = 0 := rfl
    have hup := wk_up hlt h2 (by omega)
    have hl := Int32.lt_iff_toInt_lt.mp hlt
    refine qm_adv_ok xs (fun _ => 0) _ _ _ _ _ _ _ _ _ _ (wk_sat (ys := fun _ => 0) (n := 300) h0 h1 h2 (b := true) (decide_eq_true hlt)) wk_i0 ?_
    have e2 : wk_s (fun _ => 0) 0 0 = 0 + 1 := rfl
    have ih := wk_lA1 h0 h1 h2 ((xs 1).toInt - 1).toNat (wk_s (fun _ => 0) 0) rfl rfl (by rw [e2, hup]; omega) (by rw [e2, hup]; omega)
    rw [← wk_eA1, ← qm_K_cg (X := some (6, xs)) (xs := xs) (ys := fun _ => 0) (ys' := wk_s (fun _ => 0) 0) (K := 0) (fun k hk => by omega) (qm_fx qm_F wk_fA) 10 (by decide +kernel)] at ih
    exact ih
  · exact qm_adv_ok xs (fun _ => 0) _ _ _ _ _ _ _ _ _ _ (wk_sat (ys := fun _ => 0) (n := 300) h0 h1 h2 (b := false) (decide_eq_false hlt)) wk_x0 (wk_lB0 h0 h1 h2 (fun _ => 0) rfl rfl)
theorem wk_all (h0 : (xs 0 &&& 63).toInt = 44) : qm_Ru (some (6, xs)) 12 cd_law (18, qm_l18, [], qm_fn qm_d2) qm_Qf := by
  have g1 := Int32.le_toInt (xs 1)
  have g2 := Int32.toInt_lt (xs 1)
  have g3 := Int32.le_toInt (xs 2)
  have g4 := Int32.toInt_lt (xs 2)
  by_cases hn : (xs 1).toInt < 0
  · have := qm_all_ok xs xs _ _ _ _ _ _ (qm_sat2 xs xs h0 (a := (-2147483648, -1)) (b := (-2147483648, 2147483647)) ⟨by dsimp only; omega, by dsimp only; omega⟩ ⟨by dsimp only; omega, by dsimp only; omega⟩) wk_n
    rw [qm_cs0] at this
    exact this
  · by_cases hp : 200 < (xs 1).toInt
    · have := qm_all_ok xs xs _ _ _ _ _ _ (qm_sat2 xs xs h0 (a := (201, 2147483647)) (b := (-2147483648, 2147483647)) ⟨by dsimp only; omega, by dsimp only; omega⟩ ⟨by dsimp only; omega, by dsimp only; omega⟩) wk_p
      rw [qm_cs0] at this
      exact this
    · have := qm_adv_ok xs (fun _ => 0) _ (wk_E []) _ _ _ _ _ _ _ _ (qm_sat2 xs (fun _ => 0) h0 (a := (0, 200)) (b := (-2147483648, 2147483647)) ⟨by dsimp only; omega, by dsimp only; omega⟩ ⟨by dsimp only; omega, by dsimp only; omega⟩) wk_a (wk_lA0 h0 (by omega) (by omega))
      rw [qm_cs0] at this
      exact this
end WK
