/-! the law's run: both constructors, then the loop -/
theorem qm_lu_V (r : Nat → Int32) : ∀ (I : List (Nat × Nat × Int32)) (k i : Nat), qm_toI (qm_sv r (qm_lu (.int 0) (I.map fun q => (q.1, q.2.1, Value.int q.2.2)) k i)) = qm_lu 0 I k i
  | [], _, _ => rfl
  | q :: t, k, i => by
    have ih := qm_lu_V r t k i
    rw [List.map_cons]
    show qm_toI (qm_sv r (bif Nat.beq k q.1 && Nat.beq i q.2.1 then .int q.2.2 else qm_lu (.int 0) (t.map fun q => (q.1, q.2.1, Value.int q.2.2)) k i)) = (bif Nat.beq k q.1 && Nat.beq i q.2.1 then q.2.2 else qm_lu 0 t k i)
    cases Nat.beq k q.1 && Nat.beq i q.2.1 with
    | true => rfl
    | false => exact ih
def qm_l18 : List Value := [.retAddr 0, .ref 0, .ref 118, .int 0]
theorem qm_hs0 (r : Nat → Int32) : qm_hs r qm_s0 = qm_fn qm_d2 := by
  have e : (fun k i => qm_toI (qm_sv r (qm_lu (.int 0) qm_d2_V k i))) = qm_lu 0 qm_d2_I := by
    rw [qm_d2_Vok]
    exact funext fun k => funext fun i => qm_lu_V r _ k i
  show (qm_d2_s, (fun k i => qm_toI (qm_sv r (qm_lu (.int 0) qm_d2_V k i))), qm_lu 0 qm_d2_J, qm_lu none qm_d2_R) = (qm_d2_s, qm_lu 0 qm_d2_I, qm_lu 0 qm_d2_J, qm_lu none qm_d2_R)
  rw [e]
theorem qm_cs0 (r : Nat → Int32) : qm_cs r qm_c0 = (18, qm_l18, [], qm_fn qm_d2) := by
  show (18, [qm_sv r (.retAddr 0), qm_sv r (.ref 0), qm_sv r (.ref 118), qm_sv r (.int 0)], [], qm_hs r qm_s0) = _
  rw [qm_hs0]
  rfl
theorem qm_begin {X : Option (Nat × (Nat → Int32))} {d : Nat} {Q : Option Value → qm_H → Prop} (hd : 6 ≤ d) (k : qm_Ru X (d + 1) cd_law (18, qm_l18, [], qm_fn qm_d2) Q) : qm_Ru X (d + 1) cd_law (qm_ent 4 [.retAddr 0] qm_h0) Q := by
  refine qm_Ru.go 2 (c' := (4, [.retAddr 0, .float 0, .float 0, .float 0], [.ref 0, .ref 0], qm_fn ([(16, 10)], [], [], []))) rfl ?_
  refine qm_Ru.call (j := 0) (nl := (qm_F 0).1) (cd' := (qm_F 0).2) (as := [.ref 0]) (c' := (7, [.retAddr 0, .float 0, .float 0, .float 0], [.ref 0], qm_fn ([(16, 10)], [], [], []))) rfl rfl (by decide +kernel) ?_
  refine qm_Ru.data qm_ctor1 rfl hd ?_
  refine qm_Ru.go 3 (c' := (12, [.retAddr 0, .ref 0, .float 0, .float 0], [.ref 118, .ref 118], qm_fn (qm_d1_s ++ [(17, 105)], qm_d1_I, qm_d1_J, qm_d1_R))) rfl ?_
  refine qm_Ru.call (j := 241) (nl := (qm_F 241).1) (cd' := (qm_F 241).2) (as := [.ref 118]) (c' := (15, [.retAddr 0, .ref 0, .float 0, .float 0], [.ref 118], qm_fn (qm_d1_s ++ [(17, 105)], qm_d1_I, qm_d1_J, qm_d1_R))) rfl rfl (by decide +kernel) ?_
  refine qm_Ru.data qm_ctor2 rfl hd ?_
  exact qm_Ru.go 3 (c' := (18, qm_l18, [], qm_fn qm_d2)) rfl k
theorem qm_short {L : Nat} (hL : L < 6) {xs : Nat → Int32} {d : Nat} : qm_Ru (some (L, xs)) d cd_law (18, qm_l18, [], qm_fn qm_d2) qm_Qf := by
  refine qm_Ru.go 5 (c' := (24, qm_l18, [.int (Int32.ofNat L - 6), .int 0], qm_fn qm_d2)) rfl ?_
  refine qm_Ru.br (b := qm_cc .gt 0 (Int32.ofNat L - 6)) (c1 := (2084, qm_l18, [], qm_fn qm_d2)) (c2 := (27, qm_l18, [], qm_fn qm_d2)) rfl (fun _ => ?_) (fun z => ?_)
  · refine qm_Ru.go 1 (c' := (2085, qm_l18, [.int 1], qm_fn qm_d2)) rfl ?_
    exact qm_Ru.rt (v := some (.int 1)) (h' := qm_fn qm_d2) rfl ⟨rfl, by decide +kernel, by decide +kernel⟩
  · exfalso
    revert z
    match L, hL with
    | 0, _ => decide
    | 1, _ => decide
    | 2, _ => decide
    | 3, _ => decide
    | 4, _ => decide
    | 5, _ => decide
theorem qm_63 (x : Int32) : ∃ j : Nat, j < 64 ∧ (x &&& 63).toInt = (j : Int) := by
  have h1 : (x &&& 63).toBitVec.toNat ≤ 63 := by
    rw [show (x &&& 63).toBitVec = x.toBitVec &&& (63 : Int32).toBitVec from rfl, BitVec.toNat_and]
    exact Nat.and_le_right
  refine ⟨(x &&& 63).toBitVec.toNat, by omega, ?_⟩
  show (x &&& 63).toBitVec.toInt = _
  exact BitVec.toInt_eq_toNat_of_lt (by omega)
theorem qm_sat0 (xs ys : Nat → Int32) {j : Int} (h : (xs 0 &&& 63).toInt = j) : qm_sat (qm_rho xs ys) (qm_E0 j) := by
  refine ⟨fun n hn => ?_, fun q hq => by cases hq⟩
  have hr : ∀ y : Int32, (-2147483648 : Int) ≤ y.toInt ∧ y.toInt ≤ 2147483647 := fun y => by
    have h1 := Int32.le_toInt y
    have h2 := Int32.toInt_lt y
    omega
  match n, hn with
  | 1, _ => exact hr _
  | 2, _ => exact hr _
  | 3, _ => exact hr _
  | 4, _ => exact hr _
  | 5, _ => exact hr _
  | 6, _ => exact hr _
  | 7, _ =>
    show j ≤ (xs 0 &&& 63).toInt ∧ (xs 0 &&& 63).toInt ≤ j
    omega
  | n + 8, _ => exact hr _
theorem qm_opsA : ∀ j : Nat, j < 64 → j ≠ 23 → j ≠ 24 → j ≠ 44 → j ≠ 53 → j ≠ 54 → ∃ n, qm_all qm_F n 12 (qm_E0 j) cd_law qm_c0 [] = true
  | 0, _, _, _, _, _, _ => ⟨_, qm_op0⟩
  | 1, _, _, _, _, _, _ => ⟨_, qm_op1⟩
  | 2, _, _, _, _, _, _ => ⟨_, qm_op2⟩
  | 3, _, _, _, _, _, _ => ⟨_, qm_op3⟩
  | 4, _, _, _, _, _, _ => ⟨_, qm_op4⟩
  | 5, _, _, _, _, _, _ => ⟨_, qm_op5⟩
  | 6, _, _, _, _, _, _ => ⟨_, qm_op6⟩
  | 7, _, _, _, _, _, _ => ⟨_, qm_op7⟩
  | 8, _, _, _, _, _, _ => ⟨_, qm_op8⟩
  | 9, _, _, _, _, _, _ => ⟨_, qm_op9⟩
  | 10, _, _, _, _, _, _ => ⟨_, qm_op10⟩
  | 11, _, _, _, _, _, _ => ⟨_, qm_op11⟩
  | 12, _, _, _, _, _, _ => ⟨_, qm_op12⟩
  | 13, _, _, _, _, _, _ => ⟨_, qm_op13⟩
  | 14, _, _, _, _, _, _ => ⟨_, qm_op14⟩
  | 15, _, _, _, _, _, _ => ⟨_, qm_op15⟩
  | 16, _, _, _, _, _, _ => ⟨_, qm_op16⟩
  | 17, _, _, _, _, _, _ => ⟨_, qm_op17⟩
  | 18, _, _, _, _, _, _ => ⟨_, qm_op18⟩
  | 19, _, _, _, _, _, _ => ⟨_, qm_op19⟩
  | 20, _, _, _, _, _, _ => ⟨_, qm_op20⟩
  | 21, _, _, _, _, _, _ => ⟨_, qm_op21⟩
  | 22, _, _, _, _, _, _ => ⟨_, qm_op22⟩
  | 23, _, h, _, _, _, _ => absurd rfl h
  | 24, _, _, h, _, _, _ => absurd rfl h
  | 25, _, _, _, _, _, _ => ⟨_, qm_op25⟩
  | 26, _, _, _, _, _, _ => ⟨_, qm_op26⟩
  | 27, _, _, _, _, _, _ => ⟨_, qm_op27⟩
  | 28, _, _, _, _, _, _ => ⟨_, qm_op28⟩
  | 29, _, _, _, _, _, _ => ⟨_, qm_op29⟩
  | 30, _, _, _, _, _, _ => ⟨_, qm_op30⟩
  | 31, _, _, _, _, _, _ => ⟨_, qm_op31⟩
  | 32, _, _, _, _, _, _ => ⟨_, qm_op32⟩
  | 33, _, _, _, _, _, _ => ⟨_, qm_op33⟩
  | 34, _, _, _, _, _, _ => ⟨_, qm_op34⟩
  | 35, _, _, _, _, _, _ => ⟨_, qm_op35⟩
  | 36, _, _, _, _, _, _ => ⟨_, qm_op36⟩
  | 37, _, _, _, _, _, _ => ⟨_, qm_op37⟩
  | 38, _, _, _, _, _, _ => ⟨_, qm_op38⟩
  | 39, _, _, _, _, _, _ => ⟨_, qm_op39⟩
  | 40, _, _, _, _, _, _ => ⟨_, qm_op40⟩
  | 41, _, _, _, _, _, _ => ⟨_, qm_op41⟩
  | 42, _, _, _, _, _, _ => ⟨_, qm_op42⟩
  | 43, _, _, _, _, _, _ => ⟨_, qm_op43⟩
  | 44, _, _, _, h, _, _ => absurd rfl h
  | 45, _, _, _, _, _, _ => ⟨_, qm_op45⟩
  | 46, _, _, _, _, _, _ => ⟨_, qm_op46⟩
  | 47, _, _, _, _, _, _ => ⟨_, qm_op47⟩
  | 48, _, _, _, _, _, _ => ⟨_, qm_op48⟩
  | 49, _, _, _, _, _, _ => ⟨_, qm_op49⟩
  | 50, _, _, _, _, _, _ => ⟨_, qm_op50⟩
  | 51, _, _, _, _, _, _ => ⟨_, qm_op51⟩
  | 52, _, _, _, _, _, _ => ⟨_, qm_op52⟩
  | 53, _, _, _, _, h, _ => absurd rfl h
  | 54, _, _, _, _, _, h => absurd rfl h
  | 55, _, _, _, _, _, _ => ⟨_, qm_op55⟩
  | 56, _, _, _, _, _, _ => ⟨_, qm_op56⟩
  | 57, _, _, _, _, _, _ => ⟨_, qm_op57⟩
  | 58, _, _, _, _, _, _ => ⟨_, qm_op58⟩
  | 59, _, _, _, _, _, _ => ⟨_, qm_op59⟩
  | 60, _, _, _, _, _, _ => ⟨_, qm_op60⟩
  | 61, _, _, _, _, _, _ => ⟨_, qm_op61⟩
  | 62, _, _, _, _, _, _ => ⟨_, qm_op62⟩
  | 63, _, _, _, _, _, _ => ⟨_, qm_op63⟩
  | n + 64, h, _, _, _, _, _ => by omega
theorem qm_one (xs : Nat → Int32) {j : Nat} (hj : j < 64) (e : (xs 0 &&& 63).toInt = (j : Int)) (h23 : j ≠ 23) (h24 : j ≠ 24) (h44 : j ≠ 44) (h53 : j ≠ 53) (h54 : j ≠ 54) : qm_Ru (some (6, xs)) 12 cd_law (18, qm_l18, [], qm_fn qm_d2) qm_Qf := by
  obtain ⟨n, hn⟩ := qm_opsA j hj h23 h24 h44 h53 h54
  have := qm_all_ok xs xs n 12 (qm_E0 j) cd_law qm_c0 [] (qm_sat0 xs xs e) hn
  rw [qm_cs0] at this
  exact this
