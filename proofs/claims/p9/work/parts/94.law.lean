/-! the law from call to call -/
noncomputable def qb_l (i : Int32) : List Value := [.retAddr 0, .ref 0, .ref 118, .int i]
/-- where the law goes on for an op -/
noncomputable def qb_pc (j : Nat) : Nat := [280, 343, 366, 379, 392, 435, 484, 533, 566, 589, 632, 675, 708, 751, 774, 827, 850, 883, 906, 949, 972, 995, 1028, 1051, 1084, 1107, 1130, 1143, 1156, 1179, 1192, 1215, 1228, 1261, 1310, 1333, 1356, 1389, 1432, 1465, 1488, 1521, 1544, 1587, 1630, 1653, 1686, 1719, 1752, 1785, 1854, 1887, 1920, 1943, 1966, 1999, 2022, 2055].getD j 2078
section QB
variable {L : Nat} {xs : Nat → Int32} {D : Nat} {Z : Option Value → qm_H → Prop} {i : Int32} {h : qm_H}
theorem qb_test (k1 : Int32.ofNat L - 6 < i → Z (some (.int 1)) h) (k2 : ¬ Int32.ofNat L - 6 < i → qm_Ru (some (L, xs)) D cd_law (27, qb_l i, [], h) Z) : qm_Ru (some (L, xs)) D cd_law (18, qb_l i, [], h) Z := by
  refine qm_Ru.go 5 (c' := (24, qb_l i, [.int (Int32.ofNat L - 6), .int i], h)) rfl ?_
  refine qm_Ru.br (b := qm_cc .gt i (Int32.ofNat L - 6)) (c1 := (2084, qb_l i, [], h)) (c2 := (27, qb_l i, [], h)) rfl (fun z => ?_) (fun z => ?_)
  · refine qm_Ru.go 1 (c' := (2085, qb_l i, [.int 1], h)) rfl ?_
    exact qm_Ru.rt (v := some (.int 1)) (h' := h) rfl (k1 (of_decide_eq_true z))
  · exact k2 (of_decide_eq_false z)
theorem qb_read (h0 : 0 ≤ i.toInt) (h1 : i.toInt < (L : Int)) (k : qm_Ru (some (L, xs)) D cd_law (33, qb_l i, [.int (xs i.toNatClampNeg &&& 63)], h) Z) : qm_Ru (some (L, xs)) D cd_law (27, qb_l i, [], h) Z := by
  refine qm_Ru.go 2 (c' := (29, qb_l i, [.int i, .retAddr 0], h)) rfl ?_
  have hin := qa_in_of h0 h1
  have e : qm_step (some (L, xs)) cd_law (29, qb_l i, [.int i, .retAddr 0], h) = (bif qm_in i L then qm_nx (30, qb_l i, [.int (xs i.toNatClampNeg)], h) else none) := rfl
  rw [hin, cond_true] at e
  refine qm_Ru.nx e ?_
  exact qm_Ru.go 2 (c' := (33, qb_l i, [.int (xs i.toNatClampNeg &&& 63)], h)) rfl k
theorem qb_63 (x : Int32) : ∃ j : Nat, j < 64 ∧ (x &&& 63) = Int32.ofNat j := by
  have h1 : (x &&& 63).toBitVec.toNat ≤ 63 := by
    rw [show (x &&& 63).toBitVec = x.toBitVec &&& (63 : Int32).toBitVec from rfl, BitVec.toNat_and]
    exact Nat.and_le_right
  refine ⟨(x &&& 63).toBitVec.toNat, by omega, ?_⟩
  apply Int32.toInt_inj.mp
  rw [Int32.toInt_ofNat_of_lt (by omega)]
  show (x &&& 63).toBitVec.toInt = _
  exact BitVec.toInt_eq_toNat_of_lt (by omega)
theorem qb_sw : ∀ j : Nat, j < 64 → qm_step (some (L, xs)) cd_law (33, qb_l i, [.int (Int32.ofNat j)], h) = some (.inl (qb_pc j, qb_l i, [], h))
  | 0, _ => rfl
  | 1, _ => rfl
  | 2, _ => rfl
  | 3, _ => rfl
  | 4, _ => rfl
  | 5, _ => rfl
  | 6, _ => rfl
  | 7, _ => rfl
  | 8, _ => rfl
  | 9, _ => rfl
  | 10, _ => rfl
  | 11, _ => rfl
  | 12, _ => rfl
  | 13, _ => rfl
  | 14, _ => rfl
  | 15, _ => rfl
  | 16, _ => rfl
  | 17, _ => rfl
  | 18, _ => rfl
  | 19, _ => rfl
  | 20, _ => rfl
  | 21, _ => rfl
  | 22, _ => rfl
  | 23, _ => rfl
  | 24, _ => rfl
  | 25, _ => rfl
  | 26, _ => rfl
  | 27, _ => rfl
  | 28, _ => rfl
  | 29, _ => rfl
  | 30, _ => rfl
  | 31, _ => rfl
  | 32, _ => rfl
  | 33, _ => rfl
  | 34, _ => rfl
  | 35, _ => rfl
  | 36, _ => rfl
  | 37, _ => rfl
  | 38, _ => rfl
  | 39, _ => rfl
  | 40, _ => rfl
  | 41, _ => rfl
  | 42, _ => rfl
  | 43, _ => rfl
  | 44, _ => rfl
  | 45, _ => rfl
  | 46, _ => rfl
  | 47, _ => rfl
  | 48, _ => rfl
  | 49, _ => rfl
  | 50, _ => rfl
  | 51, _ => rfl
  | 52, _ => rfl
  | 53, _ => rfl
  | 54, _ => rfl
  | 55, _ => rfl
  | 56, _ => rfl
  | 57, _ => rfl
  | 58, _ => rfl
  | 59, _ => rfl
  | 60, _ => rfl
  | 61, _ => rfl
  | 62, _ => rfl
  | 63, _ => rfl
  | n + 64, h => by omega
/-- from one call to the next: all ops, then the whole script -/
theorem qb_law {P : qa_P} {S : qm_H → Prop} (hL : L ≤ 3072) (hZ : ∀ h, qa_Inv P S h → Z (some (.int 1)) h) (hop : ∀ j : Nat, j < 64 → ∀ (i : Int32) (h : qm_H), 0 ≤ i.toInt → i.toInt + 5 < (L : Int) → (xs i.toNatClampNeg &&& 63) = Int32.ofNat j → qa_Inv P S h → (∀ (h : qm_H) (x : Int32), x.toInt = i.toInt + 6 → qa_Inv P S h → qm_Ru (some (L, xs)) D cd_law (18, qb_l x, [], h) Z) → qm_Ru (some (L, xs)) D cd_law (qb_pc j, qb_l i, [], h) Z) : ∀ (n : Nat) (i : Int32) (h : qm_H), 0 ≤ i.toInt → i.toInt ≤ 4000 → (L : Int) - i.toInt ≤ (n : Int) → qa_Inv P S h → qm_Ru (some (L, xs)) D cd_law (18, qb_l i, [], h) Z := by
  have eL : (Int32.ofNat L - 6).toInt = (L : Int) - 6 := by
    rw [Int32.toInt_sub, Int32.toInt_ofNat_of_lt (by omega)]
    show ((L : Int) - 6).bmod (2 ^ 32) = _
    rw [Int.bmod_def]
    omega
  intro n
  induction n with
  | zero =>
    intro i h h0 h1 h2 hI
    refine qb_test (fun _ => hZ h hI) (fun z => ?_)
    exfalso
    apply z
    apply Int32.lt_iff_toInt_lt.mpr
    rw [eL]
    omega
  | succ n ih =>
    intro i h h0 h1 h2 hI
    refine qb_test (fun _ => hZ h hI) (fun z => ?_)
    have hlt : ¬ (L : Int) - 6 < i.toInt := fun w => z (Int32.lt_iff_toInt_lt.mpr (by rw [eL]; exact w))
    refine qb_read h0 (by omega) ?_
    obtain ⟨j, hj, e⟩ := qb_63 (xs i.toNatClampNeg)
    rw [e]
    refine qm_Ru.nx (qb_sw j hj) ?_
    exact hop j hj i h h0 (by omega) e hI (fun h' x hx hI' => ih x h' (by omega) (by omega) (by omega) hI')
/-- ops without a call -/
theorem qb_no {j : Nat} (hj : qb_pc j = 2078) {P : qa_P} {S : qm_H → Prop} (h0 : 0 ≤ i.toInt) (h1 : i.toInt ≤ 4000) (hI : qa_Inv P S h) (k : ∀ (h : qm_H) (x : Int32), x.toInt = i.toInt + 6 → qa_Inv P S h → qm_Ru (some (L, xs)) D cd_law (18, qb_l x, [], h) Z) : qm_Ru (some (L, xs)) D cd_law (qb_pc j, qb_l i, [], h) Z := by
  rw [hj]
  refine qm_Ru.go 2 (c' := (18, qb_l (i + 6), [], h)) rfl (k h (i + 6) ?_ hI)
  rw [Int32.toInt_add]
  show (i.toInt + 6).bmod (2 ^ 32) = _
  rw [Int.bmod_def]
  omega
end QB
