/-! ops of the law by hand: what it needs -/
variable {tb : Int}
theorem hk_scr {L : Nat} {xs : Nat → Int32} {d : Nat} {cd : qm_Cd} {Z : Option Value → qm_H → Prop} {pc np a b : Nat} {ls r : List Value} {h : qm_H} {i v : Int32} (hf : qm_fetch cd pc = some (pc, np, .iaload, a, b, .null)) (h0 : 0 ≤ i.toInt) (h1 : i.toInt < (L : Int)) (hv : xs i.toNatClampNeg = v) (kk : qm_Ru (some (L, xs)) d cd (np, ls, .int v :: r, h) Z) : qm_Ru (some (L, xs)) d cd (pc, ls, .int i :: .retAddr 0 :: r, h) Z := by
  refine qm_Ru.nx ?_ kk
  rw [hk_st (c := (pc, ls, .int i :: .retAddr 0 :: r, h)) hf]
  show (bif qm_in i L then qm_nx (np, ls, .int (xs i.toNatClampNeg) :: r, h) else none) = _
  rw [hk_in h0 h1, hv]
  rfl
/-- a place that nothing rests on is written -/
noncomputable def qv_fr (o k : Nat) : Bool := (!qa_foot.contains o && !qa_foot.contains (1000000 + 1000 * o + k)) && (qa_Psh o).isSome
theorem gS_up {h : qm_H} {I : Nat → Nat → Int32} {J : Nat → Nat → Int64} {o k : Nat} {x : Int32} (hS : gS (h.1, I, J, h.2.2.2)) (hc : qv_fr o k = true) : gS (h.1, qm_up I o k x, J, h.2.2.2) := by
  unfold qv_fr at hc
  rw [Bool.and_eq_true, Bool.and_eq_true, Bool.not_eq_true', Bool.not_eq_true'] at hc
  obtain ⟨⟨c1, c2⟩, c3⟩ := hc
  refine gS_loc (t1 := 29) (t2 := 111) (h.1, I, J, h.2.2.2) (qm_up I o k x) J (fun o2 i2 hf => ?_) hS
  show qm_up I o k x o2 i2 = I o2 i2
  refine qa_up_ne ?_
  cases hb : Nat.beq o2 o && Nat.beq i2 k with
  | false => rfl
  | true =>
    exfalso
    rw [Bool.and_eq_true] at hb
    have e1 := Nat.eq_of_beq_eq_true hb.1
    have e2 := Nat.eq_of_beq_eq_true hb.2
    subst e1
    subst e2
    rcases hf with z | z | ⟨z, _⟩
    · have z : qa_foot.contains o2 = true := z
      rw [c1] at z
      cases z
    · have z : qa_Psh o2 = none := z
      rw [z] at c3
      cases c3
    · have z : qa_foot.contains (1000000 + 1000 * o2 + i2) = true := z
      rw [c2] at z
      cases z
/-! ops of the law by hand, with what both have in common: what they need -/
theorem r_ne {o w : Nat} (ho : o ∈ r_objs) (hw : r_objs.contains w = false) : Nat.beq o w = false := qm_bne (fun e => by
  subst e
  rw [List.contains_iff_mem.mpr ho] at hw
  cases hw)
/-- a place of a row that nothing rests on is written -/
noncomputable def qv_fa (o : Nat) : Bool := !qa_foot.contains o && (match qa_Psh o with
  | some q => Nat.blt q.1 5
  | none => false)
theorem gS_upa {h : qm_H} {I : Nat → Nat → Int32} {J : Nat → Nat → Int64} {o k : Nat} {x : Int32} (hS : gS (h.1, I, J, h.2.2.2)) (hc : qv_fa o = true) : gS (h.1, qm_up I o k x, J, h.2.2.2) := by
  unfold qv_fa at hc
  rw [Bool.and_eq_true, Bool.not_eq_true'] at hc
  obtain ⟨c1, c2⟩ := hc
  refine gS_loc (t1 := 29) (t2 := 111) (h.1, I, J, h.2.2.2) (qm_up I o k x) J (fun o2 i2 hf => ?_) hS
  show qm_up I o k x o2 i2 = I o2 i2
  refine qa_up_ne ?_
  cases hb : Nat.beq o2 o && Nat.beq i2 k with
  | false => rfl
  | true =>
    exfalso
    rw [Bool.and_eq_true] at hb
    have e1 := Nat.eq_of_beq_eq_true hb.1
    subst e1
    rcases hf with z | z | ⟨_, q, z1, z2⟩
    · have z : qa_foot.contains o2 = true := z
      rw [c1] at z
      cases z
    · have z : qa_Psh o2 = none := z
      rw [z] at c2
      cases c2
    · have z1 : qa_Psh o2 = some q := z1
      rw [z1] at c2
      have := Nat.le_of_ble_eq_true c2
      omega
theorem gR_box {I I2 : Nat → Nat → Int32} (h : gR I) (e : ∀ o ∈ r_objs, ∀ i, I2 o i = I o i) (e1 : I2 1 1 = I 1 1) (e7 : I2 42 7 = I 42 7) (e2 : I2 118 2 = I 118 2) (e70 : I2 118 70 = I 118 70) (t : I2 6 0 = I2 118 44) : gR I2 := by
  obtain ⟨a, b, c, d, f, g⟩ := h
  exact ⟨by rw [e1, e2]; exact a, t, by rw [e7, e70]; exact c, fun k => by rw [e 99 (by decide), e 182 (by decide)]; exact d k, gF_cg f e e7, gY_cg g e⟩
/-- what is told of a fact, alike in both -/
noncomputable def gFat (I : Nat → Nat → Int32) (k : Nat) : Prop := (0 ≤ (I 164 k).toInt ∧ (I 164 k).toInt ≤ 4 ∧ I 43 k = I 164 k) ∧ ((I 164 k).toInt ≤ 2 → I 44 k = I 165 k) ∧ ((I 164 k).toInt = 0 → I 45 k = I 166 k) ∧ (3 ≤ (I 164 k).toInt → I 45 k = I 165 k) ∧ ((I 164 k).toInt = 4 → 0 ≤ (I 165 k).toInt ∧ (I 165 k).toInt < (k : Int))
theorem gR_fact {I I2 : Nat → Nat → Int32} {n : Nat} (h : gR I) (hn : ((n : Nat) : Int) = (I 42 7).toInt) (e : ∀ o ∈ [99, 102, 103, 105, 106, 108, 109, 182, 183, 184, 185], ∀ i, I2 o i = I o i) (ef : ∀ o ∈ [43, 44, 45, 164, 165, 166], ∀ k, k ≠ n → I2 o k = I o k) (e1 : I2 1 1 = I 1 1) (e6 : I2 6 0 = I 6 0) (e2 : I2 118 2 = I 118 2) (e44 : I2 118 44 = I 118 44) (e7 : (I2 42 7).toInt = (n : Int) + 1) (t : I2 42 7 = I2 118 70) (r : gFat I2 n) : gR I2 := by
  obtain ⟨a, b, c, d, f, g⟩ := h
  refine ⟨by rw [e1, e2]; exact a, by rw [e6, e44]; exact b, t, fun k => by rw [e 99 (by decide), e 182 (by decide)]; exact d k, fun k hk => ?_, fun b i hb hi => ?_⟩
  · by_cases ek : k = n
    · subst ek
      exact r
    · rw [ef 164 (by decide) k ek, ef 43 (by decide) k ek, ef 44 (by decide) k ek, ef 165 (by decide) k ek, ef 45 (by decide) k ek, ef 166 (by decide) k ek]
      exact f k (by omega)
  · rw [e 99 (by decide)] at hi
    have := g b i hb hi
    match b, hb with
    | 0, _ =>
      rw [e 102 (by decide), e 183 (by decide), e 105 (by decide), e 184 (by decide), e 108 (by decide), e 185 (by decide)]
      exact this
    | 1, _ =>
      rw [e 103 (by decide), e 183 (by decide), e 106 (by decide), e 184 (by decide), e 109 (by decide), e 185 (by decide)]
      exact this
/-- a row comes to book 0 -/
theorem gR_row0 {I I2 : Nat → Nat → Int32} {n : Nat} (h : gR I) (hn : ((n : Nat) : Int) = (I 99 0).toInt) (h30 : (I 99 0).toInt ≤ 30 ∧ 0 ≤ (I 99 1).toInt) (e : ∀ o ∈ [43, 44, 45, 103, 106, 109, 164, 165, 166], ∀ i, I2 o i = I o i) (ef : ∀ o ∈ [102, 105, 108], ∀ k, k ≠ n → I2 o k = I o k) (eg : ∀ o ∈ [183, 184, 185], ∀ k, k ≠ n → I2 o k = I o k) (e9 : ∀ b, b ≠ 0 → I2 99 b = I 99 b) (e8 : ∀ b, b ≠ 0 → I2 182 b = I 182 b) (hlt : n < 30) (e1 : I2 1 1 = I 1 1) (e6 : I2 6 0 = I 6 0) (e7 : I2 42 7 = I 42 7) (e2 : I2 118 2 = I 118 2) (e44 : I2 118 44 = I 118 44) (e70 : I2 118 70 = I 118 70) (t0 : (I2 99 0).toInt = (n : Int) + 1) (t : I2 99 0 = I2 182 0) (r : I2 102 n = I2 183 n ∧ I2 105 n = I2 184 n ∧ I2 108 n = I2 185 n) : gR I2 := by
  obtain ⟨a, b, c, d, f, g⟩ := h
  refine ⟨by rw [e1, e2]; exact a, by rw [e6, e44]; exact b, by rw [e7, e70]; exact c, fun k => ?_, fun k hk => ?_, fun b i hb hi => ?_⟩
  · by_cases ek : k = 0
    · subst ek
      exact t
    · rw [e9 k ek, e8 k ek]
      exact d k
  · rw [e7] at hk
    rw [e 164 (by decide), e 43 (by decide), e 44 (by decide), e 165 (by decide), e 45 (by decide), e 166 (by decide)]
    exact f k hk
  · match b, hb with
    | 0, _ =>
      by_cases ei : i = n
      · subst ei
        simpa using r
      · have := g 0 i (by decide) (by omega)
        simp only [Nat.mul_zero, Nat.zero_add, Nat.add_zero] at this ⊢
        rw [ef 102 (by decide) i ei, ef 105 (by decide) i ei, ef 108 (by decide) i ei, eg 183 (by decide) i ei, eg 184 (by decide) i ei, eg 185 (by decide) i ei]
        exact this
    | 1, _ =>
      rw [e9 1 (by decide)] at hi
      have := g 1 i (by decide) hi
      have ne : 30 * 1 + i ≠ n := by omega
      rw [eg 183 (by decide) _ ne, eg 184 (by decide) _ ne, eg 185 (by decide) _ ne]
      show I2 103 i = _ ∧ I2 106 i = _ ∧ I2 109 i = _
      rw [e 103 (by decide), e 106 (by decide), e 109 (by decide)]
      exact this
/-- a row comes to book 1 -/
theorem gR_row1 {I I2 : Nat → Nat → Int32} {n : Nat} (h : gR I) (hn : ((n : Nat) : Int) = (I 99 1).toInt) (h30 : (I 99 0).toInt ≤ 30) (e : ∀ o ∈ [43, 44, 45, 102, 105, 108, 164, 165, 166], ∀ i, I2 o i = I o i) (ef : ∀ o ∈ [103, 106, 109], ∀ k, k ≠ n → I2 o k = I o k) (eg : ∀ o ∈ [183, 184, 185], ∀ k, k ≠ 30 + n → I2 o k = I o k) (e9 : ∀ b, b ≠ 1 → I2 99 b = I 99 b) (e8 : ∀ b, b ≠ 1 → I2 182 b = I 182 b) (e1 : I2 1 1 = I 1 1) (e6 : I2 6 0 = I 6 0) (e7 : I2 42 7 = I 42 7) (e2 : I2 118 2 = I 118 2) (e44 : I2 118 44 = I 118 44) (e70 : I2 118 70 = I 118 70) (t0 : (I2 99 1).toInt = (n : Int) + 1) (t : I2 99 1 = I2 182 1) (r : I2 103 n = I2 183 (30 + n) ∧ I2 106 n = I2 184 (30 + n) ∧ I2 109 n = I2 185 (30 + n)) : gR I2 := by
  obtain ⟨a, b, c, d, f, g⟩ := h
  refine ⟨by rw [e1, e2]; exact a, by rw [e6, e44]; exact b, by rw [e7, e70]; exact c, fun k => ?_, fun k hk => ?_, fun b i hb hi => ?_⟩
  · by_cases ek : k = 1
    · subst ek
      exact t
    · rw [e9 k ek, e8 k ek]
      exact d k
  · rw [e7] at hk
    rw [e 164 (by decide), e 43 (by decide), e 44 (by decide), e 165 (by decide), e 45 (by decide), e 166 (by decide)]
    exact f k hk
  · match b, hb with
    | 0, _ =>
      rw [e9 0 (by decide)] at hi
      have := g 0 i (by decide) hi
      have ne : 30 * 0 + i ≠ 30 + n := by omega
      rw [eg 183 (by decide) _ ne, eg 184 (by decide) _ ne, eg 185 (by decide) _ ne]
      show I2 102 i = _ ∧ I2 105 i = _ ∧ I2 108 i = _
      rw [e 102 (by decide), e 105 (by decide), e 108 (by decide)]
      exact this
    | 1, _ =>
      by_cases ei : i = n
      · subst ei
        simpa using r
      · have := g 1 i (by decide) (by omega)
        have ne : 30 * 1 + i ≠ 30 + n := by omega
        rw [eg 183 (by decide) _ ne, eg 184 (by decide) _ ne, eg 185 (by decide) _ ne]
        show I2 103 i = _ ∧ I2 106 i = _ ∧ I2 109 i = _
        have this : I 103 i = _ ∧ I 106 i = _ ∧ I 109 i = _ := this
        rw [ef 103 (by decide) i ei, ef 106 (by decide) i ei, ef 109 (by decide) i ei]
        exact this
theorem n_in {L : List Nat} {o w : Nat} (ho : o ∈ L) (hw : L.contains w = false) : Nat.beq o w = false := qm_bne (fun e => by
  subst e
  rw [List.contains_iff_mem.mpr ho] at hw
  cases hw)
theorem hk_ni {I : Nat → Nat → Int32} {o w n k : Nat} {x : Int32} (hk : k ≠ n) : qm_up I w n x o k = I o k := qa_up_ne (by rw [qm_bne hk, Bool.and_false])
theorem n_in3 {L M : List Nat} {o : Nat} (ho : o ∈ L) (hw : L.all (fun x => !M.contains x) = true) : M.contains o = false := by
  have := List.all_eq_true.mp hw o ho
  simpa using this
/-- four bytes come to a tape of n -/
noncomputable def aB (w : Int32) : Nat → Int32
  | 0 => vp_nar .byte (Int8.toInt32 (Int32.toInt8 (w >>> (24 &&& 31))))
  | 1 => vp_nar .byte (Int8.toInt32 (Int32.toInt8 (w >>> (16 &&& 31))))
  | 2 => vp_nar .byte (Int8.toInt32 (Int32.toInt8 (w >>> (8 &&& 31))))
  | _ => vp_nar .byte (Int8.toInt32 (Int32.toInt8 (w >>> (0 &&& 31))))
noncomputable def aC (f : Nat → Int32) (n w : Int32) (i : Nat) : Int32 := if (i : Int) < n.toInt then f i else aB w (i - n.toInt.toNat)
theorem aC_cg {f g : Nat → Int32} {n w : Int32} {i : Nat} (h : ∀ j : Nat, (j : Int) < n.toInt → f j = g j) : aC f n w i = aC g n w i := by
  unfold aC
  split
  · next c => exact h i c
  · rfl
theorem gP_back {I I2 : Nat → Nat → Int32} (h : gP I) (e : ∀ o ∈ x_objs, ∀ i, I2 o i = I o i) (e1 : (I2 1 1).toInt ≤ (I 1 1).toInt) (e4 : I2 3 4 = I 3 4) (e17 : I2 118 17 = I 118 17) : gP I2 := ⟨fun i hi => by
  rw [e 2 (by decide), e 119 (by decide)]
  exact h.1 i (by omega), by rw [e4, e17]; exact h.2⟩
theorem hs_app {L : Nat} {xs : Nat → Int32} {d : Nat} {Z : Option Value → qm_H → Prop} {h : qm_H} (hH : hk_H h) (hB : hk_B h.2.1) {n w : Int32} (q_n : h.2.1 1 1 = n) (hn : (0 : Int) ≤ n.toInt ∧ n.toInt ≤ 1996) (k : ∀ (I : Nat → Nat → Int32) (m : Int32), hk_B I → (∀ o, [1, 2].contains o = false → ∀ i, I o i = h.2.1 o i) → (∀ i, i ≠ 1 → I 1 i = h.2.1 1 i) → I 1 1 = m → m.toInt = n.toInt + 4 → (∀ i : Nat, (i : Int) < n.toInt + 4 → I 2 i = aC (h.2.1 2) n w i) → Z none (h.1, I, h.2.2.1, h.2.2.2)) : qm_Ru (some (L, xs)) (d + 10) cd_16 (qm_ent 3 [.ref 1, .int w] h) Z := by
  refine qm_Ru.go 5 (c' := (8, [.ref 1, .int w, .int 24], [.ref 1], h)) rfl ?_
  refine hk_geti (v := n) rfl (hH.1 1 (12, 7) rfl) rfl q_n ?_
  refine qm_Ru.go 1 (c' := (14, [.ref 1, .int w, .int 24], [.int 2000, .int n], h)) rfl ?_
  refine hk_cge (ix := n.toInt) (iy := 2000) rfl rfl rfl (fun z1 => by exfalso; omega) (fun z1 => ?_)
  refine qm_Ru.go 1 (c' := (18, [.ref 1, .int w, .int 24], [.ref 1], h)) rfl ?_
  refine hk_getr rfl (hH.1 1 (12, 7) rfl) rfl (hH.2 1 0 (some 2) rfl) ?_
  refine qm_Ru.go 1 (c' := (22, [.ref 1, .int w, .int 24], [.ref 1, .ref 2], h)) rfl ?_
  refine hk_geti (v := n) rfl (hH.1 1 (12, 7) rfl) rfl q_n ?_
  refine qm_Ru.go 3 (c' := (28, [.ref 1, .int w, .int 24], [.int (w >>> (24 &&& 31)), .int n, .ref 2], h)) rfl ?_
  obtain ⟨v2, q_v2⟩ : ∃ v_, (w >>> (24 &&& 31)) = v_ := ⟨_, rfl⟩
  rw [q_v2]
  refine qm_Ru.go 1 (c' := (29, [.ref 1, .int w, .int 24], [.int (Int8.toInt32 (Int32.toInt8 v2)), .int n, .ref 2], h)) rfl ?_
  obtain ⟨v3, q_v3⟩ : ∃ v_, (Int8.toInt32 (Int32.toInt8 v2)) = v_ := ⟨_, rfl⟩
  rw [q_v3]
  refine hk_bas1 rfl (hH.1 2 (1, 2000) rfl) (by omega) (by omega) ?_
  obtain ⟨v4, q_v4⟩ : ∃ v_, vp_nar .byte v3 = v_ := ⟨_, rfl⟩
  have b_v4 : (-128 : Int) ≤ v4.toInt ∧ v4.toInt ≤ 127 := by rw [← q_v4]; exact qa_byt_ok _
  rw [q_v4]
  refine qm_Ru.go 2 (c' := (32, [.ref 1, .int w, .int 24], [.ref 1, .ref 1], (h.1, qm_up h.2.1 2 (n.toInt.toNat) v4, h.2.2.1, h.2.2.2))) rfl ?_
  refine hk_geti (v := n) rfl (hH.1 1 (12, 7) rfl) rfl (show (qm_up h.2.1 2 (n.toInt.toNat) v4) 1 1 = _ from ((hk_ot rfl).trans q_n)) ?_
  refine qm_Ru.go 2 (c' := (37, [.ref 1, .int w, .int 24], [.int (n + 1), .ref 1], (h.1, qm_up h.2.1 2 (n.toInt.toNat) v4, h.2.2.1, h.2.2.2))) rfl ?_
  obtain ⟨v5, q_v5, e_v5⟩ := hk_add (x := n) (y := 1) (a := n.toInt) (b := 1) rfl rfl (by omega) (by omega)
  rw [q_v5]
  refine hk_puti rfl (hH.1 1 (12, 7) rfl) rfl ?_
  refine qm_Ru.go 5 (c' := (8, [.ref 1, .int w, .int 16], [.ref 1], (h.1, qm_up (qm_up h.2.1 2 (n.toInt.toNat) v4) 1 1 v5, h.2.2.1, h.2.2.2))) rfl ?_
  refine hk_geti (v := v5) rfl (hH.1 1 (12, 7) rfl) rfl (show (qm_up (qm_up h.2.1 2 (n.toInt.toNat) v4) 1 1 v5) 1 1 = _ from (hk_same)) ?_
  refine qm_Ru.go 1 (c' := (14, [.ref 1, .int w, .int 16], [.int 2000, .int v5], (h.1, qm_up (qm_up h.2.1 2 (n.toInt.toNat) v4) 1 1 v5, h.2.2.1, h.2.2.2))) rfl ?_
  refine hk_cge (ix := v5.toInt) (iy := 2000) rfl rfl rfl (fun z6 => by exfalso; omega) (fun z6 => ?_)
  refine qm_Ru.go 1 (c' := (18, [.ref 1, .int w, .int 16], [.ref 1], (h.1, qm_up (qm_up h.2.1 2 (n.toInt.toNat) v4) 1 1 v5, h.2.2.1, h.2.2.2))) rfl ?_
  refine hk_getr rfl (hH.1 1 (12, 7) rfl) rfl (hH.2 1 0 (some 2) rfl) ?_
  refine qm_Ru.go 1 (c' := (22, [.ref 1, .int w, .int 16], [.ref 1, .ref 2], (h.1, qm_up (qm_up h.2.1 2 (n.toInt.toNat) v4) 1 1 v5, h.2.2.1, h.2.2.2))) rfl ?_
  refine hk_geti (v := v5) rfl (hH.1 1 (12, 7) rfl) rfl (show (qm_up (qm_up h.2.1 2 (n.toInt.toNat) v4) 1 1 v5) 1 1 = _ from (hk_same)) ?_
  refine qm_Ru.go 3 (c' := (28, [.ref 1, .int w, .int 16], [.int (w >>> (16 &&& 31)), .int v5, .ref 2], (h.1, qm_up (qm_up h.2.1 2 (n.toInt.toNat) v4) 1 1 v5, h.2.2.1, h.2.2.2))) rfl ?_
  obtain ⟨v7, q_v7⟩ : ∃ v_, (w >>> (16 &&& 31)) = v_ := ⟨_, rfl⟩
  rw [q_v7]
  refine qm_Ru.go 1 (c' := (29, [.ref 1, .int w, .int 16], [.int (Int8.toInt32 (Int32.toInt8 v7)), .int v5, .ref 2], (h.1, qm_up (qm_up h.2.1 2 (n.toInt.toNat) v4) 1 1 v5, h.2.2.1, h.2.2.2))) rfl ?_
  obtain ⟨v8, q_v8⟩ : ∃ v_, (Int8.toInt32 (Int32.toInt8 v7)) = v_ := ⟨_, rfl⟩
  rw [q_v8]
  refine hk_bas1 rfl (hH.1 2 (1, 2000) rfl) (by omega) (by omega) ?_
  obtain ⟨v9, q_v9⟩ : ∃ v_, vp_nar .byte v8 = v_ := ⟨_, rfl⟩
  have b_v9 : (-128 : Int) ≤ v9.toInt ∧ v9.toInt ≤ 127 := by rw [← q_v9]; exact qa_byt_ok _
  rw [q_v9]
  refine qm_Ru.go 2 (c' := (32, [.ref 1, .int w, .int 16], [.ref 1, .ref 1], (h.1, qm_up (qm_up (qm_up h.2.1 2 (n.toInt.toNat) v4) 1 1 v5) 2 (v5.toInt.toNat) v9, h.2.2.1, h.2.2.2))) rfl ?_
  refine hk_geti (v := v5) rfl (hH.1 1 (12, 7) rfl) rfl (show (qm_up (qm_up (qm_up h.2.1 2 (n.toInt.toNat) v4) 1 1 v5) 2 (v5.toInt.toNat) v9) 1 1 = _ from ((hk_ot rfl).trans (hk_same))) ?_
  refine qm_Ru.go 2 (c' := (37, [.ref 1, .int w, .int 16], [.int (v5 + 1), .ref 1], (h.1, qm_up (qm_up (qm_up h.2.1 2 (n.toInt.toNat) v4) 1 1 v5) 2 (v5.toInt.toNat) v9, h.2.2.1, h.2.2.2))) rfl ?_
  obtain ⟨v10, q_v10, e_v10⟩ := hk_add (x := v5) (y := 1) (a := v5.toInt) (b := 1) rfl rfl (by omega) (by omega)
  rw [q_v10]
  refine hk_puti rfl (hH.1 1 (12, 7) rfl) rfl ?_
  refine qm_Ru.go 5 (c' := (8, [.ref 1, .int w, .int 8], [.ref 1], (h.1, qm_up (qm_up (qm_up (qm_up h.2.1 2 (n.toInt.toNat) v4) 1 1 v5) 2 (v5.toInt.toNat) v9) 1 1 v10, h.2.2.1, h.2.2.2))) rfl ?_
  refine hk_geti (v := v10) rfl (hH.1 1 (12, 7) rfl) rfl (show (qm_up (qm_up (qm_up (qm_up h.2.1 2 (n.toInt.toNat) v4) 1 1 v5) 2 (v5.toInt.toNat) v9) 1 1 v10) 1 1 = _ from (hk_same)) ?_
  refine qm_Ru.go 1 (c' := (14, [.ref 1, .int w, .int 8], [.int 2000, .int v10], (h.1, qm_up (qm_up (qm_up (qm_up h.2.1 2 (n.toInt.toNat) v4) 1 1 v5) 2 (v5.toInt.toNat) v9) 1 1 v10, h.2.2.1, h.2.2.2))) rfl ?_
  refine hk_cge (ix := v10.toInt) (iy := 2000) rfl rfl rfl (fun z11 => by exfalso; omega) (fun z11 => ?_)
  refine qm_Ru.go 1 (c' := (18, [.ref 1, .int w, .int 8], [.ref 1], (h.1, qm_up (qm_up (qm_up (qm_up h.2.1 2 (n.toInt.toNat) v4) 1 1 v5) 2 (v5.toInt.toNat) v9) 1 1 v10, h.2.2.1, h.2.2.2))) rfl ?_
  refine hk_getr rfl (hH.1 1 (12, 7) rfl) rfl (hH.2 1 0 (some 2) rfl) ?_
  refine qm_Ru.go 1 (c' := (22, [.ref 1, .int w, .int 8], [.ref 1, .ref 2], (h.1, qm_up (qm_up (qm_up (qm_up h.2.1 2 (n.toInt.toNat) v4) 1 1 v5) 2 (v5.toInt.toNat) v9) 1 1 v10, h.2.2.1, h.2.2.2))) rfl ?_
  refine hk_geti (v := v10) rfl (hH.1 1 (12, 7) rfl) rfl (show (qm_up (qm_up (qm_up (qm_up h.2.1 2 (n.toInt.toNat) v4) 1 1 v5) 2 (v5.toInt.toNat) v9) 1 1 v10) 1 1 = _ from (hk_same)) ?_
  refine qm_Ru.go 3 (c' := (28, [.ref 1, .int w, .int 8], [.int (w >>> (8 &&& 31)), .int v10, .ref 2], (h.1, qm_up (qm_up (qm_up (qm_up h.2.1 2 (n.toInt.toNat) v4) 1 1 v5) 2 (v5.toInt.toNat) v9) 1 1 v10, h.2.2.1, h.2.2.2))) rfl ?_
  obtain ⟨v12, q_v12⟩ : ∃ v_, (w >>> (8 &&& 31)) = v_ := ⟨_, rfl⟩
  rw [q_v12]
  refine qm_Ru.go 1 (c' := (29, [.ref 1, .int w, .int 8], [.int (Int8.toInt32 (Int32.toInt8 v12)), .int v10, .ref 2], (h.1, qm_up (qm_up (qm_up (qm_up h.2.1 2 (n.toInt.toNat) v4) 1 1 v5) 2 (v5.toInt.toNat) v9) 1 1 v10, h.2.2.1, h.2.2.2))) rfl ?_
  obtain ⟨v13, q_v13⟩ : ∃ v_, (Int8.toInt32 (Int32.toInt8 v12)) = v_ := ⟨_, rfl⟩
  rw [q_v13]
  refine hk_bas1 rfl (hH.1 2 (1, 2000) rfl) (by omega) (by omega) ?_
  obtain ⟨v14, q_v14⟩ : ∃ v_, vp_nar .byte v13 = v_ := ⟨_, rfl⟩
  have b_v14 : (-128 : Int) ≤ v14.toInt ∧ v14.toInt ≤ 127 := by rw [← q_v14]; exact qa_byt_ok _
  rw [q_v14]
  refine qm_Ru.go 2 (c' := (32, [.ref 1, .int w, .int 8], [.ref 1, .ref 1], (h.1, qm_up (qm_up (qm_up (qm_up (qm_up h.2.1 2 (n.toInt.toNat) v4) 1 1 v5) 2 (v5.toInt.toNat) v9) 1 1 v10) 2 (v10.toInt.toNat) v14, h.2.2.1, h.2.2.2))) rfl ?_
  refine hk_geti (v := v10) rfl (hH.1 1 (12, 7) rfl) rfl (show (qm_up (qm_up (qm_up (qm_up (qm_up h.2.1 2 (n.toInt.toNat) v4) 1 1 v5) 2 (v5.toInt.toNat) v9) 1 1 v10) 2 (v10.toInt.toNat) v14) 1 1 = _ from ((hk_ot rfl).trans (hk_same))) ?_
  refine qm_Ru.go 2 (c' := (37, [.ref 1, .int w, .int 8], [.int (v10 + 1), .ref 1], (h.1, qm_up (qm_up (qm_up (qm_up (qm_up h.2.1 2 (n.toInt.toNat) v4) 1 1 v5) 2 (v5.toInt.toNat) v9) 1 1 v10) 2 (v10.toInt.toNat) v14, h.2.2.1, h.2.2.2))) rfl ?_
  obtain ⟨v15, q_v15, e_v15⟩ := hk_add (x := v10) (y := 1) (a := v10.toInt) (b := 1) rfl rfl (by omega) (by omega)
  rw [q_v15]
  refine hk_puti rfl (hH.1 1 (12, 7) rfl) rfl ?_
  refine qm_Ru.go 5 (c' := (8, [.ref 1, .int w, .int 0], [.ref 1], (h.1, qm_up (qm_up (qm_up (qm_up (qm_up (qm_up h.2.1 2 (n.toInt.toNat) v4) 1 1 v5) 2 (v5.toInt.toNat) v9) 1 1 v10) 2 (v10.toInt.toNat) v14) 1 1 v15, h.2.2.1, h.2.2.2))) rfl ?_
  refine hk_geti (v := v15) rfl (hH.1 1 (12, 7) rfl) rfl (show (qm_up (qm_up (qm_up (qm_up (qm_up (qm_up h.2.1 2 (n.toInt.toNat) v4) 1 1 v5) 2 (v5.toInt.toNat) v9) 1 1 v10) 2 (v10.toInt.toNat) v14) 1 1 v15) 1 1 = _ from (hk_same)) ?_
  refine qm_Ru.go 1 (c' := (14, [.ref 1, .int w, .int 0], [.int 2000, .int v15], (h.1, qm_up (qm_up (qm_up (qm_up (qm_up (qm_up h.2.1 2 (n.toInt.toNat) v4) 1 1 v5) 2 (v5.toInt.toNat) v9) 1 1 v10) 2 (v10.toInt.toNat) v14) 1 1 v15, h.2.2.1, h.2.2.2))) rfl ?_
  refine hk_cge (ix := v15.toInt) (iy := 2000) rfl rfl rfl (fun z16 => by exfalso; omega) (fun z16 => ?_)
  refine qm_Ru.go 1 (c' := (18, [.ref 1, .int w, .int 0], [.ref 1], (h.1, qm_up (qm_up (qm_up (qm_up (qm_up (qm_up h.2.1 2 (n.toInt.toNat) v4) 1 1 v5) 2 (v5.toInt.toNat) v9) 1 1 v10) 2 (v10.toInt.toNat) v14) 1 1 v15, h.2.2.1, h.2.2.2))) rfl ?_
  refine hk_getr rfl (hH.1 1 (12, 7) rfl) rfl (hH.2 1 0 (some 2) rfl) ?_
  refine qm_Ru.go 1 (c' := (22, [.ref 1, .int w, .int 0], [.ref 1, .ref 2], (h.1, qm_up (qm_up (qm_up (qm_up (qm_up (qm_up h.2.1 2 (n.toInt.toNat) v4) 1 1 v5) 2 (v5.toInt.toNat) v9) 1 1 v10) 2 (v10.toInt.toNat) v14) 1 1 v15, h.2.2.1, h.2.2.2))) rfl ?_
  refine hk_geti (v := v15) rfl (hH.1 1 (12, 7) rfl) rfl (show (qm_up (qm_up (qm_up (qm_up (qm_up (qm_up h.2.1 2 (n.toInt.toNat) v4) 1 1 v5) 2 (v5.toInt.toNat) v9) 1 1 v10) 2 (v10.toInt.toNat) v14) 1 1 v15) 1 1 = _ from (hk_same)) ?_
  refine qm_Ru.go 3 (c' := (28, [.ref 1, .int w, .int 0], [.int (w >>> (0 &&& 31)), .int v15, .ref 2], (h.1, qm_up (qm_up (qm_up (qm_up (qm_up (qm_up h.2.1 2 (n.toInt.toNat) v4) 1 1 v5) 2 (v5.toInt.toNat) v9) 1 1 v10) 2 (v10.toInt.toNat) v14) 1 1 v15, h.2.2.1, h.2.2.2))) rfl ?_
  obtain ⟨v17, q_v17⟩ : ∃ v_, (w >>> (0 &&& 31)) = v_ := ⟨_, rfl⟩
  rw [q_v17]
  refine qm_Ru.go 1 (c' := (29, [.ref 1, .int w, .int 0], [.int (Int8.toInt32 (Int32.toInt8 v17)), .int v15, .ref 2], (h.1, qm_up (qm_up (qm_up (qm_up (qm_up (qm_up h.2.1 2 (n.toInt.toNat) v4) 1 1 v5) 2 (v5.toInt.toNat) v9) 1 1 v10) 2 (v10.toInt.toNat) v14) 1 1 v15, h.2.2.1, h.2.2.2))) rfl ?_
  obtain ⟨v18, q_v18⟩ : ∃ v_, (Int8.toInt32 (Int32.toInt8 v17)) = v_ := ⟨_, rfl⟩
  rw [q_v18]
  refine hk_bas1 rfl (hH.1 2 (1, 2000) rfl) (by omega) (by omega) ?_
  obtain ⟨v19, q_v19⟩ : ∃ v_, vp_nar .byte v18 = v_ := ⟨_, rfl⟩
  have b_v19 : (-128 : Int) ≤ v19.toInt ∧ v19.toInt ≤ 127 := by rw [← q_v19]; exact qa_byt_ok _
  rw [q_v19]
  refine qm_Ru.go 2 (c' := (32, [.ref 1, .int w, .int 0], [.ref 1, .ref 1], (h.1, qm_up (qm_up (qm_up (qm_up (qm_up (qm_up (qm_up h.2.1 2 (n.toInt.toNat) v4) 1 1 v5) 2 (v5.toInt.toNat) v9) 1 1 v10) 2 (v10.toInt.toNat) v14) 1 1 v15) 2 (v15.toInt.toNat) v19, h.2.2.1, h.2.2.2))) rfl ?_
  refine hk_geti (v := v15) rfl (hH.1 1 (12, 7) rfl) rfl (show (qm_up (qm_up (qm_up (qm_up (qm_up (qm_up (qm_up h.2.1 2 (n.toInt.toNat) v4) 1 1 v5) 2 (v5.toInt.toNat) v9) 1 1 v10) 2 (v10.toInt.toNat) v14) 1 1 v15) 2 (v15.toInt.toNat) v19) 1 1 = _ from ((hk_ot rfl).trans (hk_same))) ?_
  refine qm_Ru.go 2 (c' := (37, [.ref 1, .int w, .int 0], [.int (v15 + 1), .ref 1], (h.1, qm_up (qm_up (qm_up (qm_up (qm_up (qm_up (qm_up h.2.1 2 (n.toInt.toNat) v4) 1 1 v5) 2 (v5.toInt.toNat) v9) 1 1 v10) 2 (v10.toInt.toNat) v14) 1 1 v15) 2 (v15.toInt.toNat) v19, h.2.2.1, h.2.2.2))) rfl ?_
  obtain ⟨v20, q_v20, e_v20⟩ := hk_add (x := v15) (y := 1) (a := v15.toInt) (b := 1) rfl rfl (by omega) (by omega)
  rw [q_v20]
  refine hk_puti rfl (hH.1 1 (12, 7) rfl) rfl ?_
  refine qm_Ru.go 4 (c' := (46, [.ref 1, .int w, .int (-8)], [], (h.1, qm_up (qm_up (qm_up (qm_up (qm_up (qm_up (qm_up (qm_up h.2.1 2 (n.toInt.toNat) v4) 1 1 v5) 2 (v5.toInt.toNat) v9) 1 1 v10) 2 (v10.toInt.toNat) v14) 1 1 v15) 2 (v15.toInt.toNat) v19) 1 1 v20, h.2.2.1, h.2.2.2))) rfl ?_
  refine qm_Ru.rt (v := none) (h' := (h.1, qm_up (qm_up (qm_up (qm_up (qm_up (qm_up (qm_up (qm_up h.2.1 2 (n.toInt.toNat) v4) 1 1 v5) 2 (v5.toInt.toNat) v9) 1 1 v10) 2 (v10.toInt.toNat) v14) 1 1 v15) 2 (v15.toInt.toNat) v19) 1 1 v20, h.2.2.1, h.2.2.2)) rfl ?_
  have ha : ∀ i : Nat, (i : Int) < n.toInt + 4 → (qm_up (qm_up (qm_up (qm_up (qm_up (qm_up (qm_up (qm_up h.2.1 2 (n.toInt.toNat) v4) 1 1 v5) 2 (v5.toInt.toNat) v9) 1 1 v10) 2 (v10.toInt.toNat) v14) 1 1 v15) 2 (v15.toInt.toNat) v19) 1 1 v20) 2 i = aC (h.2.1 2) n w i := by
    intro i hi
    unfold aC
    by_cases c : (i : Int) < n.toInt
    · rw [if_pos c]
      exact ((hk_ot rfl).trans ((hk_ni (by omega)).trans ((hk_ot rfl).trans ((hk_ni (by omega)).trans ((hk_ot rfl).trans ((hk_ni (by omega)).trans ((hk_ot rfl).trans ((hk_ni (by omega)).trans rfl))))))))
    · rw [if_neg c]
      by_cases c0 : (i : Int) = n.toInt + 0
      · rw [show i - n.toInt.toNat = 0 from by omega, show (qm_up (qm_up (qm_up (qm_up (qm_up (qm_up (qm_up (qm_up h.2.1 2 (n.toInt.toNat) v4) 1 1 v5) 2 (v5.toInt.toNat) v9) 1 1 v10) 2 (v10.toInt.toNat) v14) 1 1 v15) 2 (v15.toInt.toNat) v19) 1 1 v20) 2 i = v4 from ((hk_ot rfl).trans ((hk_ni (by omega)).trans ((hk_ot rfl).trans ((hk_ni (by omega)).trans ((hk_ot rfl).trans ((hk_ni (by omega)).trans ((hk_ot rfl).trans (hk_equ (by omega))))))))), ← q_v4, ← q_v3, ← q_v2]
        rfl
      by_cases c1 : (i : Int) = n.toInt + 1
      · rw [show i - n.toInt.toNat = 1 from by omega, show (qm_up (qm_up (qm_up (qm_up (qm_up (qm_up (qm_up (qm_up h.2.1 2 (n.toInt.toNat) v4) 1 1 v5) 2 (v5.toInt.toNat) v9) 1 1 v10) 2 (v10.toInt.toNat) v14) 1 1 v15) 2 (v15.toInt.toNat) v19) 1 1 v20) 2 i = v9 from ((hk_ot rfl).trans ((hk_ni (by omega)).trans ((hk_ot rfl).trans ((hk_ni (by omega)).trans ((hk_ot rfl).trans (hk_equ (by omega))))))), ← q_v9, ← q_v8, ← q_v7]
        rfl
      by_cases c2 : (i : Int) = n.toInt + 2
      · rw [show i - n.toInt.toNat = 2 from by omega, show (qm_up (qm_up (qm_up (qm_up (qm_up (qm_up (qm_up (qm_up h.2.1 2 (n.toInt.toNat) v4) 1 1 v5) 2 (v5.toInt.toNat) v9) 1 1 v10) 2 (v10.toInt.toNat) v14) 1 1 v15) 2 (v15.toInt.toNat) v19) 1 1 v20) 2 i = v14 from ((hk_ot rfl).trans ((hk_ni (by omega)).trans ((hk_ot rfl).trans (hk_equ (by omega))))), ← q_v14, ← q_v13, ← q_v12]
        rfl
      rw [show i - n.toInt.toNat = 3 from by omega, show (qm_up (qm_up (qm_up (qm_up (qm_up (qm_up (qm_up (qm_up h.2.1 2 (n.toInt.toNat) v4) 1 1 v5) 2 (v5.toInt.toNat) v9) 1 1 v10) 2 (v10.toInt.toNat) v14) 1 1 v15) 2 (v15.toInt.toNat) v19) 1 1 v20) 2 i = v19 from ((hk_ot rfl).trans (hk_equ (by omega))), ← q_v19, ← q_v18, ← q_v17]
      rfl
  exact k (qm_up (qm_up (qm_up (qm_up (qm_up (qm_up (qm_up (qm_up h.2.1 2 (n.toInt.toNat) v4) 1 1 v5) 2 (v5.toInt.toNat) v9) 1 1 v10) 2 (v10.toInt.toNat) v14) 1 1 v15) 2 (v15.toInt.toNat) v19) 1 1 v20) v20 (hb_up (o := 1) (k := 1) (x := v20) (hb_up (o := 2) (k := v15.toInt.toNat) (x := v19) (hb_up (o := 1) (k := 1) (x := v15) (hb_up (o := 2) (k := v10.toInt.toNat) (x := v14) (hb_up (o := 1) (k := 1) (x := v10) (hb_up (o := 2) (k := v5.toInt.toNat) (x := v9) (hb_up (o := 1) (k := 1) (x := v5) (hb_up (o := 2) (k := n.toInt.toNat) (x := v4) hB ⟨by show (-128 : Int) ≤ v4.toInt; omega, by show v4.toInt ≤ (127 : Int); omega⟩) ⟨by show (0 : Int) ≤ v5.toInt; omega, by show v5.toInt ≤ (2000 : Int); omega⟩) ⟨by show (-128 : Int) ≤ v9.toInt; omega, by show v9.toInt ≤ (127 : Int); omega⟩) ⟨by show (0 : Int) ≤ v10.toInt; omega, by show v10.toInt ≤ (2000 : Int); omega⟩) ⟨by show (-128 : Int) ≤ v14.toInt; omega, by show v14.toInt ≤ (127 : Int); omega⟩) ⟨by show (0 : Int) ≤ v15.toInt; omega, by show v15.toInt ≤ (2000 : Int); omega⟩) ⟨by show (-128 : Int) ≤ v19.toInt; omega, by show v19.toInt ≤ (127 : Int); omega⟩) ⟨by show (0 : Int) ≤ v20.toInt; omega, by show v20.toInt ≤ (2000 : Int); omega⟩) (fun o ho i => ((hk_mod ho rfl).trans ((hk_mod ho rfl).trans ((hk_mod ho rfl).trans ((hk_mod ho rfl).trans ((hk_mod ho rfl).trans ((hk_mod ho rfl).trans ((hk_mod ho rfl).trans ((hk_mod ho rfl).trans rfl))))))))) (fun i hi => ((hk_ni hi).trans ((hk_ot rfl).trans ((hk_ni hi).trans ((hk_ot rfl).trans ((hk_ni hi).trans ((hk_ot rfl).trans ((hk_ni hi).trans ((hk_ot rfl).trans rfl))))))))) hk_same (by omega) ha
theorem hs_put {L : Nat} {xs : Nat → Int32} {d : Nat} {Z : Option Value → qm_H → Prop} {h : qm_H} (hH : hk_H h) (hB : hk_B h.2.1) {n w : Int32} (q_n : h.2.1 118 2 = n) (hn : (0 : Int) ≤ n.toInt ∧ n.toInt ≤ 1996) (k : ∀ (I : Nat → Nat → Int32) (m : Int32), hk_B I → (∀ o, [118, 119].contains o = false → ∀ i, I o i = h.2.1 o i) → (∀ i, i ≠ 2 → I 118 i = h.2.1 118 i) → I 118 2 = m → m.toInt = n.toInt + 4 → (∀ i : Nat, (i : Int) < n.toInt + 4 → I 119 i = aC (h.2.1 119) n w i) → Z none (h.1, I, h.2.2.1, h.2.2.2)) : qm_Ru (some (L, xs)) (d + 10) cd_246 (qm_ent 3 [.ref 118, .int w] h) Z := by
  refine qm_Ru.go 5 (c' := (8, [.ref 118, .int w, .int 24], [.ref 118], h)) rfl ?_
  refine hk_getr rfl (hH.1 118 (17, 105) rfl) rfl (hH.2 118 1 (some 119) rfl) ?_
  refine qm_Ru.go 1 (c' := (12, [.ref 118, .int w, .int 24], [.ref 118, .ref 119], h)) rfl ?_
  refine hk_geti (v := n) rfl (hH.1 118 (17, 105) rfl) rfl q_n ?_
  refine qm_Ru.go 3 (c' := (18, [.ref 118, .int w, .int 24], [.int (w >>> (24 &&& 31)), .int n, .ref 119], h)) rfl ?_
  obtain ⟨v1, q_v1⟩ : ∃ v_, (w >>> (24 &&& 31)) = v_ := ⟨_, rfl⟩
  rw [q_v1]
  refine qm_Ru.go 1 (c' := (19, [.ref 118, .int w, .int 24], [.int (Int8.toInt32 (Int32.toInt8 v1)), .int n, .ref 119], h)) rfl ?_
  obtain ⟨v2, q_v2⟩ : ∃ v_, (Int8.toInt32 (Int32.toInt8 v1)) = v_ := ⟨_, rfl⟩
  rw [q_v2]
  refine hk_bas1 rfl (hH.1 119 (1, 2000) rfl) (by omega) (by omega) ?_
  obtain ⟨v3, q_v3⟩ : ∃ v_, vp_nar .byte v2 = v_ := ⟨_, rfl⟩
  have b_v3 : (-128 : Int) ≤ v3.toInt ∧ v3.toInt ≤ 127 := by rw [← q_v3]; exact qa_byt_ok _
  rw [q_v3]
  refine qm_Ru.go 2 (c' := (22, [.ref 118, .int w, .int 24], [.ref 118, .ref 118], (h.1, qm_up h.2.1 119 (n.toInt.toNat) v3, h.2.2.1, h.2.2.2))) rfl ?_
  refine hk_geti (v := n) rfl (hH.1 118 (17, 105) rfl) rfl (show (qm_up h.2.1 119 (n.toInt.toNat) v3) 118 2 = _ from ((hk_ot rfl).trans q_n)) ?_
  refine qm_Ru.go 2 (c' := (27, [.ref 118, .int w, .int 24], [.int (n + 1), .ref 118], (h.1, qm_up h.2.1 119 (n.toInt.toNat) v3, h.2.2.1, h.2.2.2))) rfl ?_
  obtain ⟨v4, q_v4, e_v4⟩ := hk_add (x := n) (y := 1) (a := n.toInt) (b := 1) rfl rfl (by omega) (by omega)
  rw [q_v4]
  refine hk_puti rfl (hH.1 118 (17, 105) rfl) rfl ?_
  refine qm_Ru.go 5 (c' := (8, [.ref 118, .int w, .int 16], [.ref 118], (h.1, qm_up (qm_up h.2.1 119 (n.toInt.toNat) v3) 118 2 v4, h.2.2.1, h.2.2.2))) rfl ?_
  refine hk_getr rfl (hH.1 118 (17, 105) rfl) rfl (hH.2 118 1 (some 119) rfl) ?_
  refine qm_Ru.go 1 (c' := (12, [.ref 118, .int w, .int 16], [.ref 118, .ref 119], (h.1, qm_up (qm_up h.2.1 119 (n.toInt.toNat) v3) 118 2 v4, h.2.2.1, h.2.2.2))) rfl ?_
  refine hk_geti (v := v4) rfl (hH.1 118 (17, 105) rfl) rfl (show (qm_up (qm_up h.2.1 119 (n.toInt.toNat) v3) 118 2 v4) 118 2 = _ from (hk_same)) ?_
  refine qm_Ru.go 3 (c' := (18, [.ref 118, .int w, .int 16], [.int (w >>> (16 &&& 31)), .int v4, .ref 119], (h.1, qm_up (qm_up h.2.1 119 (n.toInt.toNat) v3) 118 2 v4, h.2.2.1, h.2.2.2))) rfl ?_
  obtain ⟨v5, q_v5⟩ : ∃ v_, (w >>> (16 &&& 31)) = v_ := ⟨_, rfl⟩
  rw [q_v5]
  refine qm_Ru.go 1 (c' := (19, [.ref 118, .int w, .int 16], [.int (Int8.toInt32 (Int32.toInt8 v5)), .int v4, .ref 119], (h.1, qm_up (qm_up h.2.1 119 (n.toInt.toNat) v3) 118 2 v4, h.2.2.1, h.2.2.2))) rfl ?_
  obtain ⟨v6, q_v6⟩ : ∃ v_, (Int8.toInt32 (Int32.toInt8 v5)) = v_ := ⟨_, rfl⟩
  rw [q_v6]
  refine hk_bas1 rfl (hH.1 119 (1, 2000) rfl) (by omega) (by omega) ?_
  obtain ⟨v7, q_v7⟩ : ∃ v_, vp_nar .byte v6 = v_ := ⟨_, rfl⟩
  have b_v7 : (-128 : Int) ≤ v7.toInt ∧ v7.toInt ≤ 127 := by rw [← q_v7]; exact qa_byt_ok _
  rw [q_v7]
  refine qm_Ru.go 2 (c' := (22, [.ref 118, .int w, .int 16], [.ref 118, .ref 118], (h.1, qm_up (qm_up (qm_up h.2.1 119 (n.toInt.toNat) v3) 118 2 v4) 119 (v4.toInt.toNat) v7, h.2.2.1, h.2.2.2))) rfl ?_
  refine hk_geti (v := v4) rfl (hH.1 118 (17, 105) rfl) rfl (show (qm_up (qm_up (qm_up h.2.1 119 (n.toInt.toNat) v3) 118 2 v4) 119 (v4.toInt.toNat) v7) 118 2 = _ from ((hk_ot rfl).trans (hk_same))) ?_
  refine qm_Ru.go 2 (c' := (27, [.ref 118, .int w, .int 16], [.int (v4 + 1), .ref 118], (h.1, qm_up (qm_up (qm_up h.2.1 119 (n.toInt.toNat) v3) 118 2 v4) 119 (v4.toInt.toNat) v7, h.2.2.1, h.2.2.2))) rfl ?_
  obtain ⟨v8, q_v8, e_v8⟩ := hk_add (x := v4) (y := 1) (a := v4.toInt) (b := 1) rfl rfl (by omega) (by omega)
  rw [q_v8]
  refine hk_puti rfl (hH.1 118 (17, 105) rfl) rfl ?_
  refine qm_Ru.go 5 (c' := (8, [.ref 118, .int w, .int 8], [.ref 118], (h.1, qm_up (qm_up (qm_up (qm_up h.2.1 119 (n.toInt.toNat) v3) 118 2 v4) 119 (v4.toInt.toNat) v7) 118 2 v8, h.2.2.1, h.2.2.2))) rfl ?_
  refine hk_getr rfl (hH.1 118 (17, 105) rfl) rfl (hH.2 118 1 (some 119) rfl) ?_
  refine qm_Ru.go 1 (c' := (12, [.ref 118, .int w, .int 8], [.ref 118, .ref 119], (h.1, qm_up (qm_up (qm_up (qm_up h.2.1 119 (n.toInt.toNat) v3) 118 2 v4) 119 (v4.toInt.toNat) v7) 118 2 v8, h.2.2.1, h.2.2.2))) rfl ?_
  refine hk_geti (v := v8) rfl (hH.1 118 (17, 105) rfl) rfl (show (qm_up (qm_up (qm_up (qm_up h.2.1 119 (n.toInt.toNat) v3) 118 2 v4) 119 (v4.toInt.toNat) v7) 118 2 v8) 118 2 = _ from (hk_same)) ?_
  refine qm_Ru.go 3 (c' := (18, [.ref 118, .int w, .int 8], [.int (w >>> (8 &&& 31)), .int v8, .ref 119], (h.1, qm_up (qm_up (qm_up (qm_up h.2.1 119 (n.toInt.toNat) v3) 118 2 v4) 119 (v4.toInt.toNat) v7) 118 2 v8, h.2.2.1, h.2.2.2))) rfl ?_
  obtain ⟨v9, q_v9⟩ : ∃ v_, (w >>> (8 &&& 31)) = v_ := ⟨_, rfl⟩
  rw [q_v9]
  refine qm_Ru.go 1 (c' := (19, [.ref 118, .int w, .int 8], [.int (Int8.toInt32 (Int32.toInt8 v9)), .int v8, .ref 119], (h.1, qm_up (qm_up (qm_up (qm_up h.2.1 119 (n.toInt.toNat) v3) 118 2 v4) 119 (v4.toInt.toNat) v7) 118 2 v8, h.2.2.1, h.2.2.2))) rfl ?_
  obtain ⟨v10, q_v10⟩ : ∃ v_, (Int8.toInt32 (Int32.toInt8 v9)) = v_ := ⟨_, rfl⟩
  rw [q_v10]
  refine hk_bas1 rfl (hH.1 119 (1, 2000) rfl) (by omega) (by omega) ?_
  obtain ⟨v11, q_v11⟩ : ∃ v_, vp_nar .byte v10 = v_ := ⟨_, rfl⟩
  have b_v11 : (-128 : Int) ≤ v11.toInt ∧ v11.toInt ≤ 127 := by rw [← q_v11]; exact qa_byt_ok _
  rw [q_v11]
  refine qm_Ru.go 2 (c' := (22, [.ref 118, .int w, .int 8], [.ref 118, .ref 118], (h.1, qm_up (qm_up (qm_up (qm_up (qm_up h.2.1 119 (n.toInt.toNat) v3) 118 2 v4) 119 (v4.toInt.toNat) v7) 118 2 v8) 119 (v8.toInt.toNat) v11, h.2.2.1, h.2.2.2))) rfl ?_
  refine hk_geti (v := v8) rfl (hH.1 118 (17, 105) rfl) rfl (show (qm_up (qm_up (qm_up (qm_up (qm_up h.2.1 119 (n.toInt.toNat) v3) 118 2 v4) 119 (v4.toInt.toNat) v7) 118 2 v8) 119 (v8.toInt.toNat) v11) 118 2 = _ from ((hk_ot rfl).trans (hk_same))) ?_
  refine qm_Ru.go 2 (c' := (27, [.ref 118, .int w, .int 8], [.int (v8 + 1), .ref 118], (h.1, qm_up (qm_up (qm_up (qm_up (qm_up h.2.1 119 (n.toInt.toNat) v3) 118 2 v4) 119 (v4.toInt.toNat) v7) 118 2 v8) 119 (v8.toInt.toNat) v11, h.2.2.1, h.2.2.2))) rfl ?_
  obtain ⟨v12, q_v12, e_v12⟩ := hk_add (x := v8) (y := 1) (a := v8.toInt) (b := 1) rfl rfl (by omega) (by omega)
  rw [q_v12]
  refine hk_puti rfl (hH.1 118 (17, 105) rfl) rfl ?_
  refine qm_Ru.go 5 (c' := (8, [.ref 118, .int w, .int 0], [.ref 118], (h.1, qm_up (qm_up (qm_up (qm_up (qm_up (qm_up h.2.1 119 (n.toInt.toNat) v3) 118 2 v4) 119 (v4.toInt.toNat) v7) 118 2 v8) 119 (v8.toInt.toNat) v11) 118 2 v12, h.2.2.1, h.2.2.2))) rfl ?_
  refine hk_getr rfl (hH.1 118 (17, 105) rfl) rfl (hH.2 118 1 (some 119) rfl) ?_
  refine qm_Ru.go 1 (c' := (12, [.ref 118, .int w, .int 0], [.ref 118, .ref 119], (h.1, qm_up (qm_up (qm_up (qm_up (qm_up (qm_up h.2.1 119 (n.toInt.toNat) v3) 118 2 v4) 119 (v4.toInt.toNat) v7) 118 2 v8) 119 (v8.toInt.toNat) v11) 118 2 v12, h.2.2.1, h.2.2.2))) rfl ?_
  refine hk_geti (v := v12) rfl (hH.1 118 (17, 105) rfl) rfl (show (qm_up (qm_up (qm_up (qm_up (qm_up (qm_up h.2.1 119 (n.toInt.toNat) v3) 118 2 v4) 119 (v4.toInt.toNat) v7) 118 2 v8) 119 (v8.toInt.toNat) v11) 118 2 v12) 118 2 = _ from (hk_same)) ?_
  refine qm_Ru.go 3 (c' := (18, [.ref 118, .int w, .int 0], [.int (w >>> (0 &&& 31)), .int v12, .ref 119], (h.1, qm_up (qm_up (qm_up (qm_up (qm_up (qm_up h.2.1 119 (n.toInt.toNat) v3) 118 2 v4) 119 (v4.toInt.toNat) v7) 118 2 v8) 119 (v8.toInt.toNat) v11) 118 2 v12, h.2.2.1, h.2.2.2))) rfl ?_
  obtain ⟨v13, q_v13⟩ : ∃ v_, (w >>> (0 &&& 31)) = v_ := ⟨_, rfl⟩
  rw [q_v13]
  refine qm_Ru.go 1 (c' := (19, [.ref 118, .int w, .int 0], [.int (Int8.toInt32 (Int32.toInt8 v13)), .int v12, .ref 119], (h.1, qm_up (qm_up (qm_up (qm_up (qm_up (qm_up h.2.1 119 (n.toInt.toNat) v3) 118 2 v4) 119 (v4.toInt.toNat) v7) 118 2 v8) 119 (v8.toInt.toNat) v11) 118 2 v12, h.2.2.1, h.2.2.2))) rfl ?_
  obtain ⟨v14, q_v14⟩ : ∃ v_, (Int8.toInt32 (Int32.toInt8 v13)) = v_ := ⟨_, rfl⟩
  rw [q_v14]
  refine hk_bas1 rfl (hH.1 119 (1, 2000) rfl) (by omega) (by omega) ?_
  obtain ⟨v15, q_v15⟩ : ∃ v_, vp_nar .byte v14 = v_ := ⟨_, rfl⟩
  have b_v15 : (-128 : Int) ≤ v15.toInt ∧ v15.toInt ≤ 127 := by rw [← q_v15]; exact qa_byt_ok _
  rw [q_v15]
  refine qm_Ru.go 2 (c' := (22, [.ref 118, .int w, .int 0], [.ref 118, .ref 118], (h.1, qm_up (qm_up (qm_up (qm_up (qm_up (qm_up (qm_up h.2.1 119 (n.toInt.toNat) v3) 118 2 v4) 119 (v4.toInt.toNat) v7) 118 2 v8) 119 (v8.toInt.toNat) v11) 118 2 v12) 119 (v12.toInt.toNat) v15, h.2.2.1, h.2.2.2))) rfl ?_
  refine hk_geti (v := v12) rfl (hH.1 118 (17, 105) rfl) rfl (show (qm_up (qm_up (qm_up (qm_up (qm_up (qm_up (qm_up h.2.1 119 (n.toInt.toNat) v3) 118 2 v4) 119 (v4.toInt.toNat) v7) 118 2 v8) 119 (v8.toInt.toNat) v11) 118 2 v12) 119 (v12.toInt.toNat) v15) 118 2 = _ from ((hk_ot rfl).trans (hk_same))) ?_
  refine qm_Ru.go 2 (c' := (27, [.ref 118, .int w, .int 0], [.int (v12 + 1), .ref 118], (h.1, qm_up (qm_up (qm_up (qm_up (qm_up (qm_up (qm_up h.2.1 119 (n.toInt.toNat) v3) 118 2 v4) 119 (v4.toInt.toNat) v7) 118 2 v8) 119 (v8.toInt.toNat) v11) 118 2 v12) 119 (v12.toInt.toNat) v15, h.2.2.1, h.2.2.2))) rfl ?_
  obtain ⟨v16, q_v16, e_v16⟩ := hk_add (x := v12) (y := 1) (a := v12.toInt) (b := 1) rfl rfl (by omega) (by omega)
  rw [q_v16]
  refine hk_puti rfl (hH.1 118 (17, 105) rfl) rfl ?_
  refine qm_Ru.go 4 (c' := (36, [.ref 118, .int w, .int (-8)], [], (h.1, qm_up (qm_up (qm_up (qm_up (qm_up (qm_up (qm_up (qm_up h.2.1 119 (n.toInt.toNat) v3) 118 2 v4) 119 (v4.toInt.toNat) v7) 118 2 v8) 119 (v8.toInt.toNat) v11) 118 2 v12) 119 (v12.toInt.toNat) v15) 118 2 v16, h.2.2.1, h.2.2.2))) rfl ?_
  refine qm_Ru.rt (v := none) (h' := (h.1, qm_up (qm_up (qm_up (qm_up (qm_up (qm_up (qm_up (qm_up h.2.1 119 (n.toInt.toNat) v3) 118 2 v4) 119 (v4.toInt.toNat) v7) 118 2 v8) 119 (v8.toInt.toNat) v11) 118 2 v12) 119 (v12.toInt.toNat) v15) 118 2 v16, h.2.2.1, h.2.2.2)) rfl ?_
  have ha : ∀ i : Nat, (i : Int) < n.toInt + 4 → (qm_up (qm_up (qm_up (qm_up (qm_up (qm_up (qm_up (qm_up h.2.1 119 (n.toInt.toNat) v3) 118 2 v4) 119 (v4.toInt.toNat) v7) 118 2 v8) 119 (v8.toInt.toNat) v11) 118 2 v12) 119 (v12.toInt.toNat) v15) 118 2 v16) 119 i = aC (h.2.1 119) n w i := by
    intro i hi
    unfold aC
    by_cases c : (i : Int) < n.toInt
    · rw [if_pos c]
      exact ((hk_ot rfl).trans ((hk_ni (by omega)).trans ((hk_ot rfl).trans ((hk_ni (by omega)).trans ((hk_ot rfl).trans ((hk_ni (by omega)).trans ((hk_ot rfl).trans ((hk_ni (by omega)).trans rfl))))))))
    · rw [if_neg c]
      by_cases c0 : (i : Int) = n.toInt + 0
      · rw [show i - n.toInt.toNat = 0 from by omega, show (qm_up (qm_up (qm_up (qm_up (qm_up (qm_up (qm_up (qm_up h.2.1 119 (n.toInt.toNat) v3) 118 2 v4) 119 (v4.toInt.toNat) v7) 118 2 v8) 119 (v8.toInt.toNat) v11) 118 2 v12) 119 (v12.toInt.toNat) v15) 118 2 v16) 119 i = v3 from ((hk_ot rfl).trans ((hk_ni (by omega)).trans ((hk_ot rfl).trans ((hk_ni (by omega)).trans ((hk_ot rfl).trans ((hk_ni (by omega)).trans ((hk_ot rfl).trans (hk_equ (by omega))))))))), ← q_v3, ← q_v2, ← q_v1]
        rfl
      by_cases c1 : (i : Int) = n.toInt + 1
      · rw [show i - n.toInt.toNat = 1 from by omega, show (qm_up (qm_up (qm_up (qm_up (qm_up (qm_up (qm_up (qm_up h.2.1 119 (n.toInt.toNat) v3) 118 2 v4) 119 (v4.toInt.toNat) v7) 118 2 v8) 119 (v8.toInt.toNat) v11) 118 2 v12) 119 (v12.toInt.toNat) v15) 118 2 v16) 119 i = v7 from ((hk_ot rfl).trans ((hk_ni (by omega)).trans ((hk_ot rfl).trans ((hk_ni (by omega)).trans ((hk_ot rfl).trans (hk_equ (by omega))))))), ← q_v7, ← q_v6, ← q_v5]
        rfl
      by_cases c2 : (i : Int) = n.toInt + 2
      · rw [show i - n.toInt.toNat = 2 from by omega, show (qm_up (qm_up (qm_up (qm_up (qm_up (qm_up (qm_up (qm_up h.2.1 119 (n.toInt.toNat) v3) 118 2 v4) 119 (v4.toInt.toNat) v7) 118 2 v8) 119 (v8.toInt.toNat) v11) 118 2 v12) 119 (v12.toInt.toNat) v15) 118 2 v16) 119 i = v11 from ((hk_ot rfl).trans ((hk_ni (by omega)).trans ((hk_ot rfl).trans (hk_equ (by omega))))), ← q_v11, ← q_v10, ← q_v9]
        rfl
      rw [show i - n.toInt.toNat = 3 from by omega, show (qm_up (qm_up (qm_up (qm_up (qm_up (qm_up (qm_up (qm_up h.2.1 119 (n.toInt.toNat) v3) 118 2 v4) 119 (v4.toInt.toNat) v7) 118 2 v8) 119 (v8.toInt.toNat) v11) 118 2 v12) 119 (v12.toInt.toNat) v15) 118 2 v16) 119 i = v15 from ((hk_ot rfl).trans (hk_equ (by omega))), ← q_v15, ← q_v14, ← q_v13]
      rfl
  exact k (qm_up (qm_up (qm_up (qm_up (qm_up (qm_up (qm_up (qm_up h.2.1 119 (n.toInt.toNat) v3) 118 2 v4) 119 (v4.toInt.toNat) v7) 118 2 v8) 119 (v8.toInt.toNat) v11) 118 2 v12) 119 (v12.toInt.toNat) v15) 118 2 v16) v16 (hb_up (o := 118) (k := 2) (x := v16) (hb_up (o := 119) (k := v12.toInt.toNat) (x := v15) (hb_up (o := 118) (k := 2) (x := v12) (hb_up (o := 119) (k := v8.toInt.toNat) (x := v11) (hb_up (o := 118) (k := 2) (x := v8) (hb_up (o := 119) (k := v4.toInt.toNat) (x := v7) (hb_up (o := 118) (k := 2) (x := v4) (hb_up (o := 119) (k := n.toInt.toNat) (x := v3) hB ⟨by show (-128 : Int) ≤ v3.toInt; omega, by show v3.toInt ≤ (127 : Int); omega⟩) ⟨by show (0 : Int) ≤ v4.toInt; omega, by show v4.toInt ≤ (2000 : Int); omega⟩) ⟨by show (-128 : Int) ≤ v7.toInt; omega, by show v7.toInt ≤ (127 : Int); omega⟩) ⟨by show (0 : Int) ≤ v8.toInt; omega, by show v8.toInt ≤ (2000 : Int); omega⟩) ⟨by show (-128 : Int) ≤ v11.toInt; omega, by show v11.toInt ≤ (127 : Int); omega⟩) ⟨by show (0 : Int) ≤ v12.toInt; omega, by show v12.toInt ≤ (2000 : Int); omega⟩) ⟨by show (-128 : Int) ≤ v15.toInt; omega, by show v15.toInt ≤ (127 : Int); omega⟩) ⟨by show (0 : Int) ≤ v16.toInt; omega, by show v16.toInt ≤ (2000 : Int); omega⟩) (fun o ho i => ((hk_mod ho rfl).trans ((hk_mod ho rfl).trans ((hk_mod ho rfl).trans ((hk_mod ho rfl).trans ((hk_mod ho rfl).trans ((hk_mod ho rfl).trans ((hk_mod ho rfl).trans ((hk_mod ho rfl).trans rfl))))))))) (fun i hi => ((hk_ni hi).trans ((hk_ot rfl).trans ((hk_ni hi).trans ((hk_ot rfl).trans ((hk_ni hi).trans ((hk_ot rfl).trans ((hk_ni hi).trans ((hk_ot rfl).trans rfl))))))))) hk_same (by omega) ha
theorem gS_0 {h : qm_H} {I : Nat → Nat → Int32} {J : Nat → Nat → Int64} (hS : gS h) (e : ∀ o, [1, 2, 118, 119].contains o = false → ∀ i, I o i = h.2.1 o i) (e1 : ∀ i, i ≠ 1 → I 1 i = h.2.1 1 i) (e118 : ∀ i, i ≠ 2 → I 118 i = h.2.1 118 i) : gS (h.1, I, J, h.2.2.2) := by
  refine gS_loc (t1 := 29) (t2 := 111) h I J (fun o i hf => ?_) hS
  cases hw : List.contains [1, 2, 118, 119] o with
  | false => exact e o hw i
  | true =>
    have hm := List.contains_iff_mem.mp hw
    have key : ∀ o ∈ [1, 2, 118, 119], qa_foot.contains o = false ∧ (qa_Psh o).isSome = true ∧ (o = 1 ∨ o = 118 ∨ ∀ q, qa_Psh o = some q → q.1 < 5) := by
      exact List.forall_mem_cons.mpr ⟨⟨by decide, rfl, Or.inl rfl⟩, List.forall_mem_cons.mpr ⟨⟨by decide, rfl, Or.inr (Or.inr ((fun q e => by cases e; decide)))⟩, List.forall_mem_cons.mpr ⟨⟨by decide, rfl, Or.inr (Or.inl rfl)⟩, List.forall_mem_cons.mpr ⟨⟨by decide, rfl, Or.inr (Or.inr ((fun q e => by cases e; decide)))⟩, fun _ h => absurd h List.not_mem_nil⟩⟩⟩⟩
    obtain ⟨k1, k2, k3⟩ := key o hm
    rcases hf with z | z | ⟨z, q, z1, z2⟩
    · have z : qa_foot.contains o = true := z
      rw [k1] at z
      cases z
    · have z : qa_Psh o = none := z
      rw [z] at k2
      cases k2
    · have z : qa_foot.contains (1000000 + 1000 * o + i) = true := z
      rcases k3 with rfl | rfl | k3
      · refine e1 i (fun c => ?_)
        subst c
        exact absurd z (by decide)
      · refine e118 i (fun c => ?_)
        subst c
        exact absurd z (by decide)
      · have := k3 q z1
        omega
theorem qv_0 {L : Nat} {xs : Nat → Int32} {Z : Option Value → qm_H → Prop} (h6 : 6 ≤ L) (hl : L ≤ 3072) : qv_PB tb tb L xs Z 0 := by
  intro i h i0 i1 hI hE
  obtain ⟨j1, hB, j3, ⟨⟨⟨hS, hX⟩, hZ⟩, t⟩, -⟩ := hI
  have hH : hk_H h := ⟨j1, j3⟩
  have b_i : 0 ≤ i.toInt ∧ i.toInt ≤ 3066 := by omega
  obtain ⟨n0, q_n0⟩ : ∃ v, h.2.1 1 1 = v := ⟨_, rfl⟩
  have p_n0 : h.2.1 118 2 = n0 := hS.2.1.symm.trans q_n0
  have b_n0 : (0 : Int) ≤ n0.toInt ∧ n0.toInt ≤ 2000 := by rw [← q_n0]; exact hB 1 1
  show qm_Ru (some (L, xs)) 300 cd_law (280, [.retAddr 0, .ref 0, .ref 118, .int i], [], h) Z
  refine qm_Ru.go 5 (c' := (285, [.retAddr 0, .ref 0, .ref 118, .int i], [.int (i + 1), .retAddr 0, .ref 0], h)) rfl ?_
  obtain ⟨v1, q_v1, e_v1⟩ := hk_add (x := i) (y := 1) (a := i.toInt) (b := 1) rfl rfl (by omega) (by omega)
  rw [q_v1]
  obtain ⟨s2, q_s2⟩ : ∃ v_, xs (v1).toNatClampNeg = v_ := ⟨_, rfl⟩
  have := hk_rng s2
  refine hk_scr (v := s2) rfl (by omega) (by omega) q_s2 ?_
  refine qm_Ru.go 4 (c' := (290, [.retAddr 0, .ref 0, .ref 118, .int i], [.int (i + 2), .retAddr 0, .int s2, .ref 0], h)) rfl ?_
  obtain ⟨v3, q_v3, e_v3⟩ := hk_add (x := i) (y := 2) (a := i.toInt) (b := 2) rfl rfl (by omega) (by omega)
  rw [q_v3]
  obtain ⟨s4, q_s4⟩ : ∃ v_, xs (v3).toNatClampNeg = v_ := ⟨_, rfl⟩
  have := hk_rng s4
  refine hk_scr (v := s4) rfl (by omega) (by omega) q_s4 ?_
  refine qm_Ru.go 4 (c' := (295, [.retAddr 0, .ref 0, .ref 118, .int i], [.int (i + 3), .retAddr 0, .int s4, .int s2, .ref 0], h)) rfl ?_
  obtain ⟨v5, q_v5, e_v5⟩ := hk_add (x := i) (y := 3) (a := i.toInt) (b := 3) rfl rfl (by omega) (by omega)
  rw [q_v5]
  obtain ⟨s6, q_s6⟩ : ∃ v_, xs (v5).toNatClampNeg = v_ := ⟨_, rfl⟩
  have := hk_rng s6
  refine hk_scr (v := s6) rfl (by omega) (by omega) q_s6 ?_
  refine qm_Ru.go 4 (c' := (300, [.retAddr 0, .ref 0, .ref 118, .int i], [.int (i + 4), .retAddr 0, .int s6, .int s4, .int s2, .ref 0], h)) rfl ?_
  obtain ⟨v7, q_v7, e_v7⟩ := hk_add (x := i) (y := 4) (a := i.toInt) (b := 4) rfl rfl (by omega) (by omega)
  rw [q_v7]
  obtain ⟨s8, q_s8⟩ : ∃ v_, xs (v7).toNatClampNeg = v_ := ⟨_, rfl⟩
  have := hk_rng s8
  refine hk_scr (v := s8) rfl (by omega) (by omega) q_s8 ?_
  refine qm_Ru.go 4 (c' := (305, [.retAddr 0, .ref 0, .ref 118, .int i], [.int (i + 5), .retAddr 0, .int s8, .int s6, .int s4, .int s2, .ref 0], h)) rfl ?_
  obtain ⟨v9, q_v9, e_v9⟩ := hk_add (x := i) (y := 5) (a := i.toInt) (b := 5) rfl rfl (by omega) (by omega)
  rw [q_v9]
  obtain ⟨s10, q_s10⟩ : ∃ v_, xs (v9).toNatClampNeg = v_ := ⟨_, rfl⟩
  have := hk_rng s10
  refine hk_scr (v := s10) rfl (by omega) (by omega) q_s10 ?_
  refine qm_Ru.go 0 (c' := (306, [.retAddr 0, .ref 0, .ref 118, .int i], [.int s10, .int s8, .int s6, .int s4, .int s2, .ref 0], h)) rfl ?_
  refine hk_inv (o := 0) (r := []) (as := [.ref 0, .int s2, .int s4, .int s6, .int s8, .int s10]) rfl rfl (hH.1 0 (16, 10) rfl) rfl rfl rfl rfl ?_
  refine qm_Ru.go 1 (c' := (1, [.ref 0, .int s2, .int s4, .int s6, .int s8, .int s10], [.ref 0], h)) rfl ?_
  refine hk_getr rfl (hH.1 0 (16, 10) rfl) rfl (hH.2 0 0 (some 1) rfl) ?_
  refine qm_Ru.go 1 (c' := (6, [.ref 0, .int s2, .int s4, .int s6, .int s8, .int s10], [.int 20, .ref 1], h)) rfl ?_
  refine hk_inv (o := 1) (r := []) (as := [.ref 1, .int 20]) rfl rfl (hH.1 1 (12, 7) rfl) rfl rfl rfl rfl ?_
  refine qm_Ru.go 1 (c' := (1, [.ref 1, .int 20], [.ref 1], h)) rfl ?_
  refine hk_geti (v := n0) rfl (hH.1 1 (12, 7) rfl) rfl q_n0 ?_
  refine qm_Ru.go 2 (c' := (6, [.ref 1, .int 20], [.int (n0 + 20)], h)) rfl ?_
  obtain ⟨v11, q_v11, e_v11⟩ := hk_add (x := n0) (y := 20) (a := n0.toInt) (b := 20) rfl rfl (by omega) (by omega)
  rw [q_v11]
  refine qm_Ru.go 1 (c' := (9, [.ref 1, .int 20], [.int 2000, .int v11], h)) rfl ?_
  refine hk_cgt (ix := v11.toInt) (iy := 2000) rfl rfl rfl (fun z12 => ?_) (fun z12 => ?_)
  · refine qm_Ru.go 1 (c' := (17, [.ref 1, .int 20], [.int 0], h)) rfl ?_
    refine qm_Ru.rt (v := (some (.int 0))) (h' := h) rfl ?_
    refine qm_Ru.go 2 (c' := (13, [.ref 0, .int s2, .int s4, .int s6, .int s8, .int s10], [.int (-1)], h)) rfl ?_
    refine qm_Ru.rt (v := (some (.int (-1)))) (h' := h) rfl ?_
    refine qm_Ru.go 6 (c' := (315, [.retAddr 0, .ref 0, .ref 118, .int i], [.int (i + 1), .retAddr 0, .ref 118], h)) rfl ?_
    rw [q_v1]
    refine hk_scr (v := s2) rfl (by omega) (by omega) q_s2 ?_
    refine qm_Ru.go 4 (c' := (320, [.retAddr 0, .ref 0, .ref 118, .int i], [.int (i + 2), .retAddr 0, .int s2, .ref 118], h)) rfl ?_
    rw [q_v3]
    refine hk_scr (v := s4) rfl (by omega) (by omega) q_s4 ?_
    refine qm_Ru.go 4 (c' := (325, [.retAddr 0, .ref 0, .ref 118, .int i], [.int (i + 3), .retAddr 0, .int s4, .int s2, .ref 118], h)) rfl ?_
    rw [q_v5]
    refine hk_scr (v := s6) rfl (by omega) (by omega) q_s6 ?_
    refine qm_Ru.go 4 (c' := (330, [.retAddr 0, .ref 0, .ref 118, .int i], [.int (i + 4), .retAddr 0, .int s6, .int s4, .int s2, .ref 118], h)) rfl ?_
    rw [q_v7]
    refine hk_scr (v := s8) rfl (by omega) (by omega) q_s8 ?_
    refine qm_Ru.go 4 (c' := (335, [.retAddr 0, .ref 0, .ref 118, .int i], [.int (i + 5), .retAddr 0, .int s8, .int s6, .int s4, .int s2, .ref 118], h)) rfl ?_
    rw [q_v9]
    refine hk_scr (v := s10) rfl (by omega) (by omega) q_s10 ?_
    refine qm_Ru.go 0 (c' := (336, [.retAddr 0, .ref 0, .ref 118, .int i], [.int s10, .int s8, .int s6, .int s4, .int s2, .ref 118], h)) rfl ?_
    refine hk_inv (o := 118) (r := []) (as := [.ref 118, .int s2, .int s4, .int s6, .int s8, .int s10]) rfl rfl (hH.1 118 (17, 105) rfl) rfl rfl rfl rfl ?_
    refine qm_Ru.go 1 (c' := (1, [.ref 118, .int s2, .int s4, .int s6, .int s8, .int s10], [.ref 118], h)) rfl ?_
    refine hk_geti (v := n0) rfl (hH.1 118 (17, 105) rfl) rfl p_n0 ?_
    refine qm_Ru.go 2 (c' := (7, [.ref 118, .int s2, .int s4, .int s6, .int s8, .int s10], [.int (n0 + 20)], h)) rfl ?_
    rw [q_v11]
    refine qm_Ru.go 1 (c' := (10, [.ref 118, .int s2, .int s4, .int s6, .int s8, .int s10], [.int 2000, .int v11], h)) rfl ?_
    refine hk_cle (ix := v11.toInt) (iy := 2000) rfl rfl rfl (fun z19 => by exfalso; omega) (fun z19 => ?_)
    refine qm_Ru.go 1 (c' := (14, [.ref 118, .int s2, .int s4, .int s6, .int s8, .int s10], [.int (-1)], h)) rfl ?_
    refine qm_Ru.rt (v := (some (.int (-1)))) (h' := h) rfl ?_
    refine qm_Ru.go 3 (c' := (2081, [.retAddr 0, .ref 0, .ref 118, .int (i + 6)], [], h)) rfl ?_
    obtain ⟨v20, q_v20, e_v20⟩ := hk_add (x := i) (y := 6) (a := i.toInt) (b := 6) rfl rfl (by omega) (by omega)
    rw [q_v20]
    refine qm_Ru.go 1 (c' := (18, [.retAddr 0, .ref 0, .ref 118, .int v20], [], h)) rfl ?_
    have hG : gR (h.2.1) := hS.2
    have hS1 : gS (h.1, h.2.1, h.2.2.1, h.2.2.2) := hS.1
    have hS2 : gS2 (h.1, h.2.1, h.2.2.1, h.2.2.2) := ⟨hS1, hG⟩
    have hX3 : gX (h.1, h.2.1, h.2.2.1, h.2.2.2) := hX
    have hZ3 : (gZB tb) (h.1, h.2.1, h.2.2.1, h.2.2.2) := hZ
    exact hE _ v20 (by omega) (qa_Inv_of0 ⟨hH.1, hH.2⟩ hB ⟨⟨⟨hS2, hX3⟩, hZ3⟩, t⟩ (gS2_ru hS2))
  · refine qm_Ru.go 2 (c' := (17, [.ref 1, .int 20], [.int 1], h)) rfl ?_
    refine qm_Ru.rt (v := (some (.int 1))) (h' := h) rfl ?_
    refine qm_Ru.go 2 (c' := (15, [.ref 0, .int s2, .int s4, .int s6, .int s8, .int s10], [.ref 0], h)) rfl ?_
    refine hk_getr rfl (hH.1 0 (16, 10) rfl) rfl (hH.2 0 0 (some 1) rfl) ?_
    refine qm_Ru.go 1 (c' := (19, [.ref 0, .int s2, .int s4, .int s6, .int s8, .int s10], [.int s2, .ref 1], h)) rfl ?_
    refine hk_inv (o := 1) (r := []) (as := [.ref 1, .int s2]) rfl rfl (hH.1 1 (12, 7) rfl) rfl rfl rfl rfl (hs_app (h := h) hH hB (n := n0) q_n0 (by omega) (fun I21 m23 hB_I21 e_I21 e8_I21 q_m23 g_m23 a_I21 => ?_))
    have e_I21 : ∀ o, [1, 2].contains o = false → ∀ i, I21 o i = (h.2.1) o i := e_I21
    have e8_I21 : ∀ i, i ≠ 1 → I21 1 i = (h.2.1) 1 i := e8_I21
    have a_I21 : ∀ i : Nat, (i : Int) < n0.toInt + 4 → I21 2 i = aC ((h.2.1) 2) n0 s2 i := a_I21
    have d_I21 : ∀ i : Nat, (i : Int) < m23.toInt → I21 2 i = (aC (h.2.1 2) n0 s2) i := fun i hi => (a_I21 i (by omega)).trans (aC_cg (fun j hj => rfl))
    refine qm_Ru.go 1 (c' := (23, [.ref 0, .int s2, .int s4, .int s6, .int s8, .int s10], [.ref 0], (h.1, I21, h.2.2.1, h.2.2.2))) rfl ?_
    refine hk_getr rfl (hH.1 0 (16, 10) rfl) rfl (hH.2 0 0 (some 1) rfl) ?_
    refine qm_Ru.go 1 (c' := (27, [.ref 0, .int s2, .int s4, .int s6, .int s8, .int s10], [.int s4, .ref 1], (h.1, I21, h.2.2.1, h.2.2.2))) rfl ?_
    refine hk_inv (o := 1) (r := []) (as := [.ref 1, .int s4]) rfl rfl (hH.1 1 (12, 7) rfl) rfl rfl rfl rfl (hs_app (h := (h.1, I21, h.2.2.1, h.2.2.2)) hH hB_I21 (n := m23) q_m23 (by omega) (fun I24 m26 hB_I24 e_I24 e8_I24 q_m26 g_m26 a_I24 => ?_))
    have e_I24 : ∀ o, [1, 2].contains o = false → ∀ i, I24 o i = (I21) o i := e_I24
    have e8_I24 : ∀ i, i ≠ 1 → I24 1 i = (I21) 1 i := e8_I24
    have a_I24 : ∀ i : Nat, (i : Int) < m23.toInt + 4 → I24 2 i = aC ((I21) 2) m23 s4 i := a_I24
    have d_I24 : ∀ i : Nat, (i : Int) < m26.toInt → I24 2 i = (aC (aC (h.2.1 2) n0 s2) m23 s4) i := fun i hi => (a_I24 i (by omega)).trans (aC_cg (fun j hj => d_I21 j hj))
    refine qm_Ru.go 1 (c' := (31, [.ref 0, .int s2, .int s4, .int s6, .int s8, .int s10], [.ref 0], (h.1, I24, h.2.2.1, h.2.2.2))) rfl ?_
    refine hk_getr rfl (hH.1 0 (16, 10) rfl) rfl (hH.2 0 0 (some 1) rfl) ?_
    refine qm_Ru.go 1 (c' := (35, [.ref 0, .int s2, .int s4, .int s6, .int s8, .int s10], [.int s6, .ref 1], (h.1, I24, h.2.2.1, h.2.2.2))) rfl ?_
    refine hk_inv (o := 1) (r := []) (as := [.ref 1, .int s6]) rfl rfl (hH.1 1 (12, 7) rfl) rfl rfl rfl rfl (hs_app (h := (h.1, I24, h.2.2.1, h.2.2.2)) hH hB_I24 (n := m26) q_m26 (by omega) (fun I27 m29 hB_I27 e_I27 e8_I27 q_m29 g_m29 a_I27 => ?_))
    have e_I27 : ∀ o, [1, 2].contains o = false → ∀ i, I27 o i = (I24) o i := e_I27
    have e8_I27 : ∀ i, i ≠ 1 → I27 1 i = (I24) 1 i := e8_I27
    have a_I27 : ∀ i : Nat, (i : Int) < m26.toInt + 4 → I27 2 i = aC ((I24) 2) m26 s6 i := a_I27
    have d_I27 : ∀ i : Nat, (i : Int) < m29.toInt → I27 2 i = (aC (aC (aC (h.2.1 2) n0 s2) m23 s4) m26 s6) i := fun i hi => (a_I27 i (by omega)).trans (aC_cg (fun j hj => d_I24 j hj))
    refine qm_Ru.go 1 (c' := (39, [.ref 0, .int s2, .int s4, .int s6, .int s8, .int s10], [.ref 0], (h.1, I27, h.2.2.1, h.2.2.2))) rfl ?_
    refine hk_getr rfl (hH.1 0 (16, 10) rfl) rfl (hH.2 0 0 (some 1) rfl) ?_
    refine qm_Ru.go 1 (c' := (44, [.ref 0, .int s2, .int s4, .int s6, .int s8, .int s10], [.int s8, .ref 1], (h.1, I27, h.2.2.1, h.2.2.2))) rfl ?_
    refine hk_inv (o := 1) (r := []) (as := [.ref 1, .int s8]) rfl rfl (hH.1 1 (12, 7) rfl) rfl rfl rfl rfl (hs_app (h := (h.1, I27, h.2.2.1, h.2.2.2)) hH hB_I27 (n := m29) q_m29 (by omega) (fun I30 m32 hB_I30 e_I30 e8_I30 q_m32 g_m32 a_I30 => ?_))
    have e_I30 : ∀ o, [1, 2].contains o = false → ∀ i, I30 o i = (I27) o i := e_I30
    have e8_I30 : ∀ i, i ≠ 1 → I30 1 i = (I27) 1 i := e8_I30
    have a_I30 : ∀ i : Nat, (i : Int) < m29.toInt + 4 → I30 2 i = aC ((I27) 2) m29 s8 i := a_I30
    have d_I30 : ∀ i : Nat, (i : Int) < m32.toInt → I30 2 i = (aC (aC (aC (aC (h.2.1 2) n0 s2) m23 s4) m26 s6) m29 s8) i := fun i hi => (a_I30 i (by omega)).trans (aC_cg (fun j hj => d_I27 j hj))
    refine qm_Ru.go 1 (c' := (48, [.ref 0, .int s2, .int s4, .int s6, .int s8, .int s10], [.ref 0], (h.1, I30, h.2.2.1, h.2.2.2))) rfl ?_
    refine hk_getr rfl (hH.1 0 (16, 10) rfl) rfl (hH.2 0 0 (some 1) rfl) ?_
    refine qm_Ru.go 1 (c' := (53, [.ref 0, .int s2, .int s4, .int s6, .int s8, .int s10], [.int s10, .ref 1], (h.1, I30, h.2.2.1, h.2.2.2))) rfl ?_
    refine hk_inv (o := 1) (r := []) (as := [.ref 1, .int s10]) rfl rfl (hH.1 1 (12, 7) rfl) rfl rfl rfl rfl (hs_app (h := (h.1, I30, h.2.2.1, h.2.2.2)) hH hB_I30 (n := m32) q_m32 (by omega) (fun I33 m35 hB_I33 e_I33 e8_I33 q_m35 g_m35 a_I33 => ?_))
    have e_I33 : ∀ o, [1, 2].contains o = false → ∀ i, I33 o i = (I30) o i := e_I33
    have e8_I33 : ∀ i, i ≠ 1 → I33 1 i = (I30) 1 i := e8_I33
    have a_I33 : ∀ i : Nat, (i : Int) < m32.toInt + 4 → I33 2 i = aC ((I30) 2) m32 s10 i := a_I33
    have d_I33 : ∀ i : Nat, (i : Int) < m35.toInt → I33 2 i = (aC (aC (aC (aC (aC (h.2.1 2) n0 s2) m23 s4) m26 s6) m29 s8) m32 s10) i := fun i hi => (a_I33 i (by omega)).trans (aC_cg (fun j hj => d_I30 j hj))
    refine qm_Ru.go 1 (c' := (57, [.ref 0, .int s2, .int s4, .int s6, .int s8, .int s10], [.ref 0], (h.1, I33, h.2.2.1, h.2.2.2))) rfl ?_
    refine hk_getr rfl (hH.1 0 (16, 10) rfl) rfl (hH.2 0 0 (some 1) rfl) ?_
    refine qm_Ru.go 0 (c' := (60, [.ref 0, .int s2, .int s4, .int s6, .int s8, .int s10], [.ref 1], (h.1, I33, h.2.2.1, h.2.2.2))) rfl ?_
    refine hk_geti (v := m35) rfl (hH.1 1 (12, 7) rfl) rfl q_m35 ?_
    refine qm_Ru.go 0 (c' := (63, [.ref 0, .int s2, .int s4, .int s6, .int s8, .int s10], [.int m35], (h.1, I33, h.2.2.1, h.2.2.2))) rfl ?_
    refine qm_Ru.rt (v := (some (.int m35))) (h' := (h.1, I33, h.2.2.1, h.2.2.2)) rfl ?_
    refine qm_Ru.go 6 (c' := (315, [.retAddr 0, .ref 0, .ref 118, .int i], [.int (i + 1), .retAddr 0, .ref 118], (h.1, I33, h.2.2.1, h.2.2.2))) rfl ?_
    rw [q_v1]
    refine hk_scr (v := s2) rfl (by omega) (by omega) q_s2 ?_
    refine qm_Ru.go 4 (c' := (320, [.retAddr 0, .ref 0, .ref 118, .int i], [.int (i + 2), .retAddr 0, .int s2, .ref 118], (h.1, I33, h.2.2.1, h.2.2.2))) rfl ?_
    rw [q_v3]
    refine hk_scr (v := s4) rfl (by omega) (by omega) q_s4 ?_
    refine qm_Ru.go 4 (c' := (325, [.retAddr 0, .ref 0, .ref 118, .int i], [.int (i + 3), .retAddr 0, .int s4, .int s2, .ref 118], (h.1, I33, h.2.2.1, h.2.2.2))) rfl ?_
    rw [q_v5]
    refine hk_scr (v := s6) rfl (by omega) (by omega) q_s6 ?_
    refine qm_Ru.go 4 (c' := (330, [.retAddr 0, .ref 0, .ref 118, .int i], [.int (i + 4), .retAddr 0, .int s6, .int s4, .int s2, .ref 118], (h.1, I33, h.2.2.1, h.2.2.2))) rfl ?_
    rw [q_v7]
    refine hk_scr (v := s8) rfl (by omega) (by omega) q_s8 ?_
    refine qm_Ru.go 4 (c' := (335, [.retAddr 0, .ref 0, .ref 118, .int i], [.int (i + 5), .retAddr 0, .int s8, .int s6, .int s4, .int s2, .ref 118], (h.1, I33, h.2.2.1, h.2.2.2))) rfl ?_
    rw [q_v9]
    refine hk_scr (v := s10) rfl (by omega) (by omega) q_s10 ?_
    refine qm_Ru.go 0 (c' := (336, [.retAddr 0, .ref 0, .ref 118, .int i], [.int s10, .int s8, .int s6, .int s4, .int s2, .ref 118], (h.1, I33, h.2.2.1, h.2.2.2))) rfl ?_
    refine hk_inv (o := 118) (r := []) (as := [.ref 118, .int s2, .int s4, .int s6, .int s8, .int s10]) rfl rfl (hH.1 118 (17, 105) rfl) rfl rfl rfl rfl ?_
    refine qm_Ru.go 1 (c' := (1, [.ref 118, .int s2, .int s4, .int s6, .int s8, .int s10], [.ref 118], (h.1, I33, h.2.2.1, h.2.2.2))) rfl ?_
    refine hk_geti (v := n0) rfl (hH.1 118 (17, 105) rfl) rfl (show (I33) 118 2 = _ from ((e_I33 118 rfl 2).trans ((e_I30 118 rfl 2).trans ((e_I27 118 rfl 2).trans ((e_I24 118 rfl 2).trans ((e_I21 118 rfl 2).trans p_n0)))))) ?_
    refine qm_Ru.go 2 (c' := (7, [.ref 118, .int s2, .int s4, .int s6, .int s8, .int s10], [.int (n0 + 20)], (h.1, I33, h.2.2.1, h.2.2.2))) rfl ?_
    rw [q_v11]
    refine qm_Ru.go 1 (c' := (10, [.ref 118, .int s2, .int s4, .int s6, .int s8, .int s10], [.int 2000, .int v11], (h.1, I33, h.2.2.1, h.2.2.2))) rfl ?_
    refine hk_cle (ix := v11.toInt) (iy := 2000) rfl rfl rfl (fun z42 => ?_) (fun z42 => by exfalso; omega)
    refine qm_Ru.go 2 (c' := (17, [.ref 118, .int s2, .int s4, .int s6, .int s8, .int s10], [.int s2, .ref 118], (h.1, I33, h.2.2.1, h.2.2.2))) rfl ?_
    refine hk_inv (o := 118) (r := []) (as := [.ref 118, .int s2]) rfl rfl (hH.1 118 (17, 105) rfl) rfl rfl rfl rfl (hs_put (h := (h.1, I33, h.2.2.1, h.2.2.2)) hH hB_I33 (n := n0) (show (I33) 118 2 = _ from ((e_I33 118 rfl 2).trans ((e_I30 118 rfl 2).trans ((e_I27 118 rfl 2).trans ((e_I24 118 rfl 2).trans ((e_I21 118 rfl 2).trans p_n0)))))) (by omega) (fun I43 m45 hB_I43 e_I43 e8_I43 q_m45 g_m45 a_I43 => ?_))
    have e_I43 : ∀ o, [118, 119].contains o = false → ∀ i, I43 o i = (I33) o i := e_I43
    have e8_I43 : ∀ i, i ≠ 2 → I43 118 i = (I33) 118 i := e8_I43
    have a_I43 : ∀ i : Nat, (i : Int) < n0.toInt + 4 → I43 119 i = aC ((I33) 119) n0 s2 i := a_I43
    have d_I43 : ∀ i : Nat, (i : Int) < m45.toInt → I43 119 i = (aC (h.2.1 2) n0 s2) i := fun i hi => (a_I43 i (by omega)).trans (aC_cg (fun j hj => (((e_I33 119 rfl j).trans ((e_I30 119 rfl j).trans ((e_I27 119 rfl j).trans ((e_I24 119 rfl j).trans ((e_I21 119 rfl j).trans rfl)))))).trans (hX.1.1 j (by rw [q_n0]; exact hj)).symm))
    refine qm_Ru.go 2 (c' := (22, [.ref 118, .int s2, .int s4, .int s6, .int s8, .int s10], [.int s4, .ref 118], (h.1, I43, h.2.2.1, h.2.2.2))) rfl ?_
    refine hk_inv (o := 118) (r := []) (as := [.ref 118, .int s4]) rfl rfl (hH.1 118 (17, 105) rfl) rfl rfl rfl rfl (hs_put (h := (h.1, I43, h.2.2.1, h.2.2.2)) hH hB_I43 (n := m45) q_m45 (by omega) (fun I46 m48 hB_I46 e_I46 e8_I46 q_m48 g_m48 a_I46 => ?_))
    have e_I46 : ∀ o, [118, 119].contains o = false → ∀ i, I46 o i = (I43) o i := e_I46
    have e8_I46 : ∀ i, i ≠ 2 → I46 118 i = (I43) 118 i := e8_I46
    have a_I46 : ∀ i : Nat, (i : Int) < m45.toInt + 4 → I46 119 i = aC ((I43) 119) m45 s4 i := a_I46
    have d_I46 : ∀ i : Nat, (i : Int) < m48.toInt → I46 119 i = (aC (aC (h.2.1 2) n0 s2) m45 s4) i := fun i hi => (a_I46 i (by omega)).trans (aC_cg (fun j hj => d_I43 j hj))
    refine qm_Ru.go 2 (c' := (27, [.ref 118, .int s2, .int s4, .int s6, .int s8, .int s10], [.int s6, .ref 118], (h.1, I46, h.2.2.1, h.2.2.2))) rfl ?_
    refine hk_inv (o := 118) (r := []) (as := [.ref 118, .int s6]) rfl rfl (hH.1 118 (17, 105) rfl) rfl rfl rfl rfl (hs_put (h := (h.1, I46, h.2.2.1, h.2.2.2)) hH hB_I46 (n := m48) q_m48 (by omega) (fun I49 m51 hB_I49 e_I49 e8_I49 q_m51 g_m51 a_I49 => ?_))
    have e_I49 : ∀ o, [118, 119].contains o = false → ∀ i, I49 o i = (I46) o i := e_I49
    have e8_I49 : ∀ i, i ≠ 2 → I49 118 i = (I46) 118 i := e8_I49
    have a_I49 : ∀ i : Nat, (i : Int) < m48.toInt + 4 → I49 119 i = aC ((I46) 119) m48 s6 i := a_I49
    have d_I49 : ∀ i : Nat, (i : Int) < m51.toInt → I49 119 i = (aC (aC (aC (h.2.1 2) n0 s2) m45 s4) m48 s6) i := fun i hi => (a_I49 i (by omega)).trans (aC_cg (fun j hj => d_I46 j hj))
    refine qm_Ru.go 2 (c' := (33, [.ref 118, .int s2, .int s4, .int s6, .int s8, .int s10], [.int s8, .ref 118], (h.1, I49, h.2.2.1, h.2.2.2))) rfl ?_
    refine hk_inv (o := 118) (r := []) (as := [.ref 118, .int s8]) rfl rfl (hH.1 118 (17, 105) rfl) rfl rfl rfl rfl (hs_put (h := (h.1, I49, h.2.2.1, h.2.2.2)) hH hB_I49 (n := m51) q_m51 (by omega) (fun I52 m54 hB_I52 e_I52 e8_I52 q_m54 g_m54 a_I52 => ?_))
    have e_I52 : ∀ o, [118, 119].contains o = false → ∀ i, I52 o i = (I49) o i := e_I52
    have e8_I52 : ∀ i, i ≠ 2 → I52 118 i = (I49) 118 i := e8_I52
    have a_I52 : ∀ i : Nat, (i : Int) < m51.toInt + 4 → I52 119 i = aC ((I49) 119) m51 s8 i := a_I52
    have d_I52 : ∀ i : Nat, (i : Int) < m54.toInt → I52 119 i = (aC (aC (aC (aC (h.2.1 2) n0 s2) m45 s4) m48 s6) m51 s8) i := fun i hi => (a_I52 i (by omega)).trans (aC_cg (fun j hj => d_I49 j hj))
    refine qm_Ru.go 2 (c' := (39, [.ref 118, .int s2, .int s4, .int s6, .int s8, .int s10], [.int s10, .ref 118], (h.1, I52, h.2.2.1, h.2.2.2))) rfl ?_
    refine hk_inv (o := 118) (r := []) (as := [.ref 118, .int s10]) rfl rfl (hH.1 118 (17, 105) rfl) rfl rfl rfl rfl (hs_put (h := (h.1, I52, h.2.2.1, h.2.2.2)) hH hB_I52 (n := m54) q_m54 (by omega) (fun I55 m57 hB_I55 e_I55 e8_I55 q_m57 g_m57 a_I55 => ?_))
    have e_I55 : ∀ o, [118, 119].contains o = false → ∀ i, I55 o i = (I52) o i := e_I55
    have e8_I55 : ∀ i, i ≠ 2 → I55 118 i = (I52) 118 i := e8_I55
    have a_I55 : ∀ i : Nat, (i : Int) < m54.toInt + 4 → I55 119 i = aC ((I52) 119) m54 s10 i := a_I55
    have d_I55 : ∀ i : Nat, (i : Int) < m57.toInt → I55 119 i = (aC (aC (aC (aC (aC (h.2.1 2) n0 s2) m45 s4) m48 s6) m51 s8) m54 s10) i := fun i hi => (a_I55 i (by omega)).trans (aC_cg (fun j hj => d_I52 j hj))
    refine qm_Ru.go 1 (c' := (43, [.ref 118, .int s2, .int s4, .int s6, .int s8, .int s10], [.ref 118], (h.1, I55, h.2.2.1, h.2.2.2))) rfl ?_
    refine hk_geti (v := m57) rfl (hH.1 118 (17, 105) rfl) rfl q_m57 ?_
    refine qm_Ru.go 0 (c' := (46, [.ref 118, .int s2, .int s4, .int s6, .int s8, .int s10], [.int m57], (h.1, I55, h.2.2.1, h.2.2.2))) rfl ?_
    refine qm_Ru.rt (v := (some (.int m57))) (h' := (h.1, I55, h.2.2.1, h.2.2.2)) rfl ?_
    refine qm_Ru.go 3 (c' := (2081, [.retAddr 0, .ref 0, .ref 118, .int (i + 6)], [], (h.1, I55, h.2.2.1, h.2.2.2))) rfl ?_
    obtain ⟨v58, q_v58, e_v58⟩ := hk_add (x := i) (y := 6) (a := i.toInt) (b := 6) rfl rfl (by omega) (by omega)
    rw [q_v58]
    refine qm_Ru.go 1 (c' := (18, [.retAddr 0, .ref 0, .ref 118, .int v58], [], (h.1, I55, h.2.2.1, h.2.2.2))) rfl ?_
    have er : ∀ o, [1, 2, 118, 119].contains o = false → ∀ i, (I55) o i = h.2.1 o i := (fun o ho i => ((e_I55 o (hk_ms rfl ho) i).trans ((e_I52 o (hk_ms rfl ho) i).trans ((e_I49 o (hk_ms rfl ho) i).trans ((e_I46 o (hk_ms rfl ho) i).trans ((e_I43 o (hk_ms rfl ho) i).trans ((e_I33 o (hk_ms rfl ho) i).trans ((e_I30 o (hk_ms rfl ho) i).trans ((e_I27 o (hk_ms rfl ho) i).trans ((e_I24 o (hk_ms rfl ho) i).trans ((e_I21 o (hk_ms rfl ho) i).trans rfl)))))))))))
    have e1 : ∀ i, i ≠ 1 → (I55) 1 i = h.2.1 1 i := fun i hi => ((e_I55 1 rfl i).trans ((e_I52 1 rfl i).trans ((e_I49 1 rfl i).trans ((e_I46 1 rfl i).trans ((e_I43 1 rfl i).trans ((e8_I33 i hi).trans ((e8_I30 i hi).trans ((e8_I27 i hi).trans ((e8_I24 i hi).trans ((e8_I21 i hi).trans rfl))))))))))
    have e118 : ∀ i, i ≠ 2 → (I55) 118 i = h.2.1 118 i := fun i hi => ((e8_I55 i hi).trans ((e8_I52 i hi).trans ((e8_I49 i hi).trans ((e8_I46 i hi).trans ((e8_I43 i hi).trans ((e_I33 118 rfl i).trans ((e_I30 118 rfl i).trans ((e_I27 118 rfl i).trans ((e_I24 118 rfl i).trans ((e_I21 118 rfl i).trans rfl))))))))))
    have hG : gR (I55) := (gR_tape (I := h.2.1) (I2 := I55) hS.2 (fun o ho i => er o ((show ∀ o ∈ r_objs, [1, 2, 118, 119].contains o = false from by decide) o ho) i) (er 6 (by decide) 0) (er 42 (by decide) 7) (e118 44 (by decide)) (e118 70 (by decide)) (((show (I55) 1 1 = _ from ((e_I55 1 rfl 1).trans ((e_I52 1 rfl 1).trans ((e_I49 1 rfl 1).trans ((e_I46 1 rfl 1).trans ((e_I43 1 rfl 1).trans q_m35)))))).trans (hk_eqi.mpr (by omega))).trans q_m57.symm))
    have hS1 : gS (h.1, I55, h.2.2.1, h.2.2.2) := (gS_0 hS.1 er e1 e118)
    have hS2 : gS2 (h.1, I55, h.2.2.1, h.2.2.2) := ⟨hS1, hG⟩
    have hb : ∀ i : Nat, (i : Int) < ((I55) 1 1).toInt → (I55) 2 i = (I55) 119 i := by
      intro i hi
      rw [show (I55) 1 1 = m35 from (show (I55) 1 1 = _ from ((e_I55 1 rfl 1).trans ((e_I52 1 rfl 1).trans ((e_I49 1 rfl 1).trans ((e_I46 1 rfl 1).trans ((e_I43 1 rfl 1).trans q_m35))))))] at hi
      refine (((e_I55 2 rfl i).trans ((e_I52 2 rfl i).trans ((e_I49 2 rfl i).trans ((e_I46 2 rfl i).trans ((e_I43 2 rfl i).trans (d_I33 i (by omega)))))))).trans (Eq.trans ?_ ((d_I55 i (by omega))).symm)
      rw [show m45 = m23 from hk_eqi.mpr (by omega), show m48 = m26 from hk_eqi.mpr (by omega), show m51 = m29 from hk_eqi.mpr (by omega), show m54 = m32 from hk_eqi.mpr (by omega)]
    have hX3 : gX (h.1, I55, h.2.2.1, h.2.2.2) := ⟨⟨hb, (show (I55) 3 4 = h.2.1 3 4 from ((e_I55 3 rfl 4).trans ((e_I52 3 rfl 4).trans ((e_I49 3 rfl 4).trans ((e_I46 3 rfl 4).trans ((e_I43 3 rfl 4).trans ((e_I33 3 rfl 4).trans ((e_I30 3 rfl 4).trans ((e_I27 3 rfl 4).trans ((e_I24 3 rfl 4).trans ((e_I21 3 rfl 4).trans rfl))))))))))).trans (hX.1.2.trans (show (I55) 118 17 = h.2.1 118 17 from ((e8_I55 17 (by decide)).trans ((e8_I52 17 (by decide)).trans ((e8_I49 17 (by decide)).trans ((e8_I46 17 (by decide)).trans ((e8_I43 17 (by decide)).trans ((e_I33 118 rfl 17).trans ((e_I30 118 rfl 17).trans ((e_I27 118 rfl 17).trans ((e_I24 118 rfl 17).trans ((e_I21 118 rfl 17).trans rfl))))))))))).symm)⟩, hX.2⟩
    have hZ3 : (gZB tb) (h.1, I55, h.2.2.1, h.2.2.2) := (gZ_cg (h2 := (h.1, I55, h.2.2.1, h.2.2.2)) hZ (fun o ho i => ((e_I55 o (n_in3 ho rfl) i).trans ((e_I52 o (n_in3 ho rfl) i).trans ((e_I49 o (n_in3 ho rfl) i).trans ((e_I46 o (n_in3 ho rfl) i).trans ((e_I43 o (n_in3 ho rfl) i).trans ((e_I33 o (n_in3 ho rfl) i).trans ((e_I30 o (n_in3 ho rfl) i).trans ((e_I27 o (n_in3 ho rfl) i).trans ((e_I24 o (n_in3 ho rfl) i).trans ((e_I21 o (n_in3 ho rfl) i).trans rfl))))))))))) (show (I55) 6 0 = h.2.1 6 0 from ((e_I55 6 rfl 0).trans ((e_I52 6 rfl 0).trans ((e_I49 6 rfl 0).trans ((e_I46 6 rfl 0).trans ((e_I43 6 rfl 0).trans ((e_I33 6 rfl 0).trans ((e_I30 6 rfl 0).trans ((e_I27 6 rfl 0).trans ((e_I24 6 rfl 0).trans ((e_I21 6 rfl 0).trans rfl))))))))))) (fun i _ => show (I55) 28 i = h.2.1 28 i from ((e_I55 28 rfl i).trans ((e_I52 28 rfl i).trans ((e_I49 28 rfl i).trans ((e_I46 28 rfl i).trans ((e_I43 28 rfl i).trans ((e_I33 28 rfl i).trans ((e_I30 28 rfl i).trans ((e_I27 28 rfl i).trans ((e_I24 28 rfl i).trans ((e_I21 28 rfl i).trans rfl))))))))))) (fun i _ => show (I55) 29 i = h.2.1 29 i from ((e_I55 29 rfl i).trans ((e_I52 29 rfl i).trans ((e_I49 29 rfl i).trans ((e_I46 29 rfl i).trans ((e_I43 29 rfl i).trans ((e_I33 29 rfl i).trans ((e_I30 29 rfl i).trans ((e_I27 29 rfl i).trans ((e_I24 29 rfl i).trans ((e_I21 29 rfl i).trans rfl))))))))))) (fun i _ => show (I55) 111 i = h.2.1 111 i from ((e_I55 111 rfl i).trans ((e_I52 111 rfl i).trans ((e_I49 111 rfl i).trans ((e_I46 111 rfl i).trans ((e_I43 111 rfl i).trans ((e_I33 111 rfl i).trans ((e_I30 111 rfl i).trans ((e_I27 111 rfl i).trans ((e_I24 111 rfl i).trans ((e_I21 111 rfl i).trans rfl))))))))))) (fun i _ => show (I55) 51 i = h.2.1 51 i from ((e_I55 51 rfl i).trans ((e_I52 51 rfl i).trans ((e_I49 51 rfl i).trans ((e_I46 51 rfl i).trans ((e_I43 51 rfl i).trans ((e_I33 51 rfl i).trans ((e_I30 51 rfl i).trans ((e_I27 51 rfl i).trans ((e_I24 51 rfl i).trans ((e_I21 51 rfl i).trans rfl))))))))))) (List.forall_mem_cons.mpr ⟨(show (I55) 118 18 = h.2.1 118 18 from ((e8_I55 18 (by decide)).trans ((e8_I52 18 (by decide)).trans ((e8_I49 18 (by decide)).trans ((e8_I46 18 (by decide)).trans ((e8_I43 18 (by decide)).trans ((e_I33 118 rfl 18).trans ((e_I30 118 rfl 18).trans ((e_I27 118 rfl 18).trans ((e_I24 118 rfl 18).trans ((e_I21 118 rfl 18).trans rfl))))))))))), List.forall_mem_cons.mpr ⟨(show (I55) 118 44 = h.2.1 118 44 from ((e8_I55 44 (by decide)).trans ((e8_I52 44 (by decide)).trans ((e8_I49 44 (by decide)).trans ((e8_I46 44 (by decide)).trans ((e8_I43 44 (by decide)).trans ((e_I33 118 rfl 44).trans ((e_I30 118 rfl 44).trans ((e_I27 118 rfl 44).trans ((e_I24 118 rfl 44).trans ((e_I21 118 rfl 44).trans rfl))))))))))), List.forall_mem_cons.mpr ⟨(show (I55) 118 54 = h.2.1 118 54 from ((e8_I55 54 (by decide)).trans ((e8_I52 54 (by decide)).trans ((e8_I49 54 (by decide)).trans ((e8_I46 54 (by decide)).trans ((e8_I43 54 (by decide)).trans ((e_I33 118 rfl 54).trans ((e_I30 118 rfl 54).trans ((e_I27 118 rfl 54).trans ((e_I24 118 rfl 54).trans ((e_I21 118 rfl 54).trans rfl))))))))))), List.forall_mem_cons.mpr ⟨(show (I55) 118 75 = h.2.1 118 75 from ((e8_I55 75 (by decide)).trans ((e8_I52 75 (by decide)).trans ((e8_I49 75 (by decide)).trans ((e8_I46 75 (by decide)).trans ((e8_I43 75 (by decide)).trans ((e_I33 118 rfl 75).trans ((e_I30 118 rfl 75).trans ((e_I27 118 rfl 75).trans ((e_I24 118 rfl 75).trans ((e_I21 118 rfl 75).trans rfl))))))))))), List.forall_mem_cons.mpr ⟨(show (I55) 118 85 = h.2.1 118 85 from ((e8_I55 85 (by decide)).trans ((e8_I52 85 (by decide)).trans ((e8_I49 85 (by decide)).trans ((e8_I46 85 (by decide)).trans ((e8_I43 85 (by decide)).trans ((e_I33 118 rfl 85).trans ((e_I30 118 rfl 85).trans ((e_I27 118 rfl 85).trans ((e_I24 118 rfl 85).trans ((e_I21 118 rfl 85).trans rfl))))))))))), List.forall_mem_cons.mpr ⟨(show (I55) 118 91 = h.2.1 118 91 from ((e8_I55 91 (by decide)).trans ((e8_I52 91 (by decide)).trans ((e8_I49 91 (by decide)).trans ((e8_I46 91 (by decide)).trans ((e8_I43 91 (by decide)).trans ((e_I33 118 rfl 91).trans ((e_I30 118 rfl 91).trans ((e_I27 118 rfl 91).trans ((e_I24 118 rfl 91).trans ((e_I21 118 rfl 91).trans rfl))))))))))), List.forall_mem_cons.mpr ⟨(show (I55) 118 92 = h.2.1 118 92 from ((e8_I55 92 (by decide)).trans ((e8_I52 92 (by decide)).trans ((e8_I49 92 (by decide)).trans ((e8_I46 92 (by decide)).trans ((e8_I43 92 (by decide)).trans ((e_I33 118 rfl 92).trans ((e_I30 118 rfl 92).trans ((e_I27 118 rfl 92).trans ((e_I24 118 rfl 92).trans ((e_I21 118 rfl 92).trans rfl))))))))))), List.forall_mem_cons.mpr ⟨(show (I55) 118 93 = h.2.1 118 93 from ((e8_I55 93 (by decide)).trans ((e8_I52 93 (by decide)).trans ((e8_I49 93 (by decide)).trans ((e8_I46 93 (by decide)).trans ((e8_I43 93 (by decide)).trans ((e_I33 118 rfl 93).trans ((e_I30 118 rfl 93).trans ((e_I27 118 rfl 93).trans ((e_I24 118 rfl 93).trans ((e_I21 118 rfl 93).trans rfl))))))))))), List.forall_mem_cons.mpr ⟨(show (I55) 118 94 = h.2.1 118 94 from ((e8_I55 94 (by decide)).trans ((e8_I52 94 (by decide)).trans ((e8_I49 94 (by decide)).trans ((e8_I46 94 (by decide)).trans ((e8_I43 94 (by decide)).trans ((e_I33 118 rfl 94).trans ((e_I30 118 rfl 94).trans ((e_I27 118 rfl 94).trans ((e_I24 118 rfl 94).trans ((e_I21 118 rfl 94).trans rfl))))))))))), fun _ z => absurd z List.not_mem_nil⟩⟩⟩⟩⟩⟩⟩⟩⟩) rfl)
    exact hE _ v58 (by omega) (qa_Inv_of0 ⟨hH.1, hH.2⟩ hB_I55 ⟨⟨⟨hS2, hX3⟩, hZ3⟩, t⟩ (gS2_ru hS2))
theorem qv_1 {L : Nat} {xs : Nat → Int32} {Z : Option Value → qm_H → Prop} (h6 : 6 ≤ L) (hl : L ≤ 3072) : qv_PB tb tb L xs Z 1 := by
  intro i h i0 i1 hI hE
  obtain ⟨j1, hB, j3, ⟨⟨⟨hS, hX⟩, hZ⟩, t⟩, -⟩ := hI
  have hH : hk_H h := ⟨j1, j3⟩
  have b_i : 0 ≤ i.toInt ∧ i.toInt ≤ 3066 := by omega
  obtain ⟨n0, q_n0⟩ : ∃ v, h.2.1 1 1 = v := ⟨_, rfl⟩
  have p_n0 : h.2.1 118 2 = n0 := hS.2.1.symm.trans q_n0
  have b_n0 : (0 : Int) ≤ n0.toInt ∧ n0.toInt ≤ 2000 := by rw [← q_n0]; exact hB 1 1
  show qm_Ru (some (L, xs)) 300 cd_law (343, [.retAddr 0, .ref 0, .ref 118, .int i], [], h) Z
  refine qm_Ru.go 5 (c' := (348, [.retAddr 0, .ref 0, .ref 118, .int i], [.int (i + 1), .retAddr 0, .ref 0], h)) rfl ?_
  obtain ⟨v1, q_v1, e_v1⟩ := hk_add (x := i) (y := 1) (a := i.toInt) (b := 1) rfl rfl (by omega) (by omega)
  rw [q_v1]
  obtain ⟨s2, q_s2⟩ : ∃ v_, xs (v1).toNatClampNeg = v_ := ⟨_, rfl⟩
  have := hk_rng s2
  refine hk_scr (v := s2) rfl (by omega) (by omega) q_s2 ?_
  refine qm_Ru.go 0 (c' := (349, [.retAddr 0, .ref 0, .ref 118, .int i], [.int s2, .ref 0], h)) rfl ?_
  refine hk_inv (o := 0) (r := []) (as := [.ref 0, .int s2]) rfl rfl (hH.1 0 (16, 10) rfl) rfl rfl rfl rfl ?_
  refine qm_Ru.go 1 (c' := (1, [.ref 0, .int s2], [.int s2], h)) rfl ?_
  refine hk_zlt (ix := s2.toInt) rfl rfl (fun z3 => ?_) (fun z3 => ?_)
  · refine qm_Ru.go 1 (c' := (16, [.ref 0, .int s2], [.int (-1)], h)) rfl ?_
    refine qm_Ru.rt (v := (some (.int (-1)))) (h' := h) rfl ?_
    refine qm_Ru.go 6 (c' := (358, [.retAddr 0, .ref 0, .ref 118, .int i], [.int (i + 1), .retAddr 0, .ref 118], h)) rfl ?_
    rw [q_v1]
    refine hk_scr (v := s2) rfl (by omega) (by omega) q_s2 ?_
    refine qm_Ru.go 0 (c' := (359, [.retAddr 0, .ref 0, .ref 118, .int i], [.int s2, .ref 118], h)) rfl ?_
    refine hk_inv (o := 118) (r := []) (as := [.ref 118, .int s2]) rfl rfl (hH.1 118 (17, 105) rfl) rfl rfl rfl rfl ?_
    refine qm_Ru.go 1 (c' := (1, [.ref 118, .int s2], [.int s2], h)) rfl ?_
    refine hk_zlt (ix := s2.toInt) rfl rfl (fun z5 => ?_) (fun z5 => by exfalso; omega)
    refine qm_Ru.go 1 (c' := (13, [.ref 118, .int s2], [.int (-1)], h)) rfl ?_
    refine qm_Ru.rt (v := (some (.int (-1)))) (h' := h) rfl ?_
    refine qm_Ru.go 3 (c' := (2081, [.retAddr 0, .ref 0, .ref 118, .int (i + 6)], [], h)) rfl ?_
    obtain ⟨v6, q_v6, e_v6⟩ := hk_add (x := i) (y := 6) (a := i.toInt) (b := 6) rfl rfl (by omega) (by omega)
    rw [q_v6]
    refine qm_Ru.go 1 (c' := (18, [.retAddr 0, .ref 0, .ref 118, .int v6], [], h)) rfl ?_
    have hG : gR (h.2.1) := hS.2
    have hS1 : gS (h.1, h.2.1, h.2.2.1, h.2.2.2) := (show gS (h.1, h.2.1, h.2.2.1, h.2.2.2) from hS.1)
    have hS2 : gS2 (h.1, h.2.1, h.2.2.1, h.2.2.2) := ⟨hS1, hG⟩
    have hX3 : gX (h.1, h.2.1, h.2.2.1, h.2.2.2) := hX
    have hZ3 : (gZB tb) (h.1, h.2.1, h.2.2.1, h.2.2.2) := hZ
    exact hE _ v6 (by omega) (qa_Inv_of0 ⟨hH.1, hH.2⟩ hB ⟨⟨⟨hS2, hX3⟩, hZ3⟩, t⟩ (gS2_ru hS2))
  · refine qm_Ru.go 2 (c' := (6, [.ref 0, .int s2], [.ref 0, .int s2], h)) rfl ?_
    refine hk_getr rfl (hH.1 0 (16, 10) rfl) rfl (hH.2 0 0 (some 1) rfl) ?_
    refine qm_Ru.go 0 (c' := (9, [.ref 0, .int s2], [.ref 1, .int s2], h)) rfl ?_
    refine hk_geti (v := n0) rfl (hH.1 1 (12, 7) rfl) rfl q_n0 ?_
    refine qm_Ru.go 0 (c' := (12, [.ref 0, .int s2], [.int n0, .int s2], h)) rfl ?_
    refine hk_cle (ix := s2.toInt) (iy := n0.toInt) rfl rfl rfl (fun z7 => ?_) (fun z7 => ?_)
    · refine qm_Ru.go 1 (c' := (18, [.ref 0, .int s2], [.ref 0], h)) rfl ?_
      refine hk_getr rfl (hH.1 0 (16, 10) rfl) rfl (hH.2 0 0 (some 1) rfl) ?_
      refine qm_Ru.go 1 (c' := (22, [.ref 0, .int s2], [.ref 1, .ref 1], h)) rfl ?_
      refine hk_geti (v := n0) rfl (hH.1 1 (12, 7) rfl) rfl q_n0 ?_
      refine qm_Ru.go 2 (c' := (27, [.ref 0, .int s2], [.int (n0 - s2), .ref 1], h)) rfl ?_
      obtain ⟨v8, q_v8, e_v8⟩ := hk_sub (x := n0) (y := s2) (a := n0.toInt) (b := s2.toInt) rfl rfl (by omega) (by omega)
      rw [q_v8]
      refine hk_puti rfl (hH.1 1 (12, 7) rfl) rfl ?_
      refine qm_Ru.go 1 (c' := (31, [.ref 0, .int s2], [.ref 0], (h.1, qm_up h.2.1 1 1 v8, h.2.2.1, h.2.2.2))) rfl ?_
      refine hk_getr rfl (hH.1 0 (16, 10) rfl) rfl (hH.2 0 0 (some 1) rfl) ?_
      refine qm_Ru.go 0 (c' := (34, [.ref 0, .int s2], [.ref 1], (h.1, qm_up h.2.1 1 1 v8, h.2.2.1, h.2.2.2))) rfl ?_
      refine hk_geti (v := v8) rfl (hH.1 1 (12, 7) rfl) rfl (show (qm_up h.2.1 1 1 v8) 1 1 = _ from (hk_same)) ?_
      refine qm_Ru.go 0 (c' := (37, [.ref 0, .int s2], [.int v8], (h.1, qm_up h.2.1 1 1 v8, h.2.2.1, h.2.2.2))) rfl ?_
      refine qm_Ru.rt (v := (some (.int v8))) (h' := (h.1, qm_up h.2.1 1 1 v8, h.2.2.1, h.2.2.2)) rfl ?_
      refine qm_Ru.go 6 (c' := (358, [.retAddr 0, .ref 0, .ref 118, .int i], [.int (i + 1), .retAddr 0, .ref 118], (h.1, qm_up h.2.1 1 1 v8, h.2.2.1, h.2.2.2))) rfl ?_
      rw [q_v1]
      refine hk_scr (v := s2) rfl (by omega) (by omega) q_s2 ?_
      refine qm_Ru.go 0 (c' := (359, [.retAddr 0, .ref 0, .ref 118, .int i], [.int s2, .ref 118], (h.1, qm_up h.2.1 1 1 v8, h.2.2.1, h.2.2.2))) rfl ?_
      refine hk_inv (o := 118) (r := []) (as := [.ref 118, .int s2]) rfl rfl (hH.1 118 (17, 105) rfl) rfl rfl rfl rfl ?_
      refine qm_Ru.go 1 (c' := (1, [.ref 118, .int s2], [.int s2], (h.1, qm_up h.2.1 1 1 v8, h.2.2.1, h.2.2.2))) rfl ?_
      refine hk_zlt (ix := s2.toInt) rfl rfl (fun z10 => by exfalso; omega) (fun z10 => ?_)
      refine qm_Ru.go 2 (c' := (6, [.ref 118, .int s2], [.ref 118, .int s2], (h.1, qm_up h.2.1 1 1 v8, h.2.2.1, h.2.2.2))) rfl ?_
      refine hk_geti (v := n0) rfl (hH.1 118 (17, 105) rfl) rfl (show (qm_up h.2.1 1 1 v8) 118 2 = _ from ((hk_ot rfl).trans p_n0)) ?_
      refine qm_Ru.go 0 (c' := (9, [.ref 118, .int s2], [.int n0, .int s2], (h.1, qm_up h.2.1 1 1 v8, h.2.2.1, h.2.2.2))) rfl ?_
      refine hk_cle (ix := s2.toInt) (iy := n0.toInt) rfl rfl rfl (fun z11 => ?_) (fun z11 => by exfalso; omega)
      refine qm_Ru.go 2 (c' := (16, [.ref 118, .int s2], [.ref 118, .ref 118], (h.1, qm_up h.2.1 1 1 v8, h.2.2.1, h.2.2.2))) rfl ?_
      refine hk_geti (v := n0) rfl (hH.1 118 (17, 105) rfl) rfl (show (qm_up h.2.1 1 1 v8) 118 2 = _ from ((hk_ot rfl).trans p_n0)) ?_
      refine qm_Ru.go 2 (c' := (21, [.ref 118, .int s2], [.int (n0 - s2), .ref 118], (h.1, qm_up h.2.1 1 1 v8, h.2.2.1, h.2.2.2))) rfl ?_
      rw [q_v8]
      refine hk_puti rfl (hH.1 118 (17, 105) rfl) rfl ?_
      refine qm_Ru.go 1 (c' := (25, [.ref 118, .int s2], [.ref 118], (h.1, qm_up (qm_up h.2.1 1 1 v8) 118 2 v8, h.2.2.1, h.2.2.2))) rfl ?_
      refine hk_geti (v := v8) rfl (hH.1 118 (17, 105) rfl) rfl (show (qm_up (qm_up h.2.1 1 1 v8) 118 2 v8) 118 2 = _ from (hk_same)) ?_
      refine qm_Ru.go 0 (c' := (28, [.ref 118, .int s2], [.int v8], (h.1, qm_up (qm_up h.2.1 1 1 v8) 118 2 v8, h.2.2.1, h.2.2.2))) rfl ?_
      refine qm_Ru.rt (v := (some (.int v8))) (h' := (h.1, qm_up (qm_up h.2.1 1 1 v8) 118 2 v8, h.2.2.1, h.2.2.2)) rfl ?_
      refine qm_Ru.go 3 (c' := (2081, [.retAddr 0, .ref 0, .ref 118, .int (i + 6)], [], (h.1, qm_up (qm_up h.2.1 1 1 v8) 118 2 v8, h.2.2.1, h.2.2.2))) rfl ?_
      obtain ⟨v13, q_v13, e_v13⟩ := hk_add (x := i) (y := 6) (a := i.toInt) (b := 6) rfl rfl (by omega) (by omega)
      rw [q_v13]
      refine qm_Ru.go 1 (c' := (18, [.retAddr 0, .ref 0, .ref 118, .int v13], [], (h.1, qm_up (qm_up h.2.1 1 1 v8) 118 2 v8, h.2.2.1, h.2.2.2))) rfl ?_
      have hG : gR (qm_up (qm_up h.2.1 1 1 v8) 118 2 v8) := (gR_tape (I := h.2.1) (I2 := qm_up (qm_up h.2.1 1 1 v8) 118 2 v8) hS.2 (fun o ho i => ((hk_ot (r_ne ho rfl)).trans ((hk_ot (r_ne ho rfl)).trans rfl))) ((hk_ot rfl).trans ((hk_ot rfl).trans rfl)) ((hk_ot rfl).trans ((hk_ot rfl).trans rfl)) ((hk_neq (by decide)).trans ((hk_ot rfl).trans rfl)) ((hk_neq (by decide)).trans ((hk_ot rfl).trans rfl)) (((hk_ot rfl).trans hk_same).trans hk_same.symm))
      have hS1 : gS (h.1, qm_up (qm_up h.2.1 1 1 v8) 118 2 v8, h.2.2.1, h.2.2.2) := (gS_up (gS_up (show gS (h.1, h.2.1, h.2.2.1, h.2.2.2) from hS.1) (by decide)) (by decide))
      have hS2 : gS2 (h.1, qm_up (qm_up h.2.1 1 1 v8) 118 2 v8, h.2.2.1, h.2.2.2) := ⟨hS1, hG⟩
      have hX3 : gX (h.1, qm_up (qm_up h.2.1 1 1 v8) 118 2 v8, h.2.2.1, h.2.2.2) := ⟨gP_back hX.1 (fun o ho i => ((hk_ot (n_in ho rfl)).trans ((hk_ot (n_in ho rfl)).trans rfl))) (show ((qm_up (qm_up h.2.1 1 1 v8) 118 2 v8) 1 1).toInt ≤ (h.2.1 1 1).toInt from by rw [show (qm_up (qm_up h.2.1 1 1 v8) 118 2 v8) 1 1 = v8 from ((hk_ot rfl).trans hk_same), q_n0]; first | omega | decide) (show (qm_up (qm_up h.2.1 1 1 v8) 118 2 v8) 3 4 = h.2.1 3 4 from ((hk_ot rfl).trans ((hk_ot rfl).trans rfl))) (show (qm_up (qm_up h.2.1 1 1 v8) 118 2 v8) 118 17 = h.2.1 118 17 from ((hk_neq (by decide)).trans ((hk_ot rfl).trans rfl))), hX.2⟩
      have hZ3 : (gZB tb) (h.1, qm_up (qm_up h.2.1 1 1 v8) 118 2 v8, h.2.2.1, h.2.2.2) := (gZ_cg (h2 := (h.1, qm_up (qm_up h.2.1 1 1 v8) 118 2 v8, h.2.2.1, h.2.2.2)) hZ (fun o ho i => ((hk_ot (n_in ho rfl)).trans ((hk_ot (n_in ho rfl)).trans rfl))) (show (qm_up (qm_up h.2.1 1 1 v8) 118 2 v8) 6 0 = h.2.1 6 0 from ((hk_ot rfl).trans ((hk_ot rfl).trans rfl))) (fun i _ => show (qm_up (qm_up h.2.1 1 1 v8) 118 2 v8) 28 i = h.2.1 28 i from ((hk_ot rfl).trans ((hk_ot rfl).trans rfl))) (fun i _ => show (qm_up (qm_up h.2.1 1 1 v8) 118 2 v8) 29 i = h.2.1 29 i from ((hk_ot rfl).trans ((hk_ot rfl).trans rfl))) (fun i _ => show (qm_up (qm_up h.2.1 1 1 v8) 118 2 v8) 111 i = h.2.1 111 i from ((hk_ot rfl).trans ((hk_ot rfl).trans rfl))) (fun i _ => show (qm_up (qm_up h.2.1 1 1 v8) 118 2 v8) 51 i = h.2.1 51 i from ((hk_ot rfl).trans ((hk_ot rfl).trans rfl))) (List.forall_mem_cons.mpr ⟨(show (qm_up (qm_up h.2.1 1 1 v8) 118 2 v8) 118 18 = h.2.1 118 18 from ((hk_neq (by decide)).trans ((hk_ot rfl).trans rfl))), List.forall_mem_cons.mpr ⟨(show (qm_up (qm_up h.2.1 1 1 v8) 118 2 v8) 118 44 = h.2.1 118 44 from ((hk_neq (by decide)).trans ((hk_ot rfl).trans rfl))), List.forall_mem_cons.mpr ⟨(show (qm_up (qm_up h.2.1 1 1 v8) 118 2 v8) 118 54 = h.2.1 118 54 from ((hk_neq (by decide)).trans ((hk_ot rfl).trans rfl))), List.forall_mem_cons.mpr ⟨(show (qm_up (qm_up h.2.1 1 1 v8) 118 2 v8) 118 75 = h.2.1 118 75 from ((hk_neq (by decide)).trans ((hk_ot rfl).trans rfl))), List.forall_mem_cons.mpr ⟨(show (qm_up (qm_up h.2.1 1 1 v8) 118 2 v8) 118 85 = h.2.1 118 85 from ((hk_neq (by decide)).trans ((hk_ot rfl).trans rfl))), List.forall_mem_cons.mpr ⟨(show (qm_up (qm_up h.2.1 1 1 v8) 118 2 v8) 118 91 = h.2.1 118 91 from ((hk_neq (by decide)).trans ((hk_ot rfl).trans rfl))), List.forall_mem_cons.mpr ⟨(show (qm_up (qm_up h.2.1 1 1 v8) 118 2 v8) 118 92 = h.2.1 118 92 from ((hk_neq (by decide)).trans ((hk_ot rfl).trans rfl))), List.forall_mem_cons.mpr ⟨(show (qm_up (qm_up h.2.1 1 1 v8) 118 2 v8) 118 93 = h.2.1 118 93 from ((hk_neq (by decide)).trans ((hk_ot rfl).trans rfl))), List.forall_mem_cons.mpr ⟨(show (qm_up (qm_up h.2.1 1 1 v8) 118 2 v8) 118 94 = h.2.1 118 94 from ((hk_neq (by decide)).trans ((hk_ot rfl).trans rfl))), fun _ z => absurd z List.not_mem_nil⟩⟩⟩⟩⟩⟩⟩⟩⟩) rfl)
      exact hE _ v13 (by omega) (qa_Inv_of0 ⟨hH.1, hH.2⟩ (hb_up (o := 118) (k := 2) (x := v8) (hb_up (o := 1) (k := 1) (x := v8) hB ⟨by show (0 : Int) ≤ v8.toInt; omega, by show v8.toInt ≤ (2000 : Int); omega⟩) ⟨by show (0 : Int) ≤ v8.toInt; omega, by show v8.toInt ≤ (2000 : Int); omega⟩) ⟨⟨⟨hS2, hX3⟩, hZ3⟩, t⟩ (gS2_ru hS2))
    · refine qm_Ru.go 1 (c' := (16, [.ref 0, .int s2], [.int (-1)], h)) rfl ?_
      refine qm_Ru.rt (v := (some (.int (-1)))) (h' := h) rfl ?_
      refine qm_Ru.go 6 (c' := (358, [.retAddr 0, .ref 0, .ref 118, .int i], [.int (i + 1), .retAddr 0, .ref 118], h)) rfl ?_
      rw [q_v1]
      refine hk_scr (v := s2) rfl (by omega) (by omega) q_s2 ?_
      refine qm_Ru.go 0 (c' := (359, [.retAddr 0, .ref 0, .ref 118, .int i], [.int s2, .ref 118], h)) rfl ?_
      refine hk_inv (o := 118) (r := []) (as := [.ref 118, .int s2]) rfl rfl (hH.1 118 (17, 105) rfl) rfl rfl rfl rfl ?_
      refine qm_Ru.go 1 (c' := (1, [.ref 118, .int s2], [.int s2], h)) rfl ?_
      refine hk_zlt (ix := s2.toInt) rfl rfl (fun z15 => by exfalso; omega) (fun z15 => ?_)
      refine qm_Ru.go 2 (c' := (6, [.ref 118, .int s2], [.ref 118, .int s2], h)) rfl ?_
      refine hk_geti (v := n0) rfl (hH.1 118 (17, 105) rfl) rfl p_n0 ?_
      refine qm_Ru.go 0 (c' := (9, [.ref 118, .int s2], [.int n0, .int s2], h)) rfl ?_
      refine hk_cle (ix := s2.toInt) (iy := n0.toInt) rfl rfl rfl (fun z16 => by exfalso; omega) (fun z16 => ?_)
      refine qm_Ru.go 1 (c' := (13, [.ref 118, .int s2], [.int (-1)], h)) rfl ?_
      refine qm_Ru.rt (v := (some (.int (-1)))) (h' := h) rfl ?_
      refine qm_Ru.go 3 (c' := (2081, [.retAddr 0, .ref 0, .ref 118, .int (i + 6)], [], h)) rfl ?_
      obtain ⟨v17, q_v17, e_v17⟩ := hk_add (x := i) (y := 6) (a := i.toInt) (b := 6) rfl rfl (by omega) (by omega)
      rw [q_v17]
      refine qm_Ru.go 1 (c' := (18, [.retAddr 0, .ref 0, .ref 118, .int v17], [], h)) rfl ?_
      have hG : gR (h.2.1) := hS.2
      have hS1 : gS (h.1, h.2.1, h.2.2.1, h.2.2.2) := (show gS (h.1, h.2.1, h.2.2.1, h.2.2.2) from hS.1)
      have hS2 : gS2 (h.1, h.2.1, h.2.2.1, h.2.2.2) := ⟨hS1, hG⟩
      have hX3 : gX (h.1, h.2.1, h.2.2.1, h.2.2.2) := hX
      have hZ3 : (gZB tb) (h.1, h.2.1, h.2.2.1, h.2.2.2) := hZ
      exact hE _ v17 (by omega) (qa_Inv_of0 ⟨hH.1, hH.2⟩ hB ⟨⟨⟨hS2, hX3⟩, hZ3⟩, t⟩ (gS2_ru hS2))
theorem qv_32 {L : Nat} {xs : Nat → Int32} {Z : Option Value → qm_H → Prop} (h6 : 6 ≤ L) (hl : L ≤ 3072) : qv_PB tb tb L xs Z 32 := by
  intro i h i0 i1 hI hE
  obtain ⟨j1, hB, j3, ⟨⟨⟨hS, hX⟩, hZ⟩, t⟩, -⟩ := hI
  have hH : hk_H h := ⟨j1, j3⟩
  have b_i : 0 ≤ i.toInt ∧ i.toInt ≤ 3066 := by omega
  obtain ⟨c0, q_c0⟩ : ∃ v, h.2.1 6 0 = v := ⟨_, rfl⟩
  have p_c0 : h.2.1 118 44 = c0 := hS.2.2.1.symm.trans q_c0
  have b_c0 : (0 : Int) ≤ c0.toInt ∧ c0.toInt ≤ 30 := by rw [← q_c0]; exact hB 6 0
  obtain ⟨f0, q_f0⟩ : ∃ v, h.2.1 42 7 = v := ⟨_, rfl⟩
  have p_f0 : h.2.1 118 70 = f0 := hS.2.2.2.1.symm.trans q_f0
  have b_f0 : (0 : Int) ≤ f0.toInt ∧ f0.toInt ≤ 60 := by rw [← q_f0]; exact hB 42 7
  show qm_Ru (some (L, xs)) 300 cd_law (1228, [.retAddr 0, .ref 0, .ref 118, .int i], [], h) Z
  refine qm_Ru.go 5 (c' := (1233, [.retAddr 0, .ref 0, .ref 118, .int i], [.int (i + 1), .retAddr 0, .ref 0], h)) rfl ?_
  obtain ⟨v1, q_v1, e_v1⟩ := hk_add (x := i) (y := 1) (a := i.toInt) (b := 1) rfl rfl (by omega) (by omega)
  rw [q_v1]
  obtain ⟨s2, q_s2⟩ : ∃ v_, xs (v1).toNatClampNeg = v_ := ⟨_, rfl⟩
  have := hk_rng s2
  refine hk_scr (v := s2) rfl (by omega) (by omega) q_s2 ?_
  refine qm_Ru.go 4 (c' := (1238, [.retAddr 0, .ref 0, .ref 118, .int i], [.int (i + 2), .retAddr 0, .int s2, .ref 0], h)) rfl ?_
  obtain ⟨v3, q_v3, e_v3⟩ := hk_add (x := i) (y := 2) (a := i.toInt) (b := 2) rfl rfl (by omega) (by omega)
  rw [q_v3]
  obtain ⟨s4, q_s4⟩ : ∃ v_, xs (v3).toNatClampNeg = v_ := ⟨_, rfl⟩
  have := hk_rng s4
  refine hk_scr (v := s4) rfl (by omega) (by omega) q_s4 ?_
  refine qm_Ru.go 0 (c' := (1239, [.retAddr 0, .ref 0, .ref 118, .int i], [.int s4, .int s2, .ref 0], h)) rfl ?_
  refine hk_inv (o := 0) (r := []) (as := [.ref 0, .int s2, .int s4]) rfl rfl (hH.1 0 (16, 10) rfl) rfl rfl rfl rfl ?_
  refine qm_Ru.go 1 (c' := (1, [.ref 0, .int s2, .int s4], [.ref 0], h)) rfl ?_
  refine hk_getr rfl (hH.1 0 (16, 10) rfl) rfl (hH.2 0 2 (some 6) rfl) ?_
  refine qm_Ru.go 1 (c' := (5, [.ref 0, .int s2, .int s4], [.int s2, .ref 6], h)) rfl ?_
  refine hk_inv (o := 6) (r := []) (as := [.ref 6, .int s2]) rfl rfl (hH.1 6 (6, 9) rfl) rfl rfl rfl rfl ?_
  refine qm_Ru.go 1 (c' := (1, [.ref 6, .int s2], [.int s2], h)) rfl ?_
  refine hk_zlt (ix := s2.toInt) rfl rfl (fun z5 => ?_) (fun z5 => ?_)
  · refine qm_Ru.go 1 (c' := (17, [.ref 6, .int s2], [.int 0], h)) rfl ?_
    refine qm_Ru.rt (v := (some (.int 0))) (h' := h) rfl ?_
    refine qm_Ru.go 2 (c' := (21, [.ref 0, .int s2, .int s4], [.int (-1)], h)) rfl ?_
    refine qm_Ru.rt (v := (some (.int (-1)))) (h' := h) rfl ?_
    refine qm_Ru.go 6 (c' := (1248, [.retAddr 0, .ref 0, .ref 118, .int i], [.int (i + 1), .retAddr 0, .ref 118], h)) rfl ?_
    rw [q_v1]
    refine hk_scr (v := s2) rfl (by omega) (by omega) q_s2 ?_
    refine qm_Ru.go 4 (c' := (1253, [.retAddr 0, .ref 0, .ref 118, .int i], [.int (i + 2), .retAddr 0, .int s2, .ref 118], h)) rfl ?_
    rw [q_v3]
    refine hk_scr (v := s4) rfl (by omega) (by omega) q_s4 ?_
    refine qm_Ru.go 0 (c' := (1254, [.retAddr 0, .ref 0, .ref 118, .int i], [.int s4, .int s2, .ref 118], h)) rfl ?_
    refine hk_inv (o := 118) (r := []) (as := [.ref 118, .int s2, .int s4]) rfl rfl (hH.1 118 (17, 105) rfl) rfl rfl rfl rfl ?_
    refine qm_Ru.go 1 (c' := (1, [.ref 118, .int s2, .int s4], [.ref 118], h)) rfl ?_
    refine hk_geti (v := f0) rfl (hH.1 118 (17, 105) rfl) rfl p_f0 ?_
    refine qm_Ru.go 1 (c' := (6, [.ref 118, .int s2, .int s4], [.int 60, .int f0], h)) rfl ?_
    refine hk_ceq (ix := f0.toInt) (iy := 60) rfl rfl rfl (fun z8 => ?_) (fun z8 => ?_)
    · refine qm_Ru.go 2 (c' := (37, [.ref 118, .int s2, .int s4], [.int (-1)], h)) rfl ?_
      refine qm_Ru.rt (v := (some (.int (-1)))) (h' := h) rfl ?_
      refine qm_Ru.go 3 (c' := (2081, [.retAddr 0, .ref 0, .ref 118, .int (i + 6)], [], h)) rfl ?_
      obtain ⟨v9, q_v9, e_v9⟩ := hk_add (x := i) (y := 6) (a := i.toInt) (b := 6) rfl rfl (by omega) (by omega)
      rw [q_v9]
      refine qm_Ru.go 1 (c' := (18, [.retAddr 0, .ref 0, .ref 118, .int v9], [], h)) rfl ?_
      have hG : gR (h.2.1) := hS.2
      have hS1 : gS (h.1, h.2.1, h.2.2.1, h.2.2.2) := hS.1
      have hS2 : gS2 (h.1, h.2.1, h.2.2.1, h.2.2.2) := ⟨hS1, hG⟩
      have hX3 : gX (h.1, h.2.1, h.2.2.1, h.2.2.2) := hX
      have hZ3 : (gZB tb) (h.1, h.2.1, h.2.2.1, h.2.2.2) := hZ
      exact hE _ v9 (by omega) (qa_Inv_of0 ⟨hH.1, hH.2⟩ hB ⟨⟨⟨hS2, hX3⟩, hZ3⟩, t⟩ (gS2_ru hS2))
    · refine qm_Ru.go 2 (c' := (11, [.ref 118, .int s2, .int s4], [.int s2, .ref 118], h)) rfl ?_
      refine hk_inv (o := 118) (r := []) (as := [.ref 118, .int s2]) rfl rfl (hH.1 118 (17, 105) rfl) rfl rfl rfl rfl ?_
      refine qm_Ru.go 3 (c' := (3, [.ref 118, .int s2], [.ref 118, .int 0, .int s2], h)) rfl ?_
      refine hk_geti (v := c0) rfl (hH.1 118 (17, 105) rfl) rfl p_c0 ?_
      refine qm_Ru.go 2 (c' := (8, [.ref 118, .int s2], [.int (c0 - 1), .int 0, .int s2], h)) rfl ?_
      obtain ⟨v10, q_v10, e_v10⟩ := hk_sub (x := c0) (y := 1) (a := c0.toInt) (b := 1) rfl rfl (by omega) (by omega)
      rw [q_v10]
      refine qm_Ru.call (j := 270) (as := [.int s2, .int 0, .int v10]) (c' := (11, [.ref 118, .int s2], [], h)) rfl rfl rfl ?_
      refine qm_Ru.go 2 (c' := (2, [.int s2, .int 0, .int v10], [.int 0, .int s2], h)) rfl ?_
      refine hk_clt (ix := s2.toInt) (iy := 0) rfl rfl rfl (fun z11 => ?_) (fun z11 => by exfalso; omega)
      refine qm_Ru.go 1 (c' := (15, [.int s2, .int 0, .int v10], [.int 0], h)) rfl ?_
      refine qm_Ru.rt (v := (some (.int 0))) (h' := h) rfl ?_
      refine qm_Ru.go 0 (c' := (11, [.ref 118, .int s2], [.int 0], h)) rfl ?_
      refine qm_Ru.rt (v := (some (.int 0))) (h' := h) rfl ?_
      refine qm_Ru.go 3 (c' := (37, [.ref 118, .int s2, .int s4], [.int (-1)], h)) rfl ?_
      refine qm_Ru.rt (v := (some (.int (-1)))) (h' := h) rfl ?_
      refine qm_Ru.go 3 (c' := (2081, [.retAddr 0, .ref 0, .ref 118, .int (i + 6)], [], h)) rfl ?_
      obtain ⟨v12, q_v12, e_v12⟩ := hk_add (x := i) (y := 6) (a := i.toInt) (b := 6) rfl rfl (by omega) (by omega)
      rw [q_v12]
      refine qm_Ru.go 1 (c' := (18, [.retAddr 0, .ref 0, .ref 118, .int v12], [], h)) rfl ?_
      have hG : gR (h.2.1) := hS.2
      have hS1 : gS (h.1, h.2.1, h.2.2.1, h.2.2.2) := hS.1
      have hS2 : gS2 (h.1, h.2.1, h.2.2.1, h.2.2.2) := ⟨hS1, hG⟩
      have hX3 : gX (h.1, h.2.1, h.2.2.1, h.2.2.2) := hX
      have hZ3 : (gZB tb) (h.1, h.2.1, h.2.2.1, h.2.2.2) := hZ
      exact hE _ v12 (by omega) (qa_Inv_of0 ⟨hH.1, hH.2⟩ hB ⟨⟨⟨hS2, hX3⟩, hZ3⟩, t⟩ (gS2_ru hS2))
  · refine qm_Ru.go 2 (c' := (6, [.ref 6, .int s2], [.ref 6, .int s2], h)) rfl ?_
    refine hk_geti (v := c0) rfl (hH.1 6 (6, 9) rfl) rfl q_c0 ?_
    refine qm_Ru.go 0 (c' := (9, [.ref 6, .int s2], [.int c0, .int s2], h)) rfl ?_
    refine hk_cge (ix := s2.toInt) (iy := c0.toInt) rfl rfl rfl (fun z13 => ?_) (fun z13 => ?_)
    · refine qm_Ru.go 1 (c' := (17, [.ref 6, .int s2], [.int 0], h)) rfl ?_
      refine qm_Ru.rt (v := (some (.int 0))) (h' := h) rfl ?_
      refine qm_Ru.go 2 (c' := (21, [.ref 0, .int s2, .int s4], [.int (-1)], h)) rfl ?_
      refine qm_Ru.rt (v := (some (.int (-1)))) (h' := h) rfl ?_
      refine qm_Ru.go 6 (c' := (1248, [.retAddr 0, .ref 0, .ref 118, .int i], [.int (i + 1), .retAddr 0, .ref 118], h)) rfl ?_
      rw [q_v1]
      refine hk_scr (v := s2) rfl (by omega) (by omega) q_s2 ?_
      refine qm_Ru.go 4 (c' := (1253, [.retAddr 0, .ref 0, .ref 118, .int i], [.int (i + 2), .retAddr 0, .int s2, .ref 118], h)) rfl ?_
      rw [q_v3]
      refine hk_scr (v := s4) rfl (by omega) (by omega) q_s4 ?_
      refine qm_Ru.go 0 (c' := (1254, [.retAddr 0, .ref 0, .ref 118, .int i], [.int s4, .int s2, .ref 118], h)) rfl ?_
      refine hk_inv (o := 118) (r := []) (as := [.ref 118, .int s2, .int s4]) rfl rfl (hH.1 118 (17, 105) rfl) rfl rfl rfl rfl ?_
      refine qm_Ru.go 1 (c' := (1, [.ref 118, .int s2, .int s4], [.ref 118], h)) rfl ?_
      refine hk_geti (v := f0) rfl (hH.1 118 (17, 105) rfl) rfl p_f0 ?_
      refine qm_Ru.go 1 (c' := (6, [.ref 118, .int s2, .int s4], [.int 60, .int f0], h)) rfl ?_
      refine hk_ceq (ix := f0.toInt) (iy := 60) rfl rfl rfl (fun z16 => ?_) (fun z16 => ?_)
      · refine qm_Ru.go 2 (c' := (37, [.ref 118, .int s2, .int s4], [.int (-1)], h)) rfl ?_
        refine qm_Ru.rt (v := (some (.int (-1)))) (h' := h) rfl ?_
        refine qm_Ru.go 3 (c' := (2081, [.retAddr 0, .ref 0, .ref 118, .int (i + 6)], [], h)) rfl ?_
        obtain ⟨v17, q_v17, e_v17⟩ := hk_add (x := i) (y := 6) (a := i.toInt) (b := 6) rfl rfl (by omega) (by omega)
        rw [q_v17]
        refine qm_Ru.go 1 (c' := (18, [.retAddr 0, .ref 0, .ref 118, .int v17], [], h)) rfl ?_
        have hG : gR (h.2.1) := hS.2
        have hS1 : gS (h.1, h.2.1, h.2.2.1, h.2.2.2) := hS.1
        have hS2 : gS2 (h.1, h.2.1, h.2.2.1, h.2.2.2) := ⟨hS1, hG⟩
        have hX3 : gX (h.1, h.2.1, h.2.2.1, h.2.2.2) := hX
        have hZ3 : (gZB tb) (h.1, h.2.1, h.2.2.1, h.2.2.2) := hZ
        exact hE _ v17 (by omega) (qa_Inv_of0 ⟨hH.1, hH.2⟩ hB ⟨⟨⟨hS2, hX3⟩, hZ3⟩, t⟩ (gS2_ru hS2))
      · refine qm_Ru.go 2 (c' := (11, [.ref 118, .int s2, .int s4], [.int s2, .ref 118], h)) rfl ?_
        refine hk_inv (o := 118) (r := []) (as := [.ref 118, .int s2]) rfl rfl (hH.1 118 (17, 105) rfl) rfl rfl rfl rfl ?_
        refine qm_Ru.go 3 (c' := (3, [.ref 118, .int s2], [.ref 118, .int 0, .int s2], h)) rfl ?_
        refine hk_geti (v := c0) rfl (hH.1 118 (17, 105) rfl) rfl p_c0 ?_
        refine qm_Ru.go 2 (c' := (8, [.ref 118, .int s2], [.int (c0 - 1), .int 0, .int s2], h)) rfl ?_
        obtain ⟨v18, q_v18, e_v18⟩ := hk_sub (x := c0) (y := 1) (a := c0.toInt) (b := 1) rfl rfl (by omega) (by omega)
        rw [q_v18]
        refine qm_Ru.call (j := 270) (as := [.int s2, .int 0, .int v18]) (c' := (11, [.ref 118, .int s2], [], h)) rfl rfl rfl ?_
        refine qm_Ru.go 2 (c' := (2, [.int s2, .int 0, .int v18], [.int 0, .int s2], h)) rfl ?_
        refine hk_clt (ix := s2.toInt) (iy := 0) rfl rfl rfl (fun z19 => by exfalso; omega) (fun z19 => ?_)
        refine qm_Ru.go 2 (c' := (7, [.int s2, .int 0, .int v18], [.int v18, .int s2], h)) rfl ?_
        refine hk_cgt (ix := s2.toInt) (iy := v18.toInt) rfl rfl rfl (fun z20 => ?_) (fun z20 => ?_)
        · refine qm_Ru.go 1 (c' := (15, [.int s2, .int 0, .int v18], [.int 0], h)) rfl ?_
          refine qm_Ru.rt (v := (some (.int 0))) (h' := h) rfl ?_
          refine qm_Ru.go 0 (c' := (11, [.ref 118, .int s2], [.int 0], h)) rfl ?_
          refine qm_Ru.rt (v := (some (.int 0))) (h' := h) rfl ?_
          refine qm_Ru.go 3 (c' := (37, [.ref 118, .int s2, .int s4], [.int (-1)], h)) rfl ?_
          refine qm_Ru.rt (v := (some (.int (-1)))) (h' := h) rfl ?_
          refine qm_Ru.go 3 (c' := (2081, [.retAddr 0, .ref 0, .ref 118, .int (i + 6)], [], h)) rfl ?_
          obtain ⟨v21, q_v21, e_v21⟩ := hk_add (x := i) (y := 6) (a := i.toInt) (b := 6) rfl rfl (by omega) (by omega)
          rw [q_v21]
          refine qm_Ru.go 1 (c' := (18, [.retAddr 0, .ref 0, .ref 118, .int v21], [], h)) rfl ?_
          have hG : gR (h.2.1) := hS.2
          have hS1 : gS (h.1, h.2.1, h.2.2.1, h.2.2.2) := hS.1
          have hS2 : gS2 (h.1, h.2.1, h.2.2.1, h.2.2.2) := ⟨hS1, hG⟩
          have hX3 : gX (h.1, h.2.1, h.2.2.1, h.2.2.2) := hX
          have hZ3 : (gZB tb) (h.1, h.2.1, h.2.2.1, h.2.2.2) := hZ
          exact hE _ v21 (by omega) (qa_Inv_of0 ⟨hH.1, hH.2⟩ hB ⟨⟨⟨hS2, hX3⟩, hZ3⟩, t⟩ (gS2_ru hS2))
        · refine qm_Ru.go 2 (c' := (15, [.int s2, .int 0, .int v18], [.int 1], h)) rfl ?_
          refine qm_Ru.rt (v := (some (.int 1))) (h' := h) rfl ?_
          refine qm_Ru.go 0 (c' := (11, [.ref 118, .int s2], [.int 1], h)) rfl ?_
          refine qm_Ru.rt (v := (some (.int 1))) (h' := h) rfl ?_
          refine qm_Ru.go 4 (c' := (20, [.ref 118, .int s2, .int s4], [.int 5, .int 0, .int s4], h)) rfl ?_
          refine qm_Ru.call (j := 270) (as := [.int s4, .int 0, .int 5]) (c' := (23, [.ref 118, .int s2, .int s4], [], h)) rfl rfl rfl ?_
          refine qm_Ru.go 2 (c' := (2, [.int s4, .int 0, .int 5], [.int 0, .int s4], h)) rfl ?_
          refine hk_clt (ix := s4.toInt) (iy := 0) rfl rfl rfl (fun z22 => ?_) (fun z22 => ?_)
          · refine qm_Ru.go 1 (c' := (15, [.int s4, .int 0, .int 5], [.int 0], h)) rfl ?_
            refine qm_Ru.rt (v := (some (.int 0))) (h' := h) rfl ?_
            refine qm_Ru.go 3 (c' := (37, [.ref 118, .int s2, .int s4], [.int (-1)], h)) rfl ?_
            refine qm_Ru.rt (v := (some (.int (-1)))) (h' := h) rfl ?_
            refine qm_Ru.go 3 (c' := (2081, [.retAddr 0, .ref 0, .ref 118, .int (i + 6)], [], h)) rfl ?_
            obtain ⟨v23, q_v23, e_v23⟩ := hk_add (x := i) (y := 6) (a := i.toInt) (b := 6) rfl rfl (by omega) (by omega)
            rw [q_v23]
            refine qm_Ru.go 1 (c' := (18, [.retAddr 0, .ref 0, .ref 118, .int v23], [], h)) rfl ?_
            have hG : gR (h.2.1) := hS.2
            have hS1 : gS (h.1, h.2.1, h.2.2.1, h.2.2.2) := hS.1
            have hS2 : gS2 (h.1, h.2.1, h.2.2.1, h.2.2.2) := ⟨hS1, hG⟩
            have hX3 : gX (h.1, h.2.1, h.2.2.1, h.2.2.2) := hX
            have hZ3 : (gZB tb) (h.1, h.2.1, h.2.2.1, h.2.2.2) := hZ
            exact hE _ v23 (by omega) (qa_Inv_of0 ⟨hH.1, hH.2⟩ hB ⟨⟨⟨hS2, hX3⟩, hZ3⟩, t⟩ (gS2_ru hS2))
          · refine qm_Ru.go 2 (c' := (7, [.int s4, .int 0, .int 5], [.int 5, .int s4], h)) rfl ?_
            refine hk_cgt (ix := s4.toInt) (iy := 5) rfl rfl rfl (fun z24 => ?_) (fun z24 => ?_)
            · refine qm_Ru.go 1 (c' := (15, [.int s4, .int 0, .int 5], [.int 0], h)) rfl ?_
              refine qm_Ru.rt (v := (some (.int 0))) (h' := h) rfl ?_
              refine qm_Ru.go 3 (c' := (37, [.ref 118, .int s2, .int s4], [.int (-1)], h)) rfl ?_
              refine qm_Ru.rt (v := (some (.int (-1)))) (h' := h) rfl ?_
              refine qm_Ru.go 3 (c' := (2081, [.retAddr 0, .ref 0, .ref 118, .int (i + 6)], [], h)) rfl ?_
              obtain ⟨v25, q_v25, e_v25⟩ := hk_add (x := i) (y := 6) (a := i.toInt) (b := 6) rfl rfl (by omega) (by omega)
              rw [q_v25]
              refine qm_Ru.go 1 (c' := (18, [.retAddr 0, .ref 0, .ref 118, .int v25], [], h)) rfl ?_
              have hG : gR (h.2.1) := hS.2
              have hS1 : gS (h.1, h.2.1, h.2.2.1, h.2.2.2) := hS.1
              have hS2 : gS2 (h.1, h.2.1, h.2.2.1, h.2.2.2) := ⟨hS1, hG⟩
              have hX3 : gX (h.1, h.2.1, h.2.2.1, h.2.2.2) := hX
              have hZ3 : (gZB tb) (h.1, h.2.1, h.2.2.1, h.2.2.2) := hZ
              exact hE _ v25 (by omega) (qa_Inv_of0 ⟨hH.1, hH.2⟩ hB ⟨⟨⟨hS2, hX3⟩, hZ3⟩, t⟩ (gS2_ru hS2))
            · refine qm_Ru.go 2 (c' := (15, [.int s4, .int 0, .int 5], [.int 1], h)) rfl ?_
              refine qm_Ru.rt (v := (some (.int 1))) (h' := h) rfl ?_
              refine qm_Ru.go 5 (c' := (34, [.ref 118, .int s2, .int s4], [.int s4, .int s2, .int 0, .ref 118], h)) rfl ?_
              refine hk_inv (o := 118) (r := []) (as := [.ref 118, .int 0, .int s2, .int s4]) rfl rfl (hH.1 118 (17, 105) rfl) rfl rfl rfl rfl ?_
              refine qm_Ru.go 1 (c' := (1, [.ref 118, .int 0, .int s2, .int s4], [.ref 118], h)) rfl ?_
              refine hk_getr rfl (hH.1 118 (17, 105) rfl) rfl (hH.2 118 71 (some 164) rfl) ?_
              refine qm_Ru.go 1 (c' := (5, [.ref 118, .int 0, .int s2, .int s4], [.ref 118, .ref 164], h)) rfl ?_
              refine hk_geti (v := f0) rfl (hH.1 118 (17, 105) rfl) rfl p_f0 ?_
              refine qm_Ru.go 1 (c' := (9, [.ref 118, .int 0, .int s2, .int s4], [.int 0, .int f0, .ref 164], h)) rfl ?_
              refine hk_ias rfl (hH.1 164 (0, 60) rfl) (by omega) (by omega) ?_
              refine qm_Ru.go 1 (c' := (11, [.ref 118, .int 0, .int s2, .int s4], [.ref 118], (h.1, qm_up h.2.1 164 (f0.toInt.toNat) 0, h.2.2.1, h.2.2.2))) rfl ?_
              refine hk_getr rfl (hH.1 118 (17, 105) rfl) rfl (hH.2 118 72 (some 165) rfl) ?_
              refine qm_Ru.go 1 (c' := (15, [.ref 118, .int 0, .int s2, .int s4], [.ref 118, .ref 165], (h.1, qm_up h.2.1 164 (f0.toInt.toNat) 0, h.2.2.1, h.2.2.2))) rfl ?_
              refine hk_geti (v := f0) rfl (hH.1 118 (17, 105) rfl) rfl (show (qm_up h.2.1 164 (f0.toInt.toNat) 0) 118 70 = _ from ((hk_ot rfl).trans p_f0)) ?_
              refine qm_Ru.go 1 (c' := (19, [.ref 118, .int 0, .int s2, .int s4], [.int s2, .int f0, .ref 165], (h.1, qm_up h.2.1 164 (f0.toInt.toNat) 0, h.2.2.1, h.2.2.2))) rfl ?_
              refine hk_ias rfl (hH.1 165 (0, 60) rfl) (by omega) (by omega) ?_
              refine qm_Ru.go 1 (c' := (21, [.ref 118, .int 0, .int s2, .int s4], [.ref 118], (h.1, qm_up (qm_up h.2.1 164 (f0.toInt.toNat) 0) 165 (f0.toInt.toNat) s2, h.2.2.1, h.2.2.2))) rfl ?_
              refine hk_getr rfl (hH.1 118 (17, 105) rfl) rfl (hH.2 118 73 (some 166) rfl) ?_
              refine qm_Ru.go 1 (c' := (25, [.ref 118, .int 0, .int s2, .int s4], [.ref 118, .ref 166], (h.1, qm_up (qm_up h.2.1 164 (f0.toInt.toNat) 0) 165 (f0.toInt.toNat) s2, h.2.2.1, h.2.2.2))) rfl ?_
              refine hk_geti (v := f0) rfl (hH.1 118 (17, 105) rfl) rfl (show (qm_up (qm_up h.2.1 164 (f0.toInt.toNat) 0) 165 (f0.toInt.toNat) s2) 118 70 = _ from ((hk_ot rfl).trans ((hk_ot rfl).trans p_f0))) ?_
              refine qm_Ru.go 1 (c' := (29, [.ref 118, .int 0, .int s2, .int s4], [.int s4, .int f0, .ref 166], (h.1, qm_up (qm_up h.2.1 164 (f0.toInt.toNat) 0) 165 (f0.toInt.toNat) s2, h.2.2.1, h.2.2.2))) rfl ?_
              refine hk_ias rfl (hH.1 166 (0, 60) rfl) (by omega) (by omega) ?_
              refine qm_Ru.go 2 (c' := (32, [.ref 118, .int 0, .int s2, .int s4], [.ref 118, .ref 118], (h.1, qm_up (qm_up (qm_up h.2.1 164 (f0.toInt.toNat) 0) 165 (f0.toInt.toNat) s2) 166 (f0.toInt.toNat) s4, h.2.2.1, h.2.2.2))) rfl ?_
              refine hk_geti (v := f0) rfl (hH.1 118 (17, 105) rfl) rfl (show (qm_up (qm_up (qm_up h.2.1 164 (f0.toInt.toNat) 0) 165 (f0.toInt.toNat) s2) 166 (f0.toInt.toNat) s4) 118 70 = _ from ((hk_ot rfl).trans ((hk_ot rfl).trans ((hk_ot rfl).trans p_f0)))) ?_
              refine qm_Ru.go 2 (c' := (37, [.ref 118, .int 0, .int s2, .int s4], [.int (f0 + 1), .ref 118], (h.1, qm_up (qm_up (qm_up h.2.1 164 (f0.toInt.toNat) 0) 165 (f0.toInt.toNat) s2) 166 (f0.toInt.toNat) s4, h.2.2.1, h.2.2.2))) rfl ?_
              obtain ⟨v26, q_v26, e_v26⟩ := hk_add (x := f0) (y := 1) (a := f0.toInt) (b := 1) rfl rfl (by omega) (by omega)
              rw [q_v26]
              refine hk_puti rfl (hH.1 118 (17, 105) rfl) rfl ?_
              refine qm_Ru.go 1 (c' := (41, [.ref 118, .int 0, .int s2, .int s4], [.ref 118], (h.1, qm_up (qm_up (qm_up (qm_up h.2.1 164 (f0.toInt.toNat) 0) 165 (f0.toInt.toNat) s2) 166 (f0.toInt.toNat) s4) 118 70 v26, h.2.2.1, h.2.2.2))) rfl ?_
              refine hk_geti (v := v26) rfl (hH.1 118 (17, 105) rfl) rfl (show (qm_up (qm_up (qm_up (qm_up h.2.1 164 (f0.toInt.toNat) 0) 165 (f0.toInt.toNat) s2) 166 (f0.toInt.toNat) s4) 118 70 v26) 118 70 = _ from (hk_same)) ?_
              refine qm_Ru.go 2 (c' := (46, [.ref 118, .int 0, .int s2, .int s4], [.int (v26 - 1)], (h.1, qm_up (qm_up (qm_up (qm_up h.2.1 164 (f0.toInt.toNat) 0) 165 (f0.toInt.toNat) s2) 166 (f0.toInt.toNat) s4) 118 70 v26, h.2.2.1, h.2.2.2))) rfl ?_
              obtain ⟨v27, q_v27, e_v27⟩ := hk_sub (x := v26) (y := 1) (a := v26.toInt) (b := 1) rfl rfl (by omega) (by omega)
              rw [q_v27]
              refine qm_Ru.rt (v := (some (.int v27))) (h' := (h.1, qm_up (qm_up (qm_up (qm_up h.2.1 164 (f0.toInt.toNat) 0) 165 (f0.toInt.toNat) s2) 166 (f0.toInt.toNat) s4) 118 70 v26, h.2.2.1, h.2.2.2)) rfl ?_
              refine qm_Ru.go 0 (c' := (37, [.ref 118, .int s2, .int s4], [.int v27], (h.1, qm_up (qm_up (qm_up (qm_up h.2.1 164 (f0.toInt.toNat) 0) 165 (f0.toInt.toNat) s2) 166 (f0.toInt.toNat) s4) 118 70 v26, h.2.2.1, h.2.2.2))) rfl ?_
              refine qm_Ru.rt (v := (some (.int v27))) (h' := (h.1, qm_up (qm_up (qm_up (qm_up h.2.1 164 (f0.toInt.toNat) 0) 165 (f0.toInt.toNat) s2) 166 (f0.toInt.toNat) s4) 118 70 v26, h.2.2.1, h.2.2.2)) rfl ?_
              refine qm_Ru.go 3 (c' := (2081, [.retAddr 0, .ref 0, .ref 118, .int (i + 6)], [], (h.1, qm_up (qm_up (qm_up (qm_up h.2.1 164 (f0.toInt.toNat) 0) 165 (f0.toInt.toNat) s2) 166 (f0.toInt.toNat) s4) 118 70 v26, h.2.2.1, h.2.2.2))) rfl ?_
              obtain ⟨v28, q_v28, e_v28⟩ := hk_add (x := i) (y := 6) (a := i.toInt) (b := 6) rfl rfl (by omega) (by omega)
              rw [q_v28]
              refine qm_Ru.go 1 (c' := (18, [.retAddr 0, .ref 0, .ref 118, .int v28], [], (h.1, qm_up (qm_up (qm_up (qm_up h.2.1 164 (f0.toInt.toNat) 0) 165 (f0.toInt.toNat) s2) 166 (f0.toInt.toNat) s4) 118 70 v26, h.2.2.1, h.2.2.2))) rfl ?_
              exfalso
              omega
    · refine qm_Ru.go 2 (c' := (17, [.ref 6, .int s2], [.int 1], h)) rfl ?_
      refine qm_Ru.rt (v := (some (.int 1))) (h' := h) rfl ?_
      refine qm_Ru.go 3 (c' := (14, [.ref 0, .int s2, .int s4], [.int 6, .int s4], h)) rfl ?_
      refine qm_Ru.call (j := 65) (as := [.int s4, .int 6]) (c' := (17, [.ref 0, .int s2, .int s4], [], h)) rfl rfl rfl ?_
      refine qm_Ru.go 1 (c' := (1, [.int s4, .int 6], [.int s4], h)) rfl ?_
      refine hk_zlt (ix := s4.toInt) rfl rfl (fun z29 => ?_) (fun z29 => ?_)
      · refine qm_Ru.go 1 (c' := (14, [.int s4, .int 6], [.int 0], h)) rfl ?_
        refine qm_Ru.rt (v := (some (.int 0))) (h' := h) rfl ?_
        refine qm_Ru.go 2 (c' := (21, [.ref 0, .int s2, .int s4], [.int (-1)], h)) rfl ?_
        refine qm_Ru.rt (v := (some (.int (-1)))) (h' := h) rfl ?_
        refine qm_Ru.go 6 (c' := (1248, [.retAddr 0, .ref 0, .ref 118, .int i], [.int (i + 1), .retAddr 0, .ref 118], h)) rfl ?_
        rw [q_v1]
        refine hk_scr (v := s2) rfl (by omega) (by omega) q_s2 ?_
        refine qm_Ru.go 4 (c' := (1253, [.retAddr 0, .ref 0, .ref 118, .int i], [.int (i + 2), .retAddr 0, .int s2, .ref 118], h)) rfl ?_
        rw [q_v3]
        refine hk_scr (v := s4) rfl (by omega) (by omega) q_s4 ?_
        refine qm_Ru.go 0 (c' := (1254, [.retAddr 0, .ref 0, .ref 118, .int i], [.int s4, .int s2, .ref 118], h)) rfl ?_
        refine hk_inv (o := 118) (r := []) (as := [.ref 118, .int s2, .int s4]) rfl rfl (hH.1 118 (17, 105) rfl) rfl rfl rfl rfl ?_
        refine qm_Ru.go 1 (c' := (1, [.ref 118, .int s2, .int s4], [.ref 118], h)) rfl ?_
        refine hk_geti (v := f0) rfl (hH.1 118 (17, 105) rfl) rfl p_f0 ?_
        refine qm_Ru.go 1 (c' := (6, [.ref 118, .int s2, .int s4], [.int 60, .int f0], h)) rfl ?_
        refine hk_ceq (ix := f0.toInt) (iy := 60) rfl rfl rfl (fun z32 => ?_) (fun z32 => ?_)
        · refine qm_Ru.go 2 (c' := (37, [.ref 118, .int s2, .int s4], [.int (-1)], h)) rfl ?_
          refine qm_Ru.rt (v := (some (.int (-1)))) (h' := h) rfl ?_
          refine qm_Ru.go 3 (c' := (2081, [.retAddr 0, .ref 0, .ref 118, .int (i + 6)], [], h)) rfl ?_
          obtain ⟨v33, q_v33, e_v33⟩ := hk_add (x := i) (y := 6) (a := i.toInt) (b := 6) rfl rfl (by omega) (by omega)
          rw [q_v33]
          refine qm_Ru.go 1 (c' := (18, [.retAddr 0, .ref 0, .ref 118, .int v33], [], h)) rfl ?_
          have hG : gR (h.2.1) := hS.2
          have hS1 : gS (h.1, h.2.1, h.2.2.1, h.2.2.2) := hS.1
          have hS2 : gS2 (h.1, h.2.1, h.2.2.1, h.2.2.2) := ⟨hS1, hG⟩
          have hX3 : gX (h.1, h.2.1, h.2.2.1, h.2.2.2) := hX
          have hZ3 : (gZB tb) (h.1, h.2.1, h.2.2.1, h.2.2.2) := hZ
          exact hE _ v33 (by omega) (qa_Inv_of0 ⟨hH.1, hH.2⟩ hB ⟨⟨⟨hS2, hX3⟩, hZ3⟩, t⟩ (gS2_ru hS2))
        · refine qm_Ru.go 2 (c' := (11, [.ref 118, .int s2, .int s4], [.int s2, .ref 118], h)) rfl ?_
          refine hk_inv (o := 118) (r := []) (as := [.ref 118, .int s2]) rfl rfl (hH.1 118 (17, 105) rfl) rfl rfl rfl rfl ?_
          refine qm_Ru.go 3 (c' := (3, [.ref 118, .int s2], [.ref 118, .int 0, .int s2], h)) rfl ?_
          refine hk_geti (v := c0) rfl (hH.1 118 (17, 105) rfl) rfl p_c0 ?_
          refine qm_Ru.go 2 (c' := (8, [.ref 118, .int s2], [.int (c0 - 1), .int 0, .int s2], h)) rfl ?_
          obtain ⟨v34, q_v34, e_v34⟩ := hk_sub (x := c0) (y := 1) (a := c0.toInt) (b := 1) rfl rfl (by omega) (by omega)
          rw [q_v34]
          refine qm_Ru.call (j := 270) (as := [.int s2, .int 0, .int v34]) (c' := (11, [.ref 118, .int s2], [], h)) rfl rfl rfl ?_
          refine qm_Ru.go 2 (c' := (2, [.int s2, .int 0, .int v34], [.int 0, .int s2], h)) rfl ?_
          refine hk_clt (ix := s2.toInt) (iy := 0) rfl rfl rfl (fun z35 => by exfalso; omega) (fun z35 => ?_)
          refine qm_Ru.go 2 (c' := (7, [.int s2, .int 0, .int v34], [.int v34, .int s2], h)) rfl ?_
          refine hk_cgt (ix := s2.toInt) (iy := v34.toInt) rfl rfl rfl (fun z36 => ?_) (fun z36 => ?_)
          · refine qm_Ru.go 1 (c' := (15, [.int s2, .int 0, .int v34], [.int 0], h)) rfl ?_
            refine qm_Ru.rt (v := (some (.int 0))) (h' := h) rfl ?_
            refine qm_Ru.go 0 (c' := (11, [.ref 118, .int s2], [.int 0], h)) rfl ?_
            refine qm_Ru.rt (v := (some (.int 0))) (h' := h) rfl ?_
            refine qm_Ru.go 3 (c' := (37, [.ref 118, .int s2, .int s4], [.int (-1)], h)) rfl ?_
            refine qm_Ru.rt (v := (some (.int (-1)))) (h' := h) rfl ?_
            refine qm_Ru.go 3 (c' := (2081, [.retAddr 0, .ref 0, .ref 118, .int (i + 6)], [], h)) rfl ?_
            obtain ⟨v37, q_v37, e_v37⟩ := hk_add (x := i) (y := 6) (a := i.toInt) (b := 6) rfl rfl (by omega) (by omega)
            rw [q_v37]
            refine qm_Ru.go 1 (c' := (18, [.retAddr 0, .ref 0, .ref 118, .int v37], [], h)) rfl ?_
            have hG : gR (h.2.1) := hS.2
            have hS1 : gS (h.1, h.2.1, h.2.2.1, h.2.2.2) := hS.1
            have hS2 : gS2 (h.1, h.2.1, h.2.2.1, h.2.2.2) := ⟨hS1, hG⟩
            have hX3 : gX (h.1, h.2.1, h.2.2.1, h.2.2.2) := hX
            have hZ3 : (gZB tb) (h.1, h.2.1, h.2.2.1, h.2.2.2) := hZ
            exact hE _ v37 (by omega) (qa_Inv_of0 ⟨hH.1, hH.2⟩ hB ⟨⟨⟨hS2, hX3⟩, hZ3⟩, t⟩ (gS2_ru hS2))
          · refine qm_Ru.go 2 (c' := (15, [.int s2, .int 0, .int v34], [.int 1], h)) rfl ?_
            refine qm_Ru.rt (v := (some (.int 1))) (h' := h) rfl ?_
            refine qm_Ru.go 0 (c' := (11, [.ref 118, .int s2], [.int 1], h)) rfl ?_
            refine qm_Ru.rt (v := (some (.int 1))) (h' := h) rfl ?_
            refine qm_Ru.go 4 (c' := (20, [.ref 118, .int s2, .int s4], [.int 5, .int 0, .int s4], h)) rfl ?_
            refine qm_Ru.call (j := 270) (as := [.int s4, .int 0, .int 5]) (c' := (23, [.ref 118, .int s2, .int s4], [], h)) rfl rfl rfl ?_
            refine qm_Ru.go 2 (c' := (2, [.int s4, .int 0, .int 5], [.int 0, .int s4], h)) rfl ?_
            refine hk_clt (ix := s4.toInt) (iy := 0) rfl rfl rfl (fun z38 => ?_) (fun z38 => by exfalso; omega)
            refine qm_Ru.go 1 (c' := (15, [.int s4, .int 0, .int 5], [.int 0], h)) rfl ?_
            refine qm_Ru.rt (v := (some (.int 0))) (h' := h) rfl ?_
            refine qm_Ru.go 3 (c' := (37, [.ref 118, .int s2, .int s4], [.int (-1)], h)) rfl ?_
            refine qm_Ru.rt (v := (some (.int (-1)))) (h' := h) rfl ?_
            refine qm_Ru.go 3 (c' := (2081, [.retAddr 0, .ref 0, .ref 118, .int (i + 6)], [], h)) rfl ?_
            obtain ⟨v39, q_v39, e_v39⟩ := hk_add (x := i) (y := 6) (a := i.toInt) (b := 6) rfl rfl (by omega) (by omega)
            rw [q_v39]
            refine qm_Ru.go 1 (c' := (18, [.retAddr 0, .ref 0, .ref 118, .int v39], [], h)) rfl ?_
            have hG : gR (h.2.1) := hS.2
            have hS1 : gS (h.1, h.2.1, h.2.2.1, h.2.2.2) := hS.1
            have hS2 : gS2 (h.1, h.2.1, h.2.2.1, h.2.2.2) := ⟨hS1, hG⟩
            have hX3 : gX (h.1, h.2.1, h.2.2.1, h.2.2.2) := hX
            have hZ3 : (gZB tb) (h.1, h.2.1, h.2.2.1, h.2.2.2) := hZ
            exact hE _ v39 (by omega) (qa_Inv_of0 ⟨hH.1, hH.2⟩ hB ⟨⟨⟨hS2, hX3⟩, hZ3⟩, t⟩ (gS2_ru hS2))
      · refine qm_Ru.go 2 (c' := (6, [.int s4, .int 6], [.int 6, .int s4], h)) rfl ?_
        refine hk_cge (ix := s4.toInt) (iy := 6) rfl rfl rfl (fun z40 => ?_) (fun z40 => ?_)
        · refine qm_Ru.go 1 (c' := (14, [.int s4, .int 6], [.int 0], h)) rfl ?_
          refine qm_Ru.rt (v := (some (.int 0))) (h' := h) rfl ?_
          refine qm_Ru.go 2 (c' := (21, [.ref 0, .int s2, .int s4], [.int (-1)], h)) rfl ?_
          refine qm_Ru.rt (v := (some (.int (-1)))) (h' := h) rfl ?_
          refine qm_Ru.go 6 (c' := (1248, [.retAddr 0, .ref 0, .ref 118, .int i], [.int (i + 1), .retAddr 0, .ref 118], h)) rfl ?_
          rw [q_v1]
          refine hk_scr (v := s2) rfl (by omega) (by omega) q_s2 ?_
          refine qm_Ru.go 4 (c' := (1253, [.retAddr 0, .ref 0, .ref 118, .int i], [.int (i + 2), .retAddr 0, .int s2, .ref 118], h)) rfl ?_
          rw [q_v3]
          refine hk_scr (v := s4) rfl (by omega) (by omega) q_s4 ?_
          refine qm_Ru.go 0 (c' := (1254, [.retAddr 0, .ref 0, .ref 118, .int i], [.int s4, .int s2, .ref 118], h)) rfl ?_
          refine hk_inv (o := 118) (r := []) (as := [.ref 118, .int s2, .int s4]) rfl rfl (hH.1 118 (17, 105) rfl) rfl rfl rfl rfl ?_
          refine qm_Ru.go 1 (c' := (1, [.ref 118, .int s2, .int s4], [.ref 118], h)) rfl ?_
          refine hk_geti (v := f0) rfl (hH.1 118 (17, 105) rfl) rfl p_f0 ?_
          refine qm_Ru.go 1 (c' := (6, [.ref 118, .int s2, .int s4], [.int 60, .int f0], h)) rfl ?_
          refine hk_ceq (ix := f0.toInt) (iy := 60) rfl rfl rfl (fun z43 => ?_) (fun z43 => ?_)
          · refine qm_Ru.go 2 (c' := (37, [.ref 118, .int s2, .int s4], [.int (-1)], h)) rfl ?_
            refine qm_Ru.rt (v := (some (.int (-1)))) (h' := h) rfl ?_
            refine qm_Ru.go 3 (c' := (2081, [.retAddr 0, .ref 0, .ref 118, .int (i + 6)], [], h)) rfl ?_
            obtain ⟨v44, q_v44, e_v44⟩ := hk_add (x := i) (y := 6) (a := i.toInt) (b := 6) rfl rfl (by omega) (by omega)
            rw [q_v44]
            refine qm_Ru.go 1 (c' := (18, [.retAddr 0, .ref 0, .ref 118, .int v44], [], h)) rfl ?_
            have hG : gR (h.2.1) := hS.2
            have hS1 : gS (h.1, h.2.1, h.2.2.1, h.2.2.2) := hS.1
            have hS2 : gS2 (h.1, h.2.1, h.2.2.1, h.2.2.2) := ⟨hS1, hG⟩
            have hX3 : gX (h.1, h.2.1, h.2.2.1, h.2.2.2) := hX
            have hZ3 : (gZB tb) (h.1, h.2.1, h.2.2.1, h.2.2.2) := hZ
            exact hE _ v44 (by omega) (qa_Inv_of0 ⟨hH.1, hH.2⟩ hB ⟨⟨⟨hS2, hX3⟩, hZ3⟩, t⟩ (gS2_ru hS2))
          · refine qm_Ru.go 2 (c' := (11, [.ref 118, .int s2, .int s4], [.int s2, .ref 118], h)) rfl ?_
            refine hk_inv (o := 118) (r := []) (as := [.ref 118, .int s2]) rfl rfl (hH.1 118 (17, 105) rfl) rfl rfl rfl rfl ?_
            refine qm_Ru.go 3 (c' := (3, [.ref 118, .int s2], [.ref 118, .int 0, .int s2], h)) rfl ?_
            refine hk_geti (v := c0) rfl (hH.1 118 (17, 105) rfl) rfl p_c0 ?_
            refine qm_Ru.go 2 (c' := (8, [.ref 118, .int s2], [.int (c0 - 1), .int 0, .int s2], h)) rfl ?_
            obtain ⟨v45, q_v45, e_v45⟩ := hk_sub (x := c0) (y := 1) (a := c0.toInt) (b := 1) rfl rfl (by omega) (by omega)
            rw [q_v45]
            refine qm_Ru.call (j := 270) (as := [.int s2, .int 0, .int v45]) (c' := (11, [.ref 118, .int s2], [], h)) rfl rfl rfl ?_
            refine qm_Ru.go 2 (c' := (2, [.int s2, .int 0, .int v45], [.int 0, .int s2], h)) rfl ?_
            refine hk_clt (ix := s2.toInt) (iy := 0) rfl rfl rfl (fun z46 => by exfalso; omega) (fun z46 => ?_)
            refine qm_Ru.go 2 (c' := (7, [.int s2, .int 0, .int v45], [.int v45, .int s2], h)) rfl ?_
            refine hk_cgt (ix := s2.toInt) (iy := v45.toInt) rfl rfl rfl (fun z47 => ?_) (fun z47 => ?_)
            · refine qm_Ru.go 1 (c' := (15, [.int s2, .int 0, .int v45], [.int 0], h)) rfl ?_
              refine qm_Ru.rt (v := (some (.int 0))) (h' := h) rfl ?_
              refine qm_Ru.go 0 (c' := (11, [.ref 118, .int s2], [.int 0], h)) rfl ?_
              refine qm_Ru.rt (v := (some (.int 0))) (h' := h) rfl ?_
              refine qm_Ru.go 3 (c' := (37, [.ref 118, .int s2, .int s4], [.int (-1)], h)) rfl ?_
              refine qm_Ru.rt (v := (some (.int (-1)))) (h' := h) rfl ?_
              refine qm_Ru.go 3 (c' := (2081, [.retAddr 0, .ref 0, .ref 118, .int (i + 6)], [], h)) rfl ?_
              obtain ⟨v48, q_v48, e_v48⟩ := hk_add (x := i) (y := 6) (a := i.toInt) (b := 6) rfl rfl (by omega) (by omega)
              rw [q_v48]
              refine qm_Ru.go 1 (c' := (18, [.retAddr 0, .ref 0, .ref 118, .int v48], [], h)) rfl ?_
              have hG : gR (h.2.1) := hS.2
              have hS1 : gS (h.1, h.2.1, h.2.2.1, h.2.2.2) := hS.1
              have hS2 : gS2 (h.1, h.2.1, h.2.2.1, h.2.2.2) := ⟨hS1, hG⟩
              have hX3 : gX (h.1, h.2.1, h.2.2.1, h.2.2.2) := hX
              have hZ3 : (gZB tb) (h.1, h.2.1, h.2.2.1, h.2.2.2) := hZ
              exact hE _ v48 (by omega) (qa_Inv_of0 ⟨hH.1, hH.2⟩ hB ⟨⟨⟨hS2, hX3⟩, hZ3⟩, t⟩ (gS2_ru hS2))
            · refine qm_Ru.go 2 (c' := (15, [.int s2, .int 0, .int v45], [.int 1], h)) rfl ?_
              refine qm_Ru.rt (v := (some (.int 1))) (h' := h) rfl ?_
              refine qm_Ru.go 0 (c' := (11, [.ref 118, .int s2], [.int 1], h)) rfl ?_
              refine qm_Ru.rt (v := (some (.int 1))) (h' := h) rfl ?_
              refine qm_Ru.go 4 (c' := (20, [.ref 118, .int s2, .int s4], [.int 5, .int 0, .int s4], h)) rfl ?_
              refine qm_Ru.call (j := 270) (as := [.int s4, .int 0, .int 5]) (c' := (23, [.ref 118, .int s2, .int s4], [], h)) rfl rfl rfl ?_
              refine qm_Ru.go 2 (c' := (2, [.int s4, .int 0, .int 5], [.int 0, .int s4], h)) rfl ?_
              refine hk_clt (ix := s4.toInt) (iy := 0) rfl rfl rfl (fun z49 => by exfalso; omega) (fun z49 => ?_)
              refine qm_Ru.go 2 (c' := (7, [.int s4, .int 0, .int 5], [.int 5, .int s4], h)) rfl ?_
              refine hk_cgt (ix := s4.toInt) (iy := 5) rfl rfl rfl (fun z50 => ?_) (fun z50 => by exfalso; omega)
              refine qm_Ru.go 1 (c' := (15, [.int s4, .int 0, .int 5], [.int 0], h)) rfl ?_
              refine qm_Ru.rt (v := (some (.int 0))) (h' := h) rfl ?_
              refine qm_Ru.go 3 (c' := (37, [.ref 118, .int s2, .int s4], [.int (-1)], h)) rfl ?_
              refine qm_Ru.rt (v := (some (.int (-1)))) (h' := h) rfl ?_
              refine qm_Ru.go 3 (c' := (2081, [.retAddr 0, .ref 0, .ref 118, .int (i + 6)], [], h)) rfl ?_
              obtain ⟨v51, q_v51, e_v51⟩ := hk_add (x := i) (y := 6) (a := i.toInt) (b := 6) rfl rfl (by omega) (by omega)
              rw [q_v51]
              refine qm_Ru.go 1 (c' := (18, [.retAddr 0, .ref 0, .ref 118, .int v51], [], h)) rfl ?_
              have hG : gR (h.2.1) := hS.2
              have hS1 : gS (h.1, h.2.1, h.2.2.1, h.2.2.2) := hS.1
              have hS2 : gS2 (h.1, h.2.1, h.2.2.1, h.2.2.2) := ⟨hS1, hG⟩
              have hX3 : gX (h.1, h.2.1, h.2.2.1, h.2.2.2) := hX
              have hZ3 : (gZB tb) (h.1, h.2.1, h.2.2.1, h.2.2.2) := hZ
              exact hE _ v51 (by omega) (qa_Inv_of0 ⟨hH.1, hH.2⟩ hB ⟨⟨⟨hS2, hX3⟩, hZ3⟩, t⟩ (gS2_ru hS2))
        · refine qm_Ru.go 2 (c' := (14, [.int s4, .int 6], [.int 1], h)) rfl ?_
          refine qm_Ru.rt (v := (some (.int 1))) (h' := h) rfl ?_
          refine qm_Ru.go 2 (c' := (23, [.ref 0, .int s2, .int s4], [.ref 0], h)) rfl ?_
          refine hk_getr rfl (hH.1 0 (16, 10) rfl) rfl (hH.2 0 6 (some 42) rfl) ?_
          refine qm_Ru.go 3 (c' := (29, [.ref 0, .int s2, .int s4], [.int s4, .int s2, .int 0, .ref 42], h)) rfl ?_
          refine hk_inv (o := 42) (r := []) (as := [.ref 42, .int 0, .int s2, .int s4]) rfl rfl (hH.1 42 (7, 11) rfl) rfl rfl rfl rfl ?_
          refine qm_Ru.go 1 (c' := (1, [.ref 42, .int 0, .int s2, .int s4], [.ref 42], h)) rfl ?_
          refine hk_geti (v := f0) rfl (hH.1 42 (7, 11) rfl) rfl q_f0 ?_
          refine qm_Ru.go 1 (c' := (6, [.ref 42, .int 0, .int s2, .int s4], [.int 60, .int f0], h)) rfl ?_
          refine hk_clt (ix := f0.toInt) (iy := 60) rfl rfl rfl (fun z52 => ?_) (fun z52 => ?_)
          · refine qm_Ru.go 1 (c' := (12, [.ref 42, .int 0, .int s2, .int s4], [.ref 42], h)) rfl ?_
            refine hk_getr rfl (hH.1 42 (7, 11) rfl) rfl (hH.2 42 1 (some 43) rfl) ?_
            refine qm_Ru.go 1 (c' := (16, [.ref 42, .int 0, .int s2, .int s4], [.ref 42, .ref 43], h)) rfl ?_
            refine hk_geti (v := f0) rfl (hH.1 42 (7, 11) rfl) rfl q_f0 ?_
            refine qm_Ru.go 1 (c' := (20, [.ref 42, .int 0, .int s2, .int s4], [.int 0, .int f0, .ref 43], h)) rfl ?_
            refine hk_ias rfl (hH.1 43 (0, 60) rfl) (by omega) (by omega) ?_
            refine qm_Ru.go 1 (c' := (22, [.ref 42, .int 0, .int s2, .int s4], [.ref 42], (h.1, qm_up h.2.1 43 (f0.toInt.toNat) 0, h.2.2.1, h.2.2.2))) rfl ?_
            refine hk_getr rfl (hH.1 42 (7, 11) rfl) rfl (hH.2 42 2 (some 44) rfl) ?_
            refine qm_Ru.go 1 (c' := (26, [.ref 42, .int 0, .int s2, .int s4], [.ref 42, .ref 44], (h.1, qm_up h.2.1 43 (f0.toInt.toNat) 0, h.2.2.1, h.2.2.2))) rfl ?_
            refine hk_geti (v := f0) rfl (hH.1 42 (7, 11) rfl) rfl (show (qm_up h.2.1 43 (f0.toInt.toNat) 0) 42 7 = _ from ((hk_ot rfl).trans q_f0)) ?_
            refine qm_Ru.go 1 (c' := (30, [.ref 42, .int 0, .int s2, .int s4], [.int s2, .int f0, .ref 44], (h.1, qm_up h.2.1 43 (f0.toInt.toNat) 0, h.2.2.1, h.2.2.2))) rfl ?_
            refine hk_ias rfl (hH.1 44 (0, 60) rfl) (by omega) (by omega) ?_
            refine qm_Ru.go 1 (c' := (32, [.ref 42, .int 0, .int s2, .int s4], [.ref 42], (h.1, qm_up (qm_up h.2.1 43 (f0.toInt.toNat) 0) 44 (f0.toInt.toNat) s2, h.2.2.1, h.2.2.2))) rfl ?_
            refine hk_getr rfl (hH.1 42 (7, 11) rfl) rfl (hH.2 42 3 (some 45) rfl) ?_
            refine qm_Ru.go 1 (c' := (36, [.ref 42, .int 0, .int s2, .int s4], [.ref 42, .ref 45], (h.1, qm_up (qm_up h.2.1 43 (f0.toInt.toNat) 0) 44 (f0.toInt.toNat) s2, h.2.2.1, h.2.2.2))) rfl ?_
            refine hk_geti (v := f0) rfl (hH.1 42 (7, 11) rfl) rfl (show (qm_up (qm_up h.2.1 43 (f0.toInt.toNat) 0) 44 (f0.toInt.toNat) s2) 42 7 = _ from ((hk_ot rfl).trans ((hk_ot rfl).trans q_f0))) ?_
            refine qm_Ru.go 1 (c' := (40, [.ref 42, .int 0, .int s2, .int s4], [.int s4, .int f0, .ref 45], (h.1, qm_up (qm_up h.2.1 43 (f0.toInt.toNat) 0) 44 (f0.toInt.toNat) s2, h.2.2.1, h.2.2.2))) rfl ?_
            refine hk_ias rfl (hH.1 45 (0, 60) rfl) (by omega) (by omega) ?_
            refine qm_Ru.go 5 (c' := (56, [.ref 42, .int 0, .int s2, .int s4], [.ref 42, .ref 42], (h.1, qm_up (qm_up (qm_up h.2.1 43 (f0.toInt.toNat) 0) 44 (f0.toInt.toNat) s2) 45 (f0.toInt.toNat) s4, h.2.2.1, h.2.2.2))) rfl ?_
            refine hk_geti (v := f0) rfl (hH.1 42 (7, 11) rfl) rfl (show (qm_up (qm_up (qm_up h.2.1 43 (f0.toInt.toNat) 0) 44 (f0.toInt.toNat) s2) 45 (f0.toInt.toNat) s4) 42 7 = _ from ((hk_ot rfl).trans ((hk_ot rfl).trans ((hk_ot rfl).trans q_f0)))) ?_
            refine qm_Ru.go 2 (c' := (61, [.ref 42, .int 0, .int s2, .int s4], [.int (f0 + 1), .ref 42], (h.1, qm_up (qm_up (qm_up h.2.1 43 (f0.toInt.toNat) 0) 44 (f0.toInt.toNat) s2) 45 (f0.toInt.toNat) s4, h.2.2.1, h.2.2.2))) rfl ?_
            obtain ⟨v53, q_v53, e_v53⟩ := hk_add (x := f0) (y := 1) (a := f0.toInt) (b := 1) rfl rfl (by omega) (by omega)
            rw [q_v53]
            refine hk_puti rfl (hH.1 42 (7, 11) rfl) rfl ?_
            refine qm_Ru.go 1 (c' := (65, [.ref 42, .int 0, .int s2, .int s4], [.ref 42], (h.1, qm_up (qm_up (qm_up (qm_up h.2.1 43 (f0.toInt.toNat) 0) 44 (f0.toInt.toNat) s2) 45 (f0.toInt.toNat) s4) 42 7 v53, h.2.2.1, h.2.2.2))) rfl ?_
            refine hk_geti (v := v53) rfl (hH.1 42 (7, 11) rfl) rfl (show (qm_up (qm_up (qm_up (qm_up h.2.1 43 (f0.toInt.toNat) 0) 44 (f0.toInt.toNat) s2) 45 (f0.toInt.toNat) s4) 42 7 v53) 42 7 = _ from (hk_same)) ?_
            refine qm_Ru.go 2 (c' := (70, [.ref 42, .int 0, .int s2, .int s4], [.int (v53 - 1)], (h.1, qm_up (qm_up (qm_up (qm_up h.2.1 43 (f0.toInt.toNat) 0) 44 (f0.toInt.toNat) s2) 45 (f0.toInt.toNat) s4) 42 7 v53, h.2.2.1, h.2.2.2))) rfl ?_
            obtain ⟨v54, q_v54, e_v54⟩ := hk_sub (x := v53) (y := 1) (a := v53.toInt) (b := 1) rfl rfl (by omega) (by omega)
            rw [q_v54]
            refine qm_Ru.rt (v := (some (.int v54))) (h' := (h.1, qm_up (qm_up (qm_up (qm_up h.2.1 43 (f0.toInt.toNat) 0) 44 (f0.toInt.toNat) s2) 45 (f0.toInt.toNat) s4) 42 7 v53, h.2.2.1, h.2.2.2)) rfl ?_
            refine qm_Ru.go 0 (c' := (32, [.ref 0, .int s2, .int s4], [.int v54], (h.1, qm_up (qm_up (qm_up (qm_up h.2.1 43 (f0.toInt.toNat) 0) 44 (f0.toInt.toNat) s2) 45 (f0.toInt.toNat) s4) 42 7 v53, h.2.2.1, h.2.2.2))) rfl ?_
            refine qm_Ru.rt (v := (some (.int v54))) (h' := (h.1, qm_up (qm_up (qm_up (qm_up h.2.1 43 (f0.toInt.toNat) 0) 44 (f0.toInt.toNat) s2) 45 (f0.toInt.toNat) s4) 42 7 v53, h.2.2.1, h.2.2.2)) rfl ?_
            refine qm_Ru.go 6 (c' := (1248, [.retAddr 0, .ref 0, .ref 118, .int i], [.int (i + 1), .retAddr 0, .ref 118], (h.1, qm_up (qm_up (qm_up (qm_up h.2.1 43 (f0.toInt.toNat) 0) 44 (f0.toInt.toNat) s2) 45 (f0.toInt.toNat) s4) 42 7 v53, h.2.2.1, h.2.2.2))) rfl ?_
            rw [q_v1]
            refine hk_scr (v := s2) rfl (by omega) (by omega) q_s2 ?_
            refine qm_Ru.go 4 (c' := (1253, [.retAddr 0, .ref 0, .ref 118, .int i], [.int (i + 2), .retAddr 0, .int s2, .ref 118], (h.1, qm_up (qm_up (qm_up (qm_up h.2.1 43 (f0.toInt.toNat) 0) 44 (f0.toInt.toNat) s2) 45 (f0.toInt.toNat) s4) 42 7 v53, h.2.2.1, h.2.2.2))) rfl ?_
            rw [q_v3]
            refine hk_scr (v := s4) rfl (by omega) (by omega) q_s4 ?_
            refine qm_Ru.go 0 (c' := (1254, [.retAddr 0, .ref 0, .ref 118, .int i], [.int s4, .int s2, .ref 118], (h.1, qm_up (qm_up (qm_up (qm_up h.2.1 43 (f0.toInt.toNat) 0) 44 (f0.toInt.toNat) s2) 45 (f0.toInt.toNat) s4) 42 7 v53, h.2.2.1, h.2.2.2))) rfl ?_
            refine hk_inv (o := 118) (r := []) (as := [.ref 118, .int s2, .int s4]) rfl rfl (hH.1 118 (17, 105) rfl) rfl rfl rfl rfl ?_
            refine qm_Ru.go 1 (c' := (1, [.ref 118, .int s2, .int s4], [.ref 118], (h.1, qm_up (qm_up (qm_up (qm_up h.2.1 43 (f0.toInt.toNat) 0) 44 (f0.toInt.toNat) s2) 45 (f0.toInt.toNat) s4) 42 7 v53, h.2.2.1, h.2.2.2))) rfl ?_
            refine hk_geti (v := f0) rfl (hH.1 118 (17, 105) rfl) rfl (show (qm_up (qm_up (qm_up (qm_up h.2.1 43 (f0.toInt.toNat) 0) 44 (f0.toInt.toNat) s2) 45 (f0.toInt.toNat) s4) 42 7 v53) 118 70 = _ from ((hk_ot rfl).trans ((hk_ot rfl).trans ((hk_ot rfl).trans ((hk_ot rfl).trans p_f0))))) ?_
            refine qm_Ru.go 1 (c' := (6, [.ref 118, .int s2, .int s4], [.int 60, .int f0], (h.1, qm_up (qm_up (qm_up (qm_up h.2.1 43 (f0.toInt.toNat) 0) 44 (f0.toInt.toNat) s2) 45 (f0.toInt.toNat) s4) 42 7 v53, h.2.2.1, h.2.2.2))) rfl ?_
            refine hk_ceq (ix := f0.toInt) (iy := 60) rfl rfl rfl (fun z57 => by exfalso; omega) (fun z57 => ?_)
            refine qm_Ru.go 2 (c' := (11, [.ref 118, .int s2, .int s4], [.int s2, .ref 118], (h.1, qm_up (qm_up (qm_up (qm_up h.2.1 43 (f0.toInt.toNat) 0) 44 (f0.toInt.toNat) s2) 45 (f0.toInt.toNat) s4) 42 7 v53, h.2.2.1, h.2.2.2))) rfl ?_
            refine hk_inv (o := 118) (r := []) (as := [.ref 118, .int s2]) rfl rfl (hH.1 118 (17, 105) rfl) rfl rfl rfl rfl ?_
            refine qm_Ru.go 3 (c' := (3, [.ref 118, .int s2], [.ref 118, .int 0, .int s2], (h.1, qm_up (qm_up (qm_up (qm_up h.2.1 43 (f0.toInt.toNat) 0) 44 (f0.toInt.toNat) s2) 45 (f0.toInt.toNat) s4) 42 7 v53, h.2.2.1, h.2.2.2))) rfl ?_
            refine hk_geti (v := c0) rfl (hH.1 118 (17, 105) rfl) rfl (show (qm_up (qm_up (qm_up (qm_up h.2.1 43 (f0.toInt.toNat) 0) 44 (f0.toInt.toNat) s2) 45 (f0.toInt.toNat) s4) 42 7 v53) 118 44 = _ from ((hk_ot rfl).trans ((hk_ot rfl).trans ((hk_ot rfl).trans ((hk_ot rfl).trans p_c0))))) ?_
            refine qm_Ru.go 2 (c' := (8, [.ref 118, .int s2], [.int (c0 - 1), .int 0, .int s2], (h.1, qm_up (qm_up (qm_up (qm_up h.2.1 43 (f0.toInt.toNat) 0) 44 (f0.toInt.toNat) s2) 45 (f0.toInt.toNat) s4) 42 7 v53, h.2.2.1, h.2.2.2))) rfl ?_
            obtain ⟨v58, q_v58, e_v58⟩ := hk_sub (x := c0) (y := 1) (a := c0.toInt) (b := 1) rfl rfl (by omega) (by omega)
            rw [q_v58]
            refine qm_Ru.call (j := 270) (as := [.int s2, .int 0, .int v58]) (c' := (11, [.ref 118, .int s2], [], (h.1, qm_up (qm_up (qm_up (qm_up h.2.1 43 (f0.toInt.toNat) 0) 44 (f0.toInt.toNat) s2) 45 (f0.toInt.toNat) s4) 42 7 v53, h.2.2.1, h.2.2.2))) rfl rfl rfl ?_
            refine qm_Ru.go 2 (c' := (2, [.int s2, .int 0, .int v58], [.int 0, .int s2], (h.1, qm_up (qm_up (qm_up (qm_up h.2.1 43 (f0.toInt.toNat) 0) 44 (f0.toInt.toNat) s2) 45 (f0.toInt.toNat) s4) 42 7 v53, h.2.2.1, h.2.2.2))) rfl ?_
            refine hk_clt (ix := s2.toInt) (iy := 0) rfl rfl rfl (fun z59 => by exfalso; omega) (fun z59 => ?_)
            refine qm_Ru.go 2 (c' := (7, [.int s2, .int 0, .int v58], [.int v58, .int s2], (h.1, qm_up (qm_up (qm_up (qm_up h.2.1 43 (f0.toInt.toNat) 0) 44 (f0.toInt.toNat) s2) 45 (f0.toInt.toNat) s4) 42 7 v53, h.2.2.1, h.2.2.2))) rfl ?_
            refine hk_cgt (ix := s2.toInt) (iy := v58.toInt) rfl rfl rfl (fun z60 => ?_) (fun z60 => ?_)
            · refine qm_Ru.go 1 (c' := (15, [.int s2, .int 0, .int v58], [.int 0], (h.1, qm_up (qm_up (qm_up (qm_up h.2.1 43 (f0.toInt.toNat) 0) 44 (f0.toInt.toNat) s2) 45 (f0.toInt.toNat) s4) 42 7 v53, h.2.2.1, h.2.2.2))) rfl ?_
              refine qm_Ru.rt (v := (some (.int 0))) (h' := (h.1, qm_up (qm_up (qm_up (qm_up h.2.1 43 (f0.toInt.toNat) 0) 44 (f0.toInt.toNat) s2) 45 (f0.toInt.toNat) s4) 42 7 v53, h.2.2.1, h.2.2.2)) rfl ?_
              refine qm_Ru.go 0 (c' := (11, [.ref 118, .int s2], [.int 0], (h.1, qm_up (qm_up (qm_up (qm_up h.2.1 43 (f0.toInt.toNat) 0) 44 (f0.toInt.toNat) s2) 45 (f0.toInt.toNat) s4) 42 7 v53, h.2.2.1, h.2.2.2))) rfl ?_
              refine qm_Ru.rt (v := (some (.int 0))) (h' := (h.1, qm_up (qm_up (qm_up (qm_up h.2.1 43 (f0.toInt.toNat) 0) 44 (f0.toInt.toNat) s2) 45 (f0.toInt.toNat) s4) 42 7 v53, h.2.2.1, h.2.2.2)) rfl ?_
              refine qm_Ru.go 3 (c' := (37, [.ref 118, .int s2, .int s4], [.int (-1)], (h.1, qm_up (qm_up (qm_up (qm_up h.2.1 43 (f0.toInt.toNat) 0) 44 (f0.toInt.toNat) s2) 45 (f0.toInt.toNat) s4) 42 7 v53, h.2.2.1, h.2.2.2))) rfl ?_
              refine qm_Ru.rt (v := (some (.int (-1)))) (h' := (h.1, qm_up (qm_up (qm_up (qm_up h.2.1 43 (f0.toInt.toNat) 0) 44 (f0.toInt.toNat) s2) 45 (f0.toInt.toNat) s4) 42 7 v53, h.2.2.1, h.2.2.2)) rfl ?_
              refine qm_Ru.go 3 (c' := (2081, [.retAddr 0, .ref 0, .ref 118, .int (i + 6)], [], (h.1, qm_up (qm_up (qm_up (qm_up h.2.1 43 (f0.toInt.toNat) 0) 44 (f0.toInt.toNat) s2) 45 (f0.toInt.toNat) s4) 42 7 v53, h.2.2.1, h.2.2.2))) rfl ?_
              obtain ⟨v61, q_v61, e_v61⟩ := hk_add (x := i) (y := 6) (a := i.toInt) (b := 6) rfl rfl (by omega) (by omega)
              rw [q_v61]
              refine qm_Ru.go 1 (c' := (18, [.retAddr 0, .ref 0, .ref 118, .int v61], [], (h.1, qm_up (qm_up (qm_up (qm_up h.2.1 43 (f0.toInt.toNat) 0) 44 (f0.toInt.toNat) s2) 45 (f0.toInt.toNat) s4) 42 7 v53, h.2.2.1, h.2.2.2))) rfl ?_
              exfalso
              omega
            · refine qm_Ru.go 2 (c' := (15, [.int s2, .int 0, .int v58], [.int 1], (h.1, qm_up (qm_up (qm_up (qm_up h.2.1 43 (f0.toInt.toNat) 0) 44 (f0.toInt.toNat) s2) 45 (f0.toInt.toNat) s4) 42 7 v53, h.2.2.1, h.2.2.2))) rfl ?_
              refine qm_Ru.rt (v := (some (.int 1))) (h' := (h.1, qm_up (qm_up (qm_up (qm_up h.2.1 43 (f0.toInt.toNat) 0) 44 (f0.toInt.toNat) s2) 45 (f0.toInt.toNat) s4) 42 7 v53, h.2.2.1, h.2.2.2)) rfl ?_
              refine qm_Ru.go 0 (c' := (11, [.ref 118, .int s2], [.int 1], (h.1, qm_up (qm_up (qm_up (qm_up h.2.1 43 (f0.toInt.toNat) 0) 44 (f0.toInt.toNat) s2) 45 (f0.toInt.toNat) s4) 42 7 v53, h.2.2.1, h.2.2.2))) rfl ?_
              refine qm_Ru.rt (v := (some (.int 1))) (h' := (h.1, qm_up (qm_up (qm_up (qm_up h.2.1 43 (f0.toInt.toNat) 0) 44 (f0.toInt.toNat) s2) 45 (f0.toInt.toNat) s4) 42 7 v53, h.2.2.1, h.2.2.2)) rfl ?_
              refine qm_Ru.go 4 (c' := (20, [.ref 118, .int s2, .int s4], [.int 5, .int 0, .int s4], (h.1, qm_up (qm_up (qm_up (qm_up h.2.1 43 (f0.toInt.toNat) 0) 44 (f0.toInt.toNat) s2) 45 (f0.toInt.toNat) s4) 42 7 v53, h.2.2.1, h.2.2.2))) rfl ?_
              refine qm_Ru.call (j := 270) (as := [.int s4, .int 0, .int 5]) (c' := (23, [.ref 118, .int s2, .int s4], [], (h.1, qm_up (qm_up (qm_up (qm_up h.2.1 43 (f0.toInt.toNat) 0) 44 (f0.toInt.toNat) s2) 45 (f0.toInt.toNat) s4) 42 7 v53, h.2.2.1, h.2.2.2))) rfl rfl rfl ?_
              refine qm_Ru.go 2 (c' := (2, [.int s4, .int 0, .int 5], [.int 0, .int s4], (h.1, qm_up (qm_up (qm_up (qm_up h.2.1 43 (f0.toInt.toNat) 0) 44 (f0.toInt.toNat) s2) 45 (f0.toInt.toNat) s4) 42 7 v53, h.2.2.1, h.2.2.2))) rfl ?_
              refine hk_clt (ix := s4.toInt) (iy := 0) rfl rfl rfl (fun z62 => by exfalso; omega) (fun z62 => ?_)
              refine qm_Ru.go 2 (c' := (7, [.int s4, .int 0, .int 5], [.int 5, .int s4], (h.1, qm_up (qm_up (qm_up (qm_up h.2.1 43 (f0.toInt.toNat) 0) 44 (f0.toInt.toNat) s2) 45 (f0.toInt.toNat) s4) 42 7 v53, h.2.2.1, h.2.2.2))) rfl ?_
              refine hk_cgt (ix := s4.toInt) (iy := 5) rfl rfl rfl (fun z63 => by exfalso; omega) (fun z63 => ?_)
              refine qm_Ru.go 2 (c' := (15, [.int s4, .int 0, .int 5], [.int 1], (h.1, qm_up (qm_up (qm_up (qm_up h.2.1 43 (f0.toInt.toNat) 0) 44 (f0.toInt.toNat) s2) 45 (f0.toInt.toNat) s4) 42 7 v53, h.2.2.1, h.2.2.2))) rfl ?_
              refine qm_Ru.rt (v := (some (.int 1))) (h' := (h.1, qm_up (qm_up (qm_up (qm_up h.2.1 43 (f0.toInt.toNat) 0) 44 (f0.toInt.toNat) s2) 45 (f0.toInt.toNat) s4) 42 7 v53, h.2.2.1, h.2.2.2)) rfl ?_
              refine qm_Ru.go 5 (c' := (34, [.ref 118, .int s2, .int s4], [.int s4, .int s2, .int 0, .ref 118], (h.1, qm_up (qm_up (qm_up (qm_up h.2.1 43 (f0.toInt.toNat) 0) 44 (f0.toInt.toNat) s2) 45 (f0.toInt.toNat) s4) 42 7 v53, h.2.2.1, h.2.2.2))) rfl ?_
              refine hk_inv (o := 118) (r := []) (as := [.ref 118, .int 0, .int s2, .int s4]) rfl rfl (hH.1 118 (17, 105) rfl) rfl rfl rfl rfl ?_
              refine qm_Ru.go 1 (c' := (1, [.ref 118, .int 0, .int s2, .int s4], [.ref 118], (h.1, qm_up (qm_up (qm_up (qm_up h.2.1 43 (f0.toInt.toNat) 0) 44 (f0.toInt.toNat) s2) 45 (f0.toInt.toNat) s4) 42 7 v53, h.2.2.1, h.2.2.2))) rfl ?_
              refine hk_getr rfl (hH.1 118 (17, 105) rfl) rfl (hH.2 118 71 (some 164) rfl) ?_
              refine qm_Ru.go 1 (c' := (5, [.ref 118, .int 0, .int s2, .int s4], [.ref 118, .ref 164], (h.1, qm_up (qm_up (qm_up (qm_up h.2.1 43 (f0.toInt.toNat) 0) 44 (f0.toInt.toNat) s2) 45 (f0.toInt.toNat) s4) 42 7 v53, h.2.2.1, h.2.2.2))) rfl ?_
              refine hk_geti (v := f0) rfl (hH.1 118 (17, 105) rfl) rfl (show (qm_up (qm_up (qm_up (qm_up h.2.1 43 (f0.toInt.toNat) 0) 44 (f0.toInt.toNat) s2) 45 (f0.toInt.toNat) s4) 42 7 v53) 118 70 = _ from ((hk_ot rfl).trans ((hk_ot rfl).trans ((hk_ot rfl).trans ((hk_ot rfl).trans p_f0))))) ?_
              refine qm_Ru.go 1 (c' := (9, [.ref 118, .int 0, .int s2, .int s4], [.int 0, .int f0, .ref 164], (h.1, qm_up (qm_up (qm_up (qm_up h.2.1 43 (f0.toInt.toNat) 0) 44 (f0.toInt.toNat) s2) 45 (f0.toInt.toNat) s4) 42 7 v53, h.2.2.1, h.2.2.2))) rfl ?_
              refine hk_ias rfl (hH.1 164 (0, 60) rfl) (by omega) (by omega) ?_
              refine qm_Ru.go 1 (c' := (11, [.ref 118, .int 0, .int s2, .int s4], [.ref 118], (h.1, qm_up (qm_up (qm_up (qm_up (qm_up h.2.1 43 (f0.toInt.toNat) 0) 44 (f0.toInt.toNat) s2) 45 (f0.toInt.toNat) s4) 42 7 v53) 164 (f0.toInt.toNat) 0, h.2.2.1, h.2.2.2))) rfl ?_
              refine hk_getr rfl (hH.1 118 (17, 105) rfl) rfl (hH.2 118 72 (some 165) rfl) ?_
              refine qm_Ru.go 1 (c' := (15, [.ref 118, .int 0, .int s2, .int s4], [.ref 118, .ref 165], (h.1, qm_up (qm_up (qm_up (qm_up (qm_up h.2.1 43 (f0.toInt.toNat) 0) 44 (f0.toInt.toNat) s2) 45 (f0.toInt.toNat) s4) 42 7 v53) 164 (f0.toInt.toNat) 0, h.2.2.1, h.2.2.2))) rfl ?_
              refine hk_geti (v := f0) rfl (hH.1 118 (17, 105) rfl) rfl (show (qm_up (qm_up (qm_up (qm_up (qm_up h.2.1 43 (f0.toInt.toNat) 0) 44 (f0.toInt.toNat) s2) 45 (f0.toInt.toNat) s4) 42 7 v53) 164 (f0.toInt.toNat) 0) 118 70 = _ from ((hk_ot rfl).trans ((hk_ot rfl).trans ((hk_ot rfl).trans ((hk_ot rfl).trans ((hk_ot rfl).trans p_f0)))))) ?_
              refine qm_Ru.go 1 (c' := (19, [.ref 118, .int 0, .int s2, .int s4], [.int s2, .int f0, .ref 165], (h.1, qm_up (qm_up (qm_up (qm_up (qm_up h.2.1 43 (f0.toInt.toNat) 0) 44 (f0.toInt.toNat) s2) 45 (f0.toInt.toNat) s4) 42 7 v53) 164 (f0.toInt.toNat) 0, h.2.2.1, h.2.2.2))) rfl ?_
              refine hk_ias rfl (hH.1 165 (0, 60) rfl) (by omega) (by omega) ?_
              refine qm_Ru.go 1 (c' := (21, [.ref 118, .int 0, .int s2, .int s4], [.ref 118], (h.1, qm_up (qm_up (qm_up (qm_up (qm_up (qm_up h.2.1 43 (f0.toInt.toNat) 0) 44 (f0.toInt.toNat) s2) 45 (f0.toInt.toNat) s4) 42 7 v53) 164 (f0.toInt.toNat) 0) 165 (f0.toInt.toNat) s2, h.2.2.1, h.2.2.2))) rfl ?_
              refine hk_getr rfl (hH.1 118 (17, 105) rfl) rfl (hH.2 118 73 (some 166) rfl) ?_
              refine qm_Ru.go 1 (c' := (25, [.ref 118, .int 0, .int s2, .int s4], [.ref 118, .ref 166], (h.1, qm_up (qm_up (qm_up (qm_up (qm_up (qm_up h.2.1 43 (f0.toInt.toNat) 0) 44 (f0.toInt.toNat) s2) 45 (f0.toInt.toNat) s4) 42 7 v53) 164 (f0.toInt.toNat) 0) 165 (f0.toInt.toNat) s2, h.2.2.1, h.2.2.2))) rfl ?_
              refine hk_geti (v := f0) rfl (hH.1 118 (17, 105) rfl) rfl (show (qm_up (qm_up (qm_up (qm_up (qm_up (qm_up h.2.1 43 (f0.toInt.toNat) 0) 44 (f0.toInt.toNat) s2) 45 (f0.toInt.toNat) s4) 42 7 v53) 164 (f0.toInt.toNat) 0) 165 (f0.toInt.toNat) s2) 118 70 = _ from ((hk_ot rfl).trans ((hk_ot rfl).trans ((hk_ot rfl).trans ((hk_ot rfl).trans ((hk_ot rfl).trans ((hk_ot rfl).trans p_f0))))))) ?_
              refine qm_Ru.go 1 (c' := (29, [.ref 118, .int 0, .int s2, .int s4], [.int s4, .int f0, .ref 166], (h.1, qm_up (qm_up (qm_up (qm_up (qm_up (qm_up h.2.1 43 (f0.toInt.toNat) 0) 44 (f0.toInt.toNat) s2) 45 (f0.toInt.toNat) s4) 42 7 v53) 164 (f0.toInt.toNat) 0) 165 (f0.toInt.toNat) s2, h.2.2.1, h.2.2.2))) rfl ?_
              refine hk_ias rfl (hH.1 166 (0, 60) rfl) (by omega) (by omega) ?_
              refine qm_Ru.go 2 (c' := (32, [.ref 118, .int 0, .int s2, .int s4], [.ref 118, .ref 118], (h.1, qm_up (qm_up (qm_up (qm_up (qm_up (qm_up (qm_up h.2.1 43 (f0.toInt.toNat) 0) 44 (f0.toInt.toNat) s2) 45 (f0.toInt.toNat) s4) 42 7 v53) 164 (f0.toInt.toNat) 0) 165 (f0.toInt.toNat) s2) 166 (f0.toInt.toNat) s4, h.2.2.1, h.2.2.2))) rfl ?_
              refine hk_geti (v := f0) rfl (hH.1 118 (17, 105) rfl) rfl (show (qm_up (qm_up (qm_up (qm_up (qm_up (qm_up (qm_up h.2.1 43 (f0.toInt.toNat) 0) 44 (f0.toInt.toNat) s2) 45 (f0.toInt.toNat) s4) 42 7 v53) 164 (f0.toInt.toNat) 0) 165 (f0.toInt.toNat) s2) 166 (f0.toInt.toNat) s4) 118 70 = _ from ((hk_ot rfl).trans ((hk_ot rfl).trans ((hk_ot rfl).trans ((hk_ot rfl).trans ((hk_ot rfl).trans ((hk_ot rfl).trans ((hk_ot rfl).trans p_f0)))))))) ?_
              refine qm_Ru.go 2 (c' := (37, [.ref 118, .int 0, .int s2, .int s4], [.int (f0 + 1), .ref 118], (h.1, qm_up (qm_up (qm_up (qm_up (qm_up (qm_up (qm_up h.2.1 43 (f0.toInt.toNat) 0) 44 (f0.toInt.toNat) s2) 45 (f0.toInt.toNat) s4) 42 7 v53) 164 (f0.toInt.toNat) 0) 165 (f0.toInt.toNat) s2) 166 (f0.toInt.toNat) s4, h.2.2.1, h.2.2.2))) rfl ?_
              rw [q_v53]
              refine hk_puti rfl (hH.1 118 (17, 105) rfl) rfl ?_
              refine qm_Ru.go 1 (c' := (41, [.ref 118, .int 0, .int s2, .int s4], [.ref 118], (h.1, qm_up (qm_up (qm_up (qm_up (qm_up (qm_up (qm_up (qm_up h.2.1 43 (f0.toInt.toNat) 0) 44 (f0.toInt.toNat) s2) 45 (f0.toInt.toNat) s4) 42 7 v53) 164 (f0.toInt.toNat) 0) 165 (f0.toInt.toNat) s2) 166 (f0.toInt.toNat) s4) 118 70 v53, h.2.2.1, h.2.2.2))) rfl ?_
              refine hk_geti (v := v53) rfl (hH.1 118 (17, 105) rfl) rfl (show (qm_up (qm_up (qm_up (qm_up (qm_up (qm_up (qm_up (qm_up h.2.1 43 (f0.toInt.toNat) 0) 44 (f0.toInt.toNat) s2) 45 (f0.toInt.toNat) s4) 42 7 v53) 164 (f0.toInt.toNat) 0) 165 (f0.toInt.toNat) s2) 166 (f0.toInt.toNat) s4) 118 70 v53) 118 70 = _ from (hk_same)) ?_
              refine qm_Ru.go 2 (c' := (46, [.ref 118, .int 0, .int s2, .int s4], [.int (v53 - 1)], (h.1, qm_up (qm_up (qm_up (qm_up (qm_up (qm_up (qm_up (qm_up h.2.1 43 (f0.toInt.toNat) 0) 44 (f0.toInt.toNat) s2) 45 (f0.toInt.toNat) s4) 42 7 v53) 164 (f0.toInt.toNat) 0) 165 (f0.toInt.toNat) s2) 166 (f0.toInt.toNat) s4) 118 70 v53, h.2.2.1, h.2.2.2))) rfl ?_
              rw [q_v54]
              refine qm_Ru.rt (v := (some (.int v54))) (h' := (h.1, qm_up (qm_up (qm_up (qm_up (qm_up (qm_up (qm_up (qm_up h.2.1 43 (f0.toInt.toNat) 0) 44 (f0.toInt.toNat) s2) 45 (f0.toInt.toNat) s4) 42 7 v53) 164 (f0.toInt.toNat) 0) 165 (f0.toInt.toNat) s2) 166 (f0.toInt.toNat) s4) 118 70 v53, h.2.2.1, h.2.2.2)) rfl ?_
              refine qm_Ru.go 0 (c' := (37, [.ref 118, .int s2, .int s4], [.int v54], (h.1, qm_up (qm_up (qm_up (qm_up (qm_up (qm_up (qm_up (qm_up h.2.1 43 (f0.toInt.toNat) 0) 44 (f0.toInt.toNat) s2) 45 (f0.toInt.toNat) s4) 42 7 v53) 164 (f0.toInt.toNat) 0) 165 (f0.toInt.toNat) s2) 166 (f0.toInt.toNat) s4) 118 70 v53, h.2.2.1, h.2.2.2))) rfl ?_
              refine qm_Ru.rt (v := (some (.int v54))) (h' := (h.1, qm_up (qm_up (qm_up (qm_up (qm_up (qm_up (qm_up (qm_up h.2.1 43 (f0.toInt.toNat) 0) 44 (f0.toInt.toNat) s2) 45 (f0.toInt.toNat) s4) 42 7 v53) 164 (f0.toInt.toNat) 0) 165 (f0.toInt.toNat) s2) 166 (f0.toInt.toNat) s4) 118 70 v53, h.2.2.1, h.2.2.2)) rfl ?_
              refine qm_Ru.go 3 (c' := (2081, [.retAddr 0, .ref 0, .ref 118, .int (i + 6)], [], (h.1, qm_up (qm_up (qm_up (qm_up (qm_up (qm_up (qm_up (qm_up h.2.1 43 (f0.toInt.toNat) 0) 44 (f0.toInt.toNat) s2) 45 (f0.toInt.toNat) s4) 42 7 v53) 164 (f0.toInt.toNat) 0) 165 (f0.toInt.toNat) s2) 166 (f0.toInt.toNat) s4) 118 70 v53, h.2.2.1, h.2.2.2))) rfl ?_
              obtain ⟨v66, q_v66, e_v66⟩ := hk_add (x := i) (y := 6) (a := i.toInt) (b := 6) rfl rfl (by omega) (by omega)
              rw [q_v66]
              refine qm_Ru.go 1 (c' := (18, [.retAddr 0, .ref 0, .ref 118, .int v66], [], (h.1, qm_up (qm_up (qm_up (qm_up (qm_up (qm_up (qm_up (qm_up h.2.1 43 (f0.toInt.toNat) 0) 44 (f0.toInt.toNat) s2) 45 (f0.toInt.toNat) s4) 42 7 v53) 164 (f0.toInt.toNat) 0) 165 (f0.toInt.toNat) s2) 166 (f0.toInt.toNat) s4) 118 70 v53, h.2.2.1, h.2.2.2))) rfl ?_
              have r43 : (qm_up (qm_up (qm_up (qm_up (qm_up (qm_up (qm_up (qm_up h.2.1 43 (f0.toInt.toNat) 0) 44 (f0.toInt.toNat) s2) 45 (f0.toInt.toNat) s4) 42 7 v53) 164 (f0.toInt.toNat) 0) 165 (f0.toInt.toNat) s2) 166 (f0.toInt.toNat) s4) 118 70 v53) 43 (f0.toInt.toNat) = 0 := ((hk_ot rfl).trans ((hk_ot rfl).trans ((hk_ot rfl).trans ((hk_ot rfl).trans ((hk_ot rfl).trans ((hk_ot rfl).trans ((hk_ot rfl).trans hk_same)))))))
              have r44 : (qm_up (qm_up (qm_up (qm_up (qm_up (qm_up (qm_up (qm_up h.2.1 43 (f0.toInt.toNat) 0) 44 (f0.toInt.toNat) s2) 45 (f0.toInt.toNat) s4) 42 7 v53) 164 (f0.toInt.toNat) 0) 165 (f0.toInt.toNat) s2) 166 (f0.toInt.toNat) s4) 118 70 v53) 44 (f0.toInt.toNat) = s2 := ((hk_ot rfl).trans ((hk_ot rfl).trans ((hk_ot rfl).trans ((hk_ot rfl).trans ((hk_ot rfl).trans ((hk_ot rfl).trans hk_same))))))
              have r45 : (qm_up (qm_up (qm_up (qm_up (qm_up (qm_up (qm_up (qm_up h.2.1 43 (f0.toInt.toNat) 0) 44 (f0.toInt.toNat) s2) 45 (f0.toInt.toNat) s4) 42 7 v53) 164 (f0.toInt.toNat) 0) 165 (f0.toInt.toNat) s2) 166 (f0.toInt.toNat) s4) 118 70 v53) 45 (f0.toInt.toNat) = s4 := ((hk_ot rfl).trans ((hk_ot rfl).trans ((hk_ot rfl).trans ((hk_ot rfl).trans ((hk_ot rfl).trans hk_same)))))
              have r164 : (qm_up (qm_up (qm_up (qm_up (qm_up (qm_up (qm_up (qm_up h.2.1 43 (f0.toInt.toNat) 0) 44 (f0.toInt.toNat) s2) 45 (f0.toInt.toNat) s4) 42 7 v53) 164 (f0.toInt.toNat) 0) 165 (f0.toInt.toNat) s2) 166 (f0.toInt.toNat) s4) 118 70 v53) 164 (f0.toInt.toNat) = 0 := ((hk_ot rfl).trans ((hk_ot rfl).trans ((hk_ot rfl).trans hk_same)))
              have r165 : (qm_up (qm_up (qm_up (qm_up (qm_up (qm_up (qm_up (qm_up h.2.1 43 (f0.toInt.toNat) 0) 44 (f0.toInt.toNat) s2) 45 (f0.toInt.toNat) s4) 42 7 v53) 164 (f0.toInt.toNat) 0) 165 (f0.toInt.toNat) s2) 166 (f0.toInt.toNat) s4) 118 70 v53) 165 (f0.toInt.toNat) = s2 := ((hk_ot rfl).trans ((hk_ot rfl).trans hk_same))
              have r166 : (qm_up (qm_up (qm_up (qm_up (qm_up (qm_up (qm_up (qm_up h.2.1 43 (f0.toInt.toNat) 0) 44 (f0.toInt.toNat) s2) 45 (f0.toInt.toNat) s4) 42 7 v53) 164 (f0.toInt.toNat) 0) 165 (f0.toInt.toNat) s2) 166 (f0.toInt.toNat) s4) 118 70 v53) 166 (f0.toInt.toNat) = s4 := ((hk_ot rfl).trans hk_same)
              have rF : gFat (qm_up (qm_up (qm_up (qm_up (qm_up (qm_up (qm_up (qm_up h.2.1 43 (f0.toInt.toNat) 0) 44 (f0.toInt.toNat) s2) 45 (f0.toInt.toNat) s4) 42 7 v53) 164 (f0.toInt.toNat) 0) 165 (f0.toInt.toNat) s2) 166 (f0.toInt.toNat) s4) 118 70 v53) (f0.toInt.toNat) := ⟨by rw [r164, r43]; exact ⟨by decide, by decide, rfl⟩, fun z => by rw [r164] at z; first | exact absurd z (by decide) | rw [r44, r165], fun z => by rw [r164] at z; first | exact absurd z (by decide) | rw [r45, r166], fun z => by rw [r164] at z; first | exact absurd z (by decide) | rw [r45, r165], fun z => by rw [r164] at z; first | exact absurd z (by decide) | (rw [r165]; omega)⟩
              have hG : gR (qm_up (qm_up (qm_up (qm_up (qm_up (qm_up (qm_up (qm_up h.2.1 43 (f0.toInt.toNat) 0) 44 (f0.toInt.toNat) s2) 45 (f0.toInt.toNat) s4) 42 7 v53) 164 (f0.toInt.toNat) 0) 165 (f0.toInt.toNat) s2) 166 (f0.toInt.toNat) s4) 118 70 v53) := (gR_fact (I := h.2.1) (I2 := qm_up (qm_up (qm_up (qm_up (qm_up (qm_up (qm_up (qm_up h.2.1 43 (f0.toInt.toNat) 0) 44 (f0.toInt.toNat) s2) 45 (f0.toInt.toNat) s4) 42 7 v53) 164 (f0.toInt.toNat) 0) 165 (f0.toInt.toNat) s2) 166 (f0.toInt.toNat) s4) 118 70 v53) (n := f0.toInt.toNat) hS.2 (by rw [q_f0]; omega) (fun o ho k => ((hk_ot (n_in ho rfl)).trans ((hk_ot (n_in ho rfl)).trans ((hk_ot (n_in ho rfl)).trans ((hk_ot (n_in ho rfl)).trans ((hk_ot (n_in ho rfl)).trans ((hk_ot (n_in ho rfl)).trans ((hk_ot (n_in ho rfl)).trans ((hk_ot (n_in ho rfl)).trans rfl))))))))) (fun o ho k hk => ((hk_ot (n_in ho rfl)).trans ((hk_ni hk).trans ((hk_ni hk).trans ((hk_ni hk).trans ((hk_ot (n_in ho rfl)).trans ((hk_ni hk).trans ((hk_ni hk).trans ((hk_ni hk).trans rfl))))))))) ((hk_ot rfl).trans ((hk_ot rfl).trans ((hk_ot rfl).trans ((hk_ot rfl).trans ((hk_ot rfl).trans ((hk_ot rfl).trans ((hk_ot rfl).trans ((hk_ot rfl).trans rfl)))))))) ((hk_ot rfl).trans ((hk_ot rfl).trans ((hk_ot rfl).trans ((hk_ot rfl).trans ((hk_ot rfl).trans ((hk_ot rfl).trans ((hk_ot rfl).trans ((hk_ot rfl).trans rfl)))))))) ((hk_neq (by decide)).trans ((hk_ot rfl).trans ((hk_ot rfl).trans ((hk_ot rfl).trans ((hk_ot rfl).trans ((hk_ot rfl).trans ((hk_ot rfl).trans ((hk_ot rfl).trans rfl)))))))) ((hk_neq (by decide)).trans ((hk_ot rfl).trans ((hk_ot rfl).trans ((hk_ot rfl).trans ((hk_ot rfl).trans ((hk_ot rfl).trans ((hk_ot rfl).trans ((hk_ot rfl).trans rfl)))))))) ((congrArg Int32.toInt ((hk_ot rfl).trans ((hk_ot rfl).trans ((hk_ot rfl).trans ((hk_ot rfl).trans hk_same))))).trans (by omega)) (((hk_ot rfl).trans ((hk_ot rfl).trans ((hk_ot rfl).trans ((hk_ot rfl).trans hk_same)))).trans hk_same.symm) rF)
              have hS1 : gS (h.1, qm_up (qm_up (qm_up (qm_up (qm_up (qm_up (qm_up (qm_up h.2.1 43 (f0.toInt.toNat) 0) 44 (f0.toInt.toNat) s2) 45 (f0.toInt.toNat) s4) 42 7 v53) 164 (f0.toInt.toNat) 0) 165 (f0.toInt.toNat) s2) 166 (f0.toInt.toNat) s4) 118 70 v53, h.2.2.1, h.2.2.2) := (gS_up (gS_upa (gS_upa (gS_upa (gS_up (gS_upa (gS_upa (gS_upa (show gS (h.1, h.2.1, h.2.2.1, h.2.2.2) from hS.1) (by decide)) (by decide)) (by decide)) (by decide)) (by decide)) (by decide)) (by decide)) (by decide))
              have hS2 : gS2 (h.1, qm_up (qm_up (qm_up (qm_up (qm_up (qm_up (qm_up (qm_up h.2.1 43 (f0.toInt.toNat) 0) 44 (f0.toInt.toNat) s2) 45 (f0.toInt.toNat) s4) 42 7 v53) 164 (f0.toInt.toNat) 0) 165 (f0.toInt.toNat) s2) 166 (f0.toInt.toNat) s4) 118 70 v53, h.2.2.1, h.2.2.2) := ⟨hS1, hG⟩
              have hX3 : gX (h.1, qm_up (qm_up (qm_up (qm_up (qm_up (qm_up (qm_up (qm_up h.2.1 43 (f0.toInt.toNat) 0) 44 (f0.toInt.toNat) s2) 45 (f0.toInt.toNat) s4) 42 7 v53) 164 (f0.toInt.toNat) 0) 165 (f0.toInt.toNat) s2) 166 (f0.toInt.toNat) s4) 118 70 v53, h.2.2.1, h.2.2.2) := ⟨gP_cg hX.1 (fun o ho i => ((hk_ot (n_in ho rfl)).trans ((hk_ot (n_in ho rfl)).trans ((hk_ot (n_in ho rfl)).trans ((hk_ot (n_in ho rfl)).trans ((hk_ot (n_in ho rfl)).trans ((hk_ot (n_in ho rfl)).trans ((hk_ot (n_in ho rfl)).trans ((hk_ot (n_in ho rfl)).trans rfl))))))))) (show (qm_up (qm_up (qm_up (qm_up (qm_up (qm_up (qm_up (qm_up h.2.1 43 (f0.toInt.toNat) 0) 44 (f0.toInt.toNat) s2) 45 (f0.toInt.toNat) s4) 42 7 v53) 164 (f0.toInt.toNat) 0) 165 (f0.toInt.toNat) s2) 166 (f0.toInt.toNat) s4) 118 70 v53) 1 1 = h.2.1 1 1 from ((hk_ot rfl).trans ((hk_ot rfl).trans ((hk_ot rfl).trans ((hk_ot rfl).trans ((hk_ot rfl).trans ((hk_ot rfl).trans ((hk_ot rfl).trans ((hk_ot rfl).trans rfl))))))))) (show (qm_up (qm_up (qm_up (qm_up (qm_up (qm_up (qm_up (qm_up h.2.1 43 (f0.toInt.toNat) 0) 44 (f0.toInt.toNat) s2) 45 (f0.toInt.toNat) s4) 42 7 v53) 164 (f0.toInt.toNat) 0) 165 (f0.toInt.toNat) s2) 166 (f0.toInt.toNat) s4) 118 70 v53) 3 4 = h.2.1 3 4 from ((hk_ot rfl).trans ((hk_ot rfl).trans ((hk_ot rfl).trans ((hk_ot rfl).trans ((hk_ot rfl).trans ((hk_ot rfl).trans ((hk_ot rfl).trans ((hk_ot rfl).trans rfl))))))))) (show (qm_up (qm_up (qm_up (qm_up (qm_up (qm_up (qm_up (qm_up h.2.1 43 (f0.toInt.toNat) 0) 44 (f0.toInt.toNat) s2) 45 (f0.toInt.toNat) s4) 42 7 v53) 164 (f0.toInt.toNat) 0) 165 (f0.toInt.toNat) s2) 166 (f0.toInt.toNat) s4) 118 70 v53) 118 17 = h.2.1 118 17 from ((hk_neq (by decide)).trans ((hk_ot rfl).trans ((hk_ot rfl).trans ((hk_ot rfl).trans ((hk_ot rfl).trans ((hk_ot rfl).trans ((hk_ot rfl).trans ((hk_ot rfl).trans rfl))))))))), hX.2⟩
              have hZ3 : (gZB tb) (h.1, qm_up (qm_up (qm_up (qm_up (qm_up (qm_up (qm_up (qm_up h.2.1 43 (f0.toInt.toNat) 0) 44 (f0.toInt.toNat) s2) 45 (f0.toInt.toNat) s4) 42 7 v53) 164 (f0.toInt.toNat) 0) 165 (f0.toInt.toNat) s2) 166 (f0.toInt.toNat) s4) 118 70 v53, h.2.2.1, h.2.2.2) := (gZ_cg (h2 := (h.1, qm_up (qm_up (qm_up (qm_up (qm_up (qm_up (qm_up (qm_up h.2.1 43 (f0.toInt.toNat) 0) 44 (f0.toInt.toNat) s2) 45 (f0.toInt.toNat) s4) 42 7 v53) 164 (f0.toInt.toNat) 0) 165 (f0.toInt.toNat) s2) 166 (f0.toInt.toNat) s4) 118 70 v53, h.2.2.1, h.2.2.2)) hZ (fun o ho i => ((hk_ot (n_in ho rfl)).trans ((hk_ot (n_in ho rfl)).trans ((hk_ot (n_in ho rfl)).trans ((hk_ot (n_in ho rfl)).trans ((hk_ot (n_in ho rfl)).trans ((hk_ot (n_in ho rfl)).trans ((hk_ot (n_in ho rfl)).trans ((hk_ot (n_in ho rfl)).trans rfl))))))))) (show (qm_up (qm_up (qm_up (qm_up (qm_up (qm_up (qm_up (qm_up h.2.1 43 (f0.toInt.toNat) 0) 44 (f0.toInt.toNat) s2) 45 (f0.toInt.toNat) s4) 42 7 v53) 164 (f0.toInt.toNat) 0) 165 (f0.toInt.toNat) s2) 166 (f0.toInt.toNat) s4) 118 70 v53) 6 0 = h.2.1 6 0 from ((hk_ot rfl).trans ((hk_ot rfl).trans ((hk_ot rfl).trans ((hk_ot rfl).trans ((hk_ot rfl).trans ((hk_ot rfl).trans ((hk_ot rfl).trans ((hk_ot rfl).trans rfl))))))))) (fun i _ => show (qm_up (qm_up (qm_up (qm_up (qm_up (qm_up (qm_up (qm_up h.2.1 43 (f0.toInt.toNat) 0) 44 (f0.toInt.toNat) s2) 45 (f0.toInt.toNat) s4) 42 7 v53) 164 (f0.toInt.toNat) 0) 165 (f0.toInt.toNat) s2) 166 (f0.toInt.toNat) s4) 118 70 v53) 28 i = h.2.1 28 i from ((hk_ot rfl).trans ((hk_ot rfl).trans ((hk_ot rfl).trans ((hk_ot rfl).trans ((hk_ot rfl).trans ((hk_ot rfl).trans ((hk_ot rfl).trans ((hk_ot rfl).trans rfl))))))))) (fun i _ => show (qm_up (qm_up (qm_up (qm_up (qm_up (qm_up (qm_up (qm_up h.2.1 43 (f0.toInt.toNat) 0) 44 (f0.toInt.toNat) s2) 45 (f0.toInt.toNat) s4) 42 7 v53) 164 (f0.toInt.toNat) 0) 165 (f0.toInt.toNat) s2) 166 (f0.toInt.toNat) s4) 118 70 v53) 29 i = h.2.1 29 i from ((hk_ot rfl).trans ((hk_ot rfl).trans ((hk_ot rfl).trans ((hk_ot rfl).trans ((hk_ot rfl).trans ((hk_ot rfl).trans ((hk_ot rfl).trans ((hk_ot rfl).trans rfl))))))))) (fun i _ => show (qm_up (qm_up (qm_up (qm_up (qm_up (qm_up (qm_up (qm_up h.2.1 43 (f0.toInt.toNat) 0) 44 (f0.toInt.toNat) s2) 45 (f0.toInt.toNat) s4) 42 7 v53) 164 (f0.toInt.toNat) 0) 165 (f0.toInt.toNat) s2) 166 (f0.toInt.toNat) s4) 118 70 v53) 111 i = h.2.1 111 i from ((hk_ot rfl).trans ((hk_ot rfl).trans ((hk_ot rfl).trans ((hk_ot rfl).trans ((hk_ot rfl).trans ((hk_ot rfl).trans ((hk_ot rfl).trans ((hk_ot rfl).trans rfl))))))))) (fun i _ => show (qm_up (qm_up (qm_up (qm_up (qm_up (qm_up (qm_up (qm_up h.2.1 43 (f0.toInt.toNat) 0) 44 (f0.toInt.toNat) s2) 45 (f0.toInt.toNat) s4) 42 7 v53) 164 (f0.toInt.toNat) 0) 165 (f0.toInt.toNat) s2) 166 (f0.toInt.toNat) s4) 118 70 v53) 51 i = h.2.1 51 i from ((hk_ot rfl).trans ((hk_ot rfl).trans ((hk_ot rfl).trans ((hk_ot rfl).trans ((hk_ot rfl).trans ((hk_ot rfl).trans ((hk_ot rfl).trans ((hk_ot rfl).trans rfl))))))))) (List.forall_mem_cons.mpr ⟨(show (qm_up (qm_up (qm_up (qm_up (qm_up (qm_up (qm_up (qm_up h.2.1 43 (f0.toInt.toNat) 0) 44 (f0.toInt.toNat) s2) 45 (f0.toInt.toNat) s4) 42 7 v53) 164 (f0.toInt.toNat) 0) 165 (f0.toInt.toNat) s2) 166 (f0.toInt.toNat) s4) 118 70 v53) 118 18 = h.2.1 118 18 from ((hk_neq (by decide)).trans ((hk_ot rfl).trans ((hk_ot rfl).trans ((hk_ot rfl).trans ((hk_ot rfl).trans ((hk_ot rfl).trans ((hk_ot rfl).trans ((hk_ot rfl).trans rfl))))))))), List.forall_mem_cons.mpr ⟨(show (qm_up (qm_up (qm_up (qm_up (qm_up (qm_up (qm_up (qm_up h.2.1 43 (f0.toInt.toNat) 0) 44 (f0.toInt.toNat) s2) 45 (f0.toInt.toNat) s4) 42 7 v53) 164 (f0.toInt.toNat) 0) 165 (f0.toInt.toNat) s2) 166 (f0.toInt.toNat) s4) 118 70 v53) 118 44 = h.2.1 118 44 from ((hk_neq (by decide)).trans ((hk_ot rfl).trans ((hk_ot rfl).trans ((hk_ot rfl).trans ((hk_ot rfl).trans ((hk_ot rfl).trans ((hk_ot rfl).trans ((hk_ot rfl).trans rfl))))))))), List.forall_mem_cons.mpr ⟨(show (qm_up (qm_up (qm_up (qm_up (qm_up (qm_up (qm_up (qm_up h.2.1 43 (f0.toInt.toNat) 0) 44 (f0.toInt.toNat) s2) 45 (f0.toInt.toNat) s4) 42 7 v53) 164 (f0.toInt.toNat) 0) 165 (f0.toInt.toNat) s2) 166 (f0.toInt.toNat) s4) 118 70 v53) 118 54 = h.2.1 118 54 from ((hk_neq (by decide)).trans ((hk_ot rfl).trans ((hk_ot rfl).trans ((hk_ot rfl).trans ((hk_ot rfl).trans ((hk_ot rfl).trans ((hk_ot rfl).trans ((hk_ot rfl).trans rfl))))))))), List.forall_mem_cons.mpr ⟨(show (qm_up (qm_up (qm_up (qm_up (qm_up (qm_up (qm_up (qm_up h.2.1 43 (f0.toInt.toNat) 0) 44 (f0.toInt.toNat) s2) 45 (f0.toInt.toNat) s4) 42 7 v53) 164 (f0.toInt.toNat) 0) 165 (f0.toInt.toNat) s2) 166 (f0.toInt.toNat) s4) 118 70 v53) 118 75 = h.2.1 118 75 from ((hk_neq (by decide)).trans ((hk_ot rfl).trans ((hk_ot rfl).trans ((hk_ot rfl).trans ((hk_ot rfl).trans ((hk_ot rfl).trans ((hk_ot rfl).trans ((hk_ot rfl).trans rfl))))))))), List.forall_mem_cons.mpr ⟨(show (qm_up (qm_up (qm_up (qm_up (qm_up (qm_up (qm_up (qm_up h.2.1 43 (f0.toInt.toNat) 0) 44 (f0.toInt.toNat) s2) 45 (f0.toInt.toNat) s4) 42 7 v53) 164 (f0.toInt.toNat) 0) 165 (f0.toInt.toNat) s2) 166 (f0.toInt.toNat) s4) 118 70 v53) 118 85 = h.2.1 118 85 from ((hk_neq (by decide)).trans ((hk_ot rfl).trans ((hk_ot rfl).trans ((hk_ot rfl).trans ((hk_ot rfl).trans ((hk_ot rfl).trans ((hk_ot rfl).trans ((hk_ot rfl).trans rfl))))))))), List.forall_mem_cons.mpr ⟨(show (qm_up (qm_up (qm_up (qm_up (qm_up (qm_up (qm_up (qm_up h.2.1 43 (f0.toInt.toNat) 0) 44 (f0.toInt.toNat) s2) 45 (f0.toInt.toNat) s4) 42 7 v53) 164 (f0.toInt.toNat) 0) 165 (f0.toInt.toNat) s2) 166 (f0.toInt.toNat) s4) 118 70 v53) 118 91 = h.2.1 118 91 from ((hk_neq (by decide)).trans ((hk_ot rfl).trans ((hk_ot rfl).trans ((hk_ot rfl).trans ((hk_ot rfl).trans ((hk_ot rfl).trans ((hk_ot rfl).trans ((hk_ot rfl).trans rfl))))))))), List.forall_mem_cons.mpr ⟨(show (qm_up (qm_up (qm_up (qm_up (qm_up (qm_up (qm_up (qm_up h.2.1 43 (f0.toInt.toNat) 0) 44 (f0.toInt.toNat) s2) 45 (f0.toInt.toNat) s4) 42 7 v53) 164 (f0.toInt.toNat) 0) 165 (f0.toInt.toNat) s2) 166 (f0.toInt.toNat) s4) 118 70 v53) 118 92 = h.2.1 118 92 from ((hk_neq (by decide)).trans ((hk_ot rfl).trans ((hk_ot rfl).trans ((hk_ot rfl).trans ((hk_ot rfl).trans ((hk_ot rfl).trans ((hk_ot rfl).trans ((hk_ot rfl).trans rfl))))))))), List.forall_mem_cons.mpr ⟨(show (qm_up (qm_up (qm_up (qm_up (qm_up (qm_up (qm_up (qm_up h.2.1 43 (f0.toInt.toNat) 0) 44 (f0.toInt.toNat) s2) 45 (f0.toInt.toNat) s4) 42 7 v53) 164 (f0.toInt.toNat) 0) 165 (f0.toInt.toNat) s2) 166 (f0.toInt.toNat) s4) 118 70 v53) 118 93 = h.2.1 118 93 from ((hk_neq (by decide)).trans ((hk_ot rfl).trans ((hk_ot rfl).trans ((hk_ot rfl).trans ((hk_ot rfl).trans ((hk_ot rfl).trans ((hk_ot rfl).trans ((hk_ot rfl).trans rfl))))))))), List.forall_mem_cons.mpr ⟨(show (qm_up (qm_up (qm_up (qm_up (qm_up (qm_up (qm_up (qm_up h.2.1 43 (f0.toInt.toNat) 0) 44 (f0.toInt.toNat) s2) 45 (f0.toInt.toNat) s4) 42 7 v53) 164 (f0.toInt.toNat) 0) 165 (f0.toInt.toNat) s2) 166 (f0.toInt.toNat) s4) 118 70 v53) 118 94 = h.2.1 118 94 from ((hk_neq (by decide)).trans ((hk_ot rfl).trans ((hk_ot rfl).trans ((hk_ot rfl).trans ((hk_ot rfl).trans ((hk_ot rfl).trans ((hk_ot rfl).trans ((hk_ot rfl).trans rfl))))))))), fun _ z => absurd z List.not_mem_nil⟩⟩⟩⟩⟩⟩⟩⟩⟩) rfl)
              exact hE _ v66 (by omega) (qa_Inv_of0 ⟨hH.1, hH.2⟩ (hb_up (o := 118) (k := 70) (x := v53) (hb_up (o := 166) (k := f0.toInt.toNat) (x := s4) (hb_up (o := 165) (k := f0.toInt.toNat) (x := s2) (hb_up (o := 164) (k := f0.toInt.toNat) (x := 0) (hb_up (o := 42) (k := 7) (x := v53) (hb_up (o := 45) (k := f0.toInt.toNat) (x := s4) (hb_up (o := 44) (k := f0.toInt.toNat) (x := s2) (hb_up (o := 43) (k := f0.toInt.toNat) (x := 0) hB ⟨(show (0 : Int) ≤ 0 from by decide), (show (0 : Int) ≤ 4 from by decide)⟩) ⟨by show (-1 : Int) ≤ s2.toInt; omega, by show s2.toInt ≤ (29 : Int); omega⟩) ⟨by show (-99999 : Int) ≤ s4.toInt; omega, by show s4.toInt ≤ (99999 : Int); omega⟩) ⟨by show (0 : Int) ≤ v53.toInt; omega, by show v53.toInt ≤ (60 : Int); omega⟩) ⟨(show (0 : Int) ≤ 0 from by decide), (show (0 : Int) ≤ 4 from by decide)⟩) ⟨by show (-99999 : Int) ≤ s2.toInt; omega, by show s2.toInt ≤ (99999 : Int); omega⟩) ⟨by show (0 : Int) ≤ s4.toInt; omega, by show s4.toInt ≤ (5 : Int); omega⟩) ⟨by show (0 : Int) ≤ v53.toInt; omega, by show v53.toInt ≤ (60 : Int); omega⟩) ⟨⟨⟨hS2, hX3⟩, hZ3⟩, t⟩ (gS2_ru hS2))
          · refine qm_Ru.go 1 (c' := (10, [.ref 42, .int 0, .int s2, .int s4], [.int (-1)], h)) rfl ?_
            refine qm_Ru.rt (v := (some (.int (-1)))) (h' := h) rfl ?_
            refine qm_Ru.go 0 (c' := (32, [.ref 0, .int s2, .int s4], [.int (-1)], h)) rfl ?_
            refine qm_Ru.rt (v := (some (.int (-1)))) (h' := h) rfl ?_
            refine qm_Ru.go 6 (c' := (1248, [.retAddr 0, .ref 0, .ref 118, .int i], [.int (i + 1), .retAddr 0, .ref 118], h)) rfl ?_
            rw [q_v1]
            refine hk_scr (v := s2) rfl (by omega) (by omega) q_s2 ?_
            refine qm_Ru.go 4 (c' := (1253, [.retAddr 0, .ref 0, .ref 118, .int i], [.int (i + 2), .retAddr 0, .int s2, .ref 118], h)) rfl ?_
            rw [q_v3]
            refine hk_scr (v := s4) rfl (by omega) (by omega) q_s4 ?_
            refine qm_Ru.go 0 (c' := (1254, [.retAddr 0, .ref 0, .ref 118, .int i], [.int s4, .int s2, .ref 118], h)) rfl ?_
            refine hk_inv (o := 118) (r := []) (as := [.ref 118, .int s2, .int s4]) rfl rfl (hH.1 118 (17, 105) rfl) rfl rfl rfl rfl ?_
            refine qm_Ru.go 1 (c' := (1, [.ref 118, .int s2, .int s4], [.ref 118], h)) rfl ?_
            refine hk_geti (v := f0) rfl (hH.1 118 (17, 105) rfl) rfl p_f0 ?_
            refine qm_Ru.go 1 (c' := (6, [.ref 118, .int s2, .int s4], [.int 60, .int f0], h)) rfl ?_
            refine hk_ceq (ix := f0.toInt) (iy := 60) rfl rfl rfl (fun z69 => ?_) (fun z69 => by exfalso; omega)
            refine qm_Ru.go 2 (c' := (37, [.ref 118, .int s2, .int s4], [.int (-1)], h)) rfl ?_
            refine qm_Ru.rt (v := (some (.int (-1)))) (h' := h) rfl ?_
            refine qm_Ru.go 3 (c' := (2081, [.retAddr 0, .ref 0, .ref 118, .int (i + 6)], [], h)) rfl ?_
            obtain ⟨v70, q_v70, e_v70⟩ := hk_add (x := i) (y := 6) (a := i.toInt) (b := 6) rfl rfl (by omega) (by omega)
            rw [q_v70]
            refine qm_Ru.go 1 (c' := (18, [.retAddr 0, .ref 0, .ref 118, .int v70], [], h)) rfl ?_
            have hG : gR (h.2.1) := hS.2
            have hS1 : gS (h.1, h.2.1, h.2.2.1, h.2.2.2) := hS.1
            have hS2 : gS2 (h.1, h.2.1, h.2.2.1, h.2.2.2) := ⟨hS1, hG⟩
            have hX3 : gX (h.1, h.2.1, h.2.2.1, h.2.2.2) := hX
            have hZ3 : (gZB tb) (h.1, h.2.1, h.2.2.1, h.2.2.2) := hZ
            exact hE _ v70 (by omega) (qa_Inv_of0 ⟨hH.1, hH.2⟩ hB ⟨⟨⟨hS2, hX3⟩, hZ3⟩, t⟩ (gS2_ru hS2))
theorem qv_33 {L : Nat} {xs : Nat → Int32} {Z : Option Value → qm_H → Prop} (h6 : 6 ≤ L) (hl : L ≤ 3072) : qv_PB tb tb L xs Z 33 := by
  intro i h i0 i1 hI hE
  obtain ⟨j1, hB, j3, ⟨⟨⟨hS, hX⟩, hZ⟩, t⟩, -⟩ := hI
  have hH : hk_H h := ⟨j1, j3⟩
  have b_i : 0 ≤ i.toInt ∧ i.toInt ≤ 3066 := by omega
  obtain ⟨c0, q_c0⟩ : ∃ v, h.2.1 6 0 = v := ⟨_, rfl⟩
  have p_c0 : h.2.1 118 44 = c0 := hS.2.2.1.symm.trans q_c0
  have b_c0 : (0 : Int) ≤ c0.toInt ∧ c0.toInt ≤ 30 := by rw [← q_c0]; exact hB 6 0
  obtain ⟨f0, q_f0⟩ : ∃ v, h.2.1 42 7 = v := ⟨_, rfl⟩
  have p_f0 : h.2.1 118 70 = f0 := hS.2.2.2.1.symm.trans q_f0
  have b_f0 : (0 : Int) ≤ f0.toInt ∧ f0.toInt ≤ 60 := by rw [← q_f0]; exact hB 42 7
  show qm_Ru (some (L, xs)) 300 cd_law (1261, [.retAddr 0, .ref 0, .ref 118, .int i], [], h) Z
  refine qm_Ru.go 5 (c' := (1266, [.retAddr 0, .ref 0, .ref 118, .int i], [.int (i + 1), .retAddr 0, .ref 0], h)) rfl ?_
  obtain ⟨v1, q_v1, e_v1⟩ := hk_add (x := i) (y := 1) (a := i.toInt) (b := 1) rfl rfl (by omega) (by omega)
  rw [q_v1]
  obtain ⟨s2, q_s2⟩ : ∃ v_, xs (v1).toNatClampNeg = v_ := ⟨_, rfl⟩
  have := hk_rng s2
  refine hk_scr (v := s2) rfl (by omega) (by omega) q_s2 ?_
  refine qm_Ru.go 4 (c' := (1271, [.retAddr 0, .ref 0, .ref 118, .int i], [.int (i + 2), .retAddr 0, .int s2, .ref 0], h)) rfl ?_
  obtain ⟨v3, q_v3, e_v3⟩ := hk_add (x := i) (y := 2) (a := i.toInt) (b := 2) rfl rfl (by omega) (by omega)
  rw [q_v3]
  obtain ⟨s4, q_s4⟩ : ∃ v_, xs (v3).toNatClampNeg = v_ := ⟨_, rfl⟩
  have := hk_rng s4
  refine hk_scr (v := s4) rfl (by omega) (by omega) q_s4 ?_
  refine qm_Ru.go 0 (c' := (1272, [.retAddr 0, .ref 0, .ref 118, .int i], [.int s4, .int s2, .ref 0], h)) rfl ?_
  refine hk_zeq (ix := s4.toInt) rfl rfl (fun z5 => ?_) (fun z5 => ?_)
  · refine qm_Ru.go 1 (c' := (1280, [.retAddr 0, .ref 0, .ref 118, .int i], [.int 0, .int s2, .ref 0], h)) rfl ?_
    refine hk_inv (o := 0) (r := []) (as := [.ref 0, .int s2, .int 0]) rfl rfl (hH.1 0 (16, 10) rfl) rfl rfl rfl rfl ?_
    refine qm_Ru.go 1 (c' := (1, [.ref 0, .int s2, .int 0], [.ref 0], h)) rfl ?_
    refine hk_getr rfl (hH.1 0 (16, 10) rfl) rfl (hH.2 0 2 (some 6) rfl) ?_
    refine qm_Ru.go 1 (c' := (5, [.ref 0, .int s2, .int 0], [.int s2, .ref 6], h)) rfl ?_
    refine hk_inv (o := 6) (r := []) (as := [.ref 6, .int s2]) rfl rfl (hH.1 6 (6, 9) rfl) rfl rfl rfl rfl ?_
    refine qm_Ru.go 1 (c' := (1, [.ref 6, .int s2], [.int s2], h)) rfl ?_
    refine hk_zlt (ix := s2.toInt) rfl rfl (fun z6 => ?_) (fun z6 => ?_)
    · refine qm_Ru.go 1 (c' := (17, [.ref 6, .int s2], [.int 0], h)) rfl ?_
      refine qm_Ru.rt (v := (some (.int 0))) (h' := h) rfl ?_
      refine qm_Ru.go 2 (c' := (12, [.ref 0, .int s2, .int 0], [.int (-1)], h)) rfl ?_
      refine qm_Ru.rt (v := (some (.int (-1)))) (h' := h) rfl ?_
      refine qm_Ru.go 6 (c' := (1289, [.retAddr 0, .ref 0, .ref 118, .int i], [.int (i + 1), .retAddr 0, .ref 118], h)) rfl ?_
      rw [q_v1]
      refine hk_scr (v := s2) rfl (by omega) (by omega) q_s2 ?_
      refine qm_Ru.go 4 (c' := (1294, [.retAddr 0, .ref 0, .ref 118, .int i], [.int (i + 2), .retAddr 0, .int s2, .ref 118], h)) rfl ?_
      rw [q_v3]
      refine hk_scr (v := s4) rfl (by omega) (by omega) q_s4 ?_
      refine qm_Ru.go 0 (c' := (1295, [.retAddr 0, .ref 0, .ref 118, .int i], [.int s4, .int s2, .ref 118], h)) rfl ?_
      refine hk_zeq (ix := s4.toInt) rfl rfl (fun z9 => ?_) (fun z9 => by exfalso; omega)
      refine qm_Ru.go 1 (c' := (1303, [.retAddr 0, .ref 0, .ref 118, .int i], [.int 0, .int s2, .ref 118], h)) rfl ?_
      refine hk_inv (o := 118) (r := []) (as := [.ref 118, .int s2, .int 0]) rfl rfl (hH.1 118 (17, 105) rfl) rfl rfl rfl rfl ?_
      refine qm_Ru.go 1 (c' := (1, [.ref 118, .int s2, .int 0], [.ref 118], h)) rfl ?_
      refine hk_geti (v := f0) rfl (hH.1 118 (17, 105) rfl) rfl p_f0 ?_
      refine qm_Ru.go 1 (c' := (6, [.ref 118, .int s2, .int 0], [.int 60, .int f0], h)) rfl ?_
      refine hk_ceq (ix := f0.toInt) (iy := 60) rfl rfl rfl (fun z10 => ?_) (fun z10 => ?_)
      · refine qm_Ru.go 2 (c' := (36, [.ref 118, .int s2, .int 0], [.int (-1)], h)) rfl ?_
        refine qm_Ru.rt (v := (some (.int (-1)))) (h' := h) rfl ?_
        refine qm_Ru.go 3 (c' := (2081, [.retAddr 0, .ref 0, .ref 118, .int (i + 6)], [], h)) rfl ?_
        obtain ⟨v11, q_v11, e_v11⟩ := hk_add (x := i) (y := 6) (a := i.toInt) (b := 6) rfl rfl (by omega) (by omega)
        rw [q_v11]
        refine qm_Ru.go 1 (c' := (18, [.retAddr 0, .ref 0, .ref 118, .int v11], [], h)) rfl ?_
        have hG : gR (h.2.1) := hS.2
        have hS1 : gS (h.1, h.2.1, h.2.2.1, h.2.2.2) := hS.1
        have hS2 : gS2 (h.1, h.2.1, h.2.2.1, h.2.2.2) := ⟨hS1, hG⟩
        have hX3 : gX (h.1, h.2.1, h.2.2.1, h.2.2.2) := hX
        have hZ3 : (gZB tb) (h.1, h.2.1, h.2.2.1, h.2.2.2) := hZ
        exact hE _ v11 (by omega) (qa_Inv_of0 ⟨hH.1, hH.2⟩ hB ⟨⟨⟨hS2, hX3⟩, hZ3⟩, t⟩ (gS2_ru hS2))
      · refine qm_Ru.go 2 (c' := (11, [.ref 118, .int s2, .int 0], [.int s2, .ref 118], h)) rfl ?_
        refine hk_inv (o := 118) (r := []) (as := [.ref 118, .int s2]) rfl rfl (hH.1 118 (17, 105) rfl) rfl rfl rfl rfl ?_
        refine qm_Ru.go 3 (c' := (3, [.ref 118, .int s2], [.ref 118, .int 0, .int s2], h)) rfl ?_
        refine hk_geti (v := c0) rfl (hH.1 118 (17, 105) rfl) rfl p_c0 ?_
        refine qm_Ru.go 2 (c' := (8, [.ref 118, .int s2], [.int (c0 - 1), .int 0, .int s2], h)) rfl ?_
        obtain ⟨v12, q_v12, e_v12⟩ := hk_sub (x := c0) (y := 1) (a := c0.toInt) (b := 1) rfl rfl (by omega) (by omega)
        rw [q_v12]
        refine qm_Ru.call (j := 270) (as := [.int s2, .int 0, .int v12]) (c' := (11, [.ref 118, .int s2], [], h)) rfl rfl rfl ?_
        refine qm_Ru.go 2 (c' := (2, [.int s2, .int 0, .int v12], [.int 0, .int s2], h)) rfl ?_
        refine hk_clt (ix := s2.toInt) (iy := 0) rfl rfl rfl (fun z13 => ?_) (fun z13 => by exfalso; omega)
        refine qm_Ru.go 1 (c' := (15, [.int s2, .int 0, .int v12], [.int 0], h)) rfl ?_
        refine qm_Ru.rt (v := (some (.int 0))) (h' := h) rfl ?_
        refine qm_Ru.go 0 (c' := (11, [.ref 118, .int s2], [.int 0], h)) rfl ?_
        refine qm_Ru.rt (v := (some (.int 0))) (h' := h) rfl ?_
        refine qm_Ru.go 3 (c' := (36, [.ref 118, .int s2, .int 0], [.int (-1)], h)) rfl ?_
        refine qm_Ru.rt (v := (some (.int (-1)))) (h' := h) rfl ?_
        refine qm_Ru.go 3 (c' := (2081, [.retAddr 0, .ref 0, .ref 118, .int (i + 6)], [], h)) rfl ?_
        obtain ⟨v14, q_v14, e_v14⟩ := hk_add (x := i) (y := 6) (a := i.toInt) (b := 6) rfl rfl (by omega) (by omega)
        rw [q_v14]
        refine qm_Ru.go 1 (c' := (18, [.retAddr 0, .ref 0, .ref 118, .int v14], [], h)) rfl ?_
        have hG : gR (h.2.1) := hS.2
        have hS1 : gS (h.1, h.2.1, h.2.2.1, h.2.2.2) := hS.1
        have hS2 : gS2 (h.1, h.2.1, h.2.2.1, h.2.2.2) := ⟨hS1, hG⟩
        have hX3 : gX (h.1, h.2.1, h.2.2.1, h.2.2.2) := hX
        have hZ3 : (gZB tb) (h.1, h.2.1, h.2.2.1, h.2.2.2) := hZ
        exact hE _ v14 (by omega) (qa_Inv_of0 ⟨hH.1, hH.2⟩ hB ⟨⟨⟨hS2, hX3⟩, hZ3⟩, t⟩ (gS2_ru hS2))
    · refine qm_Ru.go 2 (c' := (6, [.ref 6, .int s2], [.ref 6, .int s2], h)) rfl ?_
      refine hk_geti (v := c0) rfl (hH.1 6 (6, 9) rfl) rfl q_c0 ?_
      refine qm_Ru.go 0 (c' := (9, [.ref 6, .int s2], [.int c0, .int s2], h)) rfl ?_
      refine hk_cge (ix := s2.toInt) (iy := c0.toInt) rfl rfl rfl (fun z15 => ?_) (fun z15 => ?_)
      · refine qm_Ru.go 1 (c' := (17, [.ref 6, .int s2], [.int 0], h)) rfl ?_
        refine qm_Ru.rt (v := (some (.int 0))) (h' := h) rfl ?_
        refine qm_Ru.go 2 (c' := (12, [.ref 0, .int s2, .int 0], [.int (-1)], h)) rfl ?_
        refine qm_Ru.rt (v := (some (.int (-1)))) (h' := h) rfl ?_
        refine qm_Ru.go 6 (c' := (1289, [.retAddr 0, .ref 0, .ref 118, .int i], [.int (i + 1), .retAddr 0, .ref 118], h)) rfl ?_
        rw [q_v1]
        refine hk_scr (v := s2) rfl (by omega) (by omega) q_s2 ?_
        refine qm_Ru.go 4 (c' := (1294, [.retAddr 0, .ref 0, .ref 118, .int i], [.int (i + 2), .retAddr 0, .int s2, .ref 118], h)) rfl ?_
        rw [q_v3]
        refine hk_scr (v := s4) rfl (by omega) (by omega) q_s4 ?_
        refine qm_Ru.go 0 (c' := (1295, [.retAddr 0, .ref 0, .ref 118, .int i], [.int s4, .int s2, .ref 118], h)) rfl ?_
        refine hk_zeq (ix := s4.toInt) rfl rfl (fun z18 => ?_) (fun z18 => by exfalso; omega)
        refine qm_Ru.go 1 (c' := (1303, [.retAddr 0, .ref 0, .ref 118, .int i], [.int 0, .int s2, .ref 118], h)) rfl ?_
        refine hk_inv (o := 118) (r := []) (as := [.ref 118, .int s2, .int 0]) rfl rfl (hH.1 118 (17, 105) rfl) rfl rfl rfl rfl ?_
        refine qm_Ru.go 1 (c' := (1, [.ref 118, .int s2, .int 0], [.ref 118], h)) rfl ?_
        refine hk_geti (v := f0) rfl (hH.1 118 (17, 105) rfl) rfl p_f0 ?_
        refine qm_Ru.go 1 (c' := (6, [.ref 118, .int s2, .int 0], [.int 60, .int f0], h)) rfl ?_
        refine hk_ceq (ix := f0.toInt) (iy := 60) rfl rfl rfl (fun z19 => ?_) (fun z19 => ?_)
        · refine qm_Ru.go 2 (c' := (36, [.ref 118, .int s2, .int 0], [.int (-1)], h)) rfl ?_
          refine qm_Ru.rt (v := (some (.int (-1)))) (h' := h) rfl ?_
          refine qm_Ru.go 3 (c' := (2081, [.retAddr 0, .ref 0, .ref 118, .int (i + 6)], [], h)) rfl ?_
          obtain ⟨v20, q_v20, e_v20⟩ := hk_add (x := i) (y := 6) (a := i.toInt) (b := 6) rfl rfl (by omega) (by omega)
          rw [q_v20]
          refine qm_Ru.go 1 (c' := (18, [.retAddr 0, .ref 0, .ref 118, .int v20], [], h)) rfl ?_
          have hG : gR (h.2.1) := hS.2
          have hS1 : gS (h.1, h.2.1, h.2.2.1, h.2.2.2) := hS.1
          have hS2 : gS2 (h.1, h.2.1, h.2.2.1, h.2.2.2) := ⟨hS1, hG⟩
          have hX3 : gX (h.1, h.2.1, h.2.2.1, h.2.2.2) := hX
          have hZ3 : (gZB tb) (h.1, h.2.1, h.2.2.1, h.2.2.2) := hZ
          exact hE _ v20 (by omega) (qa_Inv_of0 ⟨hH.1, hH.2⟩ hB ⟨⟨⟨hS2, hX3⟩, hZ3⟩, t⟩ (gS2_ru hS2))
        · refine qm_Ru.go 2 (c' := (11, [.ref 118, .int s2, .int 0], [.int s2, .ref 118], h)) rfl ?_
          refine hk_inv (o := 118) (r := []) (as := [.ref 118, .int s2]) rfl rfl (hH.1 118 (17, 105) rfl) rfl rfl rfl rfl ?_
          refine qm_Ru.go 3 (c' := (3, [.ref 118, .int s2], [.ref 118, .int 0, .int s2], h)) rfl ?_
          refine hk_geti (v := c0) rfl (hH.1 118 (17, 105) rfl) rfl p_c0 ?_
          refine qm_Ru.go 2 (c' := (8, [.ref 118, .int s2], [.int (c0 - 1), .int 0, .int s2], h)) rfl ?_
          obtain ⟨v21, q_v21, e_v21⟩ := hk_sub (x := c0) (y := 1) (a := c0.toInt) (b := 1) rfl rfl (by omega) (by omega)
          rw [q_v21]
          refine qm_Ru.call (j := 270) (as := [.int s2, .int 0, .int v21]) (c' := (11, [.ref 118, .int s2], [], h)) rfl rfl rfl ?_
          refine qm_Ru.go 2 (c' := (2, [.int s2, .int 0, .int v21], [.int 0, .int s2], h)) rfl ?_
          refine hk_clt (ix := s2.toInt) (iy := 0) rfl rfl rfl (fun z22 => by exfalso; omega) (fun z22 => ?_)
          refine qm_Ru.go 2 (c' := (7, [.int s2, .int 0, .int v21], [.int v21, .int s2], h)) rfl ?_
          refine hk_cgt (ix := s2.toInt) (iy := v21.toInt) rfl rfl rfl (fun z23 => ?_) (fun z23 => ?_)
          · refine qm_Ru.go 1 (c' := (15, [.int s2, .int 0, .int v21], [.int 0], h)) rfl ?_
            refine qm_Ru.rt (v := (some (.int 0))) (h' := h) rfl ?_
            refine qm_Ru.go 0 (c' := (11, [.ref 118, .int s2], [.int 0], h)) rfl ?_
            refine qm_Ru.rt (v := (some (.int 0))) (h' := h) rfl ?_
            refine qm_Ru.go 3 (c' := (36, [.ref 118, .int s2, .int 0], [.int (-1)], h)) rfl ?_
            refine qm_Ru.rt (v := (some (.int (-1)))) (h' := h) rfl ?_
            refine qm_Ru.go 3 (c' := (2081, [.retAddr 0, .ref 0, .ref 118, .int (i + 6)], [], h)) rfl ?_
            obtain ⟨v24, q_v24, e_v24⟩ := hk_add (x := i) (y := 6) (a := i.toInt) (b := 6) rfl rfl (by omega) (by omega)
            rw [q_v24]
            refine qm_Ru.go 1 (c' := (18, [.retAddr 0, .ref 0, .ref 118, .int v24], [], h)) rfl ?_
            have hG : gR (h.2.1) := hS.2
            have hS1 : gS (h.1, h.2.1, h.2.2.1, h.2.2.2) := hS.1
            have hS2 : gS2 (h.1, h.2.1, h.2.2.1, h.2.2.2) := ⟨hS1, hG⟩
            have hX3 : gX (h.1, h.2.1, h.2.2.1, h.2.2.2) := hX
            have hZ3 : (gZB tb) (h.1, h.2.1, h.2.2.1, h.2.2.2) := hZ
            exact hE _ v24 (by omega) (qa_Inv_of0 ⟨hH.1, hH.2⟩ hB ⟨⟨⟨hS2, hX3⟩, hZ3⟩, t⟩ (gS2_ru hS2))
          · refine qm_Ru.go 2 (c' := (15, [.int s2, .int 0, .int v21], [.int 1], h)) rfl ?_
            refine qm_Ru.rt (v := (some (.int 1))) (h' := h) rfl ?_
            refine qm_Ru.go 0 (c' := (11, [.ref 118, .int s2], [.int 1], h)) rfl ?_
            refine qm_Ru.rt (v := (some (.int 1))) (h' := h) rfl ?_
            refine qm_Ru.go 7 (c' := (33, [.ref 118, .int s2, .int 0], [.int 0, .int s2, .int 2, .ref 118], h)) rfl ?_
            refine hk_inv (o := 118) (r := []) (as := [.ref 118, .int 2, .int s2, .int 0]) rfl rfl (hH.1 118 (17, 105) rfl) rfl rfl rfl rfl ?_
            refine qm_Ru.go 1 (c' := (1, [.ref 118, .int 2, .int s2, .int 0], [.ref 118], h)) rfl ?_
            refine hk_getr rfl (hH.1 118 (17, 105) rfl) rfl (hH.2 118 71 (some 164) rfl) ?_
            refine qm_Ru.go 1 (c' := (5, [.ref 118, .int 2, .int s2, .int 0], [.ref 118, .ref 164], h)) rfl ?_
            refine hk_geti (v := f0) rfl (hH.1 118 (17, 105) rfl) rfl p_f0 ?_
            refine qm_Ru.go 1 (c' := (9, [.ref 118, .int 2, .int s2, .int 0], [.int 2, .int f0, .ref 164], h)) rfl ?_
            refine hk_ias rfl (hH.1 164 (0, 60) rfl) (by omega) (by omega) ?_
            refine qm_Ru.go 1 (c' := (11, [.ref 118, .int 2, .int s2, .int 0], [.ref 118], (h.1, qm_up h.2.1 164 (f0.toInt.toNat) 2, h.2.2.1, h.2.2.2))) rfl ?_
            refine hk_getr rfl (hH.1 118 (17, 105) rfl) rfl (hH.2 118 72 (some 165) rfl) ?_
            refine qm_Ru.go 1 (c' := (15, [.ref 118, .int 2, .int s2, .int 0], [.ref 118, .ref 165], (h.1, qm_up h.2.1 164 (f0.toInt.toNat) 2, h.2.2.1, h.2.2.2))) rfl ?_
            refine hk_geti (v := f0) rfl (hH.1 118 (17, 105) rfl) rfl (show (qm_up h.2.1 164 (f0.toInt.toNat) 2) 118 70 = _ from ((hk_ot rfl).trans p_f0)) ?_
            refine qm_Ru.go 1 (c' := (19, [.ref 118, .int 2, .int s2, .int 0], [.int s2, .int f0, .ref 165], (h.1, qm_up h.2.1 164 (f0.toInt.toNat) 2, h.2.2.1, h.2.2.2))) rfl ?_
            refine hk_ias rfl (hH.1 165 (0, 60) rfl) (by omega) (by omega) ?_
            refine qm_Ru.go 1 (c' := (21, [.ref 118, .int 2, .int s2, .int 0], [.ref 118], (h.1, qm_up (qm_up h.2.1 164 (f0.toInt.toNat) 2) 165 (f0.toInt.toNat) s2, h.2.2.1, h.2.2.2))) rfl ?_
            refine hk_getr rfl (hH.1 118 (17, 105) rfl) rfl (hH.2 118 73 (some 166) rfl) ?_
            refine qm_Ru.go 1 (c' := (25, [.ref 118, .int 2, .int s2, .int 0], [.ref 118, .ref 166], (h.1, qm_up (qm_up h.2.1 164 (f0.toInt.toNat) 2) 165 (f0.toInt.toNat) s2, h.2.2.1, h.2.2.2))) rfl ?_
            refine hk_geti (v := f0) rfl (hH.1 118 (17, 105) rfl) rfl (show (qm_up (qm_up h.2.1 164 (f0.toInt.toNat) 2) 165 (f0.toInt.toNat) s2) 118 70 = _ from ((hk_ot rfl).trans ((hk_ot rfl).trans p_f0))) ?_
            refine qm_Ru.go 1 (c' := (29, [.ref 118, .int 2, .int s2, .int 0], [.int 0, .int f0, .ref 166], (h.1, qm_up (qm_up h.2.1 164 (f0.toInt.toNat) 2) 165 (f0.toInt.toNat) s2, h.2.2.1, h.2.2.2))) rfl ?_
            refine hk_ias rfl (hH.1 166 (0, 60) rfl) (by omega) (by omega) ?_
            refine qm_Ru.go 2 (c' := (32, [.ref 118, .int 2, .int s2, .int 0], [.ref 118, .ref 118], (h.1, qm_up (qm_up (qm_up h.2.1 164 (f0.toInt.toNat) 2) 165 (f0.toInt.toNat) s2) 166 (f0.toInt.toNat) 0, h.2.2.1, h.2.2.2))) rfl ?_
            refine hk_geti (v := f0) rfl (hH.1 118 (17, 105) rfl) rfl (show (qm_up (qm_up (qm_up h.2.1 164 (f0.toInt.toNat) 2) 165 (f0.toInt.toNat) s2) 166 (f0.toInt.toNat) 0) 118 70 = _ from ((hk_ot rfl).trans ((hk_ot rfl).trans ((hk_ot rfl).trans p_f0)))) ?_
            refine qm_Ru.go 2 (c' := (37, [.ref 118, .int 2, .int s2, .int 0], [.int (f0 + 1), .ref 118], (h.1, qm_up (qm_up (qm_up h.2.1 164 (f0.toInt.toNat) 2) 165 (f0.toInt.toNat) s2) 166 (f0.toInt.toNat) 0, h.2.2.1, h.2.2.2))) rfl ?_
            obtain ⟨v25, q_v25, e_v25⟩ := hk_add (x := f0) (y := 1) (a := f0.toInt) (b := 1) rfl rfl (by omega) (by omega)
            rw [q_v25]
            refine hk_puti rfl (hH.1 118 (17, 105) rfl) rfl ?_
            refine qm_Ru.go 1 (c' := (41, [.ref 118, .int 2, .int s2, .int 0], [.ref 118], (h.1, qm_up (qm_up (qm_up (qm_up h.2.1 164 (f0.toInt.toNat) 2) 165 (f0.toInt.toNat) s2) 166 (f0.toInt.toNat) 0) 118 70 v25, h.2.2.1, h.2.2.2))) rfl ?_
            refine hk_geti (v := v25) rfl (hH.1 118 (17, 105) rfl) rfl (show (qm_up (qm_up (qm_up (qm_up h.2.1 164 (f0.toInt.toNat) 2) 165 (f0.toInt.toNat) s2) 166 (f0.toInt.toNat) 0) 118 70 v25) 118 70 = _ from (hk_same)) ?_
            refine qm_Ru.go 2 (c' := (46, [.ref 118, .int 2, .int s2, .int 0], [.int (v25 - 1)], (h.1, qm_up (qm_up (qm_up (qm_up h.2.1 164 (f0.toInt.toNat) 2) 165 (f0.toInt.toNat) s2) 166 (f0.toInt.toNat) 0) 118 70 v25, h.2.2.1, h.2.2.2))) rfl ?_
            obtain ⟨v26, q_v26, e_v26⟩ := hk_sub (x := v25) (y := 1) (a := v25.toInt) (b := 1) rfl rfl (by omega) (by omega)
            rw [q_v26]
            refine qm_Ru.rt (v := (some (.int v26))) (h' := (h.1, qm_up (qm_up (qm_up (qm_up h.2.1 164 (f0.toInt.toNat) 2) 165 (f0.toInt.toNat) s2) 166 (f0.toInt.toNat) 0) 118 70 v25, h.2.2.1, h.2.2.2)) rfl ?_
            refine qm_Ru.go 0 (c' := (36, [.ref 118, .int s2, .int 0], [.int v26], (h.1, qm_up (qm_up (qm_up (qm_up h.2.1 164 (f0.toInt.toNat) 2) 165 (f0.toInt.toNat) s2) 166 (f0.toInt.toNat) 0) 118 70 v25, h.2.2.1, h.2.2.2))) rfl ?_
            refine qm_Ru.rt (v := (some (.int v26))) (h' := (h.1, qm_up (qm_up (qm_up (qm_up h.2.1 164 (f0.toInt.toNat) 2) 165 (f0.toInt.toNat) s2) 166 (f0.toInt.toNat) 0) 118 70 v25, h.2.2.1, h.2.2.2)) rfl ?_
            refine qm_Ru.go 3 (c' := (2081, [.retAddr 0, .ref 0, .ref 118, .int (i + 6)], [], (h.1, qm_up (qm_up (qm_up (qm_up h.2.1 164 (f0.toInt.toNat) 2) 165 (f0.toInt.toNat) s2) 166 (f0.toInt.toNat) 0) 118 70 v25, h.2.2.1, h.2.2.2))) rfl ?_
            obtain ⟨v27, q_v27, e_v27⟩ := hk_add (x := i) (y := 6) (a := i.toInt) (b := 6) rfl rfl (by omega) (by omega)
            rw [q_v27]
            refine qm_Ru.go 1 (c' := (18, [.retAddr 0, .ref 0, .ref 118, .int v27], [], (h.1, qm_up (qm_up (qm_up (qm_up h.2.1 164 (f0.toInt.toNat) 2) 165 (f0.toInt.toNat) s2) 166 (f0.toInt.toNat) 0) 118 70 v25, h.2.2.1, h.2.2.2))) rfl ?_
            exfalso
            omega
      · refine qm_Ru.go 2 (c' := (17, [.ref 6, .int s2], [.int 1], h)) rfl ?_
        refine qm_Ru.rt (v := (some (.int 1))) (h' := h) rfl ?_
        refine qm_Ru.go 2 (c' := (14, [.ref 0, .int s2, .int 0], [.ref 0], h)) rfl ?_
        refine hk_getr rfl (hH.1 0 (16, 10) rfl) rfl (hH.2 0 6 (some 42) rfl) ?_
        refine qm_Ru.go 5 (c' := (28, [.ref 0, .int s2, .int 0], [.int 0, .int s2, .int 2, .ref 42], h)) rfl ?_
        refine hk_inv (o := 42) (r := []) (as := [.ref 42, .int 2, .int s2, .int 0]) rfl rfl (hH.1 42 (7, 11) rfl) rfl rfl rfl rfl ?_
        refine qm_Ru.go 1 (c' := (1, [.ref 42, .int 2, .int s2, .int 0], [.ref 42], h)) rfl ?_
        refine hk_geti (v := f0) rfl (hH.1 42 (7, 11) rfl) rfl q_f0 ?_
        refine qm_Ru.go 1 (c' := (6, [.ref 42, .int 2, .int s2, .int 0], [.int 60, .int f0], h)) rfl ?_
        refine hk_clt (ix := f0.toInt) (iy := 60) rfl rfl rfl (fun z28 => ?_) (fun z28 => ?_)
        · refine qm_Ru.go 1 (c' := (12, [.ref 42, .int 2, .int s2, .int 0], [.ref 42], h)) rfl ?_
          refine hk_getr rfl (hH.1 42 (7, 11) rfl) rfl (hH.2 42 1 (some 43) rfl) ?_
          refine qm_Ru.go 1 (c' := (16, [.ref 42, .int 2, .int s2, .int 0], [.ref 42, .ref 43], h)) rfl ?_
          refine hk_geti (v := f0) rfl (hH.1 42 (7, 11) rfl) rfl q_f0 ?_
          refine qm_Ru.go 1 (c' := (20, [.ref 42, .int 2, .int s2, .int 0], [.int 2, .int f0, .ref 43], h)) rfl ?_
          refine hk_ias rfl (hH.1 43 (0, 60) rfl) (by omega) (by omega) ?_
          refine qm_Ru.go 1 (c' := (22, [.ref 42, .int 2, .int s2, .int 0], [.ref 42], (h.1, qm_up h.2.1 43 (f0.toInt.toNat) 2, h.2.2.1, h.2.2.2))) rfl ?_
          refine hk_getr rfl (hH.1 42 (7, 11) rfl) rfl (hH.2 42 2 (some 44) rfl) ?_
          refine qm_Ru.go 1 (c' := (26, [.ref 42, .int 2, .int s2, .int 0], [.ref 42, .ref 44], (h.1, qm_up h.2.1 43 (f0.toInt.toNat) 2, h.2.2.1, h.2.2.2))) rfl ?_
          refine hk_geti (v := f0) rfl (hH.1 42 (7, 11) rfl) rfl (show (qm_up h.2.1 43 (f0.toInt.toNat) 2) 42 7 = _ from ((hk_ot rfl).trans q_f0)) ?_
          refine qm_Ru.go 1 (c' := (30, [.ref 42, .int 2, .int s2, .int 0], [.int s2, .int f0, .ref 44], (h.1, qm_up h.2.1 43 (f0.toInt.toNat) 2, h.2.2.1, h.2.2.2))) rfl ?_
          refine hk_ias rfl (hH.1 44 (0, 60) rfl) (by omega) (by omega) ?_
          refine qm_Ru.go 1 (c' := (32, [.ref 42, .int 2, .int s2, .int 0], [.ref 42], (h.1, qm_up (qm_up h.2.1 43 (f0.toInt.toNat) 2) 44 (f0.toInt.toNat) s2, h.2.2.1, h.2.2.2))) rfl ?_
          refine hk_getr rfl (hH.1 42 (7, 11) rfl) rfl (hH.2 42 3 (some 45) rfl) ?_
          refine qm_Ru.go 1 (c' := (36, [.ref 42, .int 2, .int s2, .int 0], [.ref 42, .ref 45], (h.1, qm_up (qm_up h.2.1 43 (f0.toInt.toNat) 2) 44 (f0.toInt.toNat) s2, h.2.2.1, h.2.2.2))) rfl ?_
          refine hk_geti (v := f0) rfl (hH.1 42 (7, 11) rfl) rfl (show (qm_up (qm_up h.2.1 43 (f0.toInt.toNat) 2) 44 (f0.toInt.toNat) s2) 42 7 = _ from ((hk_ot rfl).trans ((hk_ot rfl).trans q_f0))) ?_
          refine qm_Ru.go 1 (c' := (40, [.ref 42, .int 2, .int s2, .int 0], [.int 0, .int f0, .ref 45], (h.1, qm_up (qm_up h.2.1 43 (f0.toInt.toNat) 2) 44 (f0.toInt.toNat) s2, h.2.2.1, h.2.2.2))) rfl ?_
          refine hk_ias rfl (hH.1 45 (0, 60) rfl) (by omega) (by omega) ?_
          refine qm_Ru.go 5 (c' := (56, [.ref 42, .int 2, .int s2, .int 0], [.ref 42, .ref 42], (h.1, qm_up (qm_up (qm_up h.2.1 43 (f0.toInt.toNat) 2) 44 (f0.toInt.toNat) s2) 45 (f0.toInt.toNat) 0, h.2.2.1, h.2.2.2))) rfl ?_
          refine hk_geti (v := f0) rfl (hH.1 42 (7, 11) rfl) rfl (show (qm_up (qm_up (qm_up h.2.1 43 (f0.toInt.toNat) 2) 44 (f0.toInt.toNat) s2) 45 (f0.toInt.toNat) 0) 42 7 = _ from ((hk_ot rfl).trans ((hk_ot rfl).trans ((hk_ot rfl).trans q_f0)))) ?_
          refine qm_Ru.go 2 (c' := (61, [.ref 42, .int 2, .int s2, .int 0], [.int (f0 + 1), .ref 42], (h.1, qm_up (qm_up (qm_up h.2.1 43 (f0.toInt.toNat) 2) 44 (f0.toInt.toNat) s2) 45 (f0.toInt.toNat) 0, h.2.2.1, h.2.2.2))) rfl ?_
          obtain ⟨v29, q_v29, e_v29⟩ := hk_add (x := f0) (y := 1) (a := f0.toInt) (b := 1) rfl rfl (by omega) (by omega)
          rw [q_v29]
          refine hk_puti rfl (hH.1 42 (7, 11) rfl) rfl ?_
          refine qm_Ru.go 1 (c' := (65, [.ref 42, .int 2, .int s2, .int 0], [.ref 42], (h.1, qm_up (qm_up (qm_up (qm_up h.2.1 43 (f0.toInt.toNat) 2) 44 (f0.toInt.toNat) s2) 45 (f0.toInt.toNat) 0) 42 7 v29, h.2.2.1, h.2.2.2))) rfl ?_
          refine hk_geti (v := v29) rfl (hH.1 42 (7, 11) rfl) rfl (show (qm_up (qm_up (qm_up (qm_up h.2.1 43 (f0.toInt.toNat) 2) 44 (f0.toInt.toNat) s2) 45 (f0.toInt.toNat) 0) 42 7 v29) 42 7 = _ from (hk_same)) ?_
          refine qm_Ru.go 2 (c' := (70, [.ref 42, .int 2, .int s2, .int 0], [.int (v29 - 1)], (h.1, qm_up (qm_up (qm_up (qm_up h.2.1 43 (f0.toInt.toNat) 2) 44 (f0.toInt.toNat) s2) 45 (f0.toInt.toNat) 0) 42 7 v29, h.2.2.1, h.2.2.2))) rfl ?_
          obtain ⟨v30, q_v30, e_v30⟩ := hk_sub (x := v29) (y := 1) (a := v29.toInt) (b := 1) rfl rfl (by omega) (by omega)
          rw [q_v30]
          refine qm_Ru.rt (v := (some (.int v30))) (h' := (h.1, qm_up (qm_up (qm_up (qm_up h.2.1 43 (f0.toInt.toNat) 2) 44 (f0.toInt.toNat) s2) 45 (f0.toInt.toNat) 0) 42 7 v29, h.2.2.1, h.2.2.2)) rfl ?_
          refine qm_Ru.go 0 (c' := (31, [.ref 0, .int s2, .int 0], [.int v30], (h.1, qm_up (qm_up (qm_up (qm_up h.2.1 43 (f0.toInt.toNat) 2) 44 (f0.toInt.toNat) s2) 45 (f0.toInt.toNat) 0) 42 7 v29, h.2.2.1, h.2.2.2))) rfl ?_
          refine qm_Ru.rt (v := (some (.int v30))) (h' := (h.1, qm_up (qm_up (qm_up (qm_up h.2.1 43 (f0.toInt.toNat) 2) 44 (f0.toInt.toNat) s2) 45 (f0.toInt.toNat) 0) 42 7 v29, h.2.2.1, h.2.2.2)) rfl ?_
          refine qm_Ru.go 6 (c' := (1289, [.retAddr 0, .ref 0, .ref 118, .int i], [.int (i + 1), .retAddr 0, .ref 118], (h.1, qm_up (qm_up (qm_up (qm_up h.2.1 43 (f0.toInt.toNat) 2) 44 (f0.toInt.toNat) s2) 45 (f0.toInt.toNat) 0) 42 7 v29, h.2.2.1, h.2.2.2))) rfl ?_
          rw [q_v1]
          refine hk_scr (v := s2) rfl (by omega) (by omega) q_s2 ?_
          refine qm_Ru.go 4 (c' := (1294, [.retAddr 0, .ref 0, .ref 118, .int i], [.int (i + 2), .retAddr 0, .int s2, .ref 118], (h.1, qm_up (qm_up (qm_up (qm_up h.2.1 43 (f0.toInt.toNat) 2) 44 (f0.toInt.toNat) s2) 45 (f0.toInt.toNat) 0) 42 7 v29, h.2.2.1, h.2.2.2))) rfl ?_
          rw [q_v3]
          refine hk_scr (v := s4) rfl (by omega) (by omega) q_s4 ?_
          refine qm_Ru.go 0 (c' := (1295, [.retAddr 0, .ref 0, .ref 118, .int i], [.int s4, .int s2, .ref 118], (h.1, qm_up (qm_up (qm_up (qm_up h.2.1 43 (f0.toInt.toNat) 2) 44 (f0.toInt.toNat) s2) 45 (f0.toInt.toNat) 0) 42 7 v29, h.2.2.1, h.2.2.2))) rfl ?_
          refine hk_zeq (ix := s4.toInt) rfl rfl (fun z33 => ?_) (fun z33 => by exfalso; omega)
          refine qm_Ru.go 1 (c' := (1303, [.retAddr 0, .ref 0, .ref 118, .int i], [.int 0, .int s2, .ref 118], (h.1, qm_up (qm_up (qm_up (qm_up h.2.1 43 (f0.toInt.toNat) 2) 44 (f0.toInt.toNat) s2) 45 (f0.toInt.toNat) 0) 42 7 v29, h.2.2.1, h.2.2.2))) rfl ?_
          refine hk_inv (o := 118) (r := []) (as := [.ref 118, .int s2, .int 0]) rfl rfl (hH.1 118 (17, 105) rfl) rfl rfl rfl rfl ?_
          refine qm_Ru.go 1 (c' := (1, [.ref 118, .int s2, .int 0], [.ref 118], (h.1, qm_up (qm_up (qm_up (qm_up h.2.1 43 (f0.toInt.toNat) 2) 44 (f0.toInt.toNat) s2) 45 (f0.toInt.toNat) 0) 42 7 v29, h.2.2.1, h.2.2.2))) rfl ?_
          refine hk_geti (v := f0) rfl (hH.1 118 (17, 105) rfl) rfl (show (qm_up (qm_up (qm_up (qm_up h.2.1 43 (f0.toInt.toNat) 2) 44 (f0.toInt.toNat) s2) 45 (f0.toInt.toNat) 0) 42 7 v29) 118 70 = _ from ((hk_ot rfl).trans ((hk_ot rfl).trans ((hk_ot rfl).trans ((hk_ot rfl).trans p_f0))))) ?_
          refine qm_Ru.go 1 (c' := (6, [.ref 118, .int s2, .int 0], [.int 60, .int f0], (h.1, qm_up (qm_up (qm_up (qm_up h.2.1 43 (f0.toInt.toNat) 2) 44 (f0.toInt.toNat) s2) 45 (f0.toInt.toNat) 0) 42 7 v29, h.2.2.1, h.2.2.2))) rfl ?_
          refine hk_ceq (ix := f0.toInt) (iy := 60) rfl rfl rfl (fun z34 => by exfalso; omega) (fun z34 => ?_)
          refine qm_Ru.go 2 (c' := (11, [.ref 118, .int s2, .int 0], [.int s2, .ref 118], (h.1, qm_up (qm_up (qm_up (qm_up h.2.1 43 (f0.toInt.toNat) 2) 44 (f0.toInt.toNat) s2) 45 (f0.toInt.toNat) 0) 42 7 v29, h.2.2.1, h.2.2.2))) rfl ?_
          refine hk_inv (o := 118) (r := []) (as := [.ref 118, .int s2]) rfl rfl (hH.1 118 (17, 105) rfl) rfl rfl rfl rfl ?_
          refine qm_Ru.go 3 (c' := (3, [.ref 118, .int s2], [.ref 118, .int 0, .int s2], (h.1, qm_up (qm_up (qm_up (qm_up h.2.1 43 (f0.toInt.toNat) 2) 44 (f0.toInt.toNat) s2) 45 (f0.toInt.toNat) 0) 42 7 v29, h.2.2.1, h.2.2.2))) rfl ?_
          refine hk_geti (v := c0) rfl (hH.1 118 (17, 105) rfl) rfl (show (qm_up (qm_up (qm_up (qm_up h.2.1 43 (f0.toInt.toNat) 2) 44 (f0.toInt.toNat) s2) 45 (f0.toInt.toNat) 0) 42 7 v29) 118 44 = _ from ((hk_ot rfl).trans ((hk_ot rfl).trans ((hk_ot rfl).trans ((hk_ot rfl).trans p_c0))))) ?_
          refine qm_Ru.go 2 (c' := (8, [.ref 118, .int s2], [.int (c0 - 1), .int 0, .int s2], (h.1, qm_up (qm_up (qm_up (qm_up h.2.1 43 (f0.toInt.toNat) 2) 44 (f0.toInt.toNat) s2) 45 (f0.toInt.toNat) 0) 42 7 v29, h.2.2.1, h.2.2.2))) rfl ?_
          obtain ⟨v35, q_v35, e_v35⟩ := hk_sub (x := c0) (y := 1) (a := c0.toInt) (b := 1) rfl rfl (by omega) (by omega)
          rw [q_v35]
          refine qm_Ru.call (j := 270) (as := [.int s2, .int 0, .int v35]) (c' := (11, [.ref 118, .int s2], [], (h.1, qm_up (qm_up (qm_up (qm_up h.2.1 43 (f0.toInt.toNat) 2) 44 (f0.toInt.toNat) s2) 45 (f0.toInt.toNat) 0) 42 7 v29, h.2.2.1, h.2.2.2))) rfl rfl rfl ?_
          refine qm_Ru.go 2 (c' := (2, [.int s2, .int 0, .int v35], [.int 0, .int s2], (h.1, qm_up (qm_up (qm_up (qm_up h.2.1 43 (f0.toInt.toNat) 2) 44 (f0.toInt.toNat) s2) 45 (f0.toInt.toNat) 0) 42 7 v29, h.2.2.1, h.2.2.2))) rfl ?_
          refine hk_clt (ix := s2.toInt) (iy := 0) rfl rfl rfl (fun z36 => by exfalso; omega) (fun z36 => ?_)
          refine qm_Ru.go 2 (c' := (7, [.int s2, .int 0, .int v35], [.int v35, .int s2], (h.1, qm_up (qm_up (qm_up (qm_up h.2.1 43 (f0.toInt.toNat) 2) 44 (f0.toInt.toNat) s2) 45 (f0.toInt.toNat) 0) 42 7 v29, h.2.2.1, h.2.2.2))) rfl ?_
          refine hk_cgt (ix := s2.toInt) (iy := v35.toInt) rfl rfl rfl (fun z37 => ?_) (fun z37 => ?_)
          · refine qm_Ru.go 1 (c' := (15, [.int s2, .int 0, .int v35], [.int 0], (h.1, qm_up (qm_up (qm_up (qm_up h.2.1 43 (f0.toInt.toNat) 2) 44 (f0.toInt.toNat) s2) 45 (f0.toInt.toNat) 0) 42 7 v29, h.2.2.1, h.2.2.2))) rfl ?_
            refine qm_Ru.rt (v := (some (.int 0))) (h' := (h.1, qm_up (qm_up (qm_up (qm_up h.2.1 43 (f0.toInt.toNat) 2) 44 (f0.toInt.toNat) s2) 45 (f0.toInt.toNat) 0) 42 7 v29, h.2.2.1, h.2.2.2)) rfl ?_
            refine qm_Ru.go 0 (c' := (11, [.ref 118, .int s2], [.int 0], (h.1, qm_up (qm_up (qm_up (qm_up h.2.1 43 (f0.toInt.toNat) 2) 44 (f0.toInt.toNat) s2) 45 (f0.toInt.toNat) 0) 42 7 v29, h.2.2.1, h.2.2.2))) rfl ?_
            refine qm_Ru.rt (v := (some (.int 0))) (h' := (h.1, qm_up (qm_up (qm_up (qm_up h.2.1 43 (f0.toInt.toNat) 2) 44 (f0.toInt.toNat) s2) 45 (f0.toInt.toNat) 0) 42 7 v29, h.2.2.1, h.2.2.2)) rfl ?_
            refine qm_Ru.go 3 (c' := (36, [.ref 118, .int s2, .int 0], [.int (-1)], (h.1, qm_up (qm_up (qm_up (qm_up h.2.1 43 (f0.toInt.toNat) 2) 44 (f0.toInt.toNat) s2) 45 (f0.toInt.toNat) 0) 42 7 v29, h.2.2.1, h.2.2.2))) rfl ?_
            refine qm_Ru.rt (v := (some (.int (-1)))) (h' := (h.1, qm_up (qm_up (qm_up (qm_up h.2.1 43 (f0.toInt.toNat) 2) 44 (f0.toInt.toNat) s2) 45 (f0.toInt.toNat) 0) 42 7 v29, h.2.2.1, h.2.2.2)) rfl ?_
            refine qm_Ru.go 3 (c' := (2081, [.retAddr 0, .ref 0, .ref 118, .int (i + 6)], [], (h.1, qm_up (qm_up (qm_up (qm_up h.2.1 43 (f0.toInt.toNat) 2) 44 (f0.toInt.toNat) s2) 45 (f0.toInt.toNat) 0) 42 7 v29, h.2.2.1, h.2.2.2))) rfl ?_
            obtain ⟨v38, q_v38, e_v38⟩ := hk_add (x := i) (y := 6) (a := i.toInt) (b := 6) rfl rfl (by omega) (by omega)
            rw [q_v38]
            refine qm_Ru.go 1 (c' := (18, [.retAddr 0, .ref 0, .ref 118, .int v38], [], (h.1, qm_up (qm_up (qm_up (qm_up h.2.1 43 (f0.toInt.toNat) 2) 44 (f0.toInt.toNat) s2) 45 (f0.toInt.toNat) 0) 42 7 v29, h.2.2.1, h.2.2.2))) rfl ?_
            exfalso
            omega
          · refine qm_Ru.go 2 (c' := (15, [.int s2, .int 0, .int v35], [.int 1], (h.1, qm_up (qm_up (qm_up (qm_up h.2.1 43 (f0.toInt.toNat) 2) 44 (f0.toInt.toNat) s2) 45 (f0.toInt.toNat) 0) 42 7 v29, h.2.2.1, h.2.2.2))) rfl ?_
            refine qm_Ru.rt (v := (some (.int 1))) (h' := (h.1, qm_up (qm_up (qm_up (qm_up h.2.1 43 (f0.toInt.toNat) 2) 44 (f0.toInt.toNat) s2) 45 (f0.toInt.toNat) 0) 42 7 v29, h.2.2.1, h.2.2.2)) rfl ?_
            refine qm_Ru.go 0 (c' := (11, [.ref 118, .int s2], [.int 1], (h.1, qm_up (qm_up (qm_up (qm_up h.2.1 43 (f0.toInt.toNat) 2) 44 (f0.toInt.toNat) s2) 45 (f0.toInt.toNat) 0) 42 7 v29, h.2.2.1, h.2.2.2))) rfl ?_
            refine qm_Ru.rt (v := (some (.int 1))) (h' := (h.1, qm_up (qm_up (qm_up (qm_up h.2.1 43 (f0.toInt.toNat) 2) 44 (f0.toInt.toNat) s2) 45 (f0.toInt.toNat) 0) 42 7 v29, h.2.2.1, h.2.2.2)) rfl ?_
            refine qm_Ru.go 7 (c' := (33, [.ref 118, .int s2, .int 0], [.int 0, .int s2, .int 2, .ref 118], (h.1, qm_up (qm_up (qm_up (qm_up h.2.1 43 (f0.toInt.toNat) 2) 44 (f0.toInt.toNat) s2) 45 (f0.toInt.toNat) 0) 42 7 v29, h.2.2.1, h.2.2.2))) rfl ?_
            refine hk_inv (o := 118) (r := []) (as := [.ref 118, .int 2, .int s2, .int 0]) rfl rfl (hH.1 118 (17, 105) rfl) rfl rfl rfl rfl ?_
            refine qm_Ru.go 1 (c' := (1, [.ref 118, .int 2, .int s2, .int 0], [.ref 118], (h.1, qm_up (qm_up (qm_up (qm_up h.2.1 43 (f0.toInt.toNat) 2) 44 (f0.toInt.toNat) s2) 45 (f0.toInt.toNat) 0) 42 7 v29, h.2.2.1, h.2.2.2))) rfl ?_
            refine hk_getr rfl (hH.1 118 (17, 105) rfl) rfl (hH.2 118 71 (some 164) rfl) ?_
            refine qm_Ru.go 1 (c' := (5, [.ref 118, .int 2, .int s2, .int 0], [.ref 118, .ref 164], (h.1, qm_up (qm_up (qm_up (qm_up h.2.1 43 (f0.toInt.toNat) 2) 44 (f0.toInt.toNat) s2) 45 (f0.toInt.toNat) 0) 42 7 v29, h.2.2.1, h.2.2.2))) rfl ?_
            refine hk_geti (v := f0) rfl (hH.1 118 (17, 105) rfl) rfl (show (qm_up (qm_up (qm_up (qm_up h.2.1 43 (f0.toInt.toNat) 2) 44 (f0.toInt.toNat) s2) 45 (f0.toInt.toNat) 0) 42 7 v29) 118 70 = _ from ((hk_ot rfl).trans ((hk_ot rfl).trans ((hk_ot rfl).trans ((hk_ot rfl).trans p_f0))))) ?_
            refine qm_Ru.go 1 (c' := (9, [.ref 118, .int 2, .int s2, .int 0], [.int 2, .int f0, .ref 164], (h.1, qm_up (qm_up (qm_up (qm_up h.2.1 43 (f0.toInt.toNat) 2) 44 (f0.toInt.toNat) s2) 45 (f0.toInt.toNat) 0) 42 7 v29, h.2.2.1, h.2.2.2))) rfl ?_
            refine hk_ias rfl (hH.1 164 (0, 60) rfl) (by omega) (by omega) ?_
            refine qm_Ru.go 1 (c' := (11, [.ref 118, .int 2, .int s2, .int 0], [.ref 118], (h.1, qm_up (qm_up (qm_up (qm_up (qm_up h.2.1 43 (f0.toInt.toNat) 2) 44 (f0.toInt.toNat) s2) 45 (f0.toInt.toNat) 0) 42 7 v29) 164 (f0.toInt.toNat) 2, h.2.2.1, h.2.2.2))) rfl ?_
            refine hk_getr rfl (hH.1 118 (17, 105) rfl) rfl (hH.2 118 72 (some 165) rfl) ?_
            refine qm_Ru.go 1 (c' := (15, [.ref 118, .int 2, .int s2, .int 0], [.ref 118, .ref 165], (h.1, qm_up (qm_up (qm_up (qm_up (qm_up h.2.1 43 (f0.toInt.toNat) 2) 44 (f0.toInt.toNat) s2) 45 (f0.toInt.toNat) 0) 42 7 v29) 164 (f0.toInt.toNat) 2, h.2.2.1, h.2.2.2))) rfl ?_
            refine hk_geti (v := f0) rfl (hH.1 118 (17, 105) rfl) rfl (show (qm_up (qm_up (qm_up (qm_up (qm_up h.2.1 43 (f0.toInt.toNat) 2) 44 (f0.toInt.toNat) s2) 45 (f0.toInt.toNat) 0) 42 7 v29) 164 (f0.toInt.toNat) 2) 118 70 = _ from ((hk_ot rfl).trans ((hk_ot rfl).trans ((hk_ot rfl).trans ((hk_ot rfl).trans ((hk_ot rfl).trans p_f0)))))) ?_
            refine qm_Ru.go 1 (c' := (19, [.ref 118, .int 2, .int s2, .int 0], [.int s2, .int f0, .ref 165], (h.1, qm_up (qm_up (qm_up (qm_up (qm_up h.2.1 43 (f0.toInt.toNat) 2) 44 (f0.toInt.toNat) s2) 45 (f0.toInt.toNat) 0) 42 7 v29) 164 (f0.toInt.toNat) 2, h.2.2.1, h.2.2.2))) rfl ?_
            refine hk_ias rfl (hH.1 165 (0, 60) rfl) (by omega) (by omega) ?_
            refine qm_Ru.go 1 (c' := (21, [.ref 118, .int 2, .int s2, .int 0], [.ref 118], (h.1, qm_up (qm_up (qm_up (qm_up (qm_up (qm_up h.2.1 43 (f0.toInt.toNat) 2) 44 (f0.toInt.toNat) s2) 45 (f0.toInt.toNat) 0) 42 7 v29) 164 (f0.toInt.toNat) 2) 165 (f0.toInt.toNat) s2, h.2.2.1, h.2.2.2))) rfl ?_
            refine hk_getr rfl (hH.1 118 (17, 105) rfl) rfl (hH.2 118 73 (some 166) rfl) ?_
            refine qm_Ru.go 1 (c' := (25, [.ref 118, .int 2, .int s2, .int 0], [.ref 118, .ref 166], (h.1, qm_up (qm_up (qm_up (qm_up (qm_up (qm_up h.2.1 43 (f0.toInt.toNat) 2) 44 (f0.toInt.toNat) s2) 45 (f0.toInt.toNat) 0) 42 7 v29) 164 (f0.toInt.toNat) 2) 165 (f0.toInt.toNat) s2, h.2.2.1, h.2.2.2))) rfl ?_
            refine hk_geti (v := f0) rfl (hH.1 118 (17, 105) rfl) rfl (show (qm_up (qm_up (qm_up (qm_up (qm_up (qm_up h.2.1 43 (f0.toInt.toNat) 2) 44 (f0.toInt.toNat) s2) 45 (f0.toInt.toNat) 0) 42 7 v29) 164 (f0.toInt.toNat) 2) 165 (f0.toInt.toNat) s2) 118 70 = _ from ((hk_ot rfl).trans ((hk_ot rfl).trans ((hk_ot rfl).trans ((hk_ot rfl).trans ((hk_ot rfl).trans ((hk_ot rfl).trans p_f0))))))) ?_
            refine qm_Ru.go 1 (c' := (29, [.ref 118, .int 2, .int s2, .int 0], [.int 0, .int f0, .ref 166], (h.1, qm_up (qm_up (qm_up (qm_up (qm_up (qm_up h.2.1 43 (f0.toInt.toNat) 2) 44 (f0.toInt.toNat) s2) 45 (f0.toInt.toNat) 0) 42 7 v29) 164 (f0.toInt.toNat) 2) 165 (f0.toInt.toNat) s2, h.2.2.1, h.2.2.2))) rfl ?_
            refine hk_ias rfl (hH.1 166 (0, 60) rfl) (by omega) (by omega) ?_
            refine qm_Ru.go 2 (c' := (32, [.ref 118, .int 2, .int s2, .int 0], [.ref 118, .ref 118], (h.1, qm_up (qm_up (qm_up (qm_up (qm_up (qm_up (qm_up h.2.1 43 (f0.toInt.toNat) 2) 44 (f0.toInt.toNat) s2) 45 (f0.toInt.toNat) 0) 42 7 v29) 164 (f0.toInt.toNat) 2) 165 (f0.toInt.toNat) s2) 166 (f0.toInt.toNat) 0, h.2.2.1, h.2.2.2))) rfl ?_
            refine hk_geti (v := f0) rfl (hH.1 118 (17, 105) rfl) rfl (show (qm_up (qm_up (qm_up (qm_up (qm_up (qm_up (qm_up h.2.1 43 (f0.toInt.toNat) 2) 44 (f0.toInt.toNat) s2) 45 (f0.toInt.toNat) 0) 42 7 v29) 164 (f0.toInt.toNat) 2) 165 (f0.toInt.toNat) s2) 166 (f0.toInt.toNat) 0) 118 70 = _ from ((hk_ot rfl).trans ((hk_ot rfl).trans ((hk_ot rfl).trans ((hk_ot rfl).trans ((hk_ot rfl).trans ((hk_ot rfl).trans ((hk_ot rfl).trans p_f0)))))))) ?_
            refine qm_Ru.go 2 (c' := (37, [.ref 118, .int 2, .int s2, .int 0], [.int (f0 + 1), .ref 118], (h.1, qm_up (qm_up (qm_up (qm_up (qm_up (qm_up (qm_up h.2.1 43 (f0.toInt.toNat) 2) 44 (f0.toInt.toNat) s2) 45 (f0.toInt.toNat) 0) 42 7 v29) 164 (f0.toInt.toNat) 2) 165 (f0.toInt.toNat) s2) 166 (f0.toInt.toNat) 0, h.2.2.1, h.2.2.2))) rfl ?_
            rw [q_v29]
            refine hk_puti rfl (hH.1 118 (17, 105) rfl) rfl ?_
            refine qm_Ru.go 1 (c' := (41, [.ref 118, .int 2, .int s2, .int 0], [.ref 118], (h.1, qm_up (qm_up (qm_up (qm_up (qm_up (qm_up (qm_up (qm_up h.2.1 43 (f0.toInt.toNat) 2) 44 (f0.toInt.toNat) s2) 45 (f0.toInt.toNat) 0) 42 7 v29) 164 (f0.toInt.toNat) 2) 165 (f0.toInt.toNat) s2) 166 (f0.toInt.toNat) 0) 118 70 v29, h.2.2.1, h.2.2.2))) rfl ?_
            refine hk_geti (v := v29) rfl (hH.1 118 (17, 105) rfl) rfl (show (qm_up (qm_up (qm_up (qm_up (qm_up (qm_up (qm_up (qm_up h.2.1 43 (f0.toInt.toNat) 2) 44 (f0.toInt.toNat) s2) 45 (f0.toInt.toNat) 0) 42 7 v29) 164 (f0.toInt.toNat) 2) 165 (f0.toInt.toNat) s2) 166 (f0.toInt.toNat) 0) 118 70 v29) 118 70 = _ from (hk_same)) ?_
            refine qm_Ru.go 2 (c' := (46, [.ref 118, .int 2, .int s2, .int 0], [.int (v29 - 1)], (h.1, qm_up (qm_up (qm_up (qm_up (qm_up (qm_up (qm_up (qm_up h.2.1 43 (f0.toInt.toNat) 2) 44 (f0.toInt.toNat) s2) 45 (f0.toInt.toNat) 0) 42 7 v29) 164 (f0.toInt.toNat) 2) 165 (f0.toInt.toNat) s2) 166 (f0.toInt.toNat) 0) 118 70 v29, h.2.2.1, h.2.2.2))) rfl ?_
            rw [q_v30]
            refine qm_Ru.rt (v := (some (.int v30))) (h' := (h.1, qm_up (qm_up (qm_up (qm_up (qm_up (qm_up (qm_up (qm_up h.2.1 43 (f0.toInt.toNat) 2) 44 (f0.toInt.toNat) s2) 45 (f0.toInt.toNat) 0) 42 7 v29) 164 (f0.toInt.toNat) 2) 165 (f0.toInt.toNat) s2) 166 (f0.toInt.toNat) 0) 118 70 v29, h.2.2.1, h.2.2.2)) rfl ?_
            refine qm_Ru.go 0 (c' := (36, [.ref 118, .int s2, .int 0], [.int v30], (h.1, qm_up (qm_up (qm_up (qm_up (qm_up (qm_up (qm_up (qm_up h.2.1 43 (f0.toInt.toNat) 2) 44 (f0.toInt.toNat) s2) 45 (f0.toInt.toNat) 0) 42 7 v29) 164 (f0.toInt.toNat) 2) 165 (f0.toInt.toNat) s2) 166 (f0.toInt.toNat) 0) 118 70 v29, h.2.2.1, h.2.2.2))) rfl ?_
            refine qm_Ru.rt (v := (some (.int v30))) (h' := (h.1, qm_up (qm_up (qm_up (qm_up (qm_up (qm_up (qm_up (qm_up h.2.1 43 (f0.toInt.toNat) 2) 44 (f0.toInt.toNat) s2) 45 (f0.toInt.toNat) 0) 42 7 v29) 164 (f0.toInt.toNat) 2) 165 (f0.toInt.toNat) s2) 166 (f0.toInt.toNat) 0) 118 70 v29, h.2.2.1, h.2.2.2)) rfl ?_
            refine qm_Ru.go 3 (c' := (2081, [.retAddr 0, .ref 0, .ref 118, .int (i + 6)], [], (h.1, qm_up (qm_up (qm_up (qm_up (qm_up (qm_up (qm_up (qm_up h.2.1 43 (f0.toInt.toNat) 2) 44 (f0.toInt.toNat) s2) 45 (f0.toInt.toNat) 0) 42 7 v29) 164 (f0.toInt.toNat) 2) 165 (f0.toInt.toNat) s2) 166 (f0.toInt.toNat) 0) 118 70 v29, h.2.2.1, h.2.2.2))) rfl ?_
            obtain ⟨v41, q_v41, e_v41⟩ := hk_add (x := i) (y := 6) (a := i.toInt) (b := 6) rfl rfl (by omega) (by omega)
            rw [q_v41]
            refine qm_Ru.go 1 (c' := (18, [.retAddr 0, .ref 0, .ref 118, .int v41], [], (h.1, qm_up (qm_up (qm_up (qm_up (qm_up (qm_up (qm_up (qm_up h.2.1 43 (f0.toInt.toNat) 2) 44 (f0.toInt.toNat) s2) 45 (f0.toInt.toNat) 0) 42 7 v29) 164 (f0.toInt.toNat) 2) 165 (f0.toInt.toNat) s2) 166 (f0.toInt.toNat) 0) 118 70 v29, h.2.2.1, h.2.2.2))) rfl ?_
            have r43 : (qm_up (qm_up (qm_up (qm_up (qm_up (qm_up (qm_up (qm_up h.2.1 43 (f0.toInt.toNat) 2) 44 (f0.toInt.toNat) s2) 45 (f0.toInt.toNat) 0) 42 7 v29) 164 (f0.toInt.toNat) 2) 165 (f0.toInt.toNat) s2) 166 (f0.toInt.toNat) 0) 118 70 v29) 43 (f0.toInt.toNat) = 2 := ((hk_ot rfl).trans ((hk_ot rfl).trans ((hk_ot rfl).trans ((hk_ot rfl).trans ((hk_ot rfl).trans ((hk_ot rfl).trans ((hk_ot rfl).trans hk_same)))))))
            have r44 : (qm_up (qm_up (qm_up (qm_up (qm_up (qm_up (qm_up (qm_up h.2.1 43 (f0.toInt.toNat) 2) 44 (f0.toInt.toNat) s2) 45 (f0.toInt.toNat) 0) 42 7 v29) 164 (f0.toInt.toNat) 2) 165 (f0.toInt.toNat) s2) 166 (f0.toInt.toNat) 0) 118 70 v29) 44 (f0.toInt.toNat) = s2 := ((hk_ot rfl).trans ((hk_ot rfl).trans ((hk_ot rfl).trans ((hk_ot rfl).trans ((hk_ot rfl).trans ((hk_ot rfl).trans hk_same))))))
            have r45 : (qm_up (qm_up (qm_up (qm_up (qm_up (qm_up (qm_up (qm_up h.2.1 43 (f0.toInt.toNat) 2) 44 (f0.toInt.toNat) s2) 45 (f0.toInt.toNat) 0) 42 7 v29) 164 (f0.toInt.toNat) 2) 165 (f0.toInt.toNat) s2) 166 (f0.toInt.toNat) 0) 118 70 v29) 45 (f0.toInt.toNat) = 0 := ((hk_ot rfl).trans ((hk_ot rfl).trans ((hk_ot rfl).trans ((hk_ot rfl).trans ((hk_ot rfl).trans hk_same)))))
            have r164 : (qm_up (qm_up (qm_up (qm_up (qm_up (qm_up (qm_up (qm_up h.2.1 43 (f0.toInt.toNat) 2) 44 (f0.toInt.toNat) s2) 45 (f0.toInt.toNat) 0) 42 7 v29) 164 (f0.toInt.toNat) 2) 165 (f0.toInt.toNat) s2) 166 (f0.toInt.toNat) 0) 118 70 v29) 164 (f0.toInt.toNat) = 2 := ((hk_ot rfl).trans ((hk_ot rfl).trans ((hk_ot rfl).trans hk_same)))
            have r165 : (qm_up (qm_up (qm_up (qm_up (qm_up (qm_up (qm_up (qm_up h.2.1 43 (f0.toInt.toNat) 2) 44 (f0.toInt.toNat) s2) 45 (f0.toInt.toNat) 0) 42 7 v29) 164 (f0.toInt.toNat) 2) 165 (f0.toInt.toNat) s2) 166 (f0.toInt.toNat) 0) 118 70 v29) 165 (f0.toInt.toNat) = s2 := ((hk_ot rfl).trans ((hk_ot rfl).trans hk_same))
            have r166 : (qm_up (qm_up (qm_up (qm_up (qm_up (qm_up (qm_up (qm_up h.2.1 43 (f0.toInt.toNat) 2) 44 (f0.toInt.toNat) s2) 45 (f0.toInt.toNat) 0) 42 7 v29) 164 (f0.toInt.toNat) 2) 165 (f0.toInt.toNat) s2) 166 (f0.toInt.toNat) 0) 118 70 v29) 166 (f0.toInt.toNat) = 0 := ((hk_ot rfl).trans hk_same)
            have rF : gFat (qm_up (qm_up (qm_up (qm_up (qm_up (qm_up (qm_up (qm_up h.2.1 43 (f0.toInt.toNat) 2) 44 (f0.toInt.toNat) s2) 45 (f0.toInt.toNat) 0) 42 7 v29) 164 (f0.toInt.toNat) 2) 165 (f0.toInt.toNat) s2) 166 (f0.toInt.toNat) 0) 118 70 v29) (f0.toInt.toNat) := ⟨by rw [r164, r43]; exact ⟨by decide, by decide, rfl⟩, fun z => by rw [r164] at z; first | exact absurd z (by decide) | rw [r44, r165], fun z => by rw [r164] at z; first | exact absurd z (by decide) | rw [r45, r166], fun z => by rw [r164] at z; first | exact absurd z (by decide) | rw [r45, r165], fun z => by rw [r164] at z; first | exact absurd z (by decide) | (rw [r165]; omega)⟩
            have hG : gR (qm_up (qm_up (qm_up (qm_up (qm_up (qm_up (qm_up (qm_up h.2.1 43 (f0.toInt.toNat) 2) 44 (f0.toInt.toNat) s2) 45 (f0.toInt.toNat) 0) 42 7 v29) 164 (f0.toInt.toNat) 2) 165 (f0.toInt.toNat) s2) 166 (f0.toInt.toNat) 0) 118 70 v29) := (gR_fact (I := h.2.1) (I2 := qm_up (qm_up (qm_up (qm_up (qm_up (qm_up (qm_up (qm_up h.2.1 43 (f0.toInt.toNat) 2) 44 (f0.toInt.toNat) s2) 45 (f0.toInt.toNat) 0) 42 7 v29) 164 (f0.toInt.toNat) 2) 165 (f0.toInt.toNat) s2) 166 (f0.toInt.toNat) 0) 118 70 v29) (n := f0.toInt.toNat) hS.2 (by rw [q_f0]; omega) (fun o ho k => ((hk_ot (n_in ho rfl)).trans ((hk_ot (n_in ho rfl)).trans ((hk_ot (n_in ho rfl)).trans ((hk_ot (n_in ho rfl)).trans ((hk_ot (n_in ho rfl)).trans ((hk_ot (n_in ho rfl)).trans ((hk_ot (n_in ho rfl)).trans ((hk_ot (n_in ho rfl)).trans rfl))))))))) (fun o ho k hk => ((hk_ot (n_in ho rfl)).trans ((hk_ni hk).trans ((hk_ni hk).trans ((hk_ni hk).trans ((hk_ot (n_in ho rfl)).trans ((hk_ni hk).trans ((hk_ni hk).trans ((hk_ni hk).trans rfl))))))))) ((hk_ot rfl).trans ((hk_ot rfl).trans ((hk_ot rfl).trans ((hk_ot rfl).trans ((hk_ot rfl).trans ((hk_ot rfl).trans ((hk_ot rfl).trans ((hk_ot rfl).trans rfl)))))))) ((hk_ot rfl).trans ((hk_ot rfl).trans ((hk_ot rfl).trans ((hk_ot rfl).trans ((hk_ot rfl).trans ((hk_ot rfl).trans ((hk_ot rfl).trans ((hk_ot rfl).trans rfl)))))))) ((hk_neq (by decide)).trans ((hk_ot rfl).trans ((hk_ot rfl).trans ((hk_ot rfl).trans ((hk_ot rfl).trans ((hk_ot rfl).trans ((hk_ot rfl).trans ((hk_ot rfl).trans rfl)))))))) ((hk_neq (by decide)).trans ((hk_ot rfl).trans ((hk_ot rfl).trans ((hk_ot rfl).trans ((hk_ot rfl).trans ((hk_ot rfl).trans ((hk_ot rfl).trans ((hk_ot rfl).trans rfl)))))))) ((congrArg Int32.toInt ((hk_ot rfl).trans ((hk_ot rfl).trans ((hk_ot rfl).trans ((hk_ot rfl).trans hk_same))))).trans (by omega)) (((hk_ot rfl).trans ((hk_ot rfl).trans ((hk_ot rfl).trans ((hk_ot rfl).trans hk_same)))).trans hk_same.symm) rF)
            have hS1 : gS (h.1, qm_up (qm_up (qm_up (qm_up (qm_up (qm_up (qm_up (qm_up h.2.1 43 (f0.toInt.toNat) 2) 44 (f0.toInt.toNat) s2) 45 (f0.toInt.toNat) 0) 42 7 v29) 164 (f0.toInt.toNat) 2) 165 (f0.toInt.toNat) s2) 166 (f0.toInt.toNat) 0) 118 70 v29, h.2.2.1, h.2.2.2) := (gS_up (gS_upa (gS_upa (gS_upa (gS_up (gS_upa (gS_upa (gS_upa (show gS (h.1, h.2.1, h.2.2.1, h.2.2.2) from hS.1) (by decide)) (by decide)) (by decide)) (by decide)) (by decide)) (by decide)) (by decide)) (by decide))
            have hS2 : gS2 (h.1, qm_up (qm_up (qm_up (qm_up (qm_up (qm_up (qm_up (qm_up h.2.1 43 (f0.toInt.toNat) 2) 44 (f0.toInt.toNat) s2) 45 (f0.toInt.toNat) 0) 42 7 v29) 164 (f0.toInt.toNat) 2) 165 (f0.toInt.toNat) s2) 166 (f0.toInt.toNat) 0) 118 70 v29, h.2.2.1, h.2.2.2) := ⟨hS1, hG⟩
            have hX3 : gX (h.1, qm_up (qm_up (qm_up (qm_up (qm_up (qm_up (qm_up (qm_up h.2.1 43 (f0.toInt.toNat) 2) 44 (f0.toInt.toNat) s2) 45 (f0.toInt.toNat) 0) 42 7 v29) 164 (f0.toInt.toNat) 2) 165 (f0.toInt.toNat) s2) 166 (f0.toInt.toNat) 0) 118 70 v29, h.2.2.1, h.2.2.2) := ⟨gP_cg hX.1 (fun o ho i => ((hk_ot (n_in ho rfl)).trans ((hk_ot (n_in ho rfl)).trans ((hk_ot (n_in ho rfl)).trans ((hk_ot (n_in ho rfl)).trans ((hk_ot (n_in ho rfl)).trans ((hk_ot (n_in ho rfl)).trans ((hk_ot (n_in ho rfl)).trans ((hk_ot (n_in ho rfl)).trans rfl))))))))) (show (qm_up (qm_up (qm_up (qm_up (qm_up (qm_up (qm_up (qm_up h.2.1 43 (f0.toInt.toNat) 2) 44 (f0.toInt.toNat) s2) 45 (f0.toInt.toNat) 0) 42 7 v29) 164 (f0.toInt.toNat) 2) 165 (f0.toInt.toNat) s2) 166 (f0.toInt.toNat) 0) 118 70 v29) 1 1 = h.2.1 1 1 from ((hk_ot rfl).trans ((hk_ot rfl).trans ((hk_ot rfl).trans ((hk_ot rfl).trans ((hk_ot rfl).trans ((hk_ot rfl).trans ((hk_ot rfl).trans ((hk_ot rfl).trans rfl))))))))) (show (qm_up (qm_up (qm_up (qm_up (qm_up (qm_up (qm_up (qm_up h.2.1 43 (f0.toInt.toNat) 2) 44 (f0.toInt.toNat) s2) 45 (f0.toInt.toNat) 0) 42 7 v29) 164 (f0.toInt.toNat) 2) 165 (f0.toInt.toNat) s2) 166 (f0.toInt.toNat) 0) 118 70 v29) 3 4 = h.2.1 3 4 from ((hk_ot rfl).trans ((hk_ot rfl).trans ((hk_ot rfl).trans ((hk_ot rfl).trans ((hk_ot rfl).trans ((hk_ot rfl).trans ((hk_ot rfl).trans ((hk_ot rfl).trans rfl))))))))) (show (qm_up (qm_up (qm_up (qm_up (qm_up (qm_up (qm_up (qm_up h.2.1 43 (f0.toInt.toNat) 2) 44 (f0.toInt.toNat) s2) 45 (f0.toInt.toNat) 0) 42 7 v29) 164 (f0.toInt.toNat) 2) 165 (f0.toInt.toNat) s2) 166 (f0.toInt.toNat) 0) 118 70 v29) 118 17 = h.2.1 118 17 from ((hk_neq (by decide)).trans ((hk_ot rfl).trans ((hk_ot rfl).trans ((hk_ot rfl).trans ((hk_ot rfl).trans ((hk_ot rfl).trans ((hk_ot rfl).trans ((hk_ot rfl).trans rfl))))))))), hX.2⟩
            have hZ3 : (gZB tb) (h.1, qm_up (qm_up (qm_up (qm_up (qm_up (qm_up (qm_up (qm_up h.2.1 43 (f0.toInt.toNat) 2) 44 (f0.toInt.toNat) s2) 45 (f0.toInt.toNat) 0) 42 7 v29) 164 (f0.toInt.toNat) 2) 165 (f0.toInt.toNat) s2) 166 (f0.toInt.toNat) 0) 118 70 v29, h.2.2.1, h.2.2.2) := (gZ_cg (h2 := (h.1, qm_up (qm_up (qm_up (qm_up (qm_up (qm_up (qm_up (qm_up h.2.1 43 (f0.toInt.toNat) 2) 44 (f0.toInt.toNat) s2) 45 (f0.toInt.toNat) 0) 42 7 v29) 164 (f0.toInt.toNat) 2) 165 (f0.toInt.toNat) s2) 166 (f0.toInt.toNat) 0) 118 70 v29, h.2.2.1, h.2.2.2)) hZ (fun o ho i => ((hk_ot (n_in ho rfl)).trans ((hk_ot (n_in ho rfl)).trans ((hk_ot (n_in ho rfl)).trans ((hk_ot (n_in ho rfl)).trans ((hk_ot (n_in ho rfl)).trans ((hk_ot (n_in ho rfl)).trans ((hk_ot (n_in ho rfl)).trans ((hk_ot (n_in ho rfl)).trans rfl))))))))) (show (qm_up (qm_up (qm_up (qm_up (qm_up (qm_up (qm_up (qm_up h.2.1 43 (f0.toInt.toNat) 2) 44 (f0.toInt.toNat) s2) 45 (f0.toInt.toNat) 0) 42 7 v29) 164 (f0.toInt.toNat) 2) 165 (f0.toInt.toNat) s2) 166 (f0.toInt.toNat) 0) 118 70 v29) 6 0 = h.2.1 6 0 from ((hk_ot rfl).trans ((hk_ot rfl).trans ((hk_ot rfl).trans ((hk_ot rfl).trans ((hk_ot rfl).trans ((hk_ot rfl).trans ((hk_ot rfl).trans ((hk_ot rfl).trans rfl))))))))) (fun i _ => show (qm_up (qm_up (qm_up (qm_up (qm_up (qm_up (qm_up (qm_up h.2.1 43 (f0.toInt.toNat) 2) 44 (f0.toInt.toNat) s2) 45 (f0.toInt.toNat) 0) 42 7 v29) 164 (f0.toInt.toNat) 2) 165 (f0.toInt.toNat) s2) 166 (f0.toInt.toNat) 0) 118 70 v29) 28 i = h.2.1 28 i from ((hk_ot rfl).trans ((hk_ot rfl).trans ((hk_ot rfl).trans ((hk_ot rfl).trans ((hk_ot rfl).trans ((hk_ot rfl).trans ((hk_ot rfl).trans ((hk_ot rfl).trans rfl))))))))) (fun i _ => show (qm_up (qm_up (qm_up (qm_up (qm_up (qm_up (qm_up (qm_up h.2.1 43 (f0.toInt.toNat) 2) 44 (f0.toInt.toNat) s2) 45 (f0.toInt.toNat) 0) 42 7 v29) 164 (f0.toInt.toNat) 2) 165 (f0.toInt.toNat) s2) 166 (f0.toInt.toNat) 0) 118 70 v29) 29 i = h.2.1 29 i from ((hk_ot rfl).trans ((hk_ot rfl).trans ((hk_ot rfl).trans ((hk_ot rfl).trans ((hk_ot rfl).trans ((hk_ot rfl).trans ((hk_ot rfl).trans ((hk_ot rfl).trans rfl))))))))) (fun i _ => show (qm_up (qm_up (qm_up (qm_up (qm_up (qm_up (qm_up (qm_up h.2.1 43 (f0.toInt.toNat) 2) 44 (f0.toInt.toNat) s2) 45 (f0.toInt.toNat) 0) 42 7 v29) 164 (f0.toInt.toNat) 2) 165 (f0.toInt.toNat) s2) 166 (f0.toInt.toNat) 0) 118 70 v29) 111 i = h.2.1 111 i from ((hk_ot rfl).trans ((hk_ot rfl).trans ((hk_ot rfl).trans ((hk_ot rfl).trans ((hk_ot rfl).trans ((hk_ot rfl).trans ((hk_ot rfl).trans ((hk_ot rfl).trans rfl))))))))) (fun i _ => show (qm_up (qm_up (qm_up (qm_up (qm_up (qm_up (qm_up (qm_up h.2.1 43 (f0.toInt.toNat) 2) 44 (f0.toInt.toNat) s2) 45 (f0.toInt.toNat) 0) 42 7 v29) 164 (f0.toInt.toNat) 2) 165 (f0.toInt.toNat) s2) 166 (f0.toInt.toNat) 0) 118 70 v29) 51 i = h.2.1 51 i from ((hk_ot rfl).trans ((hk_ot rfl).trans ((hk_ot rfl).trans ((hk_ot rfl).trans ((hk_ot rfl).trans ((hk_ot rfl).trans ((hk_ot rfl).trans ((hk_ot rfl).trans rfl))))))))) (List.forall_mem_cons.mpr ⟨(show (qm_up (qm_up (qm_up (qm_up (qm_up (qm_up (qm_up (qm_up h.2.1 43 (f0.toInt.toNat) 2) 44 (f0.toInt.toNat) s2) 45 (f0.toInt.toNat) 0) 42 7 v29) 164 (f0.toInt.toNat) 2) 165 (f0.toInt.toNat) s2) 166 (f0.toInt.toNat) 0) 118 70 v29) 118 18 = h.2.1 118 18 from ((hk_neq (by decide)).trans ((hk_ot rfl).trans ((hk_ot rfl).trans ((hk_ot rfl).trans ((hk_ot rfl).trans ((hk_ot rfl).trans ((hk_ot rfl).trans ((hk_ot rfl).trans rfl))))))))), List.forall_mem_cons.mpr ⟨(show (qm_up (qm_up (qm_up (qm_up (qm_up (qm_up (qm_up (qm_up h.2.1 43 (f0.toInt.toNat) 2) 44 (f0.toInt.toNat) s2) 45 (f0.toInt.toNat) 0) 42 7 v29) 164 (f0.toInt.toNat) 2) 165 (f0.toInt.toNat) s2) 166 (f0.toInt.toNat) 0) 118 70 v29) 118 44 = h.2.1 118 44 from ((hk_neq (by decide)).trans ((hk_ot rfl).trans ((hk_ot rfl).trans ((hk_ot rfl).trans ((hk_ot rfl).trans ((hk_ot rfl).trans ((hk_ot rfl).trans ((hk_ot rfl).trans rfl))))))))), List.forall_mem_cons.mpr ⟨(show (qm_up (qm_up (qm_up (qm_up (qm_up (qm_up (qm_up (qm_up h.2.1 43 (f0.toInt.toNat) 2) 44 (f0.toInt.toNat) s2) 45 (f0.toInt.toNat) 0) 42 7 v29) 164 (f0.toInt.toNat) 2) 165 (f0.toInt.toNat) s2) 166 (f0.toInt.toNat) 0) 118 70 v29) 118 54 = h.2.1 118 54 from ((hk_neq (by decide)).trans ((hk_ot rfl).trans ((hk_ot rfl).trans ((hk_ot rfl).trans ((hk_ot rfl).trans ((hk_ot rfl).trans ((hk_ot rfl).trans ((hk_ot rfl).trans rfl))))))))), List.forall_mem_cons.mpr ⟨(show (qm_up (qm_up (qm_up (qm_up (qm_up (qm_up (qm_up (qm_up h.2.1 43 (f0.toInt.toNat) 2) 44 (f0.toInt.toNat) s2) 45 (f0.toInt.toNat) 0) 42 7 v29) 164 (f0.toInt.toNat) 2) 165 (f0.toInt.toNat) s2) 166 (f0.toInt.toNat) 0) 118 70 v29) 118 75 = h.2.1 118 75 from ((hk_neq (by decide)).trans ((hk_ot rfl).trans ((hk_ot rfl).trans ((hk_ot rfl).trans ((hk_ot rfl).trans ((hk_ot rfl).trans ((hk_ot rfl).trans ((hk_ot rfl).trans rfl))))))))), List.forall_mem_cons.mpr ⟨(show (qm_up (qm_up (qm_up (qm_up (qm_up (qm_up (qm_up (qm_up h.2.1 43 (f0.toInt.toNat) 2) 44 (f0.toInt.toNat) s2) 45 (f0.toInt.toNat) 0) 42 7 v29) 164 (f0.toInt.toNat) 2) 165 (f0.toInt.toNat) s2) 166 (f0.toInt.toNat) 0) 118 70 v29) 118 85 = h.2.1 118 85 from ((hk_neq (by decide)).trans ((hk_ot rfl).trans ((hk_ot rfl).trans ((hk_ot rfl).trans ((hk_ot rfl).trans ((hk_ot rfl).trans ((hk_ot rfl).trans ((hk_ot rfl).trans rfl))))))))), List.forall_mem_cons.mpr ⟨(show (qm_up (qm_up (qm_up (qm_up (qm_up (qm_up (qm_up (qm_up h.2.1 43 (f0.toInt.toNat) 2) 44 (f0.toInt.toNat) s2) 45 (f0.toInt.toNat) 0) 42 7 v29) 164 (f0.toInt.toNat) 2) 165 (f0.toInt.toNat) s2) 166 (f0.toInt.toNat) 0) 118 70 v29) 118 91 = h.2.1 118 91 from ((hk_neq (by decide)).trans ((hk_ot rfl).trans ((hk_ot rfl).trans ((hk_ot rfl).trans ((hk_ot rfl).trans ((hk_ot rfl).trans ((hk_ot rfl).trans ((hk_ot rfl).trans rfl))))))))), List.forall_mem_cons.mpr ⟨(show (qm_up (qm_up (qm_up (qm_up (qm_up (qm_up (qm_up (qm_up h.2.1 43 (f0.toInt.toNat) 2) 44 (f0.toInt.toNat) s2) 45 (f0.toInt.toNat) 0) 42 7 v29) 164 (f0.toInt.toNat) 2) 165 (f0.toInt.toNat) s2) 166 (f0.toInt.toNat) 0) 118 70 v29) 118 92 = h.2.1 118 92 from ((hk_neq (by decide)).trans ((hk_ot rfl).trans ((hk_ot rfl).trans ((hk_ot rfl).trans ((hk_ot rfl).trans ((hk_ot rfl).trans ((hk_ot rfl).trans ((hk_ot rfl).trans rfl))))))))), List.forall_mem_cons.mpr ⟨(show (qm_up (qm_up (qm_up (qm_up (qm_up (qm_up (qm_up (qm_up h.2.1 43 (f0.toInt.toNat) 2) 44 (f0.toInt.toNat) s2) 45 (f0.toInt.toNat) 0) 42 7 v29) 164 (f0.toInt.toNat) 2) 165 (f0.toInt.toNat) s2) 166 (f0.toInt.toNat) 0) 118 70 v29) 118 93 = h.2.1 118 93 from ((hk_neq (by decide)).trans ((hk_ot rfl).trans ((hk_ot rfl).trans ((hk_ot rfl).trans ((hk_ot rfl).trans ((hk_ot rfl).trans ((hk_ot rfl).trans ((hk_ot rfl).trans rfl))))))))), List.forall_mem_cons.mpr ⟨(show (qm_up (qm_up (qm_up (qm_up (qm_up (qm_up (qm_up (qm_up h.2.1 43 (f0.toInt.toNat) 2) 44 (f0.toInt.toNat) s2) 45 (f0.toInt.toNat) 0) 42 7 v29) 164 (f0.toInt.toNat) 2) 165 (f0.toInt.toNat) s2) 166 (f0.toInt.toNat) 0) 118 70 v29) 118 94 = h.2.1 118 94 from ((hk_neq (by decide)).trans ((hk_ot rfl).trans ((hk_ot rfl).trans ((hk_ot rfl).trans ((hk_ot rfl).trans ((hk_ot rfl).trans ((hk_ot rfl).trans ((hk_ot rfl).trans rfl))))))))), fun _ z => absurd z List.not_mem_nil⟩⟩⟩⟩⟩⟩⟩⟩⟩) rfl)
            exact hE _ v41 (by omega) (qa_Inv_of0 ⟨hH.1, hH.2⟩ (hb_up (o := 118) (k := 70) (x := v29) (hb_up (o := 166) (k := f0.toInt.toNat) (x := 0) (hb_up (o := 165) (k := f0.toInt.toNat) (x := s2) (hb_up (o := 164) (k := f0.toInt.toNat) (x := 2) (hb_up (o := 42) (k := 7) (x := v29) (hb_up (o := 45) (k := f0.toInt.toNat) (x := 0) (hb_up (o := 44) (k := f0.toInt.toNat) (x := s2) (hb_up (o := 43) (k := f0.toInt.toNat) (x := 2) hB ⟨(show (0 : Int) ≤ 2 from by decide), (show (2 : Int) ≤ 4 from by decide)⟩) ⟨by show (-1 : Int) ≤ s2.toInt; omega, by show s2.toInt ≤ (29 : Int); omega⟩) ⟨(show (-99999 : Int) ≤ 0 from by decide), (show (0 : Int) ≤ 99999 from by decide)⟩) ⟨by show (0 : Int) ≤ v29.toInt; omega, by show v29.toInt ≤ (60 : Int); omega⟩) ⟨(show (0 : Int) ≤ 2 from by decide), (show (2 : Int) ≤ 4 from by decide)⟩) ⟨by show (-99999 : Int) ≤ s2.toInt; omega, by show s2.toInt ≤ (99999 : Int); omega⟩) ⟨(show (0 : Int) ≤ 0 from by decide), (show (0 : Int) ≤ 5 from by decide)⟩) ⟨by show (0 : Int) ≤ v29.toInt; omega, by show v29.toInt ≤ (60 : Int); omega⟩) ⟨⟨⟨hS2, hX3⟩, hZ3⟩, t⟩ (gS2_ru hS2))
        · refine qm_Ru.go 1 (c' := (10, [.ref 42, .int 2, .int s2, .int 0], [.int (-1)], h)) rfl ?_
          refine qm_Ru.rt (v := (some (.int (-1)))) (h' := h) rfl ?_
          refine qm_Ru.go 0 (c' := (31, [.ref 0, .int s2, .int 0], [.int (-1)], h)) rfl ?_
          refine qm_Ru.rt (v := (some (.int (-1)))) (h' := h) rfl ?_
          refine qm_Ru.go 6 (c' := (1289, [.retAddr 0, .ref 0, .ref 118, .int i], [.int (i + 1), .retAddr 0, .ref 118], h)) rfl ?_
          rw [q_v1]
          refine hk_scr (v := s2) rfl (by omega) (by omega) q_s2 ?_
          refine qm_Ru.go 4 (c' := (1294, [.retAddr 0, .ref 0, .ref 118, .int i], [.int (i + 2), .retAddr 0, .int s2, .ref 118], h)) rfl ?_
          rw [q_v3]
          refine hk_scr (v := s4) rfl (by omega) (by omega) q_s4 ?_
          refine qm_Ru.go 0 (c' := (1295, [.retAddr 0, .ref 0, .ref 118, .int i], [.int s4, .int s2, .ref 118], h)) rfl ?_
          refine hk_zeq (ix := s4.toInt) rfl rfl (fun z44 => ?_) (fun z44 => by exfalso; omega)
          refine qm_Ru.go 1 (c' := (1303, [.retAddr 0, .ref 0, .ref 118, .int i], [.int 0, .int s2, .ref 118], h)) rfl ?_
          refine hk_inv (o := 118) (r := []) (as := [.ref 118, .int s2, .int 0]) rfl rfl (hH.1 118 (17, 105) rfl) rfl rfl rfl rfl ?_
          refine qm_Ru.go 1 (c' := (1, [.ref 118, .int s2, .int 0], [.ref 118], h)) rfl ?_
          refine hk_geti (v := f0) rfl (hH.1 118 (17, 105) rfl) rfl p_f0 ?_
          refine qm_Ru.go 1 (c' := (6, [.ref 118, .int s2, .int 0], [.int 60, .int f0], h)) rfl ?_
          refine hk_ceq (ix := f0.toInt) (iy := 60) rfl rfl rfl (fun z45 => ?_) (fun z45 => by exfalso; omega)
          refine qm_Ru.go 2 (c' := (36, [.ref 118, .int s2, .int 0], [.int (-1)], h)) rfl ?_
          refine qm_Ru.rt (v := (some (.int (-1)))) (h' := h) rfl ?_
          refine qm_Ru.go 3 (c' := (2081, [.retAddr 0, .ref 0, .ref 118, .int (i + 6)], [], h)) rfl ?_
          obtain ⟨v46, q_v46, e_v46⟩ := hk_add (x := i) (y := 6) (a := i.toInt) (b := 6) rfl rfl (by omega) (by omega)
          rw [q_v46]
          refine qm_Ru.go 1 (c' := (18, [.retAddr 0, .ref 0, .ref 118, .int v46], [], h)) rfl ?_
          have hG : gR (h.2.1) := hS.2
          have hS1 : gS (h.1, h.2.1, h.2.2.1, h.2.2.2) := hS.1
          have hS2 : gS2 (h.1, h.2.1, h.2.2.1, h.2.2.2) := ⟨hS1, hG⟩
          have hX3 : gX (h.1, h.2.1, h.2.2.1, h.2.2.2) := hX
          have hZ3 : (gZB tb) (h.1, h.2.1, h.2.2.1, h.2.2.2) := hZ
          exact hE _ v46 (by omega) (qa_Inv_of0 ⟨hH.1, hH.2⟩ hB ⟨⟨⟨hS2, hX3⟩, hZ3⟩, t⟩ (gS2_ru hS2))
  · refine qm_Ru.go 2 (c' := (1280, [.retAddr 0, .ref 0, .ref 118, .int i], [.int 1, .int s2, .ref 0], h)) rfl ?_
    refine hk_inv (o := 0) (r := []) (as := [.ref 0, .int s2, .int 1]) rfl rfl (hH.1 0 (16, 10) rfl) rfl rfl rfl rfl ?_
    refine qm_Ru.go 1 (c' := (1, [.ref 0, .int s2, .int 1], [.ref 0], h)) rfl ?_
    refine hk_getr rfl (hH.1 0 (16, 10) rfl) rfl (hH.2 0 2 (some 6) rfl) ?_
    refine qm_Ru.go 1 (c' := (5, [.ref 0, .int s2, .int 1], [.int s2, .ref 6], h)) rfl ?_
    refine hk_inv (o := 6) (r := []) (as := [.ref 6, .int s2]) rfl rfl (hH.1 6 (6, 9) rfl) rfl rfl rfl rfl ?_
    refine qm_Ru.go 1 (c' := (1, [.ref 6, .int s2], [.int s2], h)) rfl ?_
    refine hk_zlt (ix := s2.toInt) rfl rfl (fun z47 => ?_) (fun z47 => ?_)
    · refine qm_Ru.go 1 (c' := (17, [.ref 6, .int s2], [.int 0], h)) rfl ?_
      refine qm_Ru.rt (v := (some (.int 0))) (h' := h) rfl ?_
      refine qm_Ru.go 2 (c' := (12, [.ref 0, .int s2, .int 1], [.int (-1)], h)) rfl ?_
      refine qm_Ru.rt (v := (some (.int (-1)))) (h' := h) rfl ?_
      refine qm_Ru.go 6 (c' := (1289, [.retAddr 0, .ref 0, .ref 118, .int i], [.int (i + 1), .retAddr 0, .ref 118], h)) rfl ?_
      rw [q_v1]
      refine hk_scr (v := s2) rfl (by omega) (by omega) q_s2 ?_
      refine qm_Ru.go 4 (c' := (1294, [.retAddr 0, .ref 0, .ref 118, .int i], [.int (i + 2), .retAddr 0, .int s2, .ref 118], h)) rfl ?_
      rw [q_v3]
      refine hk_scr (v := s4) rfl (by omega) (by omega) q_s4 ?_
      refine qm_Ru.go 0 (c' := (1295, [.retAddr 0, .ref 0, .ref 118, .int i], [.int s4, .int s2, .ref 118], h)) rfl ?_
      refine hk_zeq (ix := s4.toInt) rfl rfl (fun z50 => by exfalso; omega) (fun z50 => ?_)
      refine qm_Ru.go 2 (c' := (1303, [.retAddr 0, .ref 0, .ref 118, .int i], [.int 1, .int s2, .ref 118], h)) rfl ?_
      refine hk_inv (o := 118) (r := []) (as := [.ref 118, .int s2, .int 1]) rfl rfl (hH.1 118 (17, 105) rfl) rfl rfl rfl rfl ?_
      refine qm_Ru.go 1 (c' := (1, [.ref 118, .int s2, .int 1], [.ref 118], h)) rfl ?_
      refine hk_geti (v := f0) rfl (hH.1 118 (17, 105) rfl) rfl p_f0 ?_
      refine qm_Ru.go 1 (c' := (6, [.ref 118, .int s2, .int 1], [.int 60, .int f0], h)) rfl ?_
      refine hk_ceq (ix := f0.toInt) (iy := 60) rfl rfl rfl (fun z51 => ?_) (fun z51 => ?_)
      · refine qm_Ru.go 2 (c' := (36, [.ref 118, .int s2, .int 1], [.int (-1)], h)) rfl ?_
        refine qm_Ru.rt (v := (some (.int (-1)))) (h' := h) rfl ?_
        refine qm_Ru.go 3 (c' := (2081, [.retAddr 0, .ref 0, .ref 118, .int (i + 6)], [], h)) rfl ?_
        obtain ⟨v52, q_v52, e_v52⟩ := hk_add (x := i) (y := 6) (a := i.toInt) (b := 6) rfl rfl (by omega) (by omega)
        rw [q_v52]
        refine qm_Ru.go 1 (c' := (18, [.retAddr 0, .ref 0, .ref 118, .int v52], [], h)) rfl ?_
        have hG : gR (h.2.1) := hS.2
        have hS1 : gS (h.1, h.2.1, h.2.2.1, h.2.2.2) := hS.1
        have hS2 : gS2 (h.1, h.2.1, h.2.2.1, h.2.2.2) := ⟨hS1, hG⟩
        have hX3 : gX (h.1, h.2.1, h.2.2.1, h.2.2.2) := hX
        have hZ3 : (gZB tb) (h.1, h.2.1, h.2.2.1, h.2.2.2) := hZ
        exact hE _ v52 (by omega) (qa_Inv_of0 ⟨hH.1, hH.2⟩ hB ⟨⟨⟨hS2, hX3⟩, hZ3⟩, t⟩ (gS2_ru hS2))
      · refine qm_Ru.go 2 (c' := (11, [.ref 118, .int s2, .int 1], [.int s2, .ref 118], h)) rfl ?_
        refine hk_inv (o := 118) (r := []) (as := [.ref 118, .int s2]) rfl rfl (hH.1 118 (17, 105) rfl) rfl rfl rfl rfl ?_
        refine qm_Ru.go 3 (c' := (3, [.ref 118, .int s2], [.ref 118, .int 0, .int s2], h)) rfl ?_
        refine hk_geti (v := c0) rfl (hH.1 118 (17, 105) rfl) rfl p_c0 ?_
        refine qm_Ru.go 2 (c' := (8, [.ref 118, .int s2], [.int (c0 - 1), .int 0, .int s2], h)) rfl ?_
        obtain ⟨v53, q_v53, e_v53⟩ := hk_sub (x := c0) (y := 1) (a := c0.toInt) (b := 1) rfl rfl (by omega) (by omega)
        rw [q_v53]
        refine qm_Ru.call (j := 270) (as := [.int s2, .int 0, .int v53]) (c' := (11, [.ref 118, .int s2], [], h)) rfl rfl rfl ?_
        refine qm_Ru.go 2 (c' := (2, [.int s2, .int 0, .int v53], [.int 0, .int s2], h)) rfl ?_
        refine hk_clt (ix := s2.toInt) (iy := 0) rfl rfl rfl (fun z54 => ?_) (fun z54 => by exfalso; omega)
        refine qm_Ru.go 1 (c' := (15, [.int s2, .int 0, .int v53], [.int 0], h)) rfl ?_
        refine qm_Ru.rt (v := (some (.int 0))) (h' := h) rfl ?_
        refine qm_Ru.go 0 (c' := (11, [.ref 118, .int s2], [.int 0], h)) rfl ?_
        refine qm_Ru.rt (v := (some (.int 0))) (h' := h) rfl ?_
        refine qm_Ru.go 3 (c' := (36, [.ref 118, .int s2, .int 1], [.int (-1)], h)) rfl ?_
        refine qm_Ru.rt (v := (some (.int (-1)))) (h' := h) rfl ?_
        refine qm_Ru.go 3 (c' := (2081, [.retAddr 0, .ref 0, .ref 118, .int (i + 6)], [], h)) rfl ?_
        obtain ⟨v55, q_v55, e_v55⟩ := hk_add (x := i) (y := 6) (a := i.toInt) (b := 6) rfl rfl (by omega) (by omega)
        rw [q_v55]
        refine qm_Ru.go 1 (c' := (18, [.retAddr 0, .ref 0, .ref 118, .int v55], [], h)) rfl ?_
        have hG : gR (h.2.1) := hS.2
        have hS1 : gS (h.1, h.2.1, h.2.2.1, h.2.2.2) := hS.1
        have hS2 : gS2 (h.1, h.2.1, h.2.2.1, h.2.2.2) := ⟨hS1, hG⟩
        have hX3 : gX (h.1, h.2.1, h.2.2.1, h.2.2.2) := hX
        have hZ3 : (gZB tb) (h.1, h.2.1, h.2.2.1, h.2.2.2) := hZ
        exact hE _ v55 (by omega) (qa_Inv_of0 ⟨hH.1, hH.2⟩ hB ⟨⟨⟨hS2, hX3⟩, hZ3⟩, t⟩ (gS2_ru hS2))
    · refine qm_Ru.go 2 (c' := (6, [.ref 6, .int s2], [.ref 6, .int s2], h)) rfl ?_
      refine hk_geti (v := c0) rfl (hH.1 6 (6, 9) rfl) rfl q_c0 ?_
      refine qm_Ru.go 0 (c' := (9, [.ref 6, .int s2], [.int c0, .int s2], h)) rfl ?_
      refine hk_cge (ix := s2.toInt) (iy := c0.toInt) rfl rfl rfl (fun z56 => ?_) (fun z56 => ?_)
      · refine qm_Ru.go 1 (c' := (17, [.ref 6, .int s2], [.int 0], h)) rfl ?_
        refine qm_Ru.rt (v := (some (.int 0))) (h' := h) rfl ?_
        refine qm_Ru.go 2 (c' := (12, [.ref 0, .int s2, .int 1], [.int (-1)], h)) rfl ?_
        refine qm_Ru.rt (v := (some (.int (-1)))) (h' := h) rfl ?_
        refine qm_Ru.go 6 (c' := (1289, [.retAddr 0, .ref 0, .ref 118, .int i], [.int (i + 1), .retAddr 0, .ref 118], h)) rfl ?_
        rw [q_v1]
        refine hk_scr (v := s2) rfl (by omega) (by omega) q_s2 ?_
        refine qm_Ru.go 4 (c' := (1294, [.retAddr 0, .ref 0, .ref 118, .int i], [.int (i + 2), .retAddr 0, .int s2, .ref 118], h)) rfl ?_
        rw [q_v3]
        refine hk_scr (v := s4) rfl (by omega) (by omega) q_s4 ?_
        refine qm_Ru.go 0 (c' := (1295, [.retAddr 0, .ref 0, .ref 118, .int i], [.int s4, .int s2, .ref 118], h)) rfl ?_
        refine hk_zeq (ix := s4.toInt) rfl rfl (fun z59 => by exfalso; omega) (fun z59 => ?_)
        refine qm_Ru.go 2 (c' := (1303, [.retAddr 0, .ref 0, .ref 118, .int i], [.int 1, .int s2, .ref 118], h)) rfl ?_
        refine hk_inv (o := 118) (r := []) (as := [.ref 118, .int s2, .int 1]) rfl rfl (hH.1 118 (17, 105) rfl) rfl rfl rfl rfl ?_
        refine qm_Ru.go 1 (c' := (1, [.ref 118, .int s2, .int 1], [.ref 118], h)) rfl ?_
        refine hk_geti (v := f0) rfl (hH.1 118 (17, 105) rfl) rfl p_f0 ?_
        refine qm_Ru.go 1 (c' := (6, [.ref 118, .int s2, .int 1], [.int 60, .int f0], h)) rfl ?_
        refine hk_ceq (ix := f0.toInt) (iy := 60) rfl rfl rfl (fun z60 => ?_) (fun z60 => ?_)
        · refine qm_Ru.go 2 (c' := (36, [.ref 118, .int s2, .int 1], [.int (-1)], h)) rfl ?_
          refine qm_Ru.rt (v := (some (.int (-1)))) (h' := h) rfl ?_
          refine qm_Ru.go 3 (c' := (2081, [.retAddr 0, .ref 0, .ref 118, .int (i + 6)], [], h)) rfl ?_
          obtain ⟨v61, q_v61, e_v61⟩ := hk_add (x := i) (y := 6) (a := i.toInt) (b := 6) rfl rfl (by omega) (by omega)
          rw [q_v61]
          refine qm_Ru.go 1 (c' := (18, [.retAddr 0, .ref 0, .ref 118, .int v61], [], h)) rfl ?_
          have hG : gR (h.2.1) := hS.2
          have hS1 : gS (h.1, h.2.1, h.2.2.1, h.2.2.2) := hS.1
          have hS2 : gS2 (h.1, h.2.1, h.2.2.1, h.2.2.2) := ⟨hS1, hG⟩
          have hX3 : gX (h.1, h.2.1, h.2.2.1, h.2.2.2) := hX
          have hZ3 : (gZB tb) (h.1, h.2.1, h.2.2.1, h.2.2.2) := hZ
          exact hE _ v61 (by omega) (qa_Inv_of0 ⟨hH.1, hH.2⟩ hB ⟨⟨⟨hS2, hX3⟩, hZ3⟩, t⟩ (gS2_ru hS2))
        · refine qm_Ru.go 2 (c' := (11, [.ref 118, .int s2, .int 1], [.int s2, .ref 118], h)) rfl ?_
          refine hk_inv (o := 118) (r := []) (as := [.ref 118, .int s2]) rfl rfl (hH.1 118 (17, 105) rfl) rfl rfl rfl rfl ?_
          refine qm_Ru.go 3 (c' := (3, [.ref 118, .int s2], [.ref 118, .int 0, .int s2], h)) rfl ?_
          refine hk_geti (v := c0) rfl (hH.1 118 (17, 105) rfl) rfl p_c0 ?_
          refine qm_Ru.go 2 (c' := (8, [.ref 118, .int s2], [.int (c0 - 1), .int 0, .int s2], h)) rfl ?_
          obtain ⟨v62, q_v62, e_v62⟩ := hk_sub (x := c0) (y := 1) (a := c0.toInt) (b := 1) rfl rfl (by omega) (by omega)
          rw [q_v62]
          refine qm_Ru.call (j := 270) (as := [.int s2, .int 0, .int v62]) (c' := (11, [.ref 118, .int s2], [], h)) rfl rfl rfl ?_
          refine qm_Ru.go 2 (c' := (2, [.int s2, .int 0, .int v62], [.int 0, .int s2], h)) rfl ?_
          refine hk_clt (ix := s2.toInt) (iy := 0) rfl rfl rfl (fun z63 => by exfalso; omega) (fun z63 => ?_)
          refine qm_Ru.go 2 (c' := (7, [.int s2, .int 0, .int v62], [.int v62, .int s2], h)) rfl ?_
          refine hk_cgt (ix := s2.toInt) (iy := v62.toInt) rfl rfl rfl (fun z64 => ?_) (fun z64 => ?_)
          · refine qm_Ru.go 1 (c' := (15, [.int s2, .int 0, .int v62], [.int 0], h)) rfl ?_
            refine qm_Ru.rt (v := (some (.int 0))) (h' := h) rfl ?_
            refine qm_Ru.go 0 (c' := (11, [.ref 118, .int s2], [.int 0], h)) rfl ?_
            refine qm_Ru.rt (v := (some (.int 0))) (h' := h) rfl ?_
            refine qm_Ru.go 3 (c' := (36, [.ref 118, .int s2, .int 1], [.int (-1)], h)) rfl ?_
            refine qm_Ru.rt (v := (some (.int (-1)))) (h' := h) rfl ?_
            refine qm_Ru.go 3 (c' := (2081, [.retAddr 0, .ref 0, .ref 118, .int (i + 6)], [], h)) rfl ?_
            obtain ⟨v65, q_v65, e_v65⟩ := hk_add (x := i) (y := 6) (a := i.toInt) (b := 6) rfl rfl (by omega) (by omega)
            rw [q_v65]
            refine qm_Ru.go 1 (c' := (18, [.retAddr 0, .ref 0, .ref 118, .int v65], [], h)) rfl ?_
            have hG : gR (h.2.1) := hS.2
            have hS1 : gS (h.1, h.2.1, h.2.2.1, h.2.2.2) := hS.1
            have hS2 : gS2 (h.1, h.2.1, h.2.2.1, h.2.2.2) := ⟨hS1, hG⟩
            have hX3 : gX (h.1, h.2.1, h.2.2.1, h.2.2.2) := hX
            have hZ3 : (gZB tb) (h.1, h.2.1, h.2.2.1, h.2.2.2) := hZ
            exact hE _ v65 (by omega) (qa_Inv_of0 ⟨hH.1, hH.2⟩ hB ⟨⟨⟨hS2, hX3⟩, hZ3⟩, t⟩ (gS2_ru hS2))
          · refine qm_Ru.go 2 (c' := (15, [.int s2, .int 0, .int v62], [.int 1], h)) rfl ?_
            refine qm_Ru.rt (v := (some (.int 1))) (h' := h) rfl ?_
            refine qm_Ru.go 0 (c' := (11, [.ref 118, .int s2], [.int 1], h)) rfl ?_
            refine qm_Ru.rt (v := (some (.int 1))) (h' := h) rfl ?_
            refine qm_Ru.go 8 (c' := (33, [.ref 118, .int s2, .int 1], [.int 0, .int s2, .int 1, .ref 118], h)) rfl ?_
            refine hk_inv (o := 118) (r := []) (as := [.ref 118, .int 1, .int s2, .int 0]) rfl rfl (hH.1 118 (17, 105) rfl) rfl rfl rfl rfl ?_
            refine qm_Ru.go 1 (c' := (1, [.ref 118, .int 1, .int s2, .int 0], [.ref 118], h)) rfl ?_
            refine hk_getr rfl (hH.1 118 (17, 105) rfl) rfl (hH.2 118 71 (some 164) rfl) ?_
            refine qm_Ru.go 1 (c' := (5, [.ref 118, .int 1, .int s2, .int 0], [.ref 118, .ref 164], h)) rfl ?_
            refine hk_geti (v := f0) rfl (hH.1 118 (17, 105) rfl) rfl p_f0 ?_
            refine qm_Ru.go 1 (c' := (9, [.ref 118, .int 1, .int s2, .int 0], [.int 1, .int f0, .ref 164], h)) rfl ?_
            refine hk_ias rfl (hH.1 164 (0, 60) rfl) (by omega) (by omega) ?_
            refine qm_Ru.go 1 (c' := (11, [.ref 118, .int 1, .int s2, .int 0], [.ref 118], (h.1, qm_up h.2.1 164 (f0.toInt.toNat) 1, h.2.2.1, h.2.2.2))) rfl ?_
            refine hk_getr rfl (hH.1 118 (17, 105) rfl) rfl (hH.2 118 72 (some 165) rfl) ?_
            refine qm_Ru.go 1 (c' := (15, [.ref 118, .int 1, .int s2, .int 0], [.ref 118, .ref 165], (h.1, qm_up h.2.1 164 (f0.toInt.toNat) 1, h.2.2.1, h.2.2.2))) rfl ?_
            refine hk_geti (v := f0) rfl (hH.1 118 (17, 105) rfl) rfl (show (qm_up h.2.1 164 (f0.toInt.toNat) 1) 118 70 = _ from ((hk_ot rfl).trans p_f0)) ?_
            refine qm_Ru.go 1 (c' := (19, [.ref 118, .int 1, .int s2, .int 0], [.int s2, .int f0, .ref 165], (h.1, qm_up h.2.1 164 (f0.toInt.toNat) 1, h.2.2.1, h.2.2.2))) rfl ?_
            refine hk_ias rfl (hH.1 165 (0, 60) rfl) (by omega) (by omega) ?_
            refine qm_Ru.go 1 (c' := (21, [.ref 118, .int 1, .int s2, .int 0], [.ref 118], (h.1, qm_up (qm_up h.2.1 164 (f0.toInt.toNat) 1) 165 (f0.toInt.toNat) s2, h.2.2.1, h.2.2.2))) rfl ?_
            refine hk_getr rfl (hH.1 118 (17, 105) rfl) rfl (hH.2 118 73 (some 166) rfl) ?_
            refine qm_Ru.go 1 (c' := (25, [.ref 118, .int 1, .int s2, .int 0], [.ref 118, .ref 166], (h.1, qm_up (qm_up h.2.1 164 (f0.toInt.toNat) 1) 165 (f0.toInt.toNat) s2, h.2.2.1, h.2.2.2))) rfl ?_
            refine hk_geti (v := f0) rfl (hH.1 118 (17, 105) rfl) rfl (show (qm_up (qm_up h.2.1 164 (f0.toInt.toNat) 1) 165 (f0.toInt.toNat) s2) 118 70 = _ from ((hk_ot rfl).trans ((hk_ot rfl).trans p_f0))) ?_
            refine qm_Ru.go 1 (c' := (29, [.ref 118, .int 1, .int s2, .int 0], [.int 0, .int f0, .ref 166], (h.1, qm_up (qm_up h.2.1 164 (f0.toInt.toNat) 1) 165 (f0.toInt.toNat) s2, h.2.2.1, h.2.2.2))) rfl ?_
            refine hk_ias rfl (hH.1 166 (0, 60) rfl) (by omega) (by omega) ?_
            refine qm_Ru.go 2 (c' := (32, [.ref 118, .int 1, .int s2, .int 0], [.ref 118, .ref 118], (h.1, qm_up (qm_up (qm_up h.2.1 164 (f0.toInt.toNat) 1) 165 (f0.toInt.toNat) s2) 166 (f0.toInt.toNat) 0, h.2.2.1, h.2.2.2))) rfl ?_
            refine hk_geti (v := f0) rfl (hH.1 118 (17, 105) rfl) rfl (show (qm_up (qm_up (qm_up h.2.1 164 (f0.toInt.toNat) 1) 165 (f0.toInt.toNat) s2) 166 (f0.toInt.toNat) 0) 118 70 = _ from ((hk_ot rfl).trans ((hk_ot rfl).trans ((hk_ot rfl).trans p_f0)))) ?_
            refine qm_Ru.go 2 (c' := (37, [.ref 118, .int 1, .int s2, .int 0], [.int (f0 + 1), .ref 118], (h.1, qm_up (qm_up (qm_up h.2.1 164 (f0.toInt.toNat) 1) 165 (f0.toInt.toNat) s2) 166 (f0.toInt.toNat) 0, h.2.2.1, h.2.2.2))) rfl ?_
            obtain ⟨v66, q_v66, e_v66⟩ := hk_add (x := f0) (y := 1) (a := f0.toInt) (b := 1) rfl rfl (by omega) (by omega)
            rw [q_v66]
            refine hk_puti rfl (hH.1 118 (17, 105) rfl) rfl ?_
            refine qm_Ru.go 1 (c' := (41, [.ref 118, .int 1, .int s2, .int 0], [.ref 118], (h.1, qm_up (qm_up (qm_up (qm_up h.2.1 164 (f0.toInt.toNat) 1) 165 (f0.toInt.toNat) s2) 166 (f0.toInt.toNat) 0) 118 70 v66, h.2.2.1, h.2.2.2))) rfl ?_
            refine hk_geti (v := v66) rfl (hH.1 118 (17, 105) rfl) rfl (show (qm_up (qm_up (qm_up (qm_up h.2.1 164 (f0.toInt.toNat) 1) 165 (f0.toInt.toNat) s2) 166 (f0.toInt.toNat) 0) 118 70 v66) 118 70 = _ from (hk_same)) ?_
            refine qm_Ru.go 2 (c' := (46, [.ref 118, .int 1, .int s2, .int 0], [.int (v66 - 1)], (h.1, qm_up (qm_up (qm_up (qm_up h.2.1 164 (f0.toInt.toNat) 1) 165 (f0.toInt.toNat) s2) 166 (f0.toInt.toNat) 0) 118 70 v66, h.2.2.1, h.2.2.2))) rfl ?_
            obtain ⟨v67, q_v67, e_v67⟩ := hk_sub (x := v66) (y := 1) (a := v66.toInt) (b := 1) rfl rfl (by omega) (by omega)
            rw [q_v67]
            refine qm_Ru.rt (v := (some (.int v67))) (h' := (h.1, qm_up (qm_up (qm_up (qm_up h.2.1 164 (f0.toInt.toNat) 1) 165 (f0.toInt.toNat) s2) 166 (f0.toInt.toNat) 0) 118 70 v66, h.2.2.1, h.2.2.2)) rfl ?_
            refine qm_Ru.go 0 (c' := (36, [.ref 118, .int s2, .int 1], [.int v67], (h.1, qm_up (qm_up (qm_up (qm_up h.2.1 164 (f0.toInt.toNat) 1) 165 (f0.toInt.toNat) s2) 166 (f0.toInt.toNat) 0) 118 70 v66, h.2.2.1, h.2.2.2))) rfl ?_
            refine qm_Ru.rt (v := (some (.int v67))) (h' := (h.1, qm_up (qm_up (qm_up (qm_up h.2.1 164 (f0.toInt.toNat) 1) 165 (f0.toInt.toNat) s2) 166 (f0.toInt.toNat) 0) 118 70 v66, h.2.2.1, h.2.2.2)) rfl ?_
            refine qm_Ru.go 3 (c' := (2081, [.retAddr 0, .ref 0, .ref 118, .int (i + 6)], [], (h.1, qm_up (qm_up (qm_up (qm_up h.2.1 164 (f0.toInt.toNat) 1) 165 (f0.toInt.toNat) s2) 166 (f0.toInt.toNat) 0) 118 70 v66, h.2.2.1, h.2.2.2))) rfl ?_
            obtain ⟨v68, q_v68, e_v68⟩ := hk_add (x := i) (y := 6) (a := i.toInt) (b := 6) rfl rfl (by omega) (by omega)
            rw [q_v68]
            refine qm_Ru.go 1 (c' := (18, [.retAddr 0, .ref 0, .ref 118, .int v68], [], (h.1, qm_up (qm_up (qm_up (qm_up h.2.1 164 (f0.toInt.toNat) 1) 165 (f0.toInt.toNat) s2) 166 (f0.toInt.toNat) 0) 118 70 v66, h.2.2.1, h.2.2.2))) rfl ?_
            exfalso
            omega
      · refine qm_Ru.go 2 (c' := (17, [.ref 6, .int s2], [.int 1], h)) rfl ?_
        refine qm_Ru.rt (v := (some (.int 1))) (h' := h) rfl ?_
        refine qm_Ru.go 2 (c' := (14, [.ref 0, .int s2, .int 1], [.ref 0], h)) rfl ?_
        refine hk_getr rfl (hH.1 0 (16, 10) rfl) rfl (hH.2 0 6 (some 42) rfl) ?_
        refine qm_Ru.go 6 (c' := (28, [.ref 0, .int s2, .int 1], [.int 0, .int s2, .int 1, .ref 42], h)) rfl ?_
        refine hk_inv (o := 42) (r := []) (as := [.ref 42, .int 1, .int s2, .int 0]) rfl rfl (hH.1 42 (7, 11) rfl) rfl rfl rfl rfl ?_
        refine qm_Ru.go 1 (c' := (1, [.ref 42, .int 1, .int s2, .int 0], [.ref 42], h)) rfl ?_
        refine hk_geti (v := f0) rfl (hH.1 42 (7, 11) rfl) rfl q_f0 ?_
        refine qm_Ru.go 1 (c' := (6, [.ref 42, .int 1, .int s2, .int 0], [.int 60, .int f0], h)) rfl ?_
        refine hk_clt (ix := f0.toInt) (iy := 60) rfl rfl rfl (fun z69 => ?_) (fun z69 => ?_)
        · refine qm_Ru.go 1 (c' := (12, [.ref 42, .int 1, .int s2, .int 0], [.ref 42], h)) rfl ?_
          refine hk_getr rfl (hH.1 42 (7, 11) rfl) rfl (hH.2 42 1 (some 43) rfl) ?_
          refine qm_Ru.go 1 (c' := (16, [.ref 42, .int 1, .int s2, .int 0], [.ref 42, .ref 43], h)) rfl ?_
          refine hk_geti (v := f0) rfl (hH.1 42 (7, 11) rfl) rfl q_f0 ?_
          refine qm_Ru.go 1 (c' := (20, [.ref 42, .int 1, .int s2, .int 0], [.int 1, .int f0, .ref 43], h)) rfl ?_
          refine hk_ias rfl (hH.1 43 (0, 60) rfl) (by omega) (by omega) ?_
          refine qm_Ru.go 1 (c' := (22, [.ref 42, .int 1, .int s2, .int 0], [.ref 42], (h.1, qm_up h.2.1 43 (f0.toInt.toNat) 1, h.2.2.1, h.2.2.2))) rfl ?_
          refine hk_getr rfl (hH.1 42 (7, 11) rfl) rfl (hH.2 42 2 (some 44) rfl) ?_
          refine qm_Ru.go 1 (c' := (26, [.ref 42, .int 1, .int s2, .int 0], [.ref 42, .ref 44], (h.1, qm_up h.2.1 43 (f0.toInt.toNat) 1, h.2.2.1, h.2.2.2))) rfl ?_
          refine hk_geti (v := f0) rfl (hH.1 42 (7, 11) rfl) rfl (show (qm_up h.2.1 43 (f0.toInt.toNat) 1) 42 7 = _ from ((hk_ot rfl).trans q_f0)) ?_
          refine qm_Ru.go 1 (c' := (30, [.ref 42, .int 1, .int s2, .int 0], [.int s2, .int f0, .ref 44], (h.1, qm_up h.2.1 43 (f0.toInt.toNat) 1, h.2.2.1, h.2.2.2))) rfl ?_
          refine hk_ias rfl (hH.1 44 (0, 60) rfl) (by omega) (by omega) ?_
          refine qm_Ru.go 1 (c' := (32, [.ref 42, .int 1, .int s2, .int 0], [.ref 42], (h.1, qm_up (qm_up h.2.1 43 (f0.toInt.toNat) 1) 44 (f0.toInt.toNat) s2, h.2.2.1, h.2.2.2))) rfl ?_
          refine hk_getr rfl (hH.1 42 (7, 11) rfl) rfl (hH.2 42 3 (some 45) rfl) ?_
          refine qm_Ru.go 1 (c' := (36, [.ref 42, .int 1, .int s2, .int 0], [.ref 42, .ref 45], (h.1, qm_up (qm_up h.2.1 43 (f0.toInt.toNat) 1) 44 (f0.toInt.toNat) s2, h.2.2.1, h.2.2.2))) rfl ?_
          refine hk_geti (v := f0) rfl (hH.1 42 (7, 11) rfl) rfl (show (qm_up (qm_up h.2.1 43 (f0.toInt.toNat) 1) 44 (f0.toInt.toNat) s2) 42 7 = _ from ((hk_ot rfl).trans ((hk_ot rfl).trans q_f0))) ?_
          refine qm_Ru.go 1 (c' := (40, [.ref 42, .int 1, .int s2, .int 0], [.int 0, .int f0, .ref 45], (h.1, qm_up (qm_up h.2.1 43 (f0.toInt.toNat) 1) 44 (f0.toInt.toNat) s2, h.2.2.1, h.2.2.2))) rfl ?_
          refine hk_ias rfl (hH.1 45 (0, 60) rfl) (by omega) (by omega) ?_
          refine qm_Ru.go 5 (c' := (56, [.ref 42, .int 1, .int s2, .int 0], [.ref 42, .ref 42], (h.1, qm_up (qm_up (qm_up h.2.1 43 (f0.toInt.toNat) 1) 44 (f0.toInt.toNat) s2) 45 (f0.toInt.toNat) 0, h.2.2.1, h.2.2.2))) rfl ?_
          refine hk_geti (v := f0) rfl (hH.1 42 (7, 11) rfl) rfl (show (qm_up (qm_up (qm_up h.2.1 43 (f0.toInt.toNat) 1) 44 (f0.toInt.toNat) s2) 45 (f0.toInt.toNat) 0) 42 7 = _ from ((hk_ot rfl).trans ((hk_ot rfl).trans ((hk_ot rfl).trans q_f0)))) ?_
          refine qm_Ru.go 2 (c' := (61, [.ref 42, .int 1, .int s2, .int 0], [.int (f0 + 1), .ref 42], (h.1, qm_up (qm_up (qm_up h.2.1 43 (f0.toInt.toNat) 1) 44 (f0.toInt.toNat) s2) 45 (f0.toInt.toNat) 0, h.2.2.1, h.2.2.2))) rfl ?_
          obtain ⟨v70, q_v70, e_v70⟩ := hk_add (x := f0) (y := 1) (a := f0.toInt) (b := 1) rfl rfl (by omega) (by omega)
          rw [q_v70]
          refine hk_puti rfl (hH.1 42 (7, 11) rfl) rfl ?_
          refine qm_Ru.go 1 (c' := (65, [.ref 42, .int 1, .int s2, .int 0], [.ref 42], (h.1, qm_up (qm_up (qm_up (qm_up h.2.1 43 (f0.toInt.toNat) 1) 44 (f0.toInt.toNat) s2) 45 (f0.toInt.toNat) 0) 42 7 v70, h.2.2.1, h.2.2.2))) rfl ?_
          refine hk_geti (v := v70) rfl (hH.1 42 (7, 11) rfl) rfl (show (qm_up (qm_up (qm_up (qm_up h.2.1 43 (f0.toInt.toNat) 1) 44 (f0.toInt.toNat) s2) 45 (f0.toInt.toNat) 0) 42 7 v70) 42 7 = _ from (hk_same)) ?_
          refine qm_Ru.go 2 (c' := (70, [.ref 42, .int 1, .int s2, .int 0], [.int (v70 - 1)], (h.1, qm_up (qm_up (qm_up (qm_up h.2.1 43 (f0.toInt.toNat) 1) 44 (f0.toInt.toNat) s2) 45 (f0.toInt.toNat) 0) 42 7 v70, h.2.2.1, h.2.2.2))) rfl ?_
          obtain ⟨v71, q_v71, e_v71⟩ := hk_sub (x := v70) (y := 1) (a := v70.toInt) (b := 1) rfl rfl (by omega) (by omega)
          rw [q_v71]
          refine qm_Ru.rt (v := (some (.int v71))) (h' := (h.1, qm_up (qm_up (qm_up (qm_up h.2.1 43 (f0.toInt.toNat) 1) 44 (f0.toInt.toNat) s2) 45 (f0.toInt.toNat) 0) 42 7 v70, h.2.2.1, h.2.2.2)) rfl ?_
          refine qm_Ru.go 0 (c' := (31, [.ref 0, .int s2, .int 1], [.int v71], (h.1, qm_up (qm_up (qm_up (qm_up h.2.1 43 (f0.toInt.toNat) 1) 44 (f0.toInt.toNat) s2) 45 (f0.toInt.toNat) 0) 42 7 v70, h.2.2.1, h.2.2.2))) rfl ?_
          refine qm_Ru.rt (v := (some (.int v71))) (h' := (h.1, qm_up (qm_up (qm_up (qm_up h.2.1 43 (f0.toInt.toNat) 1) 44 (f0.toInt.toNat) s2) 45 (f0.toInt.toNat) 0) 42 7 v70, h.2.2.1, h.2.2.2)) rfl ?_
          refine qm_Ru.go 6 (c' := (1289, [.retAddr 0, .ref 0, .ref 118, .int i], [.int (i + 1), .retAddr 0, .ref 118], (h.1, qm_up (qm_up (qm_up (qm_up h.2.1 43 (f0.toInt.toNat) 1) 44 (f0.toInt.toNat) s2) 45 (f0.toInt.toNat) 0) 42 7 v70, h.2.2.1, h.2.2.2))) rfl ?_
          rw [q_v1]
          refine hk_scr (v := s2) rfl (by omega) (by omega) q_s2 ?_
          refine qm_Ru.go 4 (c' := (1294, [.retAddr 0, .ref 0, .ref 118, .int i], [.int (i + 2), .retAddr 0, .int s2, .ref 118], (h.1, qm_up (qm_up (qm_up (qm_up h.2.1 43 (f0.toInt.toNat) 1) 44 (f0.toInt.toNat) s2) 45 (f0.toInt.toNat) 0) 42 7 v70, h.2.2.1, h.2.2.2))) rfl ?_
          rw [q_v3]
          refine hk_scr (v := s4) rfl (by omega) (by omega) q_s4 ?_
          refine qm_Ru.go 0 (c' := (1295, [.retAddr 0, .ref 0, .ref 118, .int i], [.int s4, .int s2, .ref 118], (h.1, qm_up (qm_up (qm_up (qm_up h.2.1 43 (f0.toInt.toNat) 1) 44 (f0.toInt.toNat) s2) 45 (f0.toInt.toNat) 0) 42 7 v70, h.2.2.1, h.2.2.2))) rfl ?_
          refine hk_zeq (ix := s4.toInt) rfl rfl (fun z74 => by exfalso; omega) (fun z74 => ?_)
          refine qm_Ru.go 2 (c' := (1303, [.retAddr 0, .ref 0, .ref 118, .int i], [.int 1, .int s2, .ref 118], (h.1, qm_up (qm_up (qm_up (qm_up h.2.1 43 (f0.toInt.toNat) 1) 44 (f0.toInt.toNat) s2) 45 (f0.toInt.toNat) 0) 42 7 v70, h.2.2.1, h.2.2.2))) rfl ?_
          refine hk_inv (o := 118) (r := []) (as := [.ref 118, .int s2, .int 1]) rfl rfl (hH.1 118 (17, 105) rfl) rfl rfl rfl rfl ?_
          refine qm_Ru.go 1 (c' := (1, [.ref 118, .int s2, .int 1], [.ref 118], (h.1, qm_up (qm_up (qm_up (qm_up h.2.1 43 (f0.toInt.toNat) 1) 44 (f0.toInt.toNat) s2) 45 (f0.toInt.toNat) 0) 42 7 v70, h.2.2.1, h.2.2.2))) rfl ?_
          refine hk_geti (v := f0) rfl (hH.1 118 (17, 105) rfl) rfl (show (qm_up (qm_up (qm_up (qm_up h.2.1 43 (f0.toInt.toNat) 1) 44 (f0.toInt.toNat) s2) 45 (f0.toInt.toNat) 0) 42 7 v70) 118 70 = _ from ((hk_ot rfl).trans ((hk_ot rfl).trans ((hk_ot rfl).trans ((hk_ot rfl).trans p_f0))))) ?_
          refine qm_Ru.go 1 (c' := (6, [.ref 118, .int s2, .int 1], [.int 60, .int f0], (h.1, qm_up (qm_up (qm_up (qm_up h.2.1 43 (f0.toInt.toNat) 1) 44 (f0.toInt.toNat) s2) 45 (f0.toInt.toNat) 0) 42 7 v70, h.2.2.1, h.2.2.2))) rfl ?_
          refine hk_ceq (ix := f0.toInt) (iy := 60) rfl rfl rfl (fun z75 => by exfalso; omega) (fun z75 => ?_)
          refine qm_Ru.go 2 (c' := (11, [.ref 118, .int s2, .int 1], [.int s2, .ref 118], (h.1, qm_up (qm_up (qm_up (qm_up h.2.1 43 (f0.toInt.toNat) 1) 44 (f0.toInt.toNat) s2) 45 (f0.toInt.toNat) 0) 42 7 v70, h.2.2.1, h.2.2.2))) rfl ?_
          refine hk_inv (o := 118) (r := []) (as := [.ref 118, .int s2]) rfl rfl (hH.1 118 (17, 105) rfl) rfl rfl rfl rfl ?_
          refine qm_Ru.go 3 (c' := (3, [.ref 118, .int s2], [.ref 118, .int 0, .int s2], (h.1, qm_up (qm_up (qm_up (qm_up h.2.1 43 (f0.toInt.toNat) 1) 44 (f0.toInt.toNat) s2) 45 (f0.toInt.toNat) 0) 42 7 v70, h.2.2.1, h.2.2.2))) rfl ?_
          refine hk_geti (v := c0) rfl (hH.1 118 (17, 105) rfl) rfl (show (qm_up (qm_up (qm_up (qm_up h.2.1 43 (f0.toInt.toNat) 1) 44 (f0.toInt.toNat) s2) 45 (f0.toInt.toNat) 0) 42 7 v70) 118 44 = _ from ((hk_ot rfl).trans ((hk_ot rfl).trans ((hk_ot rfl).trans ((hk_ot rfl).trans p_c0))))) ?_
          refine qm_Ru.go 2 (c' := (8, [.ref 118, .int s2], [.int (c0 - 1), .int 0, .int s2], (h.1, qm_up (qm_up (qm_up (qm_up h.2.1 43 (f0.toInt.toNat) 1) 44 (f0.toInt.toNat) s2) 45 (f0.toInt.toNat) 0) 42 7 v70, h.2.2.1, h.2.2.2))) rfl ?_
          obtain ⟨v76, q_v76, e_v76⟩ := hk_sub (x := c0) (y := 1) (a := c0.toInt) (b := 1) rfl rfl (by omega) (by omega)
          rw [q_v76]
          refine qm_Ru.call (j := 270) (as := [.int s2, .int 0, .int v76]) (c' := (11, [.ref 118, .int s2], [], (h.1, qm_up (qm_up (qm_up (qm_up h.2.1 43 (f0.toInt.toNat) 1) 44 (f0.toInt.toNat) s2) 45 (f0.toInt.toNat) 0) 42 7 v70, h.2.2.1, h.2.2.2))) rfl rfl rfl ?_
          refine qm_Ru.go 2 (c' := (2, [.int s2, .int 0, .int v76], [.int 0, .int s2], (h.1, qm_up (qm_up (qm_up (qm_up h.2.1 43 (f0.toInt.toNat) 1) 44 (f0.toInt.toNat) s2) 45 (f0.toInt.toNat) 0) 42 7 v70, h.2.2.1, h.2.2.2))) rfl ?_
          refine hk_clt (ix := s2.toInt) (iy := 0) rfl rfl rfl (fun z77 => by exfalso; omega) (fun z77 => ?_)
          refine qm_Ru.go 2 (c' := (7, [.int s2, .int 0, .int v76], [.int v76, .int s2], (h.1, qm_up (qm_up (qm_up (qm_up h.2.1 43 (f0.toInt.toNat) 1) 44 (f0.toInt.toNat) s2) 45 (f0.toInt.toNat) 0) 42 7 v70, h.2.2.1, h.2.2.2))) rfl ?_
          refine hk_cgt (ix := s2.toInt) (iy := v76.toInt) rfl rfl rfl (fun z78 => ?_) (fun z78 => ?_)
          · refine qm_Ru.go 1 (c' := (15, [.int s2, .int 0, .int v76], [.int 0], (h.1, qm_up (qm_up (qm_up (qm_up h.2.1 43 (f0.toInt.toNat) 1) 44 (f0.toInt.toNat) s2) 45 (f0.toInt.toNat) 0) 42 7 v70, h.2.2.1, h.2.2.2))) rfl ?_
            refine qm_Ru.rt (v := (some (.int 0))) (h' := (h.1, qm_up (qm_up (qm_up (qm_up h.2.1 43 (f0.toInt.toNat) 1) 44 (f0.toInt.toNat) s2) 45 (f0.toInt.toNat) 0) 42 7 v70, h.2.2.1, h.2.2.2)) rfl ?_
            refine qm_Ru.go 0 (c' := (11, [.ref 118, .int s2], [.int 0], (h.1, qm_up (qm_up (qm_up (qm_up h.2.1 43 (f0.toInt.toNat) 1) 44 (f0.toInt.toNat) s2) 45 (f0.toInt.toNat) 0) 42 7 v70, h.2.2.1, h.2.2.2))) rfl ?_
            refine qm_Ru.rt (v := (some (.int 0))) (h' := (h.1, qm_up (qm_up (qm_up (qm_up h.2.1 43 (f0.toInt.toNat) 1) 44 (f0.toInt.toNat) s2) 45 (f0.toInt.toNat) 0) 42 7 v70, h.2.2.1, h.2.2.2)) rfl ?_
            refine qm_Ru.go 3 (c' := (36, [.ref 118, .int s2, .int 1], [.int (-1)], (h.1, qm_up (qm_up (qm_up (qm_up h.2.1 43 (f0.toInt.toNat) 1) 44 (f0.toInt.toNat) s2) 45 (f0.toInt.toNat) 0) 42 7 v70, h.2.2.1, h.2.2.2))) rfl ?_
            refine qm_Ru.rt (v := (some (.int (-1)))) (h' := (h.1, qm_up (qm_up (qm_up (qm_up h.2.1 43 (f0.toInt.toNat) 1) 44 (f0.toInt.toNat) s2) 45 (f0.toInt.toNat) 0) 42 7 v70, h.2.2.1, h.2.2.2)) rfl ?_
            refine qm_Ru.go 3 (c' := (2081, [.retAddr 0, .ref 0, .ref 118, .int (i + 6)], [], (h.1, qm_up (qm_up (qm_up (qm_up h.2.1 43 (f0.toInt.toNat) 1) 44 (f0.toInt.toNat) s2) 45 (f0.toInt.toNat) 0) 42 7 v70, h.2.2.1, h.2.2.2))) rfl ?_
            obtain ⟨v79, q_v79, e_v79⟩ := hk_add (x := i) (y := 6) (a := i.toInt) (b := 6) rfl rfl (by omega) (by omega)
            rw [q_v79]
            refine qm_Ru.go 1 (c' := (18, [.retAddr 0, .ref 0, .ref 118, .int v79], [], (h.1, qm_up (qm_up (qm_up (qm_up h.2.1 43 (f0.toInt.toNat) 1) 44 (f0.toInt.toNat) s2) 45 (f0.toInt.toNat) 0) 42 7 v70, h.2.2.1, h.2.2.2))) rfl ?_
            exfalso
            omega
          · refine qm_Ru.go 2 (c' := (15, [.int s2, .int 0, .int v76], [.int 1], (h.1, qm_up (qm_up (qm_up (qm_up h.2.1 43 (f0.toInt.toNat) 1) 44 (f0.toInt.toNat) s2) 45 (f0.toInt.toNat) 0) 42 7 v70, h.2.2.1, h.2.2.2))) rfl ?_
            refine qm_Ru.rt (v := (some (.int 1))) (h' := (h.1, qm_up (qm_up (qm_up (qm_up h.2.1 43 (f0.toInt.toNat) 1) 44 (f0.toInt.toNat) s2) 45 (f0.toInt.toNat) 0) 42 7 v70, h.2.2.1, h.2.2.2)) rfl ?_
            refine qm_Ru.go 0 (c' := (11, [.ref 118, .int s2], [.int 1], (h.1, qm_up (qm_up (qm_up (qm_up h.2.1 43 (f0.toInt.toNat) 1) 44 (f0.toInt.toNat) s2) 45 (f0.toInt.toNat) 0) 42 7 v70, h.2.2.1, h.2.2.2))) rfl ?_
            refine qm_Ru.rt (v := (some (.int 1))) (h' := (h.1, qm_up (qm_up (qm_up (qm_up h.2.1 43 (f0.toInt.toNat) 1) 44 (f0.toInt.toNat) s2) 45 (f0.toInt.toNat) 0) 42 7 v70, h.2.2.1, h.2.2.2)) rfl ?_
            refine qm_Ru.go 8 (c' := (33, [.ref 118, .int s2, .int 1], [.int 0, .int s2, .int 1, .ref 118], (h.1, qm_up (qm_up (qm_up (qm_up h.2.1 43 (f0.toInt.toNat) 1) 44 (f0.toInt.toNat) s2) 45 (f0.toInt.toNat) 0) 42 7 v70, h.2.2.1, h.2.2.2))) rfl ?_
            refine hk_inv (o := 118) (r := []) (as := [.ref 118, .int 1, .int s2, .int 0]) rfl rfl (hH.1 118 (17, 105) rfl) rfl rfl rfl rfl ?_
            refine qm_Ru.go 1 (c' := (1, [.ref 118, .int 1, .int s2, .int 0], [.ref 118], (h.1, qm_up (qm_up (qm_up (qm_up h.2.1 43 (f0.toInt.toNat) 1) 44 (f0.toInt.toNat) s2) 45 (f0.toInt.toNat) 0) 42 7 v70, h.2.2.1, h.2.2.2))) rfl ?_
            refine hk_getr rfl (hH.1 118 (17, 105) rfl) rfl (hH.2 118 71 (some 164) rfl) ?_
            refine qm_Ru.go 1 (c' := (5, [.ref 118, .int 1, .int s2, .int 0], [.ref 118, .ref 164], (h.1, qm_up (qm_up (qm_up (qm_up h.2.1 43 (f0.toInt.toNat) 1) 44 (f0.toInt.toNat) s2) 45 (f0.toInt.toNat) 0) 42 7 v70, h.2.2.1, h.2.2.2))) rfl ?_
            refine hk_geti (v := f0) rfl (hH.1 118 (17, 105) rfl) rfl (show (qm_up (qm_up (qm_up (qm_up h.2.1 43 (f0.toInt.toNat) 1) 44 (f0.toInt.toNat) s2) 45 (f0.toInt.toNat) 0) 42 7 v70) 118 70 = _ from ((hk_ot rfl).trans ((hk_ot rfl).trans ((hk_ot rfl).trans ((hk_ot rfl).trans p_f0))))) ?_
            refine qm_Ru.go 1 (c' := (9, [.ref 118, .int 1, .int s2, .int 0], [.int 1, .int f0, .ref 164], (h.1, qm_up (qm_up (qm_up (qm_up h.2.1 43 (f0.toInt.toNat) 1) 44 (f0.toInt.toNat) s2) 45 (f0.toInt.toNat) 0) 42 7 v70, h.2.2.1, h.2.2.2))) rfl ?_
            refine hk_ias rfl (hH.1 164 (0, 60) rfl) (by omega) (by omega) ?_
            refine qm_Ru.go 1 (c' := (11, [.ref 118, .int 1, .int s2, .int 0], [.ref 118], (h.1, qm_up (qm_up (qm_up (qm_up (qm_up h.2.1 43 (f0.toInt.toNat) 1) 44 (f0.toInt.toNat) s2) 45 (f0.toInt.toNat) 0) 42 7 v70) 164 (f0.toInt.toNat) 1, h.2.2.1, h.2.2.2))) rfl ?_
            refine hk_getr rfl (hH.1 118 (17, 105) rfl) rfl (hH.2 118 72 (some 165) rfl) ?_
            refine qm_Ru.go 1 (c' := (15, [.ref 118, .int 1, .int s2, .int 0], [.ref 118, .ref 165], (h.1, qm_up (qm_up (qm_up (qm_up (qm_up h.2.1 43 (f0.toInt.toNat) 1) 44 (f0.toInt.toNat) s2) 45 (f0.toInt.toNat) 0) 42 7 v70) 164 (f0.toInt.toNat) 1, h.2.2.1, h.2.2.2))) rfl ?_
            refine hk_geti (v := f0) rfl (hH.1 118 (17, 105) rfl) rfl (show (qm_up (qm_up (qm_up (qm_up (qm_up h.2.1 43 (f0.toInt.toNat) 1) 44 (f0.toInt.toNat) s2) 45 (f0.toInt.toNat) 0) 42 7 v70) 164 (f0.toInt.toNat) 1) 118 70 = _ from ((hk_ot rfl).trans ((hk_ot rfl).trans ((hk_ot rfl).trans ((hk_ot rfl).trans ((hk_ot rfl).trans p_f0)))))) ?_
            refine qm_Ru.go 1 (c' := (19, [.ref 118, .int 1, .int s2, .int 0], [.int s2, .int f0, .ref 165], (h.1, qm_up (qm_up (qm_up (qm_up (qm_up h.2.1 43 (f0.toInt.toNat) 1) 44 (f0.toInt.toNat) s2) 45 (f0.toInt.toNat) 0) 42 7 v70) 164 (f0.toInt.toNat) 1, h.2.2.1, h.2.2.2))) rfl ?_
            refine hk_ias rfl (hH.1 165 (0, 60) rfl) (by omega) (by omega) ?_
            refine qm_Ru.go 1 (c' := (21, [.ref 118, .int 1, .int s2, .int 0], [.ref 118], (h.1, qm_up (qm_up (qm_up (qm_up (qm_up (qm_up h.2.1 43 (f0.toInt.toNat) 1) 44 (f0.toInt.toNat) s2) 45 (f0.toInt.toNat) 0) 42 7 v70) 164 (f0.toInt.toNat) 1) 165 (f0.toInt.toNat) s2, h.2.2.1, h.2.2.2))) rfl ?_
            refine hk_getr rfl (hH.1 118 (17, 105) rfl) rfl (hH.2 118 73 (some 166) rfl) ?_
            refine qm_Ru.go 1 (c' := (25, [.ref 118, .int 1, .int s2, .int 0], [.ref 118, .ref 166], (h.1, qm_up (qm_up (qm_up (qm_up (qm_up (qm_up h.2.1 43 (f0.toInt.toNat) 1) 44 (f0.toInt.toNat) s2) 45 (f0.toInt.toNat) 0) 42 7 v70) 164 (f0.toInt.toNat) 1) 165 (f0.toInt.toNat) s2, h.2.2.1, h.2.2.2))) rfl ?_
            refine hk_geti (v := f0) rfl (hH.1 118 (17, 105) rfl) rfl (show (qm_up (qm_up (qm_up (qm_up (qm_up (qm_up h.2.1 43 (f0.toInt.toNat) 1) 44 (f0.toInt.toNat) s2) 45 (f0.toInt.toNat) 0) 42 7 v70) 164 (f0.toInt.toNat) 1) 165 (f0.toInt.toNat) s2) 118 70 = _ from ((hk_ot rfl).trans ((hk_ot rfl).trans ((hk_ot rfl).trans ((hk_ot rfl).trans ((hk_ot rfl).trans ((hk_ot rfl).trans p_f0))))))) ?_
            refine qm_Ru.go 1 (c' := (29, [.ref 118, .int 1, .int s2, .int 0], [.int 0, .int f0, .ref 166], (h.1, qm_up (qm_up (qm_up (qm_up (qm_up (qm_up h.2.1 43 (f0.toInt.toNat) 1) 44 (f0.toInt.toNat) s2) 45 (f0.toInt.toNat) 0) 42 7 v70) 164 (f0.toInt.toNat) 1) 165 (f0.toInt.toNat) s2, h.2.2.1, h.2.2.2))) rfl ?_
            refine hk_ias rfl (hH.1 166 (0, 60) rfl) (by omega) (by omega) ?_
            refine qm_Ru.go 2 (c' := (32, [.ref 118, .int 1, .int s2, .int 0], [.ref 118, .ref 118], (h.1, qm_up (qm_up (qm_up (qm_up (qm_up (qm_up (qm_up h.2.1 43 (f0.toInt.toNat) 1) 44 (f0.toInt.toNat) s2) 45 (f0.toInt.toNat) 0) 42 7 v70) 164 (f0.toInt.toNat) 1) 165 (f0.toInt.toNat) s2) 166 (f0.toInt.toNat) 0, h.2.2.1, h.2.2.2))) rfl ?_
            refine hk_geti (v := f0) rfl (hH.1 118 (17, 105) rfl) rfl (show (qm_up (qm_up (qm_up (qm_up (qm_up (qm_up (qm_up h.2.1 43 (f0.toInt.toNat) 1) 44 (f0.toInt.toNat) s2) 45 (f0.toInt.toNat) 0) 42 7 v70) 164 (f0.toInt.toNat) 1) 165 (f0.toInt.toNat) s2) 166 (f0.toInt.toNat) 0) 118 70 = _ from ((hk_ot rfl).trans ((hk_ot rfl).trans ((hk_ot rfl).trans ((hk_ot rfl).trans ((hk_ot rfl).trans ((hk_ot rfl).trans ((hk_ot rfl).trans p_f0)))))))) ?_
            refine qm_Ru.go 2 (c' := (37, [.ref 118, .int 1, .int s2, .int 0], [.int (f0 + 1), .ref 118], (h.1, qm_up (qm_up (qm_up (qm_up (qm_up (qm_up (qm_up h.2.1 43 (f0.toInt.toNat) 1) 44 (f0.toInt.toNat) s2) 45 (f0.toInt.toNat) 0) 42 7 v70) 164 (f0.toInt.toNat) 1) 165 (f0.toInt.toNat) s2) 166 (f0.toInt.toNat) 0, h.2.2.1, h.2.2.2))) rfl ?_
            rw [q_v70]
            refine hk_puti rfl (hH.1 118 (17, 105) rfl) rfl ?_
            refine qm_Ru.go 1 (c' := (41, [.ref 118, .int 1, .int s2, .int 0], [.ref 118], (h.1, qm_up (qm_up (qm_up (qm_up (qm_up (qm_up (qm_up (qm_up h.2.1 43 (f0.toInt.toNat) 1) 44 (f0.toInt.toNat) s2) 45 (f0.toInt.toNat) 0) 42 7 v70) 164 (f0.toInt.toNat) 1) 165 (f0.toInt.toNat) s2) 166 (f0.toInt.toNat) 0) 118 70 v70, h.2.2.1, h.2.2.2))) rfl ?_
            refine hk_geti (v := v70) rfl (hH.1 118 (17, 105) rfl) rfl (show (qm_up (qm_up (qm_up (qm_up (qm_up (qm_up (qm_up (qm_up h.2.1 43 (f0.toInt.toNat) 1) 44 (f0.toInt.toNat) s2) 45 (f0.toInt.toNat) 0) 42 7 v70) 164 (f0.toInt.toNat) 1) 165 (f0.toInt.toNat) s2) 166 (f0.toInt.toNat) 0) 118 70 v70) 118 70 = _ from (hk_same)) ?_
            refine qm_Ru.go 2 (c' := (46, [.ref 118, .int 1, .int s2, .int 0], [.int (v70 - 1)], (h.1, qm_up (qm_up (qm_up (qm_up (qm_up (qm_up (qm_up (qm_up h.2.1 43 (f0.toInt.toNat) 1) 44 (f0.toInt.toNat) s2) 45 (f0.toInt.toNat) 0) 42 7 v70) 164 (f0.toInt.toNat) 1) 165 (f0.toInt.toNat) s2) 166 (f0.toInt.toNat) 0) 118 70 v70, h.2.2.1, h.2.2.2))) rfl ?_
            rw [q_v71]
            refine qm_Ru.rt (v := (some (.int v71))) (h' := (h.1, qm_up (qm_up (qm_up (qm_up (qm_up (qm_up (qm_up (qm_up h.2.1 43 (f0.toInt.toNat) 1) 44 (f0.toInt.toNat) s2) 45 (f0.toInt.toNat) 0) 42 7 v70) 164 (f0.toInt.toNat) 1) 165 (f0.toInt.toNat) s2) 166 (f0.toInt.toNat) 0) 118 70 v70, h.2.2.1, h.2.2.2)) rfl ?_
            refine qm_Ru.go 0 (c' := (36, [.ref 118, .int s2, .int 1], [.int v71], (h.1, qm_up (qm_up (qm_up (qm_up (qm_up (qm_up (qm_up (qm_up h.2.1 43 (f0.toInt.toNat) 1) 44 (f0.toInt.toNat) s2) 45 (f0.toInt.toNat) 0) 42 7 v70) 164 (f0.toInt.toNat) 1) 165 (f0.toInt.toNat) s2) 166 (f0.toInt.toNat) 0) 118 70 v70, h.2.2.1, h.2.2.2))) rfl ?_
            refine qm_Ru.rt (v := (some (.int v71))) (h' := (h.1, qm_up (qm_up (qm_up (qm_up (qm_up (qm_up (qm_up (qm_up h.2.1 43 (f0.toInt.toNat) 1) 44 (f0.toInt.toNat) s2) 45 (f0.toInt.toNat) 0) 42 7 v70) 164 (f0.toInt.toNat) 1) 165 (f0.toInt.toNat) s2) 166 (f0.toInt.toNat) 0) 118 70 v70, h.2.2.1, h.2.2.2)) rfl ?_
            refine qm_Ru.go 3 (c' := (2081, [.retAddr 0, .ref 0, .ref 118, .int (i + 6)], [], (h.1, qm_up (qm_up (qm_up (qm_up (qm_up (qm_up (qm_up (qm_up h.2.1 43 (f0.toInt.toNat) 1) 44 (f0.toInt.toNat) s2) 45 (f0.toInt.toNat) 0) 42 7 v70) 164 (f0.toInt.toNat) 1) 165 (f0.toInt.toNat) s2) 166 (f0.toInt.toNat) 0) 118 70 v70, h.2.2.1, h.2.2.2))) rfl ?_
            obtain ⟨v82, q_v82, e_v82⟩ := hk_add (x := i) (y := 6) (a := i.toInt) (b := 6) rfl rfl (by omega) (by omega)
            rw [q_v82]
            refine qm_Ru.go 1 (c' := (18, [.retAddr 0, .ref 0, .ref 118, .int v82], [], (h.1, qm_up (qm_up (qm_up (qm_up (qm_up (qm_up (qm_up (qm_up h.2.1 43 (f0.toInt.toNat) 1) 44 (f0.toInt.toNat) s2) 45 (f0.toInt.toNat) 0) 42 7 v70) 164 (f0.toInt.toNat) 1) 165 (f0.toInt.toNat) s2) 166 (f0.toInt.toNat) 0) 118 70 v70, h.2.2.1, h.2.2.2))) rfl ?_
            have r43 : (qm_up (qm_up (qm_up (qm_up (qm_up (qm_up (qm_up (qm_up h.2.1 43 (f0.toInt.toNat) 1) 44 (f0.toInt.toNat) s2) 45 (f0.toInt.toNat) 0) 42 7 v70) 164 (f0.toInt.toNat) 1) 165 (f0.toInt.toNat) s2) 166 (f0.toInt.toNat) 0) 118 70 v70) 43 (f0.toInt.toNat) = 1 := ((hk_ot rfl).trans ((hk_ot rfl).trans ((hk_ot rfl).trans ((hk_ot rfl).trans ((hk_ot rfl).trans ((hk_ot rfl).trans ((hk_ot rfl).trans hk_same)))))))
            have r44 : (qm_up (qm_up (qm_up (qm_up (qm_up (qm_up (qm_up (qm_up h.2.1 43 (f0.toInt.toNat) 1) 44 (f0.toInt.toNat) s2) 45 (f0.toInt.toNat) 0) 42 7 v70) 164 (f0.toInt.toNat) 1) 165 (f0.toInt.toNat) s2) 166 (f0.toInt.toNat) 0) 118 70 v70) 44 (f0.toInt.toNat) = s2 := ((hk_ot rfl).trans ((hk_ot rfl).trans ((hk_ot rfl).trans ((hk_ot rfl).trans ((hk_ot rfl).trans ((hk_ot rfl).trans hk_same))))))
            have r45 : (qm_up (qm_up (qm_up (qm_up (qm_up (qm_up (qm_up (qm_up h.2.1 43 (f0.toInt.toNat) 1) 44 (f0.toInt.toNat) s2) 45 (f0.toInt.toNat) 0) 42 7 v70) 164 (f0.toInt.toNat) 1) 165 (f0.toInt.toNat) s2) 166 (f0.toInt.toNat) 0) 118 70 v70) 45 (f0.toInt.toNat) = 0 := ((hk_ot rfl).trans ((hk_ot rfl).trans ((hk_ot rfl).trans ((hk_ot rfl).trans ((hk_ot rfl).trans hk_same)))))
            have r164 : (qm_up (qm_up (qm_up (qm_up (qm_up (qm_up (qm_up (qm_up h.2.1 43 (f0.toInt.toNat) 1) 44 (f0.toInt.toNat) s2) 45 (f0.toInt.toNat) 0) 42 7 v70) 164 (f0.toInt.toNat) 1) 165 (f0.toInt.toNat) s2) 166 (f0.toInt.toNat) 0) 118 70 v70) 164 (f0.toInt.toNat) = 1 := ((hk_ot rfl).trans ((hk_ot rfl).trans ((hk_ot rfl).trans hk_same)))
            have r165 : (qm_up (qm_up (qm_up (qm_up (qm_up (qm_up (qm_up (qm_up h.2.1 43 (f0.toInt.toNat) 1) 44 (f0.toInt.toNat) s2) 45 (f0.toInt.toNat) 0) 42 7 v70) 164 (f0.toInt.toNat) 1) 165 (f0.toInt.toNat) s2) 166 (f0.toInt.toNat) 0) 118 70 v70) 165 (f0.toInt.toNat) = s2 := ((hk_ot rfl).trans ((hk_ot rfl).trans hk_same))
            have r166 : (qm_up (qm_up (qm_up (qm_up (qm_up (qm_up (qm_up (qm_up h.2.1 43 (f0.toInt.toNat) 1) 44 (f0.toInt.toNat) s2) 45 (f0.toInt.toNat) 0) 42 7 v70) 164 (f0.toInt.toNat) 1) 165 (f0.toInt.toNat) s2) 166 (f0.toInt.toNat) 0) 118 70 v70) 166 (f0.toInt.toNat) = 0 := ((hk_ot rfl).trans hk_same)
            have rF : gFat (qm_up (qm_up (qm_up (qm_up (qm_up (qm_up (qm_up (qm_up h.2.1 43 (f0.toInt.toNat) 1) 44 (f0.toInt.toNat) s2) 45 (f0.toInt.toNat) 0) 42 7 v70) 164 (f0.toInt.toNat) 1) 165 (f0.toInt.toNat) s2) 166 (f0.toInt.toNat) 0) 118 70 v70) (f0.toInt.toNat) := ⟨by rw [r164, r43]; exact ⟨by decide, by decide, rfl⟩, fun z => by rw [r164] at z; first | exact absurd z (by decide) | rw [r44, r165], fun z => by rw [r164] at z; first | exact absurd z (by decide) | rw [r45, r166], fun z => by rw [r164] at z; first | exact absurd z (by decide) | rw [r45, r165], fun z => by rw [r164] at z; first | exact absurd z (by decide) | (rw [r165]; omega)⟩
            have hG : gR (qm_up (qm_up (qm_up (qm_up (qm_up (qm_up (qm_up (qm_up h.2.1 43 (f0.toInt.toNat) 1) 44 (f0.toInt.toNat) s2) 45 (f0.toInt.toNat) 0) 42 7 v70) 164 (f0.toInt.toNat) 1) 165 (f0.toInt.toNat) s2) 166 (f0.toInt.toNat) 0) 118 70 v70) := (gR_fact (I := h.2.1) (I2 := qm_up (qm_up (qm_up (qm_up (qm_up (qm_up (qm_up (qm_up h.2.1 43 (f0.toInt.toNat) 1) 44 (f0.toInt.toNat) s2) 45 (f0.toInt.toNat) 0) 42 7 v70) 164 (f0.toInt.toNat) 1) 165 (f0.toInt.toNat) s2) 166 (f0.toInt.toNat) 0) 118 70 v70) (n := f0.toInt.toNat) hS.2 (by rw [q_f0]; omega) (fun o ho k => ((hk_ot (n_in ho rfl)).trans ((hk_ot (n_in ho rfl)).trans ((hk_ot (n_in ho rfl)).trans ((hk_ot (n_in ho rfl)).trans ((hk_ot (n_in ho rfl)).trans ((hk_ot (n_in ho rfl)).trans ((hk_ot (n_in ho rfl)).trans ((hk_ot (n_in ho rfl)).trans rfl))))))))) (fun o ho k hk => ((hk_ot (n_in ho rfl)).trans ((hk_ni hk).trans ((hk_ni hk).trans ((hk_ni hk).trans ((hk_ot (n_in ho rfl)).trans ((hk_ni hk).trans ((hk_ni hk).trans ((hk_ni hk).trans rfl))))))))) ((hk_ot rfl).trans ((hk_ot rfl).trans ((hk_ot rfl).trans ((hk_ot rfl).trans ((hk_ot rfl).trans ((hk_ot rfl).trans ((hk_ot rfl).trans ((hk_ot rfl).trans rfl)))))))) ((hk_ot rfl).trans ((hk_ot rfl).trans ((hk_ot rfl).trans ((hk_ot rfl).trans ((hk_ot rfl).trans ((hk_ot rfl).trans ((hk_ot rfl).trans ((hk_ot rfl).trans rfl)))))))) ((hk_neq (by decide)).trans ((hk_ot rfl).trans ((hk_ot rfl).trans ((hk_ot rfl).trans ((hk_ot rfl).trans ((hk_ot rfl).trans ((hk_ot rfl).trans ((hk_ot rfl).trans rfl)))))))) ((hk_neq (by decide)).trans ((hk_ot rfl).trans ((hk_ot rfl).trans ((hk_ot rfl).trans ((hk_ot rfl).trans ((hk_ot rfl).trans ((hk_ot rfl).trans ((hk_ot rfl).trans rfl)))))))) ((congrArg Int32.toInt ((hk_ot rfl).trans ((hk_ot rfl).trans ((hk_ot rfl).trans ((hk_ot rfl).trans hk_same))))).trans (by omega)) (((hk_ot rfl).trans ((hk_ot rfl).trans ((hk_ot rfl).trans ((hk_ot rfl).trans hk_same)))).trans hk_same.symm) rF)
            have hS1 : gS (h.1, qm_up (qm_up (qm_up (qm_up (qm_up (qm_up (qm_up (qm_up h.2.1 43 (f0.toInt.toNat) 1) 44 (f0.toInt.toNat) s2) 45 (f0.toInt.toNat) 0) 42 7 v70) 164 (f0.toInt.toNat) 1) 165 (f0.toInt.toNat) s2) 166 (f0.toInt.toNat) 0) 118 70 v70, h.2.2.1, h.2.2.2) := (gS_up (gS_upa (gS_upa (gS_upa (gS_up (gS_upa (gS_upa (gS_upa (show gS (h.1, h.2.1, h.2.2.1, h.2.2.2) from hS.1) (by decide)) (by decide)) (by decide)) (by decide)) (by decide)) (by decide)) (by decide)) (by decide))
            have hS2 : gS2 (h.1, qm_up (qm_up (qm_up (qm_up (qm_up (qm_up (qm_up (qm_up h.2.1 43 (f0.toInt.toNat) 1) 44 (f0.toInt.toNat) s2) 45 (f0.toInt.toNat) 0) 42 7 v70) 164 (f0.toInt.toNat) 1) 165 (f0.toInt.toNat) s2) 166 (f0.toInt.toNat) 0) 118 70 v70, h.2.2.1, h.2.2.2) := ⟨hS1, hG⟩
            have hX3 : gX (h.1, qm_up (qm_up (qm_up (qm_up (qm_up (qm_up (qm_up (qm_up h.2.1 43 (f0.toInt.toNat) 1) 44 (f0.toInt.toNat) s2) 45 (f0.toInt.toNat) 0) 42 7 v70) 164 (f0.toInt.toNat) 1) 165 (f0.toInt.toNat) s2) 166 (f0.toInt.toNat) 0) 118 70 v70, h.2.2.1, h.2.2.2) := ⟨gP_cg hX.1 (fun o ho i => ((hk_ot (n_in ho rfl)).trans ((hk_ot (n_in ho rfl)).trans ((hk_ot (n_in ho rfl)).trans ((hk_ot (n_in ho rfl)).trans ((hk_ot (n_in ho rfl)).trans ((hk_ot (n_in ho rfl)).trans ((hk_ot (n_in ho rfl)).trans ((hk_ot (n_in ho rfl)).trans rfl))))))))) (show (qm_up (qm_up (qm_up (qm_up (qm_up (qm_up (qm_up (qm_up h.2.1 43 (f0.toInt.toNat) 1) 44 (f0.toInt.toNat) s2) 45 (f0.toInt.toNat) 0) 42 7 v70) 164 (f0.toInt.toNat) 1) 165 (f0.toInt.toNat) s2) 166 (f0.toInt.toNat) 0) 118 70 v70) 1 1 = h.2.1 1 1 from ((hk_ot rfl).trans ((hk_ot rfl).trans ((hk_ot rfl).trans ((hk_ot rfl).trans ((hk_ot rfl).trans ((hk_ot rfl).trans ((hk_ot rfl).trans ((hk_ot rfl).trans rfl))))))))) (show (qm_up (qm_up (qm_up (qm_up (qm_up (qm_up (qm_up (qm_up h.2.1 43 (f0.toInt.toNat) 1) 44 (f0.toInt.toNat) s2) 45 (f0.toInt.toNat) 0) 42 7 v70) 164 (f0.toInt.toNat) 1) 165 (f0.toInt.toNat) s2) 166 (f0.toInt.toNat) 0) 118 70 v70) 3 4 = h.2.1 3 4 from ((hk_ot rfl).trans ((hk_ot rfl).trans ((hk_ot rfl).trans ((hk_ot rfl).trans ((hk_ot rfl).trans ((hk_ot rfl).trans ((hk_ot rfl).trans ((hk_ot rfl).trans rfl))))))))) (show (qm_up (qm_up (qm_up (qm_up (qm_up (qm_up (qm_up (qm_up h.2.1 43 (f0.toInt.toNat) 1) 44 (f0.toInt.toNat) s2) 45 (f0.toInt.toNat) 0) 42 7 v70) 164 (f0.toInt.toNat) 1) 165 (f0.toInt.toNat) s2) 166 (f0.toInt.toNat) 0) 118 70 v70) 118 17 = h.2.1 118 17 from ((hk_neq (by decide)).trans ((hk_ot rfl).trans ((hk_ot rfl).trans ((hk_ot rfl).trans ((hk_ot rfl).trans ((hk_ot rfl).trans ((hk_ot rfl).trans ((hk_ot rfl).trans rfl))))))))), hX.2⟩
            have hZ3 : (gZB tb) (h.1, qm_up (qm_up (qm_up (qm_up (qm_up (qm_up (qm_up (qm_up h.2.1 43 (f0.toInt.toNat) 1) 44 (f0.toInt.toNat) s2) 45 (f0.toInt.toNat) 0) 42 7 v70) 164 (f0.toInt.toNat) 1) 165 (f0.toInt.toNat) s2) 166 (f0.toInt.toNat) 0) 118 70 v70, h.2.2.1, h.2.2.2) := (gZ_cg (h2 := (h.1, qm_up (qm_up (qm_up (qm_up (qm_up (qm_up (qm_up (qm_up h.2.1 43 (f0.toInt.toNat) 1) 44 (f0.toInt.toNat) s2) 45 (f0.toInt.toNat) 0) 42 7 v70) 164 (f0.toInt.toNat) 1) 165 (f0.toInt.toNat) s2) 166 (f0.toInt.toNat) 0) 118 70 v70, h.2.2.1, h.2.2.2)) hZ (fun o ho i => ((hk_ot (n_in ho rfl)).trans ((hk_ot (n_in ho rfl)).trans ((hk_ot (n_in ho rfl)).trans ((hk_ot (n_in ho rfl)).trans ((hk_ot (n_in ho rfl)).trans ((hk_ot (n_in ho rfl)).trans ((hk_ot (n_in ho rfl)).trans ((hk_ot (n_in ho rfl)).trans rfl))))))))) (show (qm_up (qm_up (qm_up (qm_up (qm_up (qm_up (qm_up (qm_up h.2.1 43 (f0.toInt.toNat) 1) 44 (f0.toInt.toNat) s2) 45 (f0.toInt.toNat) 0) 42 7 v70) 164 (f0.toInt.toNat) 1) 165 (f0.toInt.toNat) s2) 166 (f0.toInt.toNat) 0) 118 70 v70) 6 0 = h.2.1 6 0 from ((hk_ot rfl).trans ((hk_ot rfl).trans ((hk_ot rfl).trans ((hk_ot rfl).trans ((hk_ot rfl).trans ((hk_ot rfl).trans ((hk_ot rfl).trans ((hk_ot rfl).trans rfl))))))))) (fun i _ => show (qm_up (qm_up (qm_up (qm_up (qm_up (qm_up (qm_up (qm_up h.2.1 43 (f0.toInt.toNat) 1) 44 (f0.toInt.toNat) s2) 45 (f0.toInt.toNat) 0) 42 7 v70) 164 (f0.toInt.toNat) 1) 165 (f0.toInt.toNat) s2) 166 (f0.toInt.toNat) 0) 118 70 v70) 28 i = h.2.1 28 i from ((hk_ot rfl).trans ((hk_ot rfl).trans ((hk_ot rfl).trans ((hk_ot rfl).trans ((hk_ot rfl).trans ((hk_ot rfl).trans ((hk_ot rfl).trans ((hk_ot rfl).trans rfl))))))))) (fun i _ => show (qm_up (qm_up (qm_up (qm_up (qm_up (qm_up (qm_up (qm_up h.2.1 43 (f0.toInt.toNat) 1) 44 (f0.toInt.toNat) s2) 45 (f0.toInt.toNat) 0) 42 7 v70) 164 (f0.toInt.toNat) 1) 165 (f0.toInt.toNat) s2) 166 (f0.toInt.toNat) 0) 118 70 v70) 29 i = h.2.1 29 i from ((hk_ot rfl).trans ((hk_ot rfl).trans ((hk_ot rfl).trans ((hk_ot rfl).trans ((hk_ot rfl).trans ((hk_ot rfl).trans ((hk_ot rfl).trans ((hk_ot rfl).trans rfl))))))))) (fun i _ => show (qm_up (qm_up (qm_up (qm_up (qm_up (qm_up (qm_up (qm_up h.2.1 43 (f0.toInt.toNat) 1) 44 (f0.toInt.toNat) s2) 45 (f0.toInt.toNat) 0) 42 7 v70) 164 (f0.toInt.toNat) 1) 165 (f0.toInt.toNat) s2) 166 (f0.toInt.toNat) 0) 118 70 v70) 111 i = h.2.1 111 i from ((hk_ot rfl).trans ((hk_ot rfl).trans ((hk_ot rfl).trans ((hk_ot rfl).trans ((hk_ot rfl).trans ((hk_ot rfl).trans ((hk_ot rfl).trans ((hk_ot rfl).trans rfl))))))))) (fun i _ => show (qm_up (qm_up (qm_up (qm_up (qm_up (qm_up (qm_up (qm_up h.2.1 43 (f0.toInt.toNat) 1) 44 (f0.toInt.toNat) s2) 45 (f0.toInt.toNat) 0) 42 7 v70) 164 (f0.toInt.toNat) 1) 165 (f0.toInt.toNat) s2) 166 (f0.toInt.toNat) 0) 118 70 v70) 51 i = h.2.1 51 i from ((hk_ot rfl).trans ((hk_ot rfl).trans ((hk_ot rfl).trans ((hk_ot rfl).trans ((hk_ot rfl).trans ((hk_ot rfl).trans ((hk_ot rfl).trans ((hk_ot rfl).trans rfl))))))))) (List.forall_mem_cons.mpr ⟨(show (qm_up (qm_up (qm_up (qm_up (qm_up (qm_up (qm_up (qm_up h.2.1 43 (f0.toInt.toNat) 1) 44 (f0.toInt.toNat) s2) 45 (f0.toInt.toNat) 0) 42 7 v70) 164 (f0.toInt.toNat) 1) 165 (f0.toInt.toNat) s2) 166 (f0.toInt.toNat) 0) 118 70 v70) 118 18 = h.2.1 118 18 from ((hk_neq (by decide)).trans ((hk_ot rfl).trans ((hk_ot rfl).trans ((hk_ot rfl).trans ((hk_ot rfl).trans ((hk_ot rfl).trans ((hk_ot rfl).trans ((hk_ot rfl).trans rfl))))))))), List.forall_mem_cons.mpr ⟨(show (qm_up (qm_up (qm_up (qm_up (qm_up (qm_up (qm_up (qm_up h.2.1 43 (f0.toInt.toNat) 1) 44 (f0.toInt.toNat) s2) 45 (f0.toInt.toNat) 0) 42 7 v70) 164 (f0.toInt.toNat) 1) 165 (f0.toInt.toNat) s2) 166 (f0.toInt.toNat) 0) 118 70 v70) 118 44 = h.2.1 118 44 from ((hk_neq (by decide)).trans ((hk_ot rfl).trans ((hk_ot rfl).trans ((hk_ot rfl).trans ((hk_ot rfl).trans ((hk_ot rfl).trans ((hk_ot rfl).trans ((hk_ot rfl).trans rfl))))))))), List.forall_mem_cons.mpr ⟨(show (qm_up (qm_up (qm_up (qm_up (qm_up (qm_up (qm_up (qm_up h.2.1 43 (f0.toInt.toNat) 1) 44 (f0.toInt.toNat) s2) 45 (f0.toInt.toNat) 0) 42 7 v70) 164 (f0.toInt.toNat) 1) 165 (f0.toInt.toNat) s2) 166 (f0.toInt.toNat) 0) 118 70 v70) 118 54 = h.2.1 118 54 from ((hk_neq (by decide)).trans ((hk_ot rfl).trans ((hk_ot rfl).trans ((hk_ot rfl).trans ((hk_ot rfl).trans ((hk_ot rfl).trans ((hk_ot rfl).trans ((hk_ot rfl).trans rfl))))))))), List.forall_mem_cons.mpr ⟨(show (qm_up (qm_up (qm_up (qm_up (qm_up (qm_up (qm_up (qm_up h.2.1 43 (f0.toInt.toNat) 1) 44 (f0.toInt.toNat) s2) 45 (f0.toInt.toNat) 0) 42 7 v70) 164 (f0.toInt.toNat) 1) 165 (f0.toInt.toNat) s2) 166 (f0.toInt.toNat) 0) 118 70 v70) 118 75 = h.2.1 118 75 from ((hk_neq (by decide)).trans ((hk_ot rfl).trans ((hk_ot rfl).trans ((hk_ot rfl).trans ((hk_ot rfl).trans ((hk_ot rfl).trans ((hk_ot rfl).trans ((hk_ot rfl).trans rfl))))))))), List.forall_mem_cons.mpr ⟨(show (qm_up (qm_up (qm_up (qm_up (qm_up (qm_up (qm_up (qm_up h.2.1 43 (f0.toInt.toNat) 1) 44 (f0.toInt.toNat) s2) 45 (f0.toInt.toNat) 0) 42 7 v70) 164 (f0.toInt.toNat) 1) 165 (f0.toInt.toNat) s2) 166 (f0.toInt.toNat) 0) 118 70 v70) 118 85 = h.2.1 118 85 from ((hk_neq (by decide)).trans ((hk_ot rfl).trans ((hk_ot rfl).trans ((hk_ot rfl).trans ((hk_ot rfl).trans ((hk_ot rfl).trans ((hk_ot rfl).trans ((hk_ot rfl).trans rfl))))))))), List.forall_mem_cons.mpr ⟨(show (qm_up (qm_up (qm_up (qm_up (qm_up (qm_up (qm_up (qm_up h.2.1 43 (f0.toInt.toNat) 1) 44 (f0.toInt.toNat) s2) 45 (f0.toInt.toNat) 0) 42 7 v70) 164 (f0.toInt.toNat) 1) 165 (f0.toInt.toNat) s2) 166 (f0.toInt.toNat) 0) 118 70 v70) 118 91 = h.2.1 118 91 from ((hk_neq (by decide)).trans ((hk_ot rfl).trans ((hk_ot rfl).trans ((hk_ot rfl).trans ((hk_ot rfl).trans ((hk_ot rfl).trans ((hk_ot rfl).trans ((hk_ot rfl).trans rfl))))))))), List.forall_mem_cons.mpr ⟨(show (qm_up (qm_up (qm_up (qm_up (qm_up (qm_up (qm_up (qm_up h.2.1 43 (f0.toInt.toNat) 1) 44 (f0.toInt.toNat) s2) 45 (f0.toInt.toNat) 0) 42 7 v70) 164 (f0.toInt.toNat) 1) 165 (f0.toInt.toNat) s2) 166 (f0.toInt.toNat) 0) 118 70 v70) 118 92 = h.2.1 118 92 from ((hk_neq (by decide)).trans ((hk_ot rfl).trans ((hk_ot rfl).trans ((hk_ot rfl).trans ((hk_ot rfl).trans ((hk_ot rfl).trans ((hk_ot rfl).trans ((hk_ot rfl).trans rfl))))))))), List.forall_mem_cons.mpr ⟨(show (qm_up (qm_up (qm_up (qm_up (qm_up (qm_up (qm_up (qm_up h.2.1 43 (f0.toInt.toNat) 1) 44 (f0.toInt.toNat) s2) 45 (f0.toInt.toNat) 0) 42 7 v70) 164 (f0.toInt.toNat) 1) 165 (f0.toInt.toNat) s2) 166 (f0.toInt.toNat) 0) 118 70 v70) 118 93 = h.2.1 118 93 from ((hk_neq (by decide)).trans ((hk_ot rfl).trans ((hk_ot rfl).trans ((hk_ot rfl).trans ((hk_ot rfl).trans ((hk_ot rfl).trans ((hk_ot rfl).trans ((hk_ot rfl).trans rfl))))))))), List.forall_mem_cons.mpr ⟨(show (qm_up (qm_up (qm_up (qm_up (qm_up (qm_up (qm_up (qm_up h.2.1 43 (f0.toInt.toNat) 1) 44 (f0.toInt.toNat) s2) 45 (f0.toInt.toNat) 0) 42 7 v70) 164 (f0.toInt.toNat) 1) 165 (f0.toInt.toNat) s2) 166 (f0.toInt.toNat) 0) 118 70 v70) 118 94 = h.2.1 118 94 from ((hk_neq (by decide)).trans ((hk_ot rfl).trans ((hk_ot rfl).trans ((hk_ot rfl).trans ((hk_ot rfl).trans ((hk_ot rfl).trans ((hk_ot rfl).trans ((hk_ot rfl).trans rfl))))))))), fun _ z => absurd z List.not_mem_nil⟩⟩⟩⟩⟩⟩⟩⟩⟩) rfl)
            exact hE _ v82 (by omega) (qa_Inv_of0 ⟨hH.1, hH.2⟩ (hb_up (o := 118) (k := 70) (x := v70) (hb_up (o := 166) (k := f0.toInt.toNat) (x := 0) (hb_up (o := 165) (k := f0.toInt.toNat) (x := s2) (hb_up (o := 164) (k := f0.toInt.toNat) (x := 1) (hb_up (o := 42) (k := 7) (x := v70) (hb_up (o := 45) (k := f0.toInt.toNat) (x := 0) (hb_up (o := 44) (k := f0.toInt.toNat) (x := s2) (hb_up (o := 43) (k := f0.toInt.toNat) (x := 1) hB ⟨(show (0 : Int) ≤ 1 from by decide), (show (1 : Int) ≤ 4 from by decide)⟩) ⟨by show (-1 : Int) ≤ s2.toInt; omega, by show s2.toInt ≤ (29 : Int); omega⟩) ⟨(show (-99999 : Int) ≤ 0 from by decide), (show (0 : Int) ≤ 99999 from by decide)⟩) ⟨by show (0 : Int) ≤ v70.toInt; omega, by show v70.toInt ≤ (60 : Int); omega⟩) ⟨(show (0 : Int) ≤ 1 from by decide), (show (1 : Int) ≤ 4 from by decide)⟩) ⟨by show (-99999 : Int) ≤ s2.toInt; omega, by show s2.toInt ≤ (99999 : Int); omega⟩) ⟨(show (0 : Int) ≤ 0 from by decide), (show (0 : Int) ≤ 5 from by decide)⟩) ⟨by show (0 : Int) ≤ v70.toInt; omega, by show v70.toInt ≤ (60 : Int); omega⟩) ⟨⟨⟨hS2, hX3⟩, hZ3⟩, t⟩ (gS2_ru hS2))
        · refine qm_Ru.go 1 (c' := (10, [.ref 42, .int 1, .int s2, .int 0], [.int (-1)], h)) rfl ?_
          refine qm_Ru.rt (v := (some (.int (-1)))) (h' := h) rfl ?_
          refine qm_Ru.go 0 (c' := (31, [.ref 0, .int s2, .int 1], [.int (-1)], h)) rfl ?_
          refine qm_Ru.rt (v := (some (.int (-1)))) (h' := h) rfl ?_
          refine qm_Ru.go 6 (c' := (1289, [.retAddr 0, .ref 0, .ref 118, .int i], [.int (i + 1), .retAddr 0, .ref 118], h)) rfl ?_
          rw [q_v1]
          refine hk_scr (v := s2) rfl (by omega) (by omega) q_s2 ?_
          refine qm_Ru.go 4 (c' := (1294, [.retAddr 0, .ref 0, .ref 118, .int i], [.int (i + 2), .retAddr 0, .int s2, .ref 118], h)) rfl ?_
          rw [q_v3]
          refine hk_scr (v := s4) rfl (by omega) (by omega) q_s4 ?_
          refine qm_Ru.go 0 (c' := (1295, [.retAddr 0, .ref 0, .ref 118, .int i], [.int s4, .int s2, .ref 118], h)) rfl ?_
          refine hk_zeq (ix := s4.toInt) rfl rfl (fun z85 => by exfalso; omega) (fun z85 => ?_)
          refine qm_Ru.go 2 (c' := (1303, [.retAddr 0, .ref 0, .ref 118, .int i], [.int 1, .int s2, .ref 118], h)) rfl ?_
          refine hk_inv (o := 118) (r := []) (as := [.ref 118, .int s2, .int 1]) rfl rfl (hH.1 118 (17, 105) rfl) rfl rfl rfl rfl ?_
          refine qm_Ru.go 1 (c' := (1, [.ref 118, .int s2, .int 1], [.ref 118], h)) rfl ?_
          refine hk_geti (v := f0) rfl (hH.1 118 (17, 105) rfl) rfl p_f0 ?_
          refine qm_Ru.go 1 (c' := (6, [.ref 118, .int s2, .int 1], [.int 60, .int f0], h)) rfl ?_
          refine hk_ceq (ix := f0.toInt) (iy := 60) rfl rfl rfl (fun z86 => ?_) (fun z86 => by exfalso; omega)
          refine qm_Ru.go 2 (c' := (36, [.ref 118, .int s2, .int 1], [.int (-1)], h)) rfl ?_
          refine qm_Ru.rt (v := (some (.int (-1)))) (h' := h) rfl ?_
          refine qm_Ru.go 3 (c' := (2081, [.retAddr 0, .ref 0, .ref 118, .int (i + 6)], [], h)) rfl ?_
          obtain ⟨v87, q_v87, e_v87⟩ := hk_add (x := i) (y := 6) (a := i.toInt) (b := 6) rfl rfl (by omega) (by omega)
          rw [q_v87]
          refine qm_Ru.go 1 (c' := (18, [.retAddr 0, .ref 0, .ref 118, .int v87], [], h)) rfl ?_
          have hG : gR (h.2.1) := hS.2
          have hS1 : gS (h.1, h.2.1, h.2.2.1, h.2.2.2) := hS.1
          have hS2 : gS2 (h.1, h.2.1, h.2.2.1, h.2.2.2) := ⟨hS1, hG⟩
          have hX3 : gX (h.1, h.2.1, h.2.2.1, h.2.2.2) := hX
          have hZ3 : (gZB tb) (h.1, h.2.1, h.2.2.1, h.2.2.2) := hZ
          exact hE _ v87 (by omega) (qa_Inv_of0 ⟨hH.1, hH.2⟩ hB ⟨⟨⟨hS2, hX3⟩, hZ3⟩, t⟩ (gS2_ru hS2))
theorem hl_rdg {L : Nat} {xs : Nat → Int32} {d : Nat} {Z : Option Value → qm_H → Prop} {h : qm_H} (h6 : 6 ≤ L) (hH : hk_H h) (hB : hk_B h.2.1) {s f : Int32} (q_f : h.2.1 118 70 = f) (hf : (0 : Int) ≤ f.toInt ∧ f.toInt ≤ 59) (ko : ∀ (I : Nat → Nat → Int32) (J : Nat → Nat → Int64) (b : Int32), hk_B I → (∀ o, [167].contains o = false → ∀ i, I o i = h.2.1 o i) → J = h.2.2.1 → qm_Ru (some (L, xs)) (d + 20) cd_348 (84, [.ref 118, .int s, .int b], [], (h.1, I, J, h.2.2.2)) Z) : ∀ (m : Nat) (I : Nat → Nat → Int32) (J : Nat → Nat → Int64) (b : Int32), hk_B I → (∀ o, [167].contains o = false → ∀ i, I o i = h.2.1 o i) → ((0 : Int) ≤ b.toInt ∧ b.toInt ≤ 30) → (J = h.2.2.1) → (30 - b.toInt).toNat = m → qm_Ru (some (L, xs)) (d + 20) cd_348 (26, [.ref 118, .int s, .int b], [], (h.1, I, J, h.2.2.2)) Z := by
  intro m
  induction m using Nat.strongRecOn with
  | ind m ih =>
    intro I J b hBI e hb ej hm
    refine qm_Ru.go 2 (c' := (29, [.ref 118, .int s, .int b], [.int 30, .int b], (h.1, I, J, h.2.2.2))) rfl ?_
    refine hk_cge (ix := b.toInt) (iy := 30) rfl rfl rfl (fun z1 => ?_) (fun z1 => ?_)
    · refine qm_Ru.go 0 (c' := (84, [.ref 118, .int s, .int b], [], (h.1, I, J, h.2.2.2))) rfl ?_
      exact ko (I) (J) b hBI (fun o ho i => (e o ho i)) ej
    · refine qm_Ru.go 1 (c' := (33, [.ref 118, .int s, .int b], [.ref 118], (h.1, I, J, h.2.2.2))) rfl ?_
      refine hk_getr rfl (hH.1 118 (17, 105) rfl) rfl (hH.2 118 74 (some 167) rfl) ?_
      refine qm_Ru.go 2 (c' := (39, [.ref 118, .int s, .int b], [.ref 118, .int 30, .ref 167], (h.1, I, J, h.2.2.2))) rfl ?_
      refine hk_geti (v := f) rfl (hH.1 118 (17, 105) rfl) rfl (show (I) 118 70 = _ from ((e 118 rfl 70).trans q_f)) ?_
      refine qm_Ru.go 1 (c' := (43, [.ref 118, .int s, .int b], [.int (30 * f), .ref 167], (h.1, I, J, h.2.2.2))) rfl ?_
      obtain ⟨v2, q_v2, e_v2⟩ := hk_mul (x := 30) (y := f) (a := 30) (b := f.toInt) rfl rfl (by omega) (by omega)
      rw [q_v2]
      refine qm_Ru.go 2 (c' := (45, [.ref 118, .int s, .int b], [.int (v2 + b), .ref 167], (h.1, I, J, h.2.2.2))) rfl ?_
      obtain ⟨v3, q_v3, e_v3⟩ := hk_add (x := v2) (y := b) (a := v2.toInt) (b := b.toInt) rfl rfl (by omega) (by omega)
      rw [q_v3]
      refine qm_Ru.go 2 (c' := (47, [.ref 118, .int s, .int b], [.ref 118, .int b, .int v3, .ref 167], (h.1, I, J, h.2.2.2))) rfl ?_
      obtain ⟨v4, q_v4⟩ : ∃ v_, h.2.1 118 44 = v_ := ⟨_, rfl⟩
      have b_v4 : (0 : Int) ≤ v4.toInt ∧ v4.toInt ≤ 30 := by rw [← q_v4]; exact hB 118 44
      refine hk_geti (v := v4) rfl (hH.1 118 (17, 105) rfl) rfl (show (I) 118 44 = _ from ((e 118 rfl 44).trans q_v4)) ?_
      refine qm_Ru.go 0 (c' := (50, [.ref 118, .int s, .int b], [.int v4, .int b, .int v3, .ref 167], (h.1, I, J, h.2.2.2))) rfl ?_
      refine hk_cge (ix := b.toInt) (iy := v4.toInt) rfl rfl rfl (fun z5 => ?_) (fun z5 => ?_)
      · refine qm_Ru.go 1 (c' := (77, [.ref 118, .int s, .int b], [.int (-1), .int v3, .ref 167], (h.1, I, J, h.2.2.2))) rfl ?_
        refine hk_ias rfl (hH.1 167 (0, 1800) rfl) (by omega) (by omega) ?_
        refine qm_Ru.go 1 (c' := (81, [.ref 118, .int s, .int (b + 1)], [], (h.1, qm_up I 167 (v3.toInt.toNat) (-1), J, h.2.2.2))) rfl ?_
        obtain ⟨v6, q_v6, e_v6⟩ := hk_add (x := b) (y := 1) (a := b.toInt) (b := 1) rfl rfl (by omega) (by omega)
        rw [q_v6]
        refine qm_Ru.go 1 (c' := (26, [.ref 118, .int s, .int v6], [], (h.1, qm_up I 167 (v3.toInt.toNat) (-1), J, h.2.2.2))) rfl ?_
        exact ih _ (by omega) (qm_up I 167 (v3.toInt.toNat) (-1)) (J) v6 (hb_up (o := 167) (k := v3.toInt.toNat) (x := (-1)) hBI ⟨(show (-1 : Int) ≤ -1 from by decide), (show (-1 : Int) ≤ 3 from by decide)⟩) (fun o ho i => ((hk_mod ho rfl).trans (e o ho i))) (by omega) ej rfl
      · refine qm_Ru.go 1 (c' := (54, [.ref 118, .int s, .int b], [.ref 118, .int v3, .ref 167], (h.1, I, J, h.2.2.2))) rfl ?_
        refine hk_getr rfl (hH.1 118 (17, 105) rfl) rfl (hH.2 118 49 (some 150) rfl) ?_
        refine qm_Ru.go 1 (c' := (58, [.ref 118, .int s, .int b], [.int b, .ref 150, .int v3, .ref 167], (h.1, I, J, h.2.2.2))) rfl ?_
        obtain ⟨v7, q_v7⟩ : ∃ v_, h.2.1 150 (b.toInt.toNat) = v_ := ⟨_, rfl⟩
        have b_v7 : (0 : Int) ≤ v7.toInt ∧ v7.toInt ≤ 2 := by rw [← q_v7]; exact hB 150 (b.toInt.toNat)
        refine hk_ial (v := v7) rfl (hH.1 150 (0, 30) rfl) (by omega) (by omega) (show (I) 150 (b.toInt.toNat) = _ from ((e 150 rfl (b.toInt.toNat)).trans q_v7)) ?_
        refine qm_Ru.go 1 (c' := (60, [.ref 118, .int s, .int b], [.int 1, .int v7, .int v3, .ref 167], (h.1, I, J, h.2.2.2))) rfl ?_
        refine hk_cne (ix := v7.toInt) (iy := 1) rfl rfl rfl (fun z8 => ?_) (fun z8 => ?_)
        · refine qm_Ru.go 1 (c' := (77, [.ref 118, .int s, .int b], [.int (-1), .int v3, .ref 167], (h.1, I, J, h.2.2.2))) rfl ?_
          refine hk_ias rfl (hH.1 167 (0, 1800) rfl) (by omega) (by omega) ?_
          refine qm_Ru.go 1 (c' := (81, [.ref 118, .int s, .int (b + 1)], [], (h.1, qm_up I 167 (v3.toInt.toNat) (-1), J, h.2.2.2))) rfl ?_
          obtain ⟨v9, q_v9, e_v9⟩ := hk_add (x := b) (y := 1) (a := b.toInt) (b := 1) rfl rfl (by omega) (by omega)
          rw [q_v9]
          refine qm_Ru.go 1 (c' := (26, [.ref 118, .int s, .int v9], [], (h.1, qm_up I 167 (v3.toInt.toNat) (-1), J, h.2.2.2))) rfl ?_
          exact ih _ (by omega) (qm_up I 167 (v3.toInt.toNat) (-1)) (J) v9 (hb_up (o := 167) (k := v3.toInt.toNat) (x := (-1)) hBI ⟨(show (-1 : Int) ≤ -1 from by decide), (show (-1 : Int) ≤ 3 from by decide)⟩) (fun o ho i => ((hk_mod ho rfl).trans (e o ho i))) (by omega) ej rfl
        · refine qm_Ru.go 1 (c' := (64, [.ref 118, .int s, .int b], [.ref 118, .int v3, .ref 167], (h.1, I, J, h.2.2.2))) rfl ?_
          refine hk_getr rfl (hH.1 118 (17, 105) rfl) rfl (hH.2 118 50 (some 151) rfl) ?_
          refine qm_Ru.go 1 (c' := (68, [.ref 118, .int s, .int b], [.int b, .ref 151, .int v3, .ref 167], (h.1, I, J, h.2.2.2))) rfl ?_
          obtain ⟨v10, q_v10⟩ : ∃ v_, h.2.1 151 (b.toInt.toNat) = v_ := ⟨_, rfl⟩
          have b_v10 : (0 : Int) ≤ v10.toInt ∧ v10.toInt ≤ 79 := by rw [← q_v10]; exact hB 151 (b.toInt.toNat)
          refine hk_ial (v := v10) rfl (hH.1 151 (0, 30) rfl) (by omega) (by omega) (show (I) 151 (b.toInt.toNat) = _ from ((e 151 rfl (b.toInt.toNat)).trans q_v10)) ?_
          refine qm_Ru.go 2 (c' := (71, [.ref 118, .int s, .int b], [.int (v10 / 4), .int v3, .ref 167], (h.1, I, J, h.2.2.2))) rfl ?_
          obtain ⟨v11, q_v11, e_v11⟩ := hk_div (x := v10) (y := 4) (a := v10.toInt) (b := 4) rfl rfl (by omega) (by omega)
          rw [q_v11]
          refine qm_Ru.go 2 (c' := (73, [.ref 118, .int s, .int b], [.int (v11 - v11 / 4 * 4), .int v3, .ref 167], (h.1, I, J, h.2.2.2))) rfl ?_
          obtain ⟨v12, q_v12, e_v12⟩ := hk_rem (x := v11) (y := 4) (a := v11.toInt) (b := 4) rfl rfl (by omega) (by omega)
          rw [q_v12]
          refine qm_Ru.go 1 (c' := (77, [.ref 118, .int s, .int b], [.int v12, .int v3, .ref 167], (h.1, I, J, h.2.2.2))) rfl ?_
          refine hk_ias rfl (hH.1 167 (0, 1800) rfl) (by omega) (by omega) ?_
          refine qm_Ru.go 1 (c' := (81, [.ref 118, .int s, .int (b + 1)], [], (h.1, qm_up I 167 (v3.toInt.toNat) v12, J, h.2.2.2))) rfl ?_
          obtain ⟨v13, q_v13, e_v13⟩ := hk_add (x := b) (y := 1) (a := b.toInt) (b := 1) rfl rfl (by omega) (by omega)
          rw [q_v13]
          refine qm_Ru.go 1 (c' := (26, [.ref 118, .int s, .int v13], [], (h.1, qm_up I 167 (v3.toInt.toNat) v12, J, h.2.2.2))) rfl ?_
          exact ih _ (by omega) (qm_up I 167 (v3.toInt.toNat) v12) (J) v13 (hb_up (o := 167) (k := v3.toInt.toNat) (x := v12) hBI ⟨by show (-1 : Int) ≤ v12.toInt; omega, by show v12.toInt ≤ (3 : Int); omega⟩) (fun o ho i => ((hk_mod ho rfl).trans (e o ho i))) (by omega) ej rfl
theorem gS_34 {h : qm_H} {I : Nat → Nat → Int32} {J : Nat → Nat → Int64} (hS : gS h) (e : ∀ o, [42, 43, 44, 45, 46, 47, 48, 118, 164, 165, 166, 167].contains o = false → ∀ i, I o i = h.2.1 o i) (e42 : ∀ i, i ≠ 7 → I 42 i = h.2.1 42 i) (e118 : ∀ i, i ≠ 70 → I 118 i = h.2.1 118 i) : gS (h.1, I, J, h.2.2.2) := by
  refine gS_loc (t1 := 29) (t2 := 111) h I J (fun o i hf => ?_) hS
  cases hw : List.contains [42, 43, 44, 45, 46, 47, 48, 118, 164, 165, 166, 167] o with
  | false => exact e o hw i
  | true =>
    have hm := List.contains_iff_mem.mp hw
    have key : ∀ o ∈ [42, 43, 44, 45, 46, 47, 48, 118, 164, 165, 166, 167], qa_foot.contains o = false ∧ (qa_Psh o).isSome = true ∧ (o = 42 ∨ o = 118 ∨ ∀ q, qa_Psh o = some q → q.1 < 5) := by
      exact List.forall_mem_cons.mpr ⟨⟨by decide, rfl, Or.inl rfl⟩, List.forall_mem_cons.mpr ⟨⟨by decide, rfl, Or.inr (Or.inr ((fun q e => by cases e; decide)))⟩, List.forall_mem_cons.mpr ⟨⟨by decide, rfl, Or.inr (Or.inr ((fun q e => by cases e; decide)))⟩, List.forall_mem_cons.mpr ⟨⟨by decide, rfl, Or.inr (Or.inr ((fun q e => by cases e; decide)))⟩, List.forall_mem_cons.mpr ⟨⟨by decide, rfl, Or.inr (Or.inr ((fun q e => by cases e; decide)))⟩, List.forall_mem_cons.mpr ⟨⟨by decide, rfl, Or.inr (Or.inr ((fun q e => by cases e; decide)))⟩, List.forall_mem_cons.mpr ⟨⟨by decide, rfl, Or.inr (Or.inr ((fun q e => by cases e; decide)))⟩, List.forall_mem_cons.mpr ⟨⟨by decide, rfl, Or.inr (Or.inl rfl)⟩, List.forall_mem_cons.mpr ⟨⟨by decide, rfl, Or.inr (Or.inr ((fun q e => by cases e; decide)))⟩, List.forall_mem_cons.mpr ⟨⟨by decide, rfl, Or.inr (Or.inr ((fun q e => by cases e; decide)))⟩, List.forall_mem_cons.mpr ⟨⟨by decide, rfl, Or.inr (Or.inr ((fun q e => by cases e; decide)))⟩, List.forall_mem_cons.mpr ⟨⟨by decide, rfl, Or.inr (Or.inr ((fun q e => by cases e; decide)))⟩, fun _ h => absurd h List.not_mem_nil⟩⟩⟩⟩⟩⟩⟩⟩⟩⟩⟩⟩
    obtain ⟨k1, k2, k3⟩ := key o hm
    rcases hf with z | z | ⟨z, q, z1, z2⟩
    · have z : qa_foot.contains o = true := z
      rw [k1] at z
      cases z
    · have z : qa_Psh o = none := z
      rw [z] at k2
      cases k2
    · have z : qa_foot.contains (1000000 + 1000 * o + i) = true := z
      rcases k3 with rfl | rfl | k3
      · refine e42 i (fun c => ?_)
        subst c
        exact absurd z (by decide)
      · refine e118 i (fun c => ?_)
        subst c
        exact absurd z (by decide)
      · have := k3 q z1
        omega
theorem qv_34 {L : Nat} {xs : Nat → Int32} {Z : Option Value → qm_H → Prop} (h6 : 6 ≤ L) (hl : L ≤ 3072) : qv_PB tb tb L xs Z 34 := by
  intro i h i0 i1 hI hE
  obtain ⟨j1, hB, j3, ⟨⟨⟨hS, hX⟩, hZ⟩, t⟩, -⟩ := hI
  have hH : hk_H h := ⟨j1, j3⟩
  have b_i : 0 ≤ i.toInt ∧ i.toInt ≤ 3066 := by omega
  obtain ⟨c0, q_c0⟩ : ∃ v, h.2.1 6 0 = v := ⟨_, rfl⟩
  have p_c0 : h.2.1 118 44 = c0 := hS.2.2.1.symm.trans q_c0
  have b_c0 : (0 : Int) ≤ c0.toInt ∧ c0.toInt ≤ 30 := by rw [← q_c0]; exact hB 6 0
  obtain ⟨f0, q_f0⟩ : ∃ v, h.2.1 42 7 = v := ⟨_, rfl⟩
  have p_f0 : h.2.1 118 70 = f0 := hS.2.2.2.1.symm.trans q_f0
  have b_f0 : (0 : Int) ≤ f0.toInt ∧ f0.toInt ≤ 60 := by rw [← q_f0]; exact hB 42 7
  show qm_Ru (some (L, xs)) 300 cd_law (1310, [.retAddr 0, .ref 0, .ref 118, .int i], [], h) Z
  refine qm_Ru.go 5 (c' := (1315, [.retAddr 0, .ref 0, .ref 118, .int i], [.int (i + 1), .retAddr 0, .ref 0], h)) rfl ?_
  obtain ⟨v1, q_v1, e_v1⟩ := hk_add (x := i) (y := 1) (a := i.toInt) (b := 1) rfl rfl (by omega) (by omega)
  rw [q_v1]
  obtain ⟨s2, q_s2⟩ : ∃ v_, xs (v1).toNatClampNeg = v_ := ⟨_, rfl⟩
  have := hk_rng s2
  refine hk_scr (v := s2) rfl (by omega) (by omega) q_s2 ?_
  refine qm_Ru.go 0 (c' := (1316, [.retAddr 0, .ref 0, .ref 118, .int i], [.int s2, .ref 0], h)) rfl ?_
  refine hk_inv (o := 0) (r := []) (as := [.ref 0, .int s2]) rfl rfl (hH.1 0 (16, 10) rfl) rfl rfl rfl rfl ?_
  refine qm_Ru.go 2 (c' := (4, [.ref 0, .int s2], [.int (-99999), .int s2], h)) rfl ?_
  refine hk_clt (ix := s2.toInt) (iy := (-99999)) rfl rfl rfl (fun z3 => ?_) (fun z3 => ?_)
  · refine qm_Ru.go 1 (c' := (15, [.ref 0, .int s2], [.int (-1)], h)) rfl ?_
    refine qm_Ru.rt (v := (some (.int (-1)))) (h' := h) rfl ?_
    refine qm_Ru.go 6 (c' := (1325, [.retAddr 0, .ref 0, .ref 118, .int i], [.int (i + 1), .retAddr 0, .ref 118], h)) rfl ?_
    rw [q_v1]
    refine hk_scr (v := s2) rfl (by omega) (by omega) q_s2 ?_
    refine qm_Ru.go 0 (c' := (1326, [.retAddr 0, .ref 0, .ref 118, .int i], [.int s2, .ref 118], h)) rfl ?_
    refine hk_inv (o := 118) (r := []) (as := [.ref 118, .int s2]) rfl rfl (hH.1 118 (17, 105) rfl) rfl rfl rfl rfl ?_
    refine qm_Ru.go 1 (c' := (1, [.ref 118, .int s2, .float 0], [.ref 118], h)) rfl ?_
    refine hk_geti (v := f0) rfl (hH.1 118 (17, 105) rfl) rfl p_f0 ?_
    refine qm_Ru.go 1 (c' := (6, [.ref 118, .int s2, .float 0], [.int 60, .int f0], h)) rfl ?_
    refine hk_ceq (ix := f0.toInt) (iy := 60) rfl rfl rfl (fun z5 => ?_) (fun z5 => ?_)
    · refine qm_Ru.go 1 (c' := (23, [.ref 118, .int s2, .float 0], [.int (-1)], h)) rfl ?_
      refine qm_Ru.rt (v := (some (.int (-1)))) (h' := h) rfl ?_
      refine qm_Ru.go 3 (c' := (2081, [.retAddr 0, .ref 0, .ref 118, .int (i + 6)], [], h)) rfl ?_
      obtain ⟨v6, q_v6, e_v6⟩ := hk_add (x := i) (y := 6) (a := i.toInt) (b := 6) rfl rfl (by omega) (by omega)
      rw [q_v6]
      refine qm_Ru.go 1 (c' := (18, [.retAddr 0, .ref 0, .ref 118, .int v6], [], h)) rfl ?_
      have hG : gR (h.2.1) := hS.2
      have hS1 : gS (h.1, h.2.1, h.2.2.1, h.2.2.2) := hS.1
      have hS2 : gS2 (h.1, h.2.1, h.2.2.1, h.2.2.2) := ⟨hS1, hG⟩
      have hX3 : gX (h.1, h.2.1, h.2.2.1, h.2.2.2) := hX
      have hZ3 : (gZB tb) (h.1, h.2.1, h.2.2.1, h.2.2.2) := hZ
      exact hE _ v6 (by omega) (qa_Inv_of0 ⟨hH.1, hH.2⟩ hB ⟨⟨⟨hS2, hX3⟩, hZ3⟩, t⟩ (gS2_ru hS2))
    · refine qm_Ru.go 3 (c' := (16, [.ref 118, .int s2, .float 0], [.int 99999, .int (-99999), .int s2], h)) rfl ?_
      refine qm_Ru.call (j := 270) (as := [.int s2, .int (-99999), .int 99999]) (c' := (19, [.ref 118, .int s2, .float 0], [], h)) rfl rfl rfl ?_
      refine qm_Ru.go 2 (c' := (2, [.int s2, .int (-99999), .int 99999], [.int (-99999), .int s2], h)) rfl ?_
      refine hk_clt (ix := s2.toInt) (iy := (-99999)) rfl rfl rfl (fun z7 => ?_) (fun z7 => by exfalso; omega)
      refine qm_Ru.go 1 (c' := (15, [.int s2, .int (-99999), .int 99999], [.int 0], h)) rfl ?_
      refine qm_Ru.rt (v := (some (.int 0))) (h' := h) rfl ?_
      refine qm_Ru.go 2 (c' := (23, [.ref 118, .int s2, .float 0], [.int (-1)], h)) rfl ?_
      refine qm_Ru.rt (v := (some (.int (-1)))) (h' := h) rfl ?_
      refine qm_Ru.go 3 (c' := (2081, [.retAddr 0, .ref 0, .ref 118, .int (i + 6)], [], h)) rfl ?_
      obtain ⟨v8, q_v8, e_v8⟩ := hk_add (x := i) (y := 6) (a := i.toInt) (b := 6) rfl rfl (by omega) (by omega)
      rw [q_v8]
      refine qm_Ru.go 1 (c' := (18, [.retAddr 0, .ref 0, .ref 118, .int v8], [], h)) rfl ?_
      have hG : gR (h.2.1) := hS.2
      have hS1 : gS (h.1, h.2.1, h.2.2.1, h.2.2.2) := hS.1
      have hS2 : gS2 (h.1, h.2.1, h.2.2.1, h.2.2.2) := ⟨hS1, hG⟩
      have hX3 : gX (h.1, h.2.1, h.2.2.1, h.2.2.2) := hX
      have hZ3 : (gZB tb) (h.1, h.2.1, h.2.2.1, h.2.2.2) := hZ
      exact hE _ v8 (by omega) (qa_Inv_of0 ⟨hH.1, hH.2⟩ hB ⟨⟨⟨hS2, hX3⟩, hZ3⟩, t⟩ (gS2_ru hS2))
  · refine qm_Ru.go 2 (c' := (11, [.ref 0, .int s2], [.int 99999, .int s2], h)) rfl ?_
    refine hk_cle (ix := s2.toInt) (iy := 99999) rfl rfl rfl (fun z9 => ?_) (fun z9 => ?_)
    · refine qm_Ru.go 1 (c' := (17, [.ref 0, .int s2], [.ref 0], h)) rfl ?_
      refine hk_getr rfl (hH.1 0 (16, 10) rfl) rfl (hH.2 0 6 (some 42) rfl) ?_
      refine qm_Ru.go 3 (c' := (23, [.ref 0, .int s2], [.int s2, .int (-1), .int 3, .ref 42], h)) rfl ?_
      refine hk_inv (o := 42) (r := []) (as := [.ref 42, .int 3, .int (-1), .int s2]) rfl rfl (hH.1 42 (7, 11) rfl) rfl rfl rfl rfl ?_
      refine qm_Ru.go 1 (c' := (1, [.ref 42, .int 3, .int (-1), .int s2], [.ref 42], h)) rfl ?_
      refine hk_geti (v := f0) rfl (hH.1 42 (7, 11) rfl) rfl q_f0 ?_
      refine qm_Ru.go 1 (c' := (6, [.ref 42, .int 3, .int (-1), .int s2], [.int 60, .int f0], h)) rfl ?_
      refine hk_clt (ix := f0.toInt) (iy := 60) rfl rfl rfl (fun z10 => ?_) (fun z10 => ?_)
      · refine qm_Ru.go 1 (c' := (12, [.ref 42, .int 3, .int (-1), .int s2], [.ref 42], h)) rfl ?_
        refine hk_getr rfl (hH.1 42 (7, 11) rfl) rfl (hH.2 42 1 (some 43) rfl) ?_
        refine qm_Ru.go 1 (c' := (16, [.ref 42, .int 3, .int (-1), .int s2], [.ref 42, .ref 43], h)) rfl ?_
        refine hk_geti (v := f0) rfl (hH.1 42 (7, 11) rfl) rfl q_f0 ?_
        refine qm_Ru.go 1 (c' := (20, [.ref 42, .int 3, .int (-1), .int s2], [.int 3, .int f0, .ref 43], h)) rfl ?_
        refine hk_ias rfl (hH.1 43 (0, 60) rfl) (by omega) (by omega) ?_
        refine qm_Ru.go 1 (c' := (22, [.ref 42, .int 3, .int (-1), .int s2], [.ref 42], (h.1, qm_up h.2.1 43 (f0.toInt.toNat) 3, h.2.2.1, h.2.2.2))) rfl ?_
        refine hk_getr rfl (hH.1 42 (7, 11) rfl) rfl (hH.2 42 2 (some 44) rfl) ?_
        refine qm_Ru.go 1 (c' := (26, [.ref 42, .int 3, .int (-1), .int s2], [.ref 42, .ref 44], (h.1, qm_up h.2.1 43 (f0.toInt.toNat) 3, h.2.2.1, h.2.2.2))) rfl ?_
        refine hk_geti (v := f0) rfl (hH.1 42 (7, 11) rfl) rfl (show (qm_up h.2.1 43 (f0.toInt.toNat) 3) 42 7 = _ from ((hk_ot rfl).trans q_f0)) ?_
        refine qm_Ru.go 1 (c' := (30, [.ref 42, .int 3, .int (-1), .int s2], [.int (-1), .int f0, .ref 44], (h.1, qm_up h.2.1 43 (f0.toInt.toNat) 3, h.2.2.1, h.2.2.2))) rfl ?_
        refine hk_ias rfl (hH.1 44 (0, 60) rfl) (by omega) (by omega) ?_
        refine qm_Ru.go 1 (c' := (32, [.ref 42, .int 3, .int (-1), .int s2], [.ref 42], (h.1, qm_up (qm_up h.2.1 43 (f0.toInt.toNat) 3) 44 (f0.toInt.toNat) (-1), h.2.2.1, h.2.2.2))) rfl ?_
        refine hk_getr rfl (hH.1 42 (7, 11) rfl) rfl (hH.2 42 3 (some 45) rfl) ?_
        refine qm_Ru.go 1 (c' := (36, [.ref 42, .int 3, .int (-1), .int s2], [.ref 42, .ref 45], (h.1, qm_up (qm_up h.2.1 43 (f0.toInt.toNat) 3) 44 (f0.toInt.toNat) (-1), h.2.2.1, h.2.2.2))) rfl ?_
        refine hk_geti (v := f0) rfl (hH.1 42 (7, 11) rfl) rfl (show (qm_up (qm_up h.2.1 43 (f0.toInt.toNat) 3) 44 (f0.toInt.toNat) (-1)) 42 7 = _ from ((hk_ot rfl).trans ((hk_ot rfl).trans q_f0))) ?_
        refine qm_Ru.go 1 (c' := (40, [.ref 42, .int 3, .int (-1), .int s2], [.int s2, .int f0, .ref 45], (h.1, qm_up (qm_up h.2.1 43 (f0.toInt.toNat) 3) 44 (f0.toInt.toNat) (-1), h.2.2.1, h.2.2.2))) rfl ?_
        refine hk_ias rfl (hH.1 45 (0, 60) rfl) (by omega) (by omega) ?_
        refine qm_Ru.go 5 (c' := (48, [.ref 42, .int 3, .int (-1), .int s2], [.ref 42, .ref 42], (h.1, qm_up (qm_up (qm_up h.2.1 43 (f0.toInt.toNat) 3) 44 (f0.toInt.toNat) (-1)) 45 (f0.toInt.toNat) s2, h.2.2.1, h.2.2.2))) rfl ?_
        refine hk_geti (v := f0) rfl (hH.1 42 (7, 11) rfl) rfl (show (qm_up (qm_up (qm_up h.2.1 43 (f0.toInt.toNat) 3) 44 (f0.toInt.toNat) (-1)) 45 (f0.toInt.toNat) s2) 42 7 = _ from ((hk_ot rfl).trans ((hk_ot rfl).trans ((hk_ot rfl).trans q_f0)))) ?_
        refine qm_Ru.go 0 (c' := (51, [.ref 42, .int 3, .int (-1), .int s2], [.int f0, .ref 42], (h.1, qm_up (qm_up (qm_up h.2.1 43 (f0.toInt.toNat) 3) 44 (f0.toInt.toNat) (-1)) 45 (f0.toInt.toNat) s2, h.2.2.1, h.2.2.2))) rfl ?_
        refine hk_inv (o := 42) (r := []) (as := [.ref 42, .int f0]) rfl rfl (hH.1 42 (7, 11) rfl) rfl rfl rfl rfl (jr_im kwF_nz (by exact hX.2) (hs_keep (h := (h.1, qm_up (qm_up (qm_up h.2.1 43 (f0.toInt.toNat) 3) 44 (f0.toInt.toNat) (-1)) 45 (f0.toInt.toNat) s2, h.2.2.1, h.2.2.2)) h6 hH (hb_up (o := 45) (k := f0.toInt.toNat) (x := s2) (hb_up (o := 44) (k := f0.toInt.toNat) (x := (-1)) (hb_up (o := 43) (k := f0.toInt.toNat) (x := 3) hB ⟨(show (0 : Int) ≤ 3 from by decide), (show (3 : Int) ≤ 4 from by decide)⟩) ⟨(show (-1 : Int) ≤ -1 from by decide), (show (-1 : Int) ≤ 29 from by decide)⟩) ⟨by show (-99999 : Int) ≤ s2.toInt; omega, by show s2.toInt ≤ (99999 : Int); omega⟩) (hk_ru_up (hk_ru_up (hk_ru_up (gS2_ru hS) rfl) rfl) rfl) ⟨by show (0 : Int) ≤ f0.toInt; omega, by show f0.toInt ≤ (59 : Int); omega⟩ (by omega) (fun I11 J12 hB_I11 e_I11 => ?_)))
        intro hK_J12
        have e_I11 : ∀ o, [46, 47, 48].contains o = false → ∀ i, I11 o i = (qm_up (qm_up (qm_up h.2.1 43 (f0.toInt.toNat) 3) 44 (f0.toInt.toNat) (-1)) 45 (f0.toInt.toNat) s2) o i := e_I11
        refine qm_Ru.go 2 (c' := (56, [.ref 42, .int 3, .int (-1), .int s2], [.ref 42, .ref 42], (h.1, I11, J12, h.2.2.2))) rfl ?_
        refine hk_geti (v := f0) rfl (hH.1 42 (7, 11) rfl) rfl (show (I11) 42 7 = _ from ((e_I11 42 rfl 7).trans ((hk_ot rfl).trans ((hk_ot rfl).trans ((hk_ot rfl).trans q_f0))))) ?_
        refine qm_Ru.go 2 (c' := (61, [.ref 42, .int 3, .int (-1), .int s2], [.int (f0 + 1), .ref 42], (h.1, I11, J12, h.2.2.2))) rfl ?_
        obtain ⟨v13, q_v13, e_v13⟩ := hk_add (x := f0) (y := 1) (a := f0.toInt) (b := 1) rfl rfl (by omega) (by omega)
        rw [q_v13]
        refine hk_puti rfl (hH.1 42 (7, 11) rfl) rfl ?_
        refine qm_Ru.go 1 (c' := (65, [.ref 42, .int 3, .int (-1), .int s2], [.ref 42], (h.1, qm_up I11 42 7 v13, J12, h.2.2.2))) rfl ?_
        refine hk_geti (v := v13) rfl (hH.1 42 (7, 11) rfl) rfl (show (qm_up I11 42 7 v13) 42 7 = _ from (hk_same)) ?_
        refine qm_Ru.go 2 (c' := (70, [.ref 42, .int 3, .int (-1), .int s2], [.int (v13 - 1)], (h.1, qm_up I11 42 7 v13, J12, h.2.2.2))) rfl ?_
        obtain ⟨v14, q_v14, e_v14⟩ := hk_sub (x := v13) (y := 1) (a := v13.toInt) (b := 1) rfl rfl (by omega) (by omega)
        rw [q_v14]
        refine qm_Ru.rt (v := (some (.int v14))) (h' := (h.1, qm_up I11 42 7 v13, J12, h.2.2.2)) rfl ?_
        refine qm_Ru.go 0 (c' := (26, [.ref 0, .int s2], [.int v14], (h.1, qm_up I11 42 7 v13, J12, h.2.2.2))) rfl ?_
        refine qm_Ru.rt (v := (some (.int v14))) (h' := (h.1, qm_up I11 42 7 v13, J12, h.2.2.2)) rfl ?_
        refine qm_Ru.go 6 (c' := (1325, [.retAddr 0, .ref 0, .ref 118, .int i], [.int (i + 1), .retAddr 0, .ref 118], (h.1, qm_up I11 42 7 v13, J12, h.2.2.2))) rfl ?_
        rw [q_v1]
        refine hk_scr (v := s2) rfl (by omega) (by omega) q_s2 ?_
        refine qm_Ru.go 0 (c' := (1326, [.retAddr 0, .ref 0, .ref 118, .int i], [.int s2, .ref 118], (h.1, qm_up I11 42 7 v13, J12, h.2.2.2))) rfl ?_
        refine hk_inv (o := 118) (r := []) (as := [.ref 118, .int s2]) rfl rfl (hH.1 118 (17, 105) rfl) rfl rfl rfl rfl ?_
        refine qm_Ru.go 1 (c' := (1, [.ref 118, .int s2, .float 0], [.ref 118], (h.1, qm_up I11 42 7 v13, J12, h.2.2.2))) rfl ?_
        refine hk_geti (v := f0) rfl (hH.1 118 (17, 105) rfl) rfl (show (qm_up I11 42 7 v13) 118 70 = _ from ((hk_ot rfl).trans ((e_I11 118 rfl 70).trans ((hk_ot rfl).trans ((hk_ot rfl).trans ((hk_ot rfl).trans p_f0)))))) ?_
        refine qm_Ru.go 1 (c' := (6, [.ref 118, .int s2, .float 0], [.int 60, .int f0], (h.1, qm_up I11 42 7 v13, J12, h.2.2.2))) rfl ?_
        refine hk_ceq (ix := f0.toInt) (iy := 60) rfl rfl rfl (fun z16 => by exfalso; omega) (fun z16 => ?_)
        refine qm_Ru.go 3 (c' := (16, [.ref 118, .int s2, .float 0], [.int 99999, .int (-99999), .int s2], (h.1, qm_up I11 42 7 v13, J12, h.2.2.2))) rfl ?_
        refine qm_Ru.call (j := 270) (as := [.int s2, .int (-99999), .int 99999]) (c' := (19, [.ref 118, .int s2, .float 0], [], (h.1, qm_up I11 42 7 v13, J12, h.2.2.2))) rfl rfl rfl ?_
        refine qm_Ru.go 2 (c' := (2, [.int s2, .int (-99999), .int 99999], [.int (-99999), .int s2], (h.1, qm_up I11 42 7 v13, J12, h.2.2.2))) rfl ?_
        refine hk_clt (ix := s2.toInt) (iy := (-99999)) rfl rfl rfl (fun z17 => by exfalso; omega) (fun z17 => ?_)
        refine qm_Ru.go 2 (c' := (7, [.int s2, .int (-99999), .int 99999], [.int 99999, .int s2], (h.1, qm_up I11 42 7 v13, J12, h.2.2.2))) rfl ?_
        refine hk_cgt (ix := s2.toInt) (iy := 99999) rfl rfl rfl (fun z18 => by exfalso; omega) (fun z18 => ?_)
        refine qm_Ru.go 2 (c' := (15, [.int s2, .int (-99999), .int 99999], [.int 1], (h.1, qm_up I11 42 7 v13, J12, h.2.2.2))) rfl ?_
        refine qm_Ru.rt (v := (some (.int 1))) (h' := (h.1, qm_up I11 42 7 v13, J12, h.2.2.2)) rfl ?_
        refine qm_Ru.go 3 (c' := (26, [.ref 118, .int s2, .int 0], [], (h.1, qm_up I11 42 7 v13, J12, h.2.2.2))) rfl ?_
        have hBx_I19 : hk_B (qm_up I11 42 7 v13) := (hb_up (o := 42) (k := 7) (x := v13) hB_I11 ⟨by show (0 : Int) ≤ v13.toInt; omega, by show v13.toInt ≤ (60 : Int); omega⟩)
        refine hl_rdg (h := (h.1, qm_up I11 42 7 v13, J12, h.2.2.2)) h6 hH hBx_I19 (s := s2) (f := f0) (show (qm_up I11 42 7 v13) 118 70 = _ from ((hk_ot rfl).trans ((e_I11 118 rfl 70).trans ((hk_ot rfl).trans ((hk_ot rfl).trans ((hk_ot rfl).trans p_f0)))))) (by omega) (fun I19 J20 b21 hB_I19 e_I19 ej => ?_) _ (qm_up I11 42 7 v13) (J12) 0 hBx_I19 (fun _ _ _ => rfl) (by decide) rfl rfl
        have ej : J12 = J20 := ej.symm
        subst ej
        have e_I19 : ∀ o, [167].contains o = false → ∀ i, I19 o i = (qm_up I11 42 7 v13) o i := e_I19
        refine qm_Ru.go 4 (c' := (88, [.ref 118, .int s2, .int b21], [.int 0, .int s2, .int 3, .ref 118], (h.1, I19, J12, h.2.2.2))) rfl ?_
        refine hk_inv (o := 118) (r := []) (as := [.ref 118, .int 3, .int s2, .int 0]) rfl rfl (hH.1 118 (17, 105) rfl) rfl rfl rfl rfl ?_
        refine qm_Ru.go 1 (c' := (1, [.ref 118, .int 3, .int s2, .int 0], [.ref 118], (h.1, I19, J12, h.2.2.2))) rfl ?_
        refine hk_getr rfl (hH.1 118 (17, 105) rfl) rfl (hH.2 118 71 (some 164) rfl) ?_
        refine qm_Ru.go 1 (c' := (5, [.ref 118, .int 3, .int s2, .int 0], [.ref 118, .ref 164], (h.1, I19, J12, h.2.2.2))) rfl ?_
        refine hk_geti (v := f0) rfl (hH.1 118 (17, 105) rfl) rfl (show (I19) 118 70 = _ from ((e_I19 118 rfl 70).trans ((hk_ot rfl).trans ((e_I11 118 rfl 70).trans ((hk_ot rfl).trans ((hk_ot rfl).trans ((hk_ot rfl).trans p_f0))))))) ?_
        refine qm_Ru.go 1 (c' := (9, [.ref 118, .int 3, .int s2, .int 0], [.int 3, .int f0, .ref 164], (h.1, I19, J12, h.2.2.2))) rfl ?_
        refine hk_ias rfl (hH.1 164 (0, 60) rfl) (by omega) (by omega) ?_
        refine qm_Ru.go 1 (c' := (11, [.ref 118, .int 3, .int s2, .int 0], [.ref 118], (h.1, qm_up I19 164 (f0.toInt.toNat) 3, J12, h.2.2.2))) rfl ?_
        refine hk_getr rfl (hH.1 118 (17, 105) rfl) rfl (hH.2 118 72 (some 165) rfl) ?_
        refine qm_Ru.go 1 (c' := (15, [.ref 118, .int 3, .int s2, .int 0], [.ref 118, .ref 165], (h.1, qm_up I19 164 (f0.toInt.toNat) 3, J12, h.2.2.2))) rfl ?_
        refine hk_geti (v := f0) rfl (hH.1 118 (17, 105) rfl) rfl (show (qm_up I19 164 (f0.toInt.toNat) 3) 118 70 = _ from ((hk_ot rfl).trans ((e_I19 118 rfl 70).trans ((hk_ot rfl).trans ((e_I11 118 rfl 70).trans ((hk_ot rfl).trans ((hk_ot rfl).trans ((hk_ot rfl).trans p_f0)))))))) ?_
        refine qm_Ru.go 1 (c' := (19, [.ref 118, .int 3, .int s2, .int 0], [.int s2, .int f0, .ref 165], (h.1, qm_up I19 164 (f0.toInt.toNat) 3, J12, h.2.2.2))) rfl ?_
        refine hk_ias rfl (hH.1 165 (0, 60) rfl) (by omega) (by omega) ?_
        refine qm_Ru.go 1 (c' := (21, [.ref 118, .int 3, .int s2, .int 0], [.ref 118], (h.1, qm_up (qm_up I19 164 (f0.toInt.toNat) 3) 165 (f0.toInt.toNat) s2, J12, h.2.2.2))) rfl ?_
        refine hk_getr rfl (hH.1 118 (17, 105) rfl) rfl (hH.2 118 73 (some 166) rfl) ?_
        refine qm_Ru.go 1 (c' := (25, [.ref 118, .int 3, .int s2, .int 0], [.ref 118, .ref 166], (h.1, qm_up (qm_up I19 164 (f0.toInt.toNat) 3) 165 (f0.toInt.toNat) s2, J12, h.2.2.2))) rfl ?_
        refine hk_geti (v := f0) rfl (hH.1 118 (17, 105) rfl) rfl (show (qm_up (qm_up I19 164 (f0.toInt.toNat) 3) 165 (f0.toInt.toNat) s2) 118 70 = _ from ((hk_ot rfl).trans ((hk_ot rfl).trans ((e_I19 118 rfl 70).trans ((hk_ot rfl).trans ((e_I11 118 rfl 70).trans ((hk_ot rfl).trans ((hk_ot rfl).trans ((hk_ot rfl).trans p_f0))))))))) ?_
        refine qm_Ru.go 1 (c' := (29, [.ref 118, .int 3, .int s2, .int 0], [.int 0, .int f0, .ref 166], (h.1, qm_up (qm_up I19 164 (f0.toInt.toNat) 3) 165 (f0.toInt.toNat) s2, J12, h.2.2.2))) rfl ?_
        refine hk_ias rfl (hH.1 166 (0, 60) rfl) (by omega) (by omega) ?_
        refine qm_Ru.go 2 (c' := (32, [.ref 118, .int 3, .int s2, .int 0], [.ref 118, .ref 118], (h.1, qm_up (qm_up (qm_up I19 164 (f0.toInt.toNat) 3) 165 (f0.toInt.toNat) s2) 166 (f0.toInt.toNat) 0, J12, h.2.2.2))) rfl ?_
        refine hk_geti (v := f0) rfl (hH.1 118 (17, 105) rfl) rfl (show (qm_up (qm_up (qm_up I19 164 (f0.toInt.toNat) 3) 165 (f0.toInt.toNat) s2) 166 (f0.toInt.toNat) 0) 118 70 = _ from ((hk_ot rfl).trans ((hk_ot rfl).trans ((hk_ot rfl).trans ((e_I19 118 rfl 70).trans ((hk_ot rfl).trans ((e_I11 118 rfl 70).trans ((hk_ot rfl).trans ((hk_ot rfl).trans ((hk_ot rfl).trans p_f0)))))))))) ?_
        refine qm_Ru.go 2 (c' := (37, [.ref 118, .int 3, .int s2, .int 0], [.int (f0 + 1), .ref 118], (h.1, qm_up (qm_up (qm_up I19 164 (f0.toInt.toNat) 3) 165 (f0.toInt.toNat) s2) 166 (f0.toInt.toNat) 0, J12, h.2.2.2))) rfl ?_
        rw [q_v13]
        refine hk_puti rfl (hH.1 118 (17, 105) rfl) rfl ?_
        refine qm_Ru.go 1 (c' := (41, [.ref 118, .int 3, .int s2, .int 0], [.ref 118], (h.1, qm_up (qm_up (qm_up (qm_up I19 164 (f0.toInt.toNat) 3) 165 (f0.toInt.toNat) s2) 166 (f0.toInt.toNat) 0) 118 70 v13, J12, h.2.2.2))) rfl ?_
        refine hk_geti (v := v13) rfl (hH.1 118 (17, 105) rfl) rfl (show (qm_up (qm_up (qm_up (qm_up I19 164 (f0.toInt.toNat) 3) 165 (f0.toInt.toNat) s2) 166 (f0.toInt.toNat) 0) 118 70 v13) 118 70 = _ from (hk_same)) ?_
        refine qm_Ru.go 2 (c' := (46, [.ref 118, .int 3, .int s2, .int 0], [.int (v13 - 1)], (h.1, qm_up (qm_up (qm_up (qm_up I19 164 (f0.toInt.toNat) 3) 165 (f0.toInt.toNat) s2) 166 (f0.toInt.toNat) 0) 118 70 v13, J12, h.2.2.2))) rfl ?_
        rw [q_v14]
        refine qm_Ru.rt (v := (some (.int v14))) (h' := (h.1, qm_up (qm_up (qm_up (qm_up I19 164 (f0.toInt.toNat) 3) 165 (f0.toInt.toNat) s2) 166 (f0.toInt.toNat) 0) 118 70 v13, J12, h.2.2.2)) rfl ?_
        refine qm_Ru.go 0 (c' := (91, [.ref 118, .int s2, .int b21], [.int v14], (h.1, qm_up (qm_up (qm_up (qm_up I19 164 (f0.toInt.toNat) 3) 165 (f0.toInt.toNat) s2) 166 (f0.toInt.toNat) 0) 118 70 v13, J12, h.2.2.2))) rfl ?_
        refine qm_Ru.rt (v := (some (.int v14))) (h' := (h.1, qm_up (qm_up (qm_up (qm_up I19 164 (f0.toInt.toNat) 3) 165 (f0.toInt.toNat) s2) 166 (f0.toInt.toNat) 0) 118 70 v13, J12, h.2.2.2)) rfl ?_
        refine qm_Ru.go 3 (c' := (2081, [.retAddr 0, .ref 0, .ref 118, .int (i + 6)], [], (h.1, qm_up (qm_up (qm_up (qm_up I19 164 (f0.toInt.toNat) 3) 165 (f0.toInt.toNat) s2) 166 (f0.toInt.toNat) 0) 118 70 v13, J12, h.2.2.2))) rfl ?_
        obtain ⟨v24, q_v24, e_v24⟩ := hk_add (x := i) (y := 6) (a := i.toInt) (b := 6) rfl rfl (by omega) (by omega)
        rw [q_v24]
        refine qm_Ru.go 1 (c' := (18, [.retAddr 0, .ref 0, .ref 118, .int v24], [], (h.1, qm_up (qm_up (qm_up (qm_up I19 164 (f0.toInt.toNat) 3) 165 (f0.toInt.toNat) s2) 166 (f0.toInt.toNat) 0) 118 70 v13, J12, h.2.2.2))) rfl ?_
        have er : ∀ o, [42, 43, 44, 45, 46, 47, 48, 118, 164, 165, 166, 167].contains o = false → ∀ i, (qm_up (qm_up (qm_up (qm_up I19 164 (f0.toInt.toNat) 3) 165 (f0.toInt.toNat) s2) 166 (f0.toInt.toNat) 0) 118 70 v13) o i = h.2.1 o i := (fun o ho i => ((hk_mod ho rfl).trans ((hk_mod ho rfl).trans ((hk_mod ho rfl).trans ((hk_mod ho rfl).trans ((e_I19 o (hk_ms rfl ho) i).trans ((hk_mod ho rfl).trans ((e_I11 o (hk_ms rfl ho) i).trans ((hk_mod ho rfl).trans ((hk_mod ho rfl).trans ((hk_mod ho rfl).trans rfl)))))))))))
        have e42 : ∀ i, i ≠ 7 → (qm_up (qm_up (qm_up (qm_up I19 164 (f0.toInt.toNat) 3) 165 (f0.toInt.toNat) s2) 166 (f0.toInt.toNat) 0) 118 70 v13) 42 i = h.2.1 42 i := fun i hi => ((hk_ot rfl).trans ((hk_ot rfl).trans ((hk_ot rfl).trans ((hk_ot rfl).trans ((e_I19 42 rfl _).trans ((hk_ni hi).trans ((e_I11 42 rfl _).trans ((hk_ot rfl).trans ((hk_ot rfl).trans ((hk_ot rfl).trans rfl))))))))))
        have e118 : ∀ i, i ≠ 70 → (qm_up (qm_up (qm_up (qm_up I19 164 (f0.toInt.toNat) 3) 165 (f0.toInt.toNat) s2) 166 (f0.toInt.toNat) 0) 118 70 v13) 118 i = h.2.1 118 i := fun i hi => ((hk_ni hi).trans ((hk_ot rfl).trans ((hk_ot rfl).trans ((hk_ot rfl).trans ((e_I19 118 rfl _).trans ((hk_ot rfl).trans ((e_I11 118 rfl _).trans ((hk_ot rfl).trans ((hk_ot rfl).trans ((hk_ot rfl).trans rfl))))))))))
        have r43 : (qm_up (qm_up (qm_up (qm_up I19 164 (f0.toInt.toNat) 3) 165 (f0.toInt.toNat) s2) 166 (f0.toInt.toNat) 0) 118 70 v13) 43 (f0.toInt.toNat) = 3 := ((hk_ot rfl).trans ((hk_ot rfl).trans ((hk_ot rfl).trans ((hk_ot rfl).trans ((e_I19 43 rfl _).trans ((hk_ot rfl).trans ((e_I11 43 rfl _).trans ((hk_ot rfl).trans ((hk_ot rfl).trans hk_same)))))))))
        have r44 : (qm_up (qm_up (qm_up (qm_up I19 164 (f0.toInt.toNat) 3) 165 (f0.toInt.toNat) s2) 166 (f0.toInt.toNat) 0) 118 70 v13) 44 (f0.toInt.toNat) = (-1) := ((hk_ot rfl).trans ((hk_ot rfl).trans ((hk_ot rfl).trans ((hk_ot rfl).trans ((e_I19 44 rfl _).trans ((hk_ot rfl).trans ((e_I11 44 rfl _).trans ((hk_ot rfl).trans hk_same))))))))
        have r45 : (qm_up (qm_up (qm_up (qm_up I19 164 (f0.toInt.toNat) 3) 165 (f0.toInt.toNat) s2) 166 (f0.toInt.toNat) 0) 118 70 v13) 45 (f0.toInt.toNat) = s2 := ((hk_ot rfl).trans ((hk_ot rfl).trans ((hk_ot rfl).trans ((hk_ot rfl).trans ((e_I19 45 rfl _).trans ((hk_ot rfl).trans ((e_I11 45 rfl _).trans hk_same)))))))
        have r164 : (qm_up (qm_up (qm_up (qm_up I19 164 (f0.toInt.toNat) 3) 165 (f0.toInt.toNat) s2) 166 (f0.toInt.toNat) 0) 118 70 v13) 164 (f0.toInt.toNat) = 3 := ((hk_ot rfl).trans ((hk_ot rfl).trans ((hk_ot rfl).trans hk_same)))
        have r165 : (qm_up (qm_up (qm_up (qm_up I19 164 (f0.toInt.toNat) 3) 165 (f0.toInt.toNat) s2) 166 (f0.toInt.toNat) 0) 118 70 v13) 165 (f0.toInt.toNat) = s2 := ((hk_ot rfl).trans ((hk_ot rfl).trans hk_same))
        have r166 : (qm_up (qm_up (qm_up (qm_up I19 164 (f0.toInt.toNat) 3) 165 (f0.toInt.toNat) s2) 166 (f0.toInt.toNat) 0) 118 70 v13) 166 (f0.toInt.toNat) = 0 := ((hk_ot rfl).trans hk_same)
        have rF : gFat (qm_up (qm_up (qm_up (qm_up I19 164 (f0.toInt.toNat) 3) 165 (f0.toInt.toNat) s2) 166 (f0.toInt.toNat) 0) 118 70 v13) (f0.toInt.toNat) := ⟨by rw [r164, r43]; exact ⟨by decide, by decide, rfl⟩, fun z => by rw [r164] at z; first | exact absurd z (by decide) | rw [r44, r165], fun z => by rw [r164] at z; first | exact absurd z (by decide) | rw [r45, r166], fun z => by rw [r164] at z; first | exact absurd z (by decide) | rw [r45, r165], fun z => by rw [r164] at z; exact absurd z (by decide)⟩
        have hG : gR (qm_up (qm_up (qm_up (qm_up I19 164 (f0.toInt.toNat) 3) 165 (f0.toInt.toNat) s2) 166 (f0.toInt.toNat) 0) 118 70 v13) := (gR_fact (I := h.2.1) (I2 := qm_up (qm_up (qm_up (qm_up I19 164 (f0.toInt.toNat) 3) 165 (f0.toInt.toNat) s2) 166 (f0.toInt.toNat) 0) 118 70 v13) (n := f0.toInt.toNat) hS.2 (by rw [q_f0]; omega) (fun o ho i => er o ((show ∀ o ∈ [99, 102, 103, 105, 106, 108, 109, 182, 183, 184, 185], [42, 43, 44, 45, 46, 47, 48, 118, 164, 165, 166, 167].contains o = false from by decide) o ho) i) (List.forall_mem_cons.mpr ⟨fun k hk => ((hk_ot rfl).trans ((hk_ot rfl).trans ((hk_ot rfl).trans ((hk_ot rfl).trans ((e_I19 43 rfl _).trans ((hk_ot rfl).trans ((e_I11 43 rfl _).trans ((hk_ot rfl).trans ((hk_ot rfl).trans ((hk_ni hk).trans rfl)))))))))), List.forall_mem_cons.mpr ⟨fun k hk => ((hk_ot rfl).trans ((hk_ot rfl).trans ((hk_ot rfl).trans ((hk_ot rfl).trans ((e_I19 44 rfl _).trans ((hk_ot rfl).trans ((e_I11 44 rfl _).trans ((hk_ot rfl).trans ((hk_ni hk).trans ((hk_ot rfl).trans rfl)))))))))), List.forall_mem_cons.mpr ⟨fun k hk => ((hk_ot rfl).trans ((hk_ot rfl).trans ((hk_ot rfl).trans ((hk_ot rfl).trans ((e_I19 45 rfl _).trans ((hk_ot rfl).trans ((e_I11 45 rfl _).trans ((hk_ni hk).trans ((hk_ot rfl).trans ((hk_ot rfl).trans rfl)))))))))), List.forall_mem_cons.mpr ⟨fun k hk => ((hk_ot rfl).trans ((hk_ot rfl).trans ((hk_ot rfl).trans ((hk_ni hk).trans ((e_I19 164 rfl _).trans ((hk_ot rfl).trans ((e_I11 164 rfl _).trans ((hk_ot rfl).trans ((hk_ot rfl).trans ((hk_ot rfl).trans rfl)))))))))), List.forall_mem_cons.mpr ⟨fun k hk => ((hk_ot rfl).trans ((hk_ot rfl).trans ((hk_ni hk).trans ((hk_ot rfl).trans ((e_I19 165 rfl _).trans ((hk_ot rfl).trans ((e_I11 165 rfl _).trans ((hk_ot rfl).trans ((hk_ot rfl).trans ((hk_ot rfl).trans rfl)))))))))), List.forall_mem_cons.mpr ⟨fun k hk => ((hk_ot rfl).trans ((hk_ni hk).trans ((hk_ot rfl).trans ((hk_ot rfl).trans ((e_I19 166 rfl _).trans ((hk_ot rfl).trans ((e_I11 166 rfl _).trans ((hk_ot rfl).trans ((hk_ot rfl).trans ((hk_ot rfl).trans rfl)))))))))), fun _ h => absurd h List.not_mem_nil⟩⟩⟩⟩⟩⟩) (er 1 (by decide) 1) (er 6 (by decide) 0) (e118 2 (by decide)) (e118 44 (by decide)) ((congrArg Int32.toInt ((hk_ot rfl).trans ((hk_ot rfl).trans ((hk_ot rfl).trans ((hk_ot rfl).trans ((e_I19 42 rfl _).trans hk_same)))))).trans (by omega)) (((hk_ot rfl).trans ((hk_ot rfl).trans ((hk_ot rfl).trans ((hk_ot rfl).trans ((e_I19 42 rfl _).trans hk_same))))).trans hk_same.symm) rF)
        have hS1 : gS (h.1, qm_up (qm_up (qm_up (qm_up I19 164 (f0.toInt.toNat) 3) 165 (f0.toInt.toNat) s2) 166 (f0.toInt.toNat) 0) 118 70 v13, J12, h.2.2.2) := (gS_34 hS.1 er e42 e118)
        have hS2 : gS2 (h.1, qm_up (qm_up (qm_up (qm_up I19 164 (f0.toInt.toNat) 3) 165 (f0.toInt.toNat) s2) 166 (f0.toInt.toNat) 0) 118 70 v13, J12, h.2.2.2) := ⟨hS1, hG⟩
        have hX3 : gX (h.1, qm_up (qm_up (qm_up (qm_up I19 164 (f0.toInt.toNat) 3) 165 (f0.toInt.toNat) s2) 166 (f0.toInt.toNat) 0) 118 70 v13, J12, h.2.2.2) := ⟨gP_cg hX.1 (fun o ho i => ((hk_ot (n_in ho rfl)).trans ((hk_ot (n_in ho rfl)).trans ((hk_ot (n_in ho rfl)).trans ((hk_ot (n_in ho rfl)).trans ((e_I19 o (n_in3 ho rfl) i).trans ((hk_ot (n_in ho rfl)).trans ((e_I11 o (n_in3 ho rfl) i).trans ((hk_ot (n_in ho rfl)).trans ((hk_ot (n_in ho rfl)).trans ((hk_ot (n_in ho rfl)).trans rfl))))))))))) (show (qm_up (qm_up (qm_up (qm_up I19 164 (f0.toInt.toNat) 3) 165 (f0.toInt.toNat) s2) 166 (f0.toInt.toNat) 0) 118 70 v13) 1 1 = h.2.1 1 1 from ((hk_ot rfl).trans ((hk_ot rfl).trans ((hk_ot rfl).trans ((hk_ot rfl).trans ((e_I19 1 rfl 1).trans ((hk_ot rfl).trans ((e_I11 1 rfl 1).trans ((hk_ot rfl).trans ((hk_ot rfl).trans ((hk_ot rfl).trans rfl))))))))))) (show (qm_up (qm_up (qm_up (qm_up I19 164 (f0.toInt.toNat) 3) 165 (f0.toInt.toNat) s2) 166 (f0.toInt.toNat) 0) 118 70 v13) 3 4 = h.2.1 3 4 from ((hk_ot rfl).trans ((hk_ot rfl).trans ((hk_ot rfl).trans ((hk_ot rfl).trans ((e_I19 3 rfl 4).trans ((hk_ot rfl).trans ((e_I11 3 rfl 4).trans ((hk_ot rfl).trans ((hk_ot rfl).trans ((hk_ot rfl).trans rfl))))))))))) (show (qm_up (qm_up (qm_up (qm_up I19 164 (f0.toInt.toNat) 3) 165 (f0.toInt.toNat) s2) 166 (f0.toInt.toNat) 0) 118 70 v13) 118 17 = h.2.1 118 17 from ((hk_neq (by decide)).trans ((hk_ot rfl).trans ((hk_ot rfl).trans ((hk_ot rfl).trans ((e_I19 118 rfl 17).trans ((hk_ot rfl).trans ((e_I11 118 rfl 17).trans ((hk_ot rfl).trans ((hk_ot rfl).trans ((hk_ot rfl).trans rfl))))))))))), hK_J12⟩
        have hZ3 : (gZB tb) (h.1, qm_up (qm_up (qm_up (qm_up I19 164 (f0.toInt.toNat) 3) 165 (f0.toInt.toNat) s2) 166 (f0.toInt.toNat) 0) 118 70 v13, J12, h.2.2.2) := (gZ_cg (h2 := (h.1, qm_up (qm_up (qm_up (qm_up I19 164 (f0.toInt.toNat) 3) 165 (f0.toInt.toNat) s2) 166 (f0.toInt.toNat) 0) 118 70 v13, J12, h.2.2.2)) hZ (fun o ho i => ((hk_ot (n_in ho rfl)).trans ((hk_ot (n_in ho rfl)).trans ((hk_ot (n_in ho rfl)).trans ((hk_ot (n_in ho rfl)).trans ((e_I19 o (n_in3 ho rfl) i).trans ((hk_ot (n_in ho rfl)).trans ((e_I11 o (n_in3 ho rfl) i).trans ((hk_ot (n_in ho rfl)).trans ((hk_ot (n_in ho rfl)).trans ((hk_ot (n_in ho rfl)).trans rfl))))))))))) (show (qm_up (qm_up (qm_up (qm_up I19 164 (f0.toInt.toNat) 3) 165 (f0.toInt.toNat) s2) 166 (f0.toInt.toNat) 0) 118 70 v13) 6 0 = h.2.1 6 0 from ((hk_ot rfl).trans ((hk_ot rfl).trans ((hk_ot rfl).trans ((hk_ot rfl).trans ((e_I19 6 rfl 0).trans ((hk_ot rfl).trans ((e_I11 6 rfl 0).trans ((hk_ot rfl).trans ((hk_ot rfl).trans ((hk_ot rfl).trans rfl))))))))))) (fun i _ => show (qm_up (qm_up (qm_up (qm_up I19 164 (f0.toInt.toNat) 3) 165 (f0.toInt.toNat) s2) 166 (f0.toInt.toNat) 0) 118 70 v13) 28 i = h.2.1 28 i from ((hk_ot rfl).trans ((hk_ot rfl).trans ((hk_ot rfl).trans ((hk_ot rfl).trans ((e_I19 28 rfl i).trans ((hk_ot rfl).trans ((e_I11 28 rfl i).trans ((hk_ot rfl).trans ((hk_ot rfl).trans ((hk_ot rfl).trans rfl))))))))))) (fun i _ => show (qm_up (qm_up (qm_up (qm_up I19 164 (f0.toInt.toNat) 3) 165 (f0.toInt.toNat) s2) 166 (f0.toInt.toNat) 0) 118 70 v13) 29 i = h.2.1 29 i from ((hk_ot rfl).trans ((hk_ot rfl).trans ((hk_ot rfl).trans ((hk_ot rfl).trans ((e_I19 29 rfl i).trans ((hk_ot rfl).trans ((e_I11 29 rfl i).trans ((hk_ot rfl).trans ((hk_ot rfl).trans ((hk_ot rfl).trans rfl))))))))))) (fun i _ => show (qm_up (qm_up (qm_up (qm_up I19 164 (f0.toInt.toNat) 3) 165 (f0.toInt.toNat) s2) 166 (f0.toInt.toNat) 0) 118 70 v13) 111 i = h.2.1 111 i from ((hk_ot rfl).trans ((hk_ot rfl).trans ((hk_ot rfl).trans ((hk_ot rfl).trans ((e_I19 111 rfl i).trans ((hk_ot rfl).trans ((e_I11 111 rfl i).trans ((hk_ot rfl).trans ((hk_ot rfl).trans ((hk_ot rfl).trans rfl))))))))))) (fun i _ => show (qm_up (qm_up (qm_up (qm_up I19 164 (f0.toInt.toNat) 3) 165 (f0.toInt.toNat) s2) 166 (f0.toInt.toNat) 0) 118 70 v13) 51 i = h.2.1 51 i from ((hk_ot rfl).trans ((hk_ot rfl).trans ((hk_ot rfl).trans ((hk_ot rfl).trans ((e_I19 51 rfl i).trans ((hk_ot rfl).trans ((e_I11 51 rfl i).trans ((hk_ot rfl).trans ((hk_ot rfl).trans ((hk_ot rfl).trans rfl))))))))))) (List.forall_mem_cons.mpr ⟨(show (qm_up (qm_up (qm_up (qm_up I19 164 (f0.toInt.toNat) 3) 165 (f0.toInt.toNat) s2) 166 (f0.toInt.toNat) 0) 118 70 v13) 118 18 = h.2.1 118 18 from ((hk_neq (by decide)).trans ((hk_ot rfl).trans ((hk_ot rfl).trans ((hk_ot rfl).trans ((e_I19 118 rfl 18).trans ((hk_ot rfl).trans ((e_I11 118 rfl 18).trans ((hk_ot rfl).trans ((hk_ot rfl).trans ((hk_ot rfl).trans rfl))))))))))), List.forall_mem_cons.mpr ⟨(show (qm_up (qm_up (qm_up (qm_up I19 164 (f0.toInt.toNat) 3) 165 (f0.toInt.toNat) s2) 166 (f0.toInt.toNat) 0) 118 70 v13) 118 44 = h.2.1 118 44 from ((hk_neq (by decide)).trans ((hk_ot rfl).trans ((hk_ot rfl).trans ((hk_ot rfl).trans ((e_I19 118 rfl 44).trans ((hk_ot rfl).trans ((e_I11 118 rfl 44).trans ((hk_ot rfl).trans ((hk_ot rfl).trans ((hk_ot rfl).trans rfl))))))))))), List.forall_mem_cons.mpr ⟨(show (qm_up (qm_up (qm_up (qm_up I19 164 (f0.toInt.toNat) 3) 165 (f0.toInt.toNat) s2) 166 (f0.toInt.toNat) 0) 118 70 v13) 118 54 = h.2.1 118 54 from ((hk_neq (by decide)).trans ((hk_ot rfl).trans ((hk_ot rfl).trans ((hk_ot rfl).trans ((e_I19 118 rfl 54).trans ((hk_ot rfl).trans ((e_I11 118 rfl 54).trans ((hk_ot rfl).trans ((hk_ot rfl).trans ((hk_ot rfl).trans rfl))))))))))), List.forall_mem_cons.mpr ⟨(show (qm_up (qm_up (qm_up (qm_up I19 164 (f0.toInt.toNat) 3) 165 (f0.toInt.toNat) s2) 166 (f0.toInt.toNat) 0) 118 70 v13) 118 75 = h.2.1 118 75 from ((hk_neq (by decide)).trans ((hk_ot rfl).trans ((hk_ot rfl).trans ((hk_ot rfl).trans ((e_I19 118 rfl 75).trans ((hk_ot rfl).trans ((e_I11 118 rfl 75).trans ((hk_ot rfl).trans ((hk_ot rfl).trans ((hk_ot rfl).trans rfl))))))))))), List.forall_mem_cons.mpr ⟨(show (qm_up (qm_up (qm_up (qm_up I19 164 (f0.toInt.toNat) 3) 165 (f0.toInt.toNat) s2) 166 (f0.toInt.toNat) 0) 118 70 v13) 118 85 = h.2.1 118 85 from ((hk_neq (by decide)).trans ((hk_ot rfl).trans ((hk_ot rfl).trans ((hk_ot rfl).trans ((e_I19 118 rfl 85).trans ((hk_ot rfl).trans ((e_I11 118 rfl 85).trans ((hk_ot rfl).trans ((hk_ot rfl).trans ((hk_ot rfl).trans rfl))))))))))), List.forall_mem_cons.mpr ⟨(show (qm_up (qm_up (qm_up (qm_up I19 164 (f0.toInt.toNat) 3) 165 (f0.toInt.toNat) s2) 166 (f0.toInt.toNat) 0) 118 70 v13) 118 91 = h.2.1 118 91 from ((hk_neq (by decide)).trans ((hk_ot rfl).trans ((hk_ot rfl).trans ((hk_ot rfl).trans ((e_I19 118 rfl 91).trans ((hk_ot rfl).trans ((e_I11 118 rfl 91).trans ((hk_ot rfl).trans ((hk_ot rfl).trans ((hk_ot rfl).trans rfl))))))))))), List.forall_mem_cons.mpr ⟨(show (qm_up (qm_up (qm_up (qm_up I19 164 (f0.toInt.toNat) 3) 165 (f0.toInt.toNat) s2) 166 (f0.toInt.toNat) 0) 118 70 v13) 118 92 = h.2.1 118 92 from ((hk_neq (by decide)).trans ((hk_ot rfl).trans ((hk_ot rfl).trans ((hk_ot rfl).trans ((e_I19 118 rfl 92).trans ((hk_ot rfl).trans ((e_I11 118 rfl 92).trans ((hk_ot rfl).trans ((hk_ot rfl).trans ((hk_ot rfl).trans rfl))))))))))), List.forall_mem_cons.mpr ⟨(show (qm_up (qm_up (qm_up (qm_up I19 164 (f0.toInt.toNat) 3) 165 (f0.toInt.toNat) s2) 166 (f0.toInt.toNat) 0) 118 70 v13) 118 93 = h.2.1 118 93 from ((hk_neq (by decide)).trans ((hk_ot rfl).trans ((hk_ot rfl).trans ((hk_ot rfl).trans ((e_I19 118 rfl 93).trans ((hk_ot rfl).trans ((e_I11 118 rfl 93).trans ((hk_ot rfl).trans ((hk_ot rfl).trans ((hk_ot rfl).trans rfl))))))))))), List.forall_mem_cons.mpr ⟨(show (qm_up (qm_up (qm_up (qm_up I19 164 (f0.toInt.toNat) 3) 165 (f0.toInt.toNat) s2) 166 (f0.toInt.toNat) 0) 118 70 v13) 118 94 = h.2.1 118 94 from ((hk_neq (by decide)).trans ((hk_ot rfl).trans ((hk_ot rfl).trans ((hk_ot rfl).trans ((e_I19 118 rfl 94).trans ((hk_ot rfl).trans ((e_I11 118 rfl 94).trans ((hk_ot rfl).trans ((hk_ot rfl).trans ((hk_ot rfl).trans rfl))))))))))), fun _ z => absurd z List.not_mem_nil⟩⟩⟩⟩⟩⟩⟩⟩⟩) rfl)
        exact hE _ v24 (by omega) (qa_Inv_of0 ⟨hH.1, hH.2⟩ (hb_up (o := 118) (k := 70) (x := v13) (hb_up (o := 166) (k := f0.toInt.toNat) (x := 0) (hb_up (o := 165) (k := f0.toInt.toNat) (x := s2) (hb_up (o := 164) (k := f0.toInt.toNat) (x := 3) hB_I19 ⟨(show (0 : Int) ≤ 3 from by decide), (show (3 : Int) ≤ 4 from by decide)⟩) ⟨by show (-99999 : Int) ≤ s2.toInt; omega, by show s2.toInt ≤ (99999 : Int); omega⟩) ⟨(show (0 : Int) ≤ 0 from by decide), (show (0 : Int) ≤ 5 from by decide)⟩) ⟨by show (0 : Int) ≤ v13.toInt; omega, by show v13.toInt ≤ (60 : Int); omega⟩) ⟨⟨⟨hS2, hX3⟩, hZ3⟩, t⟩ (gS2_ru hS2))
      · refine qm_Ru.go 1 (c' := (10, [.ref 42, .int 3, .int (-1), .int s2], [.int (-1)], h)) rfl ?_
        refine qm_Ru.rt (v := (some (.int (-1)))) (h' := h) rfl ?_
        refine qm_Ru.go 0 (c' := (26, [.ref 0, .int s2], [.int (-1)], h)) rfl ?_
        refine qm_Ru.rt (v := (some (.int (-1)))) (h' := h) rfl ?_
        refine qm_Ru.go 6 (c' := (1325, [.retAddr 0, .ref 0, .ref 118, .int i], [.int (i + 1), .retAddr 0, .ref 118], h)) rfl ?_
        rw [q_v1]
        refine hk_scr (v := s2) rfl (by omega) (by omega) q_s2 ?_
        refine qm_Ru.go 0 (c' := (1326, [.retAddr 0, .ref 0, .ref 118, .int i], [.int s2, .ref 118], h)) rfl ?_
        refine hk_inv (o := 118) (r := []) (as := [.ref 118, .int s2]) rfl rfl (hH.1 118 (17, 105) rfl) rfl rfl rfl rfl ?_
        refine qm_Ru.go 1 (c' := (1, [.ref 118, .int s2, .float 0], [.ref 118], h)) rfl ?_
        refine hk_geti (v := f0) rfl (hH.1 118 (17, 105) rfl) rfl p_f0 ?_
        refine qm_Ru.go 1 (c' := (6, [.ref 118, .int s2, .float 0], [.int 60, .int f0], h)) rfl ?_
        refine hk_ceq (ix := f0.toInt) (iy := 60) rfl rfl rfl (fun z26 => ?_) (fun z26 => by exfalso; omega)
        refine qm_Ru.go 1 (c' := (23, [.ref 118, .int s2, .float 0], [.int (-1)], h)) rfl ?_
        refine qm_Ru.rt (v := (some (.int (-1)))) (h' := h) rfl ?_
        refine qm_Ru.go 3 (c' := (2081, [.retAddr 0, .ref 0, .ref 118, .int (i + 6)], [], h)) rfl ?_
        obtain ⟨v27, q_v27, e_v27⟩ := hk_add (x := i) (y := 6) (a := i.toInt) (b := 6) rfl rfl (by omega) (by omega)
        rw [q_v27]
        refine qm_Ru.go 1 (c' := (18, [.retAddr 0, .ref 0, .ref 118, .int v27], [], h)) rfl ?_
        have hG : gR (h.2.1) := hS.2
        have hS1 : gS (h.1, h.2.1, h.2.2.1, h.2.2.2) := hS.1
        have hS2 : gS2 (h.1, h.2.1, h.2.2.1, h.2.2.2) := ⟨hS1, hG⟩
        have hX3 : gX (h.1, h.2.1, h.2.2.1, h.2.2.2) := hX
        have hZ3 : (gZB tb) (h.1, h.2.1, h.2.2.1, h.2.2.2) := hZ
        exact hE _ v27 (by omega) (qa_Inv_of0 ⟨hH.1, hH.2⟩ hB ⟨⟨⟨hS2, hX3⟩, hZ3⟩, t⟩ (gS2_ru hS2))
    · refine qm_Ru.go 1 (c' := (15, [.ref 0, .int s2], [.int (-1)], h)) rfl ?_
      refine qm_Ru.rt (v := (some (.int (-1)))) (h' := h) rfl ?_
      refine qm_Ru.go 6 (c' := (1325, [.retAddr 0, .ref 0, .ref 118, .int i], [.int (i + 1), .retAddr 0, .ref 118], h)) rfl ?_
      rw [q_v1]
      refine hk_scr (v := s2) rfl (by omega) (by omega) q_s2 ?_
      refine qm_Ru.go 0 (c' := (1326, [.retAddr 0, .ref 0, .ref 118, .int i], [.int s2, .ref 118], h)) rfl ?_
      refine hk_inv (o := 118) (r := []) (as := [.ref 118, .int s2]) rfl rfl (hH.1 118 (17, 105) rfl) rfl rfl rfl rfl ?_
      refine qm_Ru.go 1 (c' := (1, [.ref 118, .int s2, .float 0], [.ref 118], h)) rfl ?_
      refine hk_geti (v := f0) rfl (hH.1 118 (17, 105) rfl) rfl p_f0 ?_
      refine qm_Ru.go 1 (c' := (6, [.ref 118, .int s2, .float 0], [.int 60, .int f0], h)) rfl ?_
      refine hk_ceq (ix := f0.toInt) (iy := 60) rfl rfl rfl (fun z29 => ?_) (fun z29 => ?_)
      · refine qm_Ru.go 1 (c' := (23, [.ref 118, .int s2, .float 0], [.int (-1)], h)) rfl ?_
        refine qm_Ru.rt (v := (some (.int (-1)))) (h' := h) rfl ?_
        refine qm_Ru.go 3 (c' := (2081, [.retAddr 0, .ref 0, .ref 118, .int (i + 6)], [], h)) rfl ?_
        obtain ⟨v30, q_v30, e_v30⟩ := hk_add (x := i) (y := 6) (a := i.toInt) (b := 6) rfl rfl (by omega) (by omega)
        rw [q_v30]
        refine qm_Ru.go 1 (c' := (18, [.retAddr 0, .ref 0, .ref 118, .int v30], [], h)) rfl ?_
        have hG : gR (h.2.1) := hS.2
        have hS1 : gS (h.1, h.2.1, h.2.2.1, h.2.2.2) := hS.1
        have hS2 : gS2 (h.1, h.2.1, h.2.2.1, h.2.2.2) := ⟨hS1, hG⟩
        have hX3 : gX (h.1, h.2.1, h.2.2.1, h.2.2.2) := hX
        have hZ3 : (gZB tb) (h.1, h.2.1, h.2.2.1, h.2.2.2) := hZ
        exact hE _ v30 (by omega) (qa_Inv_of0 ⟨hH.1, hH.2⟩ hB ⟨⟨⟨hS2, hX3⟩, hZ3⟩, t⟩ (gS2_ru hS2))
      · refine qm_Ru.go 3 (c' := (16, [.ref 118, .int s2, .float 0], [.int 99999, .int (-99999), .int s2], h)) rfl ?_
        refine qm_Ru.call (j := 270) (as := [.int s2, .int (-99999), .int 99999]) (c' := (19, [.ref 118, .int s2, .float 0], [], h)) rfl rfl rfl ?_
        refine qm_Ru.go 2 (c' := (2, [.int s2, .int (-99999), .int 99999], [.int (-99999), .int s2], h)) rfl ?_
        refine hk_clt (ix := s2.toInt) (iy := (-99999)) rfl rfl rfl (fun z31 => by exfalso; omega) (fun z31 => ?_)
        refine qm_Ru.go 2 (c' := (7, [.int s2, .int (-99999), .int 99999], [.int 99999, .int s2], h)) rfl ?_
        refine hk_cgt (ix := s2.toInt) (iy := 99999) rfl rfl rfl (fun z32 => ?_) (fun z32 => by exfalso; omega)
        refine qm_Ru.go 1 (c' := (15, [.int s2, .int (-99999), .int 99999], [.int 0], h)) rfl ?_
        refine qm_Ru.rt (v := (some (.int 0))) (h' := h) rfl ?_
        refine qm_Ru.go 2 (c' := (23, [.ref 118, .int s2, .float 0], [.int (-1)], h)) rfl ?_
        refine qm_Ru.rt (v := (some (.int (-1)))) (h' := h) rfl ?_
        refine qm_Ru.go 3 (c' := (2081, [.retAddr 0, .ref 0, .ref 118, .int (i + 6)], [], h)) rfl ?_
        obtain ⟨v33, q_v33, e_v33⟩ := hk_add (x := i) (y := 6) (a := i.toInt) (b := 6) rfl rfl (by omega) (by omega)
        rw [q_v33]
        refine qm_Ru.go 1 (c' := (18, [.retAddr 0, .ref 0, .ref 118, .int v33], [], h)) rfl ?_
        have hG : gR (h.2.1) := hS.2
        have hS1 : gS (h.1, h.2.1, h.2.2.1, h.2.2.2) := hS.1
        have hS2 : gS2 (h.1, h.2.1, h.2.2.1, h.2.2.2) := ⟨hS1, hG⟩
        have hX3 : gX (h.1, h.2.1, h.2.2.1, h.2.2.2) := hX
        have hZ3 : (gZB tb) (h.1, h.2.1, h.2.2.1, h.2.2.2) := hZ
        exact hE _ v33 (by omega) (qa_Inv_of0 ⟨hH.1, hH.2⟩ hB ⟨⟨⟨hS2, hX3⟩, hZ3⟩, t⟩ (gS2_ru hS2))
theorem qv_35 {L : Nat} {xs : Nat → Int32} {Z : Option Value → qm_H → Prop} (h6 : 6 ≤ L) (hl : L ≤ 3072) : qv_PB tb tb L xs Z 35 := by
  intro i h i0 i1 hI hE
  obtain ⟨j1, hB, j3, ⟨⟨⟨hS, hX⟩, hZ⟩, t⟩, -⟩ := hI
  have hH : hk_H h := ⟨j1, j3⟩
  have b_i : 0 ≤ i.toInt ∧ i.toInt ≤ 3066 := by omega
  obtain ⟨f0, q_f0⟩ : ∃ v, h.2.1 42 7 = v := ⟨_, rfl⟩
  have p_f0 : h.2.1 118 70 = f0 := hS.2.2.2.1.symm.trans q_f0
  have b_f0 : (0 : Int) ≤ f0.toInt ∧ f0.toInt ≤ 60 := by rw [← q_f0]; exact hB 42 7
  show qm_Ru (some (L, xs)) 300 cd_law (1333, [.retAddr 0, .ref 0, .ref 118, .int i], [], h) Z
  refine qm_Ru.go 5 (c' := (1338, [.retAddr 0, .ref 0, .ref 118, .int i], [.int (i + 1), .retAddr 0, .ref 0], h)) rfl ?_
  obtain ⟨v1, q_v1, e_v1⟩ := hk_add (x := i) (y := 1) (a := i.toInt) (b := 1) rfl rfl (by omega) (by omega)
  rw [q_v1]
  obtain ⟨s2, q_s2⟩ : ∃ v_, xs (v1).toNatClampNeg = v_ := ⟨_, rfl⟩
  have := hk_rng s2
  refine hk_scr (v := s2) rfl (by omega) (by omega) q_s2 ?_
  refine qm_Ru.go 0 (c' := (1339, [.retAddr 0, .ref 0, .ref 118, .int i], [.int s2, .ref 0], h)) rfl ?_
  refine hk_inv (o := 0) (r := []) (as := [.ref 0, .int s2]) rfl rfl (hH.1 0 (16, 10) rfl) rfl rfl rfl rfl ?_
  refine qm_Ru.go 2 (c' := (2, [.ref 0, .int s2], [.ref 0, .int s2], h)) rfl ?_
  refine hk_getr rfl (hH.1 0 (16, 10) rfl) rfl (hH.2 0 6 (some 42) rfl) ?_
  refine qm_Ru.go 0 (c' := (5, [.ref 0, .int s2], [.ref 42, .int s2], h)) rfl ?_
  refine hk_geti (v := f0) rfl (hH.1 42 (7, 11) rfl) rfl q_f0 ?_
  refine qm_Ru.go 0 (c' := (8, [.ref 0, .int s2], [.int f0, .int s2], h)) rfl ?_
  refine qm_Ru.call (j := 65) (as := [.int s2, .int f0]) (c' := (11, [.ref 0, .int s2], [], h)) rfl rfl rfl ?_
  refine qm_Ru.go 1 (c' := (1, [.int s2, .int f0], [.int s2], h)) rfl ?_
  refine hk_zlt (ix := s2.toInt) rfl rfl (fun z3 => ?_) (fun z3 => ?_)
  · refine qm_Ru.go 1 (c' := (14, [.int s2, .int f0], [.int 0], h)) rfl ?_
    refine qm_Ru.rt (v := (some (.int 0))) (h' := h) rfl ?_
    refine qm_Ru.go 2 (c' := (28, [.ref 0, .int s2], [.int (-1)], h)) rfl ?_
    refine qm_Ru.rt (v := (some (.int (-1)))) (h' := h) rfl ?_
    refine qm_Ru.go 6 (c' := (1348, [.retAddr 0, .ref 0, .ref 118, .int i], [.int (i + 1), .retAddr 0, .ref 118], h)) rfl ?_
    rw [q_v1]
    refine hk_scr (v := s2) rfl (by omega) (by omega) q_s2 ?_
    refine qm_Ru.go 0 (c' := (1349, [.retAddr 0, .ref 0, .ref 118, .int i], [.int s2, .ref 118], h)) rfl ?_
    refine hk_inv (o := 118) (r := []) (as := [.ref 118, .int s2]) rfl rfl (hH.1 118 (17, 105) rfl) rfl rfl rfl rfl ?_
    refine qm_Ru.go 1 (c' := (1, [.ref 118, .int s2], [.ref 118], h)) rfl ?_
    refine hk_geti (v := f0) rfl (hH.1 118 (17, 105) rfl) rfl p_f0 ?_
    refine qm_Ru.go 1 (c' := (6, [.ref 118, .int s2], [.int 60, .int f0], h)) rfl ?_
    refine hk_ceq (ix := f0.toInt) (iy := 60) rfl rfl rfl (fun z5 => ?_) (fun z5 => ?_)
    · refine qm_Ru.go 2 (c' := (44, [.ref 118, .int s2], [.int (-1)], h)) rfl ?_
      refine qm_Ru.rt (v := (some (.int (-1)))) (h' := h) rfl ?_
      refine qm_Ru.go 3 (c' := (2081, [.retAddr 0, .ref 0, .ref 118, .int (i + 6)], [], h)) rfl ?_
      obtain ⟨v6, q_v6, e_v6⟩ := hk_add (x := i) (y := 6) (a := i.toInt) (b := 6) rfl rfl (by omega) (by omega)
      rw [q_v6]
      refine qm_Ru.go 1 (c' := (18, [.retAddr 0, .ref 0, .ref 118, .int v6], [], h)) rfl ?_
      have hG : gR (h.2.1) := hS.2
      have hS1 : gS (h.1, h.2.1, h.2.2.1, h.2.2.2) := hS.1
      have hS2 : gS2 (h.1, h.2.1, h.2.2.1, h.2.2.2) := ⟨hS1, hG⟩
      have hX3 : gX (h.1, h.2.1, h.2.2.1, h.2.2.2) := hX
      have hZ3 : (gZB tb) (h.1, h.2.1, h.2.2.1, h.2.2.2) := hZ
      exact hE _ v6 (by omega) (qa_Inv_of0 ⟨hH.1, hH.2⟩ hB ⟨⟨⟨hS2, hX3⟩, hZ3⟩, t⟩ (gS2_ru hS2))
    · refine qm_Ru.go 3 (c' := (12, [.ref 118, .int s2], [.ref 118, .int 0, .int s2], h)) rfl ?_
      refine hk_geti (v := f0) rfl (hH.1 118 (17, 105) rfl) rfl p_f0 ?_
      refine qm_Ru.go 2 (c' := (17, [.ref 118, .int s2], [.int (f0 - 1), .int 0, .int s2], h)) rfl ?_
      obtain ⟨v7, q_v7, e_v7⟩ := hk_sub (x := f0) (y := 1) (a := f0.toInt) (b := 1) rfl rfl (by omega) (by omega)
      rw [q_v7]
      refine qm_Ru.call (j := 270) (as := [.int s2, .int 0, .int v7]) (c' := (20, [.ref 118, .int s2], [], h)) rfl rfl rfl ?_
      refine qm_Ru.go 2 (c' := (2, [.int s2, .int 0, .int v7], [.int 0, .int s2], h)) rfl ?_
      refine hk_clt (ix := s2.toInt) (iy := 0) rfl rfl rfl (fun z8 => ?_) (fun z8 => by exfalso; omega)
      refine qm_Ru.go 1 (c' := (15, [.int s2, .int 0, .int v7], [.int 0], h)) rfl ?_
      refine qm_Ru.rt (v := (some (.int 0))) (h' := h) rfl ?_
      refine qm_Ru.go 3 (c' := (44, [.ref 118, .int s2], [.int (-1)], h)) rfl ?_
      refine qm_Ru.rt (v := (some (.int (-1)))) (h' := h) rfl ?_
      refine qm_Ru.go 3 (c' := (2081, [.retAddr 0, .ref 0, .ref 118, .int (i + 6)], [], h)) rfl ?_
      obtain ⟨v9, q_v9, e_v9⟩ := hk_add (x := i) (y := 6) (a := i.toInt) (b := 6) rfl rfl (by omega) (by omega)
      rw [q_v9]
      refine qm_Ru.go 1 (c' := (18, [.retAddr 0, .ref 0, .ref 118, .int v9], [], h)) rfl ?_
      have hG : gR (h.2.1) := hS.2
      have hS1 : gS (h.1, h.2.1, h.2.2.1, h.2.2.2) := hS.1
      have hS2 : gS2 (h.1, h.2.1, h.2.2.1, h.2.2.2) := ⟨hS1, hG⟩
      have hX3 : gX (h.1, h.2.1, h.2.2.1, h.2.2.2) := hX
      have hZ3 : (gZB tb) (h.1, h.2.1, h.2.2.1, h.2.2.2) := hZ
      exact hE _ v9 (by omega) (qa_Inv_of0 ⟨hH.1, hH.2⟩ hB ⟨⟨⟨hS2, hX3⟩, hZ3⟩, t⟩ (gS2_ru hS2))
  · refine qm_Ru.go 2 (c' := (6, [.int s2, .int f0], [.int f0, .int s2], h)) rfl ?_
    refine hk_cge (ix := s2.toInt) (iy := f0.toInt) rfl rfl rfl (fun z10 => ?_) (fun z10 => ?_)
    · refine qm_Ru.go 1 (c' := (14, [.int s2, .int f0], [.int 0], h)) rfl ?_
      refine qm_Ru.rt (v := (some (.int 0))) (h' := h) rfl ?_
      refine qm_Ru.go 2 (c' := (28, [.ref 0, .int s2], [.int (-1)], h)) rfl ?_
      refine qm_Ru.rt (v := (some (.int (-1)))) (h' := h) rfl ?_
      refine qm_Ru.go 6 (c' := (1348, [.retAddr 0, .ref 0, .ref 118, .int i], [.int (i + 1), .retAddr 0, .ref 118], h)) rfl ?_
      rw [q_v1]
      refine hk_scr (v := s2) rfl (by omega) (by omega) q_s2 ?_
      refine qm_Ru.go 0 (c' := (1349, [.retAddr 0, .ref 0, .ref 118, .int i], [.int s2, .ref 118], h)) rfl ?_
      refine hk_inv (o := 118) (r := []) (as := [.ref 118, .int s2]) rfl rfl (hH.1 118 (17, 105) rfl) rfl rfl rfl rfl ?_
      refine qm_Ru.go 1 (c' := (1, [.ref 118, .int s2], [.ref 118], h)) rfl ?_
      refine hk_geti (v := f0) rfl (hH.1 118 (17, 105) rfl) rfl p_f0 ?_
      refine qm_Ru.go 1 (c' := (6, [.ref 118, .int s2], [.int 60, .int f0], h)) rfl ?_
      refine hk_ceq (ix := f0.toInt) (iy := 60) rfl rfl rfl (fun z12 => ?_) (fun z12 => ?_)
      · refine qm_Ru.go 2 (c' := (44, [.ref 118, .int s2], [.int (-1)], h)) rfl ?_
        refine qm_Ru.rt (v := (some (.int (-1)))) (h' := h) rfl ?_
        refine qm_Ru.go 3 (c' := (2081, [.retAddr 0, .ref 0, .ref 118, .int (i + 6)], [], h)) rfl ?_
        obtain ⟨v13, q_v13, e_v13⟩ := hk_add (x := i) (y := 6) (a := i.toInt) (b := 6) rfl rfl (by omega) (by omega)
        rw [q_v13]
        refine qm_Ru.go 1 (c' := (18, [.retAddr 0, .ref 0, .ref 118, .int v13], [], h)) rfl ?_
        have hG : gR (h.2.1) := hS.2
        have hS1 : gS (h.1, h.2.1, h.2.2.1, h.2.2.2) := hS.1
        have hS2 : gS2 (h.1, h.2.1, h.2.2.1, h.2.2.2) := ⟨hS1, hG⟩
        have hX3 : gX (h.1, h.2.1, h.2.2.1, h.2.2.2) := hX
        have hZ3 : (gZB tb) (h.1, h.2.1, h.2.2.1, h.2.2.2) := hZ
        exact hE _ v13 (by omega) (qa_Inv_of0 ⟨hH.1, hH.2⟩ hB ⟨⟨⟨hS2, hX3⟩, hZ3⟩, t⟩ (gS2_ru hS2))
      · refine qm_Ru.go 3 (c' := (12, [.ref 118, .int s2], [.ref 118, .int 0, .int s2], h)) rfl ?_
        refine hk_geti (v := f0) rfl (hH.1 118 (17, 105) rfl) rfl p_f0 ?_
        refine qm_Ru.go 2 (c' := (17, [.ref 118, .int s2], [.int (f0 - 1), .int 0, .int s2], h)) rfl ?_
        obtain ⟨v14, q_v14, e_v14⟩ := hk_sub (x := f0) (y := 1) (a := f0.toInt) (b := 1) rfl rfl (by omega) (by omega)
        rw [q_v14]
        refine qm_Ru.call (j := 270) (as := [.int s2, .int 0, .int v14]) (c' := (20, [.ref 118, .int s2], [], h)) rfl rfl rfl ?_
        refine qm_Ru.go 2 (c' := (2, [.int s2, .int 0, .int v14], [.int 0, .int s2], h)) rfl ?_
        refine hk_clt (ix := s2.toInt) (iy := 0) rfl rfl rfl (fun z15 => by exfalso; omega) (fun z15 => ?_)
        refine qm_Ru.go 2 (c' := (7, [.int s2, .int 0, .int v14], [.int v14, .int s2], h)) rfl ?_
        refine hk_cgt (ix := s2.toInt) (iy := v14.toInt) rfl rfl rfl (fun z16 => ?_) (fun z16 => ?_)
        · refine qm_Ru.go 1 (c' := (15, [.int s2, .int 0, .int v14], [.int 0], h)) rfl ?_
          refine qm_Ru.rt (v := (some (.int 0))) (h' := h) rfl ?_
          refine qm_Ru.go 3 (c' := (44, [.ref 118, .int s2], [.int (-1)], h)) rfl ?_
          refine qm_Ru.rt (v := (some (.int (-1)))) (h' := h) rfl ?_
          refine qm_Ru.go 3 (c' := (2081, [.retAddr 0, .ref 0, .ref 118, .int (i + 6)], [], h)) rfl ?_
          obtain ⟨v17, q_v17, e_v17⟩ := hk_add (x := i) (y := 6) (a := i.toInt) (b := 6) rfl rfl (by omega) (by omega)
          rw [q_v17]
          refine qm_Ru.go 1 (c' := (18, [.retAddr 0, .ref 0, .ref 118, .int v17], [], h)) rfl ?_
          have hG : gR (h.2.1) := hS.2
          have hS1 : gS (h.1, h.2.1, h.2.2.1, h.2.2.2) := hS.1
          have hS2 : gS2 (h.1, h.2.1, h.2.2.1, h.2.2.2) := ⟨hS1, hG⟩
          have hX3 : gX (h.1, h.2.1, h.2.2.1, h.2.2.2) := hX
          have hZ3 : (gZB tb) (h.1, h.2.1, h.2.2.1, h.2.2.2) := hZ
          exact hE _ v17 (by omega) (qa_Inv_of0 ⟨hH.1, hH.2⟩ hB ⟨⟨⟨hS2, hX3⟩, hZ3⟩, t⟩ (gS2_ru hS2))
        · refine qm_Ru.go 2 (c' := (15, [.int s2, .int 0, .int v14], [.int 1], h)) rfl ?_
          refine qm_Ru.rt (v := (some (.int 1))) (h' := h) rfl ?_
          refine qm_Ru.go 2 (c' := (24, [.ref 118, .int s2], [.ref 118], h)) rfl ?_
          refine hk_getr rfl (hH.1 118 (17, 105) rfl) rfl (hH.2 118 71 (some 164) rfl) ?_
          refine qm_Ru.go 1 (c' := (28, [.ref 118, .int s2], [.int s2, .ref 164], h)) rfl ?_
          obtain ⟨v18, q_v18⟩ : ∃ v_, h.2.1 164 (s2.toInt.toNat) = v_ := ⟨_, rfl⟩
          have b_v18 : (0 : Int) ≤ v18.toInt ∧ v18.toInt ≤ 4 := by rw [← q_v18]; exact hB 164 (s2.toInt.toNat)
          refine hk_ial (v := v18) rfl (hH.1 164 (0, 60) rfl) (by omega) (by omega) q_v18 ?_
          refine qm_Ru.go 1 (c' := (30, [.ref 118, .int s2], [.int 4, .int v18], h)) rfl ?_
          refine hk_cne (ix := v18.toInt) (iy := 4) rfl rfl rfl (fun z19 => ?_) (fun z19 => ?_)
          · refine qm_Ru.go 4 (c' := (41, [.ref 118, .int s2], [.int 0, .int s2, .int 4, .ref 118], h)) rfl ?_
            refine hk_inv (o := 118) (r := []) (as := [.ref 118, .int 4, .int s2, .int 0]) rfl rfl (hH.1 118 (17, 105) rfl) rfl rfl rfl rfl ?_
            refine qm_Ru.go 1 (c' := (1, [.ref 118, .int 4, .int s2, .int 0], [.ref 118], h)) rfl ?_
            refine hk_getr rfl (hH.1 118 (17, 105) rfl) rfl (hH.2 118 71 (some 164) rfl) ?_
            refine qm_Ru.go 1 (c' := (5, [.ref 118, .int 4, .int s2, .int 0], [.ref 118, .ref 164], h)) rfl ?_
            refine hk_geti (v := f0) rfl (hH.1 118 (17, 105) rfl) rfl p_f0 ?_
            refine qm_Ru.go 1 (c' := (9, [.ref 118, .int 4, .int s2, .int 0], [.int 4, .int f0, .ref 164], h)) rfl ?_
            refine hk_ias rfl (hH.1 164 (0, 60) rfl) (by omega) (by omega) ?_
            refine qm_Ru.go 1 (c' := (11, [.ref 118, .int 4, .int s2, .int 0], [.ref 118], (h.1, qm_up h.2.1 164 (f0.toInt.toNat) 4, h.2.2.1, h.2.2.2))) rfl ?_
            refine hk_getr rfl (hH.1 118 (17, 105) rfl) rfl (hH.2 118 72 (some 165) rfl) ?_
            refine qm_Ru.go 1 (c' := (15, [.ref 118, .int 4, .int s2, .int 0], [.ref 118, .ref 165], (h.1, qm_up h.2.1 164 (f0.toInt.toNat) 4, h.2.2.1, h.2.2.2))) rfl ?_
            refine hk_geti (v := f0) rfl (hH.1 118 (17, 105) rfl) rfl (show (qm_up h.2.1 164 (f0.toInt.toNat) 4) 118 70 = _ from ((hk_ot rfl).trans p_f0)) ?_
            refine qm_Ru.go 1 (c' := (19, [.ref 118, .int 4, .int s2, .int 0], [.int s2, .int f0, .ref 165], (h.1, qm_up h.2.1 164 (f0.toInt.toNat) 4, h.2.2.1, h.2.2.2))) rfl ?_
            refine hk_ias rfl (hH.1 165 (0, 60) rfl) (by omega) (by omega) ?_
            refine qm_Ru.go 1 (c' := (21, [.ref 118, .int 4, .int s2, .int 0], [.ref 118], (h.1, qm_up (qm_up h.2.1 164 (f0.toInt.toNat) 4) 165 (f0.toInt.toNat) s2, h.2.2.1, h.2.2.2))) rfl ?_
            refine hk_getr rfl (hH.1 118 (17, 105) rfl) rfl (hH.2 118 73 (some 166) rfl) ?_
            refine qm_Ru.go 1 (c' := (25, [.ref 118, .int 4, .int s2, .int 0], [.ref 118, .ref 166], (h.1, qm_up (qm_up h.2.1 164 (f0.toInt.toNat) 4) 165 (f0.toInt.toNat) s2, h.2.2.1, h.2.2.2))) rfl ?_
            refine hk_geti (v := f0) rfl (hH.1 118 (17, 105) rfl) rfl (show (qm_up (qm_up h.2.1 164 (f0.toInt.toNat) 4) 165 (f0.toInt.toNat) s2) 118 70 = _ from ((hk_ot rfl).trans ((hk_ot rfl).trans p_f0))) ?_
            refine qm_Ru.go 1 (c' := (29, [.ref 118, .int 4, .int s2, .int 0], [.int 0, .int f0, .ref 166], (h.1, qm_up (qm_up h.2.1 164 (f0.toInt.toNat) 4) 165 (f0.toInt.toNat) s2, h.2.2.1, h.2.2.2))) rfl ?_
            refine hk_ias rfl (hH.1 166 (0, 60) rfl) (by omega) (by omega) ?_
            refine qm_Ru.go 2 (c' := (32, [.ref 118, .int 4, .int s2, .int 0], [.ref 118, .ref 118], (h.1, qm_up (qm_up (qm_up h.2.1 164 (f0.toInt.toNat) 4) 165 (f0.toInt.toNat) s2) 166 (f0.toInt.toNat) 0, h.2.2.1, h.2.2.2))) rfl ?_
            refine hk_geti (v := f0) rfl (hH.1 118 (17, 105) rfl) rfl (show (qm_up (qm_up (qm_up h.2.1 164 (f0.toInt.toNat) 4) 165 (f0.toInt.toNat) s2) 166 (f0.toInt.toNat) 0) 118 70 = _ from ((hk_ot rfl).trans ((hk_ot rfl).trans ((hk_ot rfl).trans p_f0)))) ?_
            refine qm_Ru.go 2 (c' := (37, [.ref 118, .int 4, .int s2, .int 0], [.int (f0 + 1), .ref 118], (h.1, qm_up (qm_up (qm_up h.2.1 164 (f0.toInt.toNat) 4) 165 (f0.toInt.toNat) s2) 166 (f0.toInt.toNat) 0, h.2.2.1, h.2.2.2))) rfl ?_
            obtain ⟨v20, q_v20, e_v20⟩ := hk_add (x := f0) (y := 1) (a := f0.toInt) (b := 1) rfl rfl (by omega) (by omega)
            rw [q_v20]
            refine hk_puti rfl (hH.1 118 (17, 105) rfl) rfl ?_
            refine qm_Ru.go 1 (c' := (41, [.ref 118, .int 4, .int s2, .int 0], [.ref 118], (h.1, qm_up (qm_up (qm_up (qm_up h.2.1 164 (f0.toInt.toNat) 4) 165 (f0.toInt.toNat) s2) 166 (f0.toInt.toNat) 0) 118 70 v20, h.2.2.1, h.2.2.2))) rfl ?_
            refine hk_geti (v := v20) rfl (hH.1 118 (17, 105) rfl) rfl (show (qm_up (qm_up (qm_up (qm_up h.2.1 164 (f0.toInt.toNat) 4) 165 (f0.toInt.toNat) s2) 166 (f0.toInt.toNat) 0) 118 70 v20) 118 70 = _ from (hk_same)) ?_
            refine qm_Ru.go 2 (c' := (46, [.ref 118, .int 4, .int s2, .int 0], [.int (v20 - 1)], (h.1, qm_up (qm_up (qm_up (qm_up h.2.1 164 (f0.toInt.toNat) 4) 165 (f0.toInt.toNat) s2) 166 (f0.toInt.toNat) 0) 118 70 v20, h.2.2.1, h.2.2.2))) rfl ?_
            obtain ⟨v21, q_v21, e_v21⟩ := hk_sub (x := v20) (y := 1) (a := v20.toInt) (b := 1) rfl rfl (by omega) (by omega)
            rw [q_v21]
            refine qm_Ru.rt (v := (some (.int v21))) (h' := (h.1, qm_up (qm_up (qm_up (qm_up h.2.1 164 (f0.toInt.toNat) 4) 165 (f0.toInt.toNat) s2) 166 (f0.toInt.toNat) 0) 118 70 v20, h.2.2.1, h.2.2.2)) rfl ?_
            refine qm_Ru.go 0 (c' := (44, [.ref 118, .int s2], [.int v21], (h.1, qm_up (qm_up (qm_up (qm_up h.2.1 164 (f0.toInt.toNat) 4) 165 (f0.toInt.toNat) s2) 166 (f0.toInt.toNat) 0) 118 70 v20, h.2.2.1, h.2.2.2))) rfl ?_
            refine qm_Ru.rt (v := (some (.int v21))) (h' := (h.1, qm_up (qm_up (qm_up (qm_up h.2.1 164 (f0.toInt.toNat) 4) 165 (f0.toInt.toNat) s2) 166 (f0.toInt.toNat) 0) 118 70 v20, h.2.2.1, h.2.2.2)) rfl ?_
            refine qm_Ru.go 3 (c' := (2081, [.retAddr 0, .ref 0, .ref 118, .int (i + 6)], [], (h.1, qm_up (qm_up (qm_up (qm_up h.2.1 164 (f0.toInt.toNat) 4) 165 (f0.toInt.toNat) s2) 166 (f0.toInt.toNat) 0) 118 70 v20, h.2.2.1, h.2.2.2))) rfl ?_
            obtain ⟨v22, q_v22, e_v22⟩ := hk_add (x := i) (y := 6) (a := i.toInt) (b := 6) rfl rfl (by omega) (by omega)
            rw [q_v22]
            refine qm_Ru.go 1 (c' := (18, [.retAddr 0, .ref 0, .ref 118, .int v22], [], (h.1, qm_up (qm_up (qm_up (qm_up h.2.1 164 (f0.toInt.toNat) 4) 165 (f0.toInt.toNat) s2) 166 (f0.toInt.toNat) 0) 118 70 v20, h.2.2.1, h.2.2.2))) rfl ?_
            exfalso
            omega
          · refine qm_Ru.go 2 (c' := (44, [.ref 118, .int s2], [.int (-1)], h)) rfl ?_
            refine qm_Ru.rt (v := (some (.int (-1)))) (h' := h) rfl ?_
            refine qm_Ru.go 3 (c' := (2081, [.retAddr 0, .ref 0, .ref 118, .int (i + 6)], [], h)) rfl ?_
            obtain ⟨v23, q_v23, e_v23⟩ := hk_add (x := i) (y := 6) (a := i.toInt) (b := 6) rfl rfl (by omega) (by omega)
            rw [q_v23]
            refine qm_Ru.go 1 (c' := (18, [.retAddr 0, .ref 0, .ref 118, .int v23], [], h)) rfl ?_
            have hG : gR (h.2.1) := hS.2
            have hS1 : gS (h.1, h.2.1, h.2.2.1, h.2.2.2) := hS.1
            have hS2 : gS2 (h.1, h.2.1, h.2.2.1, h.2.2.2) := ⟨hS1, hG⟩
            have hX3 : gX (h.1, h.2.1, h.2.2.1, h.2.2.2) := hX
            have hZ3 : (gZB tb) (h.1, h.2.1, h.2.2.1, h.2.2.2) := hZ
            exact hE _ v23 (by omega) (qa_Inv_of0 ⟨hH.1, hH.2⟩ hB ⟨⟨⟨hS2, hX3⟩, hZ3⟩, t⟩ (gS2_ru hS2))
    · refine qm_Ru.go 2 (c' := (14, [.int s2, .int f0], [.int 1], h)) rfl ?_
      refine qm_Ru.rt (v := (some (.int 1))) (h' := h) rfl ?_
      refine qm_Ru.go 2 (c' := (15, [.ref 0, .int s2], [.ref 0], h)) rfl ?_
      refine hk_getr rfl (hH.1 0 (16, 10) rfl) rfl (hH.2 0 6 (some 42) rfl) ?_
      refine qm_Ru.go 0 (c' := (18, [.ref 0, .int s2], [.ref 42], h)) rfl ?_
      refine hk_getr rfl (hH.1 42 (7, 11) rfl) rfl (hH.2 42 1 (some 43) rfl) ?_
      refine qm_Ru.go 1 (c' := (22, [.ref 0, .int s2], [.int s2, .ref 43], h)) rfl ?_
      obtain ⟨v24, q_v24⟩ : ∃ v_, h.2.1 43 (s2.toInt.toNat) = v_ := ⟨_, rfl⟩
      have b_v24 : (0 : Int) ≤ v24.toInt ∧ v24.toInt ≤ 4 := by rw [← q_v24]; exact hB 43 (s2.toInt.toNat)
      refine hk_ial (v := v24) rfl (hH.1 43 (0, 60) rfl) (by omega) (by omega) q_v24 ?_
      refine qm_Ru.go 1 (c' := (24, [.ref 0, .int s2], [.int 4, .int v24], h)) rfl ?_
      refine hk_cne (ix := v24.toInt) (iy := 4) rfl rfl rfl (fun z25 => ?_) (fun z25 => ?_)
      · refine qm_Ru.go 1 (c' := (30, [.ref 0, .int s2], [.ref 0], h)) rfl ?_
        refine hk_getr rfl (hH.1 0 (16, 10) rfl) rfl (hH.2 0 6 (some 42) rfl) ?_
        refine qm_Ru.go 3 (c' := (36, [.ref 0, .int s2], [.int s2, .int (-1), .int 4, .ref 42], h)) rfl ?_
        refine hk_inv (o := 42) (r := []) (as := [.ref 42, .int 4, .int (-1), .int s2]) rfl rfl (hH.1 42 (7, 11) rfl) rfl rfl rfl rfl ?_
        refine qm_Ru.go 1 (c' := (1, [.ref 42, .int 4, .int (-1), .int s2], [.ref 42], h)) rfl ?_
        refine hk_geti (v := f0) rfl (hH.1 42 (7, 11) rfl) rfl q_f0 ?_
        refine qm_Ru.go 1 (c' := (6, [.ref 42, .int 4, .int (-1), .int s2], [.int 60, .int f0], h)) rfl ?_
        refine hk_clt (ix := f0.toInt) (iy := 60) rfl rfl rfl (fun z26 => ?_) (fun z26 => ?_)
        · refine qm_Ru.go 1 (c' := (12, [.ref 42, .int 4, .int (-1), .int s2], [.ref 42], h)) rfl ?_
          refine hk_getr rfl (hH.1 42 (7, 11) rfl) rfl (hH.2 42 1 (some 43) rfl) ?_
          refine qm_Ru.go 1 (c' := (16, [.ref 42, .int 4, .int (-1), .int s2], [.ref 42, .ref 43], h)) rfl ?_
          refine hk_geti (v := f0) rfl (hH.1 42 (7, 11) rfl) rfl q_f0 ?_
          refine qm_Ru.go 1 (c' := (20, [.ref 42, .int 4, .int (-1), .int s2], [.int 4, .int f0, .ref 43], h)) rfl ?_
          refine hk_ias rfl (hH.1 43 (0, 60) rfl) (by omega) (by omega) ?_
          refine qm_Ru.go 1 (c' := (22, [.ref 42, .int 4, .int (-1), .int s2], [.ref 42], (h.1, qm_up h.2.1 43 (f0.toInt.toNat) 4, h.2.2.1, h.2.2.2))) rfl ?_
          refine hk_getr rfl (hH.1 42 (7, 11) rfl) rfl (hH.2 42 2 (some 44) rfl) ?_
          refine qm_Ru.go 1 (c' := (26, [.ref 42, .int 4, .int (-1), .int s2], [.ref 42, .ref 44], (h.1, qm_up h.2.1 43 (f0.toInt.toNat) 4, h.2.2.1, h.2.2.2))) rfl ?_
          refine hk_geti (v := f0) rfl (hH.1 42 (7, 11) rfl) rfl (show (qm_up h.2.1 43 (f0.toInt.toNat) 4) 42 7 = _ from ((hk_ot rfl).trans q_f0)) ?_
          refine qm_Ru.go 1 (c' := (30, [.ref 42, .int 4, .int (-1), .int s2], [.int (-1), .int f0, .ref 44], (h.1, qm_up h.2.1 43 (f0.toInt.toNat) 4, h.2.2.1, h.2.2.2))) rfl ?_
          refine hk_ias rfl (hH.1 44 (0, 60) rfl) (by omega) (by omega) ?_
          refine qm_Ru.go 1 (c' := (32, [.ref 42, .int 4, .int (-1), .int s2], [.ref 42], (h.1, qm_up (qm_up h.2.1 43 (f0.toInt.toNat) 4) 44 (f0.toInt.toNat) (-1), h.2.2.1, h.2.2.2))) rfl ?_
          refine hk_getr rfl (hH.1 42 (7, 11) rfl) rfl (hH.2 42 3 (some 45) rfl) ?_
          refine qm_Ru.go 1 (c' := (36, [.ref 42, .int 4, .int (-1), .int s2], [.ref 42, .ref 45], (h.1, qm_up (qm_up h.2.1 43 (f0.toInt.toNat) 4) 44 (f0.toInt.toNat) (-1), h.2.2.1, h.2.2.2))) rfl ?_
          refine hk_geti (v := f0) rfl (hH.1 42 (7, 11) rfl) rfl (show (qm_up (qm_up h.2.1 43 (f0.toInt.toNat) 4) 44 (f0.toInt.toNat) (-1)) 42 7 = _ from ((hk_ot rfl).trans ((hk_ot rfl).trans q_f0))) ?_
          refine qm_Ru.go 1 (c' := (40, [.ref 42, .int 4, .int (-1), .int s2], [.int s2, .int f0, .ref 45], (h.1, qm_up (qm_up h.2.1 43 (f0.toInt.toNat) 4) 44 (f0.toInt.toNat) (-1), h.2.2.1, h.2.2.2))) rfl ?_
          refine hk_ias rfl (hH.1 45 (0, 60) rfl) (by omega) (by omega) ?_
          refine qm_Ru.go 5 (c' := (56, [.ref 42, .int 4, .int (-1), .int s2], [.ref 42, .ref 42], (h.1, qm_up (qm_up (qm_up h.2.1 43 (f0.toInt.toNat) 4) 44 (f0.toInt.toNat) (-1)) 45 (f0.toInt.toNat) s2, h.2.2.1, h.2.2.2))) rfl ?_
          refine hk_geti (v := f0) rfl (hH.1 42 (7, 11) rfl) rfl (show (qm_up (qm_up (qm_up h.2.1 43 (f0.toInt.toNat) 4) 44 (f0.toInt.toNat) (-1)) 45 (f0.toInt.toNat) s2) 42 7 = _ from ((hk_ot rfl).trans ((hk_ot rfl).trans ((hk_ot rfl).trans q_f0)))) ?_
          refine qm_Ru.go 2 (c' := (61, [.ref 42, .int 4, .int (-1), .int s2], [.int (f0 + 1), .ref 42], (h.1, qm_up (qm_up (qm_up h.2.1 43 (f0.toInt.toNat) 4) 44 (f0.toInt.toNat) (-1)) 45 (f0.toInt.toNat) s2, h.2.2.1, h.2.2.2))) rfl ?_
          obtain ⟨v27, q_v27, e_v27⟩ := hk_add (x := f0) (y := 1) (a := f0.toInt) (b := 1) rfl rfl (by omega) (by omega)
          rw [q_v27]
          refine hk_puti rfl (hH.1 42 (7, 11) rfl) rfl ?_
          refine qm_Ru.go 1 (c' := (65, [.ref 42, .int 4, .int (-1), .int s2], [.ref 42], (h.1, qm_up (qm_up (qm_up (qm_up h.2.1 43 (f0.toInt.toNat) 4) 44 (f0.toInt.toNat) (-1)) 45 (f0.toInt.toNat) s2) 42 7 v27, h.2.2.1, h.2.2.2))) rfl ?_
          refine hk_geti (v := v27) rfl (hH.1 42 (7, 11) rfl) rfl (show (qm_up (qm_up (qm_up (qm_up h.2.1 43 (f0.toInt.toNat) 4) 44 (f0.toInt.toNat) (-1)) 45 (f0.toInt.toNat) s2) 42 7 v27) 42 7 = _ from (hk_same)) ?_
          refine qm_Ru.go 2 (c' := (70, [.ref 42, .int 4, .int (-1), .int s2], [.int (v27 - 1)], (h.1, qm_up (qm_up (qm_up (qm_up h.2.1 43 (f0.toInt.toNat) 4) 44 (f0.toInt.toNat) (-1)) 45 (f0.toInt.toNat) s2) 42 7 v27, h.2.2.1, h.2.2.2))) rfl ?_
          obtain ⟨v28, q_v28, e_v28⟩ := hk_sub (x := v27) (y := 1) (a := v27.toInt) (b := 1) rfl rfl (by omega) (by omega)
          rw [q_v28]
          refine qm_Ru.rt (v := (some (.int v28))) (h' := (h.1, qm_up (qm_up (qm_up (qm_up h.2.1 43 (f0.toInt.toNat) 4) 44 (f0.toInt.toNat) (-1)) 45 (f0.toInt.toNat) s2) 42 7 v27, h.2.2.1, h.2.2.2)) rfl ?_
          refine qm_Ru.go 0 (c' := (39, [.ref 0, .int s2], [.int v28], (h.1, qm_up (qm_up (qm_up (qm_up h.2.1 43 (f0.toInt.toNat) 4) 44 (f0.toInt.toNat) (-1)) 45 (f0.toInt.toNat) s2) 42 7 v27, h.2.2.1, h.2.2.2))) rfl ?_
          refine qm_Ru.rt (v := (some (.int v28))) (h' := (h.1, qm_up (qm_up (qm_up (qm_up h.2.1 43 (f0.toInt.toNat) 4) 44 (f0.toInt.toNat) (-1)) 45 (f0.toInt.toNat) s2) 42 7 v27, h.2.2.1, h.2.2.2)) rfl ?_
          refine qm_Ru.go 6 (c' := (1348, [.retAddr 0, .ref 0, .ref 118, .int i], [.int (i + 1), .retAddr 0, .ref 118], (h.1, qm_up (qm_up (qm_up (qm_up h.2.1 43 (f0.toInt.toNat) 4) 44 (f0.toInt.toNat) (-1)) 45 (f0.toInt.toNat) s2) 42 7 v27, h.2.2.1, h.2.2.2))) rfl ?_
          rw [q_v1]
          refine hk_scr (v := s2) rfl (by omega) (by omega) q_s2 ?_
          refine qm_Ru.go 0 (c' := (1349, [.retAddr 0, .ref 0, .ref 118, .int i], [.int s2, .ref 118], (h.1, qm_up (qm_up (qm_up (qm_up h.2.1 43 (f0.toInt.toNat) 4) 44 (f0.toInt.toNat) (-1)) 45 (f0.toInt.toNat) s2) 42 7 v27, h.2.2.1, h.2.2.2))) rfl ?_
          refine hk_inv (o := 118) (r := []) (as := [.ref 118, .int s2]) rfl rfl (hH.1 118 (17, 105) rfl) rfl rfl rfl rfl ?_
          refine qm_Ru.go 1 (c' := (1, [.ref 118, .int s2], [.ref 118], (h.1, qm_up (qm_up (qm_up (qm_up h.2.1 43 (f0.toInt.toNat) 4) 44 (f0.toInt.toNat) (-1)) 45 (f0.toInt.toNat) s2) 42 7 v27, h.2.2.1, h.2.2.2))) rfl ?_
          refine hk_geti (v := f0) rfl (hH.1 118 (17, 105) rfl) rfl (show (qm_up (qm_up (qm_up (qm_up h.2.1 43 (f0.toInt.toNat) 4) 44 (f0.toInt.toNat) (-1)) 45 (f0.toInt.toNat) s2) 42 7 v27) 118 70 = _ from ((hk_ot rfl).trans ((hk_ot rfl).trans ((hk_ot rfl).trans ((hk_ot rfl).trans p_f0))))) ?_
          refine qm_Ru.go 1 (c' := (6, [.ref 118, .int s2], [.int 60, .int f0], (h.1, qm_up (qm_up (qm_up (qm_up h.2.1 43 (f0.toInt.toNat) 4) 44 (f0.toInt.toNat) (-1)) 45 (f0.toInt.toNat) s2) 42 7 v27, h.2.2.1, h.2.2.2))) rfl ?_
          refine hk_ceq (ix := f0.toInt) (iy := 60) rfl rfl rfl (fun z30 => by exfalso; omega) (fun z30 => ?_)
          refine qm_Ru.go 3 (c' := (12, [.ref 118, .int s2], [.ref 118, .int 0, .int s2], (h.1, qm_up (qm_up (qm_up (qm_up h.2.1 43 (f0.toInt.toNat) 4) 44 (f0.toInt.toNat) (-1)) 45 (f0.toInt.toNat) s2) 42 7 v27, h.2.2.1, h.2.2.2))) rfl ?_
          refine hk_geti (v := f0) rfl (hH.1 118 (17, 105) rfl) rfl (show (qm_up (qm_up (qm_up (qm_up h.2.1 43 (f0.toInt.toNat) 4) 44 (f0.toInt.toNat) (-1)) 45 (f0.toInt.toNat) s2) 42 7 v27) 118 70 = _ from ((hk_ot rfl).trans ((hk_ot rfl).trans ((hk_ot rfl).trans ((hk_ot rfl).trans p_f0))))) ?_
          refine qm_Ru.go 2 (c' := (17, [.ref 118, .int s2], [.int (f0 - 1), .int 0, .int s2], (h.1, qm_up (qm_up (qm_up (qm_up h.2.1 43 (f0.toInt.toNat) 4) 44 (f0.toInt.toNat) (-1)) 45 (f0.toInt.toNat) s2) 42 7 v27, h.2.2.1, h.2.2.2))) rfl ?_
          obtain ⟨v31, q_v31, e_v31⟩ := hk_sub (x := f0) (y := 1) (a := f0.toInt) (b := 1) rfl rfl (by omega) (by omega)
          rw [q_v31]
          refine qm_Ru.call (j := 270) (as := [.int s2, .int 0, .int v31]) (c' := (20, [.ref 118, .int s2], [], (h.1, qm_up (qm_up (qm_up (qm_up h.2.1 43 (f0.toInt.toNat) 4) 44 (f0.toInt.toNat) (-1)) 45 (f0.toInt.toNat) s2) 42 7 v27, h.2.2.1, h.2.2.2))) rfl rfl rfl ?_
          refine qm_Ru.go 2 (c' := (2, [.int s2, .int 0, .int v31], [.int 0, .int s2], (h.1, qm_up (qm_up (qm_up (qm_up h.2.1 43 (f0.toInt.toNat) 4) 44 (f0.toInt.toNat) (-1)) 45 (f0.toInt.toNat) s2) 42 7 v27, h.2.2.1, h.2.2.2))) rfl ?_
          refine hk_clt (ix := s2.toInt) (iy := 0) rfl rfl rfl (fun z32 => by exfalso; omega) (fun z32 => ?_)
          refine qm_Ru.go 2 (c' := (7, [.int s2, .int 0, .int v31], [.int v31, .int s2], (h.1, qm_up (qm_up (qm_up (qm_up h.2.1 43 (f0.toInt.toNat) 4) 44 (f0.toInt.toNat) (-1)) 45 (f0.toInt.toNat) s2) 42 7 v27, h.2.2.1, h.2.2.2))) rfl ?_
          refine hk_cgt (ix := s2.toInt) (iy := v31.toInt) rfl rfl rfl (fun z33 => ?_) (fun z33 => ?_)
          · refine qm_Ru.go 1 (c' := (15, [.int s2, .int 0, .int v31], [.int 0], (h.1, qm_up (qm_up (qm_up (qm_up h.2.1 43 (f0.toInt.toNat) 4) 44 (f0.toInt.toNat) (-1)) 45 (f0.toInt.toNat) s2) 42 7 v27, h.2.2.1, h.2.2.2))) rfl ?_
            refine qm_Ru.rt (v := (some (.int 0))) (h' := (h.1, qm_up (qm_up (qm_up (qm_up h.2.1 43 (f0.toInt.toNat) 4) 44 (f0.toInt.toNat) (-1)) 45 (f0.toInt.toNat) s2) 42 7 v27, h.2.2.1, h.2.2.2)) rfl ?_
            refine qm_Ru.go 3 (c' := (44, [.ref 118, .int s2], [.int (-1)], (h.1, qm_up (qm_up (qm_up (qm_up h.2.1 43 (f0.toInt.toNat) 4) 44 (f0.toInt.toNat) (-1)) 45 (f0.toInt.toNat) s2) 42 7 v27, h.2.2.1, h.2.2.2))) rfl ?_
            refine qm_Ru.rt (v := (some (.int (-1)))) (h' := (h.1, qm_up (qm_up (qm_up (qm_up h.2.1 43 (f0.toInt.toNat) 4) 44 (f0.toInt.toNat) (-1)) 45 (f0.toInt.toNat) s2) 42 7 v27, h.2.2.1, h.2.2.2)) rfl ?_
            refine qm_Ru.go 3 (c' := (2081, [.retAddr 0, .ref 0, .ref 118, .int (i + 6)], [], (h.1, qm_up (qm_up (qm_up (qm_up h.2.1 43 (f0.toInt.toNat) 4) 44 (f0.toInt.toNat) (-1)) 45 (f0.toInt.toNat) s2) 42 7 v27, h.2.2.1, h.2.2.2))) rfl ?_
            obtain ⟨v34, q_v34, e_v34⟩ := hk_add (x := i) (y := 6) (a := i.toInt) (b := 6) rfl rfl (by omega) (by omega)
            rw [q_v34]
            refine qm_Ru.go 1 (c' := (18, [.retAddr 0, .ref 0, .ref 118, .int v34], [], (h.1, qm_up (qm_up (qm_up (qm_up h.2.1 43 (f0.toInt.toNat) 4) 44 (f0.toInt.toNat) (-1)) 45 (f0.toInt.toNat) s2) 42 7 v27, h.2.2.1, h.2.2.2))) rfl ?_
            exfalso
            omega
          · refine qm_Ru.go 2 (c' := (15, [.int s2, .int 0, .int v31], [.int 1], (h.1, qm_up (qm_up (qm_up (qm_up h.2.1 43 (f0.toInt.toNat) 4) 44 (f0.toInt.toNat) (-1)) 45 (f0.toInt.toNat) s2) 42 7 v27, h.2.2.1, h.2.2.2))) rfl ?_
            refine qm_Ru.rt (v := (some (.int 1))) (h' := (h.1, qm_up (qm_up (qm_up (qm_up h.2.1 43 (f0.toInt.toNat) 4) 44 (f0.toInt.toNat) (-1)) 45 (f0.toInt.toNat) s2) 42 7 v27, h.2.2.1, h.2.2.2)) rfl ?_
            refine qm_Ru.go 2 (c' := (24, [.ref 118, .int s2], [.ref 118], (h.1, qm_up (qm_up (qm_up (qm_up h.2.1 43 (f0.toInt.toNat) 4) 44 (f0.toInt.toNat) (-1)) 45 (f0.toInt.toNat) s2) 42 7 v27, h.2.2.1, h.2.2.2))) rfl ?_
            refine hk_getr rfl (hH.1 118 (17, 105) rfl) rfl (hH.2 118 71 (some 164) rfl) ?_
            refine qm_Ru.go 1 (c' := (28, [.ref 118, .int s2], [.int s2, .ref 164], (h.1, qm_up (qm_up (qm_up (qm_up h.2.1 43 (f0.toInt.toNat) 4) 44 (f0.toInt.toNat) (-1)) 45 (f0.toInt.toNat) s2) 42 7 v27, h.2.2.1, h.2.2.2))) rfl ?_
            refine hk_ial (v := v24) rfl (hH.1 164 (0, 60) rfl) (by omega) (by omega) (show (qm_up (qm_up (qm_up (qm_up h.2.1 43 (f0.toInt.toNat) 4) 44 (f0.toInt.toNat) (-1)) 45 (f0.toInt.toNat) s2) 42 7 v27) 164 (s2.toInt.toNat) = _ from ((hk_ot rfl).trans ((hk_ot rfl).trans ((hk_ot rfl).trans ((hk_ot rfl).trans ((hS.2.2.2.2.2.1 (s2.toInt.toNat) (by rw [q_f0]; omega)).1.2.2.symm.trans q_v24)))))) ?_
            refine qm_Ru.go 1 (c' := (30, [.ref 118, .int s2], [.int 4, .int v24], (h.1, qm_up (qm_up (qm_up (qm_up h.2.1 43 (f0.toInt.toNat) 4) 44 (f0.toInt.toNat) (-1)) 45 (f0.toInt.toNat) s2) 42 7 v27, h.2.2.1, h.2.2.2))) rfl ?_
            refine hk_cne (ix := v24.toInt) (iy := 4) rfl rfl rfl (fun z35 => ?_) (fun z35 => by exfalso; omega)
            refine qm_Ru.go 4 (c' := (41, [.ref 118, .int s2], [.int 0, .int s2, .int 4, .ref 118], (h.1, qm_up (qm_up (qm_up (qm_up h.2.1 43 (f0.toInt.toNat) 4) 44 (f0.toInt.toNat) (-1)) 45 (f0.toInt.toNat) s2) 42 7 v27, h.2.2.1, h.2.2.2))) rfl ?_
            refine hk_inv (o := 118) (r := []) (as := [.ref 118, .int 4, .int s2, .int 0]) rfl rfl (hH.1 118 (17, 105) rfl) rfl rfl rfl rfl ?_
            refine qm_Ru.go 1 (c' := (1, [.ref 118, .int 4, .int s2, .int 0], [.ref 118], (h.1, qm_up (qm_up (qm_up (qm_up h.2.1 43 (f0.toInt.toNat) 4) 44 (f0.toInt.toNat) (-1)) 45 (f0.toInt.toNat) s2) 42 7 v27, h.2.2.1, h.2.2.2))) rfl ?_
            refine hk_getr rfl (hH.1 118 (17, 105) rfl) rfl (hH.2 118 71 (some 164) rfl) ?_
            refine qm_Ru.go 1 (c' := (5, [.ref 118, .int 4, .int s2, .int 0], [.ref 118, .ref 164], (h.1, qm_up (qm_up (qm_up (qm_up h.2.1 43 (f0.toInt.toNat) 4) 44 (f0.toInt.toNat) (-1)) 45 (f0.toInt.toNat) s2) 42 7 v27, h.2.2.1, h.2.2.2))) rfl ?_
            refine hk_geti (v := f0) rfl (hH.1 118 (17, 105) rfl) rfl (show (qm_up (qm_up (qm_up (qm_up h.2.1 43 (f0.toInt.toNat) 4) 44 (f0.toInt.toNat) (-1)) 45 (f0.toInt.toNat) s2) 42 7 v27) 118 70 = _ from ((hk_ot rfl).trans ((hk_ot rfl).trans ((hk_ot rfl).trans ((hk_ot rfl).trans p_f0))))) ?_
            refine qm_Ru.go 1 (c' := (9, [.ref 118, .int 4, .int s2, .int 0], [.int 4, .int f0, .ref 164], (h.1, qm_up (qm_up (qm_up (qm_up h.2.1 43 (f0.toInt.toNat) 4) 44 (f0.toInt.toNat) (-1)) 45 (f0.toInt.toNat) s2) 42 7 v27, h.2.2.1, h.2.2.2))) rfl ?_
            refine hk_ias rfl (hH.1 164 (0, 60) rfl) (by omega) (by omega) ?_
            refine qm_Ru.go 1 (c' := (11, [.ref 118, .int 4, .int s2, .int 0], [.ref 118], (h.1, qm_up (qm_up (qm_up (qm_up (qm_up h.2.1 43 (f0.toInt.toNat) 4) 44 (f0.toInt.toNat) (-1)) 45 (f0.toInt.toNat) s2) 42 7 v27) 164 (f0.toInt.toNat) 4, h.2.2.1, h.2.2.2))) rfl ?_
            refine hk_getr rfl (hH.1 118 (17, 105) rfl) rfl (hH.2 118 72 (some 165) rfl) ?_
            refine qm_Ru.go 1 (c' := (15, [.ref 118, .int 4, .int s2, .int 0], [.ref 118, .ref 165], (h.1, qm_up (qm_up (qm_up (qm_up (qm_up h.2.1 43 (f0.toInt.toNat) 4) 44 (f0.toInt.toNat) (-1)) 45 (f0.toInt.toNat) s2) 42 7 v27) 164 (f0.toInt.toNat) 4, h.2.2.1, h.2.2.2))) rfl ?_
            refine hk_geti (v := f0) rfl (hH.1 118 (17, 105) rfl) rfl (show (qm_up (qm_up (qm_up (qm_up (qm_up h.2.1 43 (f0.toInt.toNat) 4) 44 (f0.toInt.toNat) (-1)) 45 (f0.toInt.toNat) s2) 42 7 v27) 164 (f0.toInt.toNat) 4) 118 70 = _ from ((hk_ot rfl).trans ((hk_ot rfl).trans ((hk_ot rfl).trans ((hk_ot rfl).trans ((hk_ot rfl).trans p_f0)))))) ?_
            refine qm_Ru.go 1 (c' := (19, [.ref 118, .int 4, .int s2, .int 0], [.int s2, .int f0, .ref 165], (h.1, qm_up (qm_up (qm_up (qm_up (qm_up h.2.1 43 (f0.toInt.toNat) 4) 44 (f0.toInt.toNat) (-1)) 45 (f0.toInt.toNat) s2) 42 7 v27) 164 (f0.toInt.toNat) 4, h.2.2.1, h.2.2.2))) rfl ?_
            refine hk_ias rfl (hH.1 165 (0, 60) rfl) (by omega) (by omega) ?_
            refine qm_Ru.go 1 (c' := (21, [.ref 118, .int 4, .int s2, .int 0], [.ref 118], (h.1, qm_up (qm_up (qm_up (qm_up (qm_up (qm_up h.2.1 43 (f0.toInt.toNat) 4) 44 (f0.toInt.toNat) (-1)) 45 (f0.toInt.toNat) s2) 42 7 v27) 164 (f0.toInt.toNat) 4) 165 (f0.toInt.toNat) s2, h.2.2.1, h.2.2.2))) rfl ?_
            refine hk_getr rfl (hH.1 118 (17, 105) rfl) rfl (hH.2 118 73 (some 166) rfl) ?_
            refine qm_Ru.go 1 (c' := (25, [.ref 118, .int 4, .int s2, .int 0], [.ref 118, .ref 166], (h.1, qm_up (qm_up (qm_up (qm_up (qm_up (qm_up h.2.1 43 (f0.toInt.toNat) 4) 44 (f0.toInt.toNat) (-1)) 45 (f0.toInt.toNat) s2) 42 7 v27) 164 (f0.toInt.toNat) 4) 165 (f0.toInt.toNat) s2, h.2.2.1, h.2.2.2))) rfl ?_
            refine hk_geti (v := f0) rfl (hH.1 118 (17, 105) rfl) rfl (show (qm_up (qm_up (qm_up (qm_up (qm_up (qm_up h.2.1 43 (f0.toInt.toNat) 4) 44 (f0.toInt.toNat) (-1)) 45 (f0.toInt.toNat) s2) 42 7 v27) 164 (f0.toInt.toNat) 4) 165 (f0.toInt.toNat) s2) 118 70 = _ from ((hk_ot rfl).trans ((hk_ot rfl).trans ((hk_ot rfl).trans ((hk_ot rfl).trans ((hk_ot rfl).trans ((hk_ot rfl).trans p_f0))))))) ?_
            refine qm_Ru.go 1 (c' := (29, [.ref 118, .int 4, .int s2, .int 0], [.int 0, .int f0, .ref 166], (h.1, qm_up (qm_up (qm_up (qm_up (qm_up (qm_up h.2.1 43 (f0.toInt.toNat) 4) 44 (f0.toInt.toNat) (-1)) 45 (f0.toInt.toNat) s2) 42 7 v27) 164 (f0.toInt.toNat) 4) 165 (f0.toInt.toNat) s2, h.2.2.1, h.2.2.2))) rfl ?_
            refine hk_ias rfl (hH.1 166 (0, 60) rfl) (by omega) (by omega) ?_
            refine qm_Ru.go 2 (c' := (32, [.ref 118, .int 4, .int s2, .int 0], [.ref 118, .ref 118], (h.1, qm_up (qm_up (qm_up (qm_up (qm_up (qm_up (qm_up h.2.1 43 (f0.toInt.toNat) 4) 44 (f0.toInt.toNat) (-1)) 45 (f0.toInt.toNat) s2) 42 7 v27) 164 (f0.toInt.toNat) 4) 165 (f0.toInt.toNat) s2) 166 (f0.toInt.toNat) 0, h.2.2.1, h.2.2.2))) rfl ?_
            refine hk_geti (v := f0) rfl (hH.1 118 (17, 105) rfl) rfl (show (qm_up (qm_up (qm_up (qm_up (qm_up (qm_up (qm_up h.2.1 43 (f0.toInt.toNat) 4) 44 (f0.toInt.toNat) (-1)) 45 (f0.toInt.toNat) s2) 42 7 v27) 164 (f0.toInt.toNat) 4) 165 (f0.toInt.toNat) s2) 166 (f0.toInt.toNat) 0) 118 70 = _ from ((hk_ot rfl).trans ((hk_ot rfl).trans ((hk_ot rfl).trans ((hk_ot rfl).trans ((hk_ot rfl).trans ((hk_ot rfl).trans ((hk_ot rfl).trans p_f0)))))))) ?_
            refine qm_Ru.go 2 (c' := (37, [.ref 118, .int 4, .int s2, .int 0], [.int (f0 + 1), .ref 118], (h.1, qm_up (qm_up (qm_up (qm_up (qm_up (qm_up (qm_up h.2.1 43 (f0.toInt.toNat) 4) 44 (f0.toInt.toNat) (-1)) 45 (f0.toInt.toNat) s2) 42 7 v27) 164 (f0.toInt.toNat) 4) 165 (f0.toInt.toNat) s2) 166 (f0.toInt.toNat) 0, h.2.2.1, h.2.2.2))) rfl ?_
            rw [q_v27]
            refine hk_puti rfl (hH.1 118 (17, 105) rfl) rfl ?_
            refine qm_Ru.go 1 (c' := (41, [.ref 118, .int 4, .int s2, .int 0], [.ref 118], (h.1, qm_up (qm_up (qm_up (qm_up (qm_up (qm_up (qm_up (qm_up h.2.1 43 (f0.toInt.toNat) 4) 44 (f0.toInt.toNat) (-1)) 45 (f0.toInt.toNat) s2) 42 7 v27) 164 (f0.toInt.toNat) 4) 165 (f0.toInt.toNat) s2) 166 (f0.toInt.toNat) 0) 118 70 v27, h.2.2.1, h.2.2.2))) rfl ?_
            refine hk_geti (v := v27) rfl (hH.1 118 (17, 105) rfl) rfl (show (qm_up (qm_up (qm_up (qm_up (qm_up (qm_up (qm_up (qm_up h.2.1 43 (f0.toInt.toNat) 4) 44 (f0.toInt.toNat) (-1)) 45 (f0.toInt.toNat) s2) 42 7 v27) 164 (f0.toInt.toNat) 4) 165 (f0.toInt.toNat) s2) 166 (f0.toInt.toNat) 0) 118 70 v27) 118 70 = _ from (hk_same)) ?_
            refine qm_Ru.go 2 (c' := (46, [.ref 118, .int 4, .int s2, .int 0], [.int (v27 - 1)], (h.1, qm_up (qm_up (qm_up (qm_up (qm_up (qm_up (qm_up (qm_up h.2.1 43 (f0.toInt.toNat) 4) 44 (f0.toInt.toNat) (-1)) 45 (f0.toInt.toNat) s2) 42 7 v27) 164 (f0.toInt.toNat) 4) 165 (f0.toInt.toNat) s2) 166 (f0.toInt.toNat) 0) 118 70 v27, h.2.2.1, h.2.2.2))) rfl ?_
            rw [q_v28]
            refine qm_Ru.rt (v := (some (.int v28))) (h' := (h.1, qm_up (qm_up (qm_up (qm_up (qm_up (qm_up (qm_up (qm_up h.2.1 43 (f0.toInt.toNat) 4) 44 (f0.toInt.toNat) (-1)) 45 (f0.toInt.toNat) s2) 42 7 v27) 164 (f0.toInt.toNat) 4) 165 (f0.toInt.toNat) s2) 166 (f0.toInt.toNat) 0) 118 70 v27, h.2.2.1, h.2.2.2)) rfl ?_
            refine qm_Ru.go 0 (c' := (44, [.ref 118, .int s2], [.int v28], (h.1, qm_up (qm_up (qm_up (qm_up (qm_up (qm_up (qm_up (qm_up h.2.1 43 (f0.toInt.toNat) 4) 44 (f0.toInt.toNat) (-1)) 45 (f0.toInt.toNat) s2) 42 7 v27) 164 (f0.toInt.toNat) 4) 165 (f0.toInt.toNat) s2) 166 (f0.toInt.toNat) 0) 118 70 v27, h.2.2.1, h.2.2.2))) rfl ?_
            refine qm_Ru.rt (v := (some (.int v28))) (h' := (h.1, qm_up (qm_up (qm_up (qm_up (qm_up (qm_up (qm_up (qm_up h.2.1 43 (f0.toInt.toNat) 4) 44 (f0.toInt.toNat) (-1)) 45 (f0.toInt.toNat) s2) 42 7 v27) 164 (f0.toInt.toNat) 4) 165 (f0.toInt.toNat) s2) 166 (f0.toInt.toNat) 0) 118 70 v27, h.2.2.1, h.2.2.2)) rfl ?_
            refine qm_Ru.go 3 (c' := (2081, [.retAddr 0, .ref 0, .ref 118, .int (i + 6)], [], (h.1, qm_up (qm_up (qm_up (qm_up (qm_up (qm_up (qm_up (qm_up h.2.1 43 (f0.toInt.toNat) 4) 44 (f0.toInt.toNat) (-1)) 45 (f0.toInt.toNat) s2) 42 7 v27) 164 (f0.toInt.toNat) 4) 165 (f0.toInt.toNat) s2) 166 (f0.toInt.toNat) 0) 118 70 v27, h.2.2.1, h.2.2.2))) rfl ?_
            obtain ⟨v38, q_v38, e_v38⟩ := hk_add (x := i) (y := 6) (a := i.toInt) (b := 6) rfl rfl (by omega) (by omega)
            rw [q_v38]
            refine qm_Ru.go 1 (c' := (18, [.retAddr 0, .ref 0, .ref 118, .int v38], [], (h.1, qm_up (qm_up (qm_up (qm_up (qm_up (qm_up (qm_up (qm_up h.2.1 43 (f0.toInt.toNat) 4) 44 (f0.toInt.toNat) (-1)) 45 (f0.toInt.toNat) s2) 42 7 v27) 164 (f0.toInt.toNat) 4) 165 (f0.toInt.toNat) s2) 166 (f0.toInt.toNat) 0) 118 70 v27, h.2.2.1, h.2.2.2))) rfl ?_
            have r43 : (qm_up (qm_up (qm_up (qm_up (qm_up (qm_up (qm_up (qm_up h.2.1 43 (f0.toInt.toNat) 4) 44 (f0.toInt.toNat) (-1)) 45 (f0.toInt.toNat) s2) 42 7 v27) 164 (f0.toInt.toNat) 4) 165 (f0.toInt.toNat) s2) 166 (f0.toInt.toNat) 0) 118 70 v27) 43 (f0.toInt.toNat) = 4 := ((hk_ot rfl).trans ((hk_ot rfl).trans ((hk_ot rfl).trans ((hk_ot rfl).trans ((hk_ot rfl).trans ((hk_ot rfl).trans ((hk_ot rfl).trans hk_same)))))))
            have r44 : (qm_up (qm_up (qm_up (qm_up (qm_up (qm_up (qm_up (qm_up h.2.1 43 (f0.toInt.toNat) 4) 44 (f0.toInt.toNat) (-1)) 45 (f0.toInt.toNat) s2) 42 7 v27) 164 (f0.toInt.toNat) 4) 165 (f0.toInt.toNat) s2) 166 (f0.toInt.toNat) 0) 118 70 v27) 44 (f0.toInt.toNat) = (-1) := ((hk_ot rfl).trans ((hk_ot rfl).trans ((hk_ot rfl).trans ((hk_ot rfl).trans ((hk_ot rfl).trans ((hk_ot rfl).trans hk_same))))))
            have r45 : (qm_up (qm_up (qm_up (qm_up (qm_up (qm_up (qm_up (qm_up h.2.1 43 (f0.toInt.toNat) 4) 44 (f0.toInt.toNat) (-1)) 45 (f0.toInt.toNat) s2) 42 7 v27) 164 (f0.toInt.toNat) 4) 165 (f0.toInt.toNat) s2) 166 (f0.toInt.toNat) 0) 118 70 v27) 45 (f0.toInt.toNat) = s2 := ((hk_ot rfl).trans ((hk_ot rfl).trans ((hk_ot rfl).trans ((hk_ot rfl).trans ((hk_ot rfl).trans hk_same)))))
            have r164 : (qm_up (qm_up (qm_up (qm_up (qm_up (qm_up (qm_up (qm_up h.2.1 43 (f0.toInt.toNat) 4) 44 (f0.toInt.toNat) (-1)) 45 (f0.toInt.toNat) s2) 42 7 v27) 164 (f0.toInt.toNat) 4) 165 (f0.toInt.toNat) s2) 166 (f0.toInt.toNat) 0) 118 70 v27) 164 (f0.toInt.toNat) = 4 := ((hk_ot rfl).trans ((hk_ot rfl).trans ((hk_ot rfl).trans hk_same)))
            have r165 : (qm_up (qm_up (qm_up (qm_up (qm_up (qm_up (qm_up (qm_up h.2.1 43 (f0.toInt.toNat) 4) 44 (f0.toInt.toNat) (-1)) 45 (f0.toInt.toNat) s2) 42 7 v27) 164 (f0.toInt.toNat) 4) 165 (f0.toInt.toNat) s2) 166 (f0.toInt.toNat) 0) 118 70 v27) 165 (f0.toInt.toNat) = s2 := ((hk_ot rfl).trans ((hk_ot rfl).trans hk_same))
            have r166 : (qm_up (qm_up (qm_up (qm_up (qm_up (qm_up (qm_up (qm_up h.2.1 43 (f0.toInt.toNat) 4) 44 (f0.toInt.toNat) (-1)) 45 (f0.toInt.toNat) s2) 42 7 v27) 164 (f0.toInt.toNat) 4) 165 (f0.toInt.toNat) s2) 166 (f0.toInt.toNat) 0) 118 70 v27) 166 (f0.toInt.toNat) = 0 := ((hk_ot rfl).trans hk_same)
            have rF : gFat (qm_up (qm_up (qm_up (qm_up (qm_up (qm_up (qm_up (qm_up h.2.1 43 (f0.toInt.toNat) 4) 44 (f0.toInt.toNat) (-1)) 45 (f0.toInt.toNat) s2) 42 7 v27) 164 (f0.toInt.toNat) 4) 165 (f0.toInt.toNat) s2) 166 (f0.toInt.toNat) 0) 118 70 v27) (f0.toInt.toNat) := ⟨by rw [r164, r43]; exact ⟨by decide, by decide, rfl⟩, fun z => by rw [r164] at z; first | exact absurd z (by decide) | rw [r44, r165], fun z => by rw [r164] at z; first | exact absurd z (by decide) | rw [r45, r166], fun z => by rw [r164] at z; first | exact absurd z (by decide) | rw [r45, r165], fun z => by rw [r164] at z; first | exact absurd z (by decide) | (rw [r165]; omega)⟩
            have hG : gR (qm_up (qm_up (qm_up (qm_up (qm_up (qm_up (qm_up (qm_up h.2.1 43 (f0.toInt.toNat) 4) 44 (f0.toInt.toNat) (-1)) 45 (f0.toInt.toNat) s2) 42 7 v27) 164 (f0.toInt.toNat) 4) 165 (f0.toInt.toNat) s2) 166 (f0.toInt.toNat) 0) 118 70 v27) := (gR_fact (I := h.2.1) (I2 := qm_up (qm_up (qm_up (qm_up (qm_up (qm_up (qm_up (qm_up h.2.1 43 (f0.toInt.toNat) 4) 44 (f0.toInt.toNat) (-1)) 45 (f0.toInt.toNat) s2) 42 7 v27) 164 (f0.toInt.toNat) 4) 165 (f0.toInt.toNat) s2) 166 (f0.toInt.toNat) 0) 118 70 v27) (n := f0.toInt.toNat) hS.2 (by rw [q_f0]; omega) (fun o ho k => ((hk_ot (n_in ho rfl)).trans ((hk_ot (n_in ho rfl)).trans ((hk_ot (n_in ho rfl)).trans ((hk_ot (n_in ho rfl)).trans ((hk_ot (n_in ho rfl)).trans ((hk_ot (n_in ho rfl)).trans ((hk_ot (n_in ho rfl)).trans ((hk_ot (n_in ho rfl)).trans rfl))))))))) (fun o ho k hk => ((hk_ot (n_in ho rfl)).trans ((hk_ni hk).trans ((hk_ni hk).trans ((hk_ni hk).trans ((hk_ot (n_in ho rfl)).trans ((hk_ni hk).trans ((hk_ni hk).trans ((hk_ni hk).trans rfl))))))))) ((hk_ot rfl).trans ((hk_ot rfl).trans ((hk_ot rfl).trans ((hk_ot rfl).trans ((hk_ot rfl).trans ((hk_ot rfl).trans ((hk_ot rfl).trans ((hk_ot rfl).trans rfl)))))))) ((hk_ot rfl).trans ((hk_ot rfl).trans ((hk_ot rfl).trans ((hk_ot rfl).trans ((hk_ot rfl).trans ((hk_ot rfl).trans ((hk_ot rfl).trans ((hk_ot rfl).trans rfl)))))))) ((hk_neq (by decide)).trans ((hk_ot rfl).trans ((hk_ot rfl).trans ((hk_ot rfl).trans ((hk_ot rfl).trans ((hk_ot rfl).trans ((hk_ot rfl).trans ((hk_ot rfl).trans rfl)))))))) ((hk_neq (by decide)).trans ((hk_ot rfl).trans ((hk_ot rfl).trans ((hk_ot rfl).trans ((hk_ot rfl).trans ((hk_ot rfl).trans ((hk_ot rfl).trans ((hk_ot rfl).trans rfl)))))))) ((congrArg Int32.toInt ((hk_ot rfl).trans ((hk_ot rfl).trans ((hk_ot rfl).trans ((hk_ot rfl).trans hk_same))))).trans (by omega)) (((hk_ot rfl).trans ((hk_ot rfl).trans ((hk_ot rfl).trans ((hk_ot rfl).trans hk_same)))).trans hk_same.symm) rF)
            have hS1 : gS (h.1, qm_up (qm_up (qm_up (qm_up (qm_up (qm_up (qm_up (qm_up h.2.1 43 (f0.toInt.toNat) 4) 44 (f0.toInt.toNat) (-1)) 45 (f0.toInt.toNat) s2) 42 7 v27) 164 (f0.toInt.toNat) 4) 165 (f0.toInt.toNat) s2) 166 (f0.toInt.toNat) 0) 118 70 v27, h.2.2.1, h.2.2.2) := (gS_up (gS_upa (gS_upa (gS_upa (gS_up (gS_upa (gS_upa (gS_upa (show gS (h.1, h.2.1, h.2.2.1, h.2.2.2) from hS.1) (by decide)) (by decide)) (by decide)) (by decide)) (by decide)) (by decide)) (by decide)) (by decide))
            have hS2 : gS2 (h.1, qm_up (qm_up (qm_up (qm_up (qm_up (qm_up (qm_up (qm_up h.2.1 43 (f0.toInt.toNat) 4) 44 (f0.toInt.toNat) (-1)) 45 (f0.toInt.toNat) s2) 42 7 v27) 164 (f0.toInt.toNat) 4) 165 (f0.toInt.toNat) s2) 166 (f0.toInt.toNat) 0) 118 70 v27, h.2.2.1, h.2.2.2) := ⟨hS1, hG⟩
            have hX3 : gX (h.1, qm_up (qm_up (qm_up (qm_up (qm_up (qm_up (qm_up (qm_up h.2.1 43 (f0.toInt.toNat) 4) 44 (f0.toInt.toNat) (-1)) 45 (f0.toInt.toNat) s2) 42 7 v27) 164 (f0.toInt.toNat) 4) 165 (f0.toInt.toNat) s2) 166 (f0.toInt.toNat) 0) 118 70 v27, h.2.2.1, h.2.2.2) := ⟨gP_cg hX.1 (fun o ho i => ((hk_ot (n_in ho rfl)).trans ((hk_ot (n_in ho rfl)).trans ((hk_ot (n_in ho rfl)).trans ((hk_ot (n_in ho rfl)).trans ((hk_ot (n_in ho rfl)).trans ((hk_ot (n_in ho rfl)).trans ((hk_ot (n_in ho rfl)).trans ((hk_ot (n_in ho rfl)).trans rfl))))))))) (show (qm_up (qm_up (qm_up (qm_up (qm_up (qm_up (qm_up (qm_up h.2.1 43 (f0.toInt.toNat) 4) 44 (f0.toInt.toNat) (-1)) 45 (f0.toInt.toNat) s2) 42 7 v27) 164 (f0.toInt.toNat) 4) 165 (f0.toInt.toNat) s2) 166 (f0.toInt.toNat) 0) 118 70 v27) 1 1 = h.2.1 1 1 from ((hk_ot rfl).trans ((hk_ot rfl).trans ((hk_ot rfl).trans ((hk_ot rfl).trans ((hk_ot rfl).trans ((hk_ot rfl).trans ((hk_ot rfl).trans ((hk_ot rfl).trans rfl))))))))) (show (qm_up (qm_up (qm_up (qm_up (qm_up (qm_up (qm_up (qm_up h.2.1 43 (f0.toInt.toNat) 4) 44 (f0.toInt.toNat) (-1)) 45 (f0.toInt.toNat) s2) 42 7 v27) 164 (f0.toInt.toNat) 4) 165 (f0.toInt.toNat) s2) 166 (f0.toInt.toNat) 0) 118 70 v27) 3 4 = h.2.1 3 4 from ((hk_ot rfl).trans ((hk_ot rfl).trans ((hk_ot rfl).trans ((hk_ot rfl).trans ((hk_ot rfl).trans ((hk_ot rfl).trans ((hk_ot rfl).trans ((hk_ot rfl).trans rfl))))))))) (show (qm_up (qm_up (qm_up (qm_up (qm_up (qm_up (qm_up (qm_up h.2.1 43 (f0.toInt.toNat) 4) 44 (f0.toInt.toNat) (-1)) 45 (f0.toInt.toNat) s2) 42 7 v27) 164 (f0.toInt.toNat) 4) 165 (f0.toInt.toNat) s2) 166 (f0.toInt.toNat) 0) 118 70 v27) 118 17 = h.2.1 118 17 from ((hk_neq (by decide)).trans ((hk_ot rfl).trans ((hk_ot rfl).trans ((hk_ot rfl).trans ((hk_ot rfl).trans ((hk_ot rfl).trans ((hk_ot rfl).trans ((hk_ot rfl).trans rfl))))))))), hX.2⟩
            have hZ3 : (gZB tb) (h.1, qm_up (qm_up (qm_up (qm_up (qm_up (qm_up (qm_up (qm_up h.2.1 43 (f0.toInt.toNat) 4) 44 (f0.toInt.toNat) (-1)) 45 (f0.toInt.toNat) s2) 42 7 v27) 164 (f0.toInt.toNat) 4) 165 (f0.toInt.toNat) s2) 166 (f0.toInt.toNat) 0) 118 70 v27, h.2.2.1, h.2.2.2) := (gZ_cg (h2 := (h.1, qm_up (qm_up (qm_up (qm_up (qm_up (qm_up (qm_up (qm_up h.2.1 43 (f0.toInt.toNat) 4) 44 (f0.toInt.toNat) (-1)) 45 (f0.toInt.toNat) s2) 42 7 v27) 164 (f0.toInt.toNat) 4) 165 (f0.toInt.toNat) s2) 166 (f0.toInt.toNat) 0) 118 70 v27, h.2.2.1, h.2.2.2)) hZ (fun o ho i => ((hk_ot (n_in ho rfl)).trans ((hk_ot (n_in ho rfl)).trans ((hk_ot (n_in ho rfl)).trans ((hk_ot (n_in ho rfl)).trans ((hk_ot (n_in ho rfl)).trans ((hk_ot (n_in ho rfl)).trans ((hk_ot (n_in ho rfl)).trans ((hk_ot (n_in ho rfl)).trans rfl))))))))) (show (qm_up (qm_up (qm_up (qm_up (qm_up (qm_up (qm_up (qm_up h.2.1 43 (f0.toInt.toNat) 4) 44 (f0.toInt.toNat) (-1)) 45 (f0.toInt.toNat) s2) 42 7 v27) 164 (f0.toInt.toNat) 4) 165 (f0.toInt.toNat) s2) 166 (f0.toInt.toNat) 0) 118 70 v27) 6 0 = h.2.1 6 0 from ((hk_ot rfl).trans ((hk_ot rfl).trans ((hk_ot rfl).trans ((hk_ot rfl).trans ((hk_ot rfl).trans ((hk_ot rfl).trans ((hk_ot rfl).trans ((hk_ot rfl).trans rfl))))))))) (fun i _ => show (qm_up (qm_up (qm_up (qm_up (qm_up (qm_up (qm_up (qm_up h.2.1 43 (f0.toInt.toNat) 4) 44 (f0.toInt.toNat) (-1)) 45 (f0.toInt.toNat) s2) 42 7 v27) 164 (f0.toInt.toNat) 4) 165 (f0.toInt.toNat) s2) 166 (f0.toInt.toNat) 0) 118 70 v27) 28 i = h.2.1 28 i from ((hk_ot rfl).trans ((hk_ot rfl).trans ((hk_ot rfl).trans ((hk_ot rfl).trans ((hk_ot rfl).trans ((hk_ot rfl).trans ((hk_ot rfl).trans ((hk_ot rfl).trans rfl))))))))) (fun i _ => show (qm_up (qm_up (qm_up (qm_up (qm_up (qm_up (qm_up (qm_up h.2.1 43 (f0.toInt.toNat) 4) 44 (f0.toInt.toNat) (-1)) 45 (f0.toInt.toNat) s2) 42 7 v27) 164 (f0.toInt.toNat) 4) 165 (f0.toInt.toNat) s2) 166 (f0.toInt.toNat) 0) 118 70 v27) 29 i = h.2.1 29 i from ((hk_ot rfl).trans ((hk_ot rfl).trans ((hk_ot rfl).trans ((hk_ot rfl).trans ((hk_ot rfl).trans ((hk_ot rfl).trans ((hk_ot rfl).trans ((hk_ot rfl).trans rfl))))))))) (fun i _ => show (qm_up (qm_up (qm_up (qm_up (qm_up (qm_up (qm_up (qm_up h.2.1 43 (f0.toInt.toNat) 4) 44 (f0.toInt.toNat) (-1)) 45 (f0.toInt.toNat) s2) 42 7 v27) 164 (f0.toInt.toNat) 4) 165 (f0.toInt.toNat) s2) 166 (f0.toInt.toNat) 0) 118 70 v27) 111 i = h.2.1 111 i from ((hk_ot rfl).trans ((hk_ot rfl).trans ((hk_ot rfl).trans ((hk_ot rfl).trans ((hk_ot rfl).trans ((hk_ot rfl).trans ((hk_ot rfl).trans ((hk_ot rfl).trans rfl))))))))) (fun i _ => show (qm_up (qm_up (qm_up (qm_up (qm_up (qm_up (qm_up (qm_up h.2.1 43 (f0.toInt.toNat) 4) 44 (f0.toInt.toNat) (-1)) 45 (f0.toInt.toNat) s2) 42 7 v27) 164 (f0.toInt.toNat) 4) 165 (f0.toInt.toNat) s2) 166 (f0.toInt.toNat) 0) 118 70 v27) 51 i = h.2.1 51 i from ((hk_ot rfl).trans ((hk_ot rfl).trans ((hk_ot rfl).trans ((hk_ot rfl).trans ((hk_ot rfl).trans ((hk_ot rfl).trans ((hk_ot rfl).trans ((hk_ot rfl).trans rfl))))))))) (List.forall_mem_cons.mpr ⟨(show (qm_up (qm_up (qm_up (qm_up (qm_up (qm_up (qm_up (qm_up h.2.1 43 (f0.toInt.toNat) 4) 44 (f0.toInt.toNat) (-1)) 45 (f0.toInt.toNat) s2) 42 7 v27) 164 (f0.toInt.toNat) 4) 165 (f0.toInt.toNat) s2) 166 (f0.toInt.toNat) 0) 118 70 v27) 118 18 = h.2.1 118 18 from ((hk_neq (by decide)).trans ((hk_ot rfl).trans ((hk_ot rfl).trans ((hk_ot rfl).trans ((hk_ot rfl).trans ((hk_ot rfl).trans ((hk_ot rfl).trans ((hk_ot rfl).trans rfl))))))))), List.forall_mem_cons.mpr ⟨(show (qm_up (qm_up (qm_up (qm_up (qm_up (qm_up (qm_up (qm_up h.2.1 43 (f0.toInt.toNat) 4) 44 (f0.toInt.toNat) (-1)) 45 (f0.toInt.toNat) s2) 42 7 v27) 164 (f0.toInt.toNat) 4) 165 (f0.toInt.toNat) s2) 166 (f0.toInt.toNat) 0) 118 70 v27) 118 44 = h.2.1 118 44 from ((hk_neq (by decide)).trans ((hk_ot rfl).trans ((hk_ot rfl).trans ((hk_ot rfl).trans ((hk_ot rfl).trans ((hk_ot rfl).trans ((hk_ot rfl).trans ((hk_ot rfl).trans rfl))))))))), List.forall_mem_cons.mpr ⟨(show (qm_up (qm_up (qm_up (qm_up (qm_up (qm_up (qm_up (qm_up h.2.1 43 (f0.toInt.toNat) 4) 44 (f0.toInt.toNat) (-1)) 45 (f0.toInt.toNat) s2) 42 7 v27) 164 (f0.toInt.toNat) 4) 165 (f0.toInt.toNat) s2) 166 (f0.toInt.toNat) 0) 118 70 v27) 118 54 = h.2.1 118 54 from ((hk_neq (by decide)).trans ((hk_ot rfl).trans ((hk_ot rfl).trans ((hk_ot rfl).trans ((hk_ot rfl).trans ((hk_ot rfl).trans ((hk_ot rfl).trans ((hk_ot rfl).trans rfl))))))))), List.forall_mem_cons.mpr ⟨(show (qm_up (qm_up (qm_up (qm_up (qm_up (qm_up (qm_up (qm_up h.2.1 43 (f0.toInt.toNat) 4) 44 (f0.toInt.toNat) (-1)) 45 (f0.toInt.toNat) s2) 42 7 v27) 164 (f0.toInt.toNat) 4) 165 (f0.toInt.toNat) s2) 166 (f0.toInt.toNat) 0) 118 70 v27) 118 75 = h.2.1 118 75 from ((hk_neq (by decide)).trans ((hk_ot rfl).trans ((hk_ot rfl).trans ((hk_ot rfl).trans ((hk_ot rfl).trans ((hk_ot rfl).trans ((hk_ot rfl).trans ((hk_ot rfl).trans rfl))))))))), List.forall_mem_cons.mpr ⟨(show (qm_up (qm_up (qm_up (qm_up (qm_up (qm_up (qm_up (qm_up h.2.1 43 (f0.toInt.toNat) 4) 44 (f0.toInt.toNat) (-1)) 45 (f0.toInt.toNat) s2) 42 7 v27) 164 (f0.toInt.toNat) 4) 165 (f0.toInt.toNat) s2) 166 (f0.toInt.toNat) 0) 118 70 v27) 118 85 = h.2.1 118 85 from ((hk_neq (by decide)).trans ((hk_ot rfl).trans ((hk_ot rfl).trans ((hk_ot rfl).trans ((hk_ot rfl).trans ((hk_ot rfl).trans ((hk_ot rfl).trans ((hk_ot rfl).trans rfl))))))))), List.forall_mem_cons.mpr ⟨(show (qm_up (qm_up (qm_up (qm_up (qm_up (qm_up (qm_up (qm_up h.2.1 43 (f0.toInt.toNat) 4) 44 (f0.toInt.toNat) (-1)) 45 (f0.toInt.toNat) s2) 42 7 v27) 164 (f0.toInt.toNat) 4) 165 (f0.toInt.toNat) s2) 166 (f0.toInt.toNat) 0) 118 70 v27) 118 91 = h.2.1 118 91 from ((hk_neq (by decide)).trans ((hk_ot rfl).trans ((hk_ot rfl).trans ((hk_ot rfl).trans ((hk_ot rfl).trans ((hk_ot rfl).trans ((hk_ot rfl).trans ((hk_ot rfl).trans rfl))))))))), List.forall_mem_cons.mpr ⟨(show (qm_up (qm_up (qm_up (qm_up (qm_up (qm_up (qm_up (qm_up h.2.1 43 (f0.toInt.toNat) 4) 44 (f0.toInt.toNat) (-1)) 45 (f0.toInt.toNat) s2) 42 7 v27) 164 (f0.toInt.toNat) 4) 165 (f0.toInt.toNat) s2) 166 (f0.toInt.toNat) 0) 118 70 v27) 118 92 = h.2.1 118 92 from ((hk_neq (by decide)).trans ((hk_ot rfl).trans ((hk_ot rfl).trans ((hk_ot rfl).trans ((hk_ot rfl).trans ((hk_ot rfl).trans ((hk_ot rfl).trans ((hk_ot rfl).trans rfl))))))))), List.forall_mem_cons.mpr ⟨(show (qm_up (qm_up (qm_up (qm_up (qm_up (qm_up (qm_up (qm_up h.2.1 43 (f0.toInt.toNat) 4) 44 (f0.toInt.toNat) (-1)) 45 (f0.toInt.toNat) s2) 42 7 v27) 164 (f0.toInt.toNat) 4) 165 (f0.toInt.toNat) s2) 166 (f0.toInt.toNat) 0) 118 70 v27) 118 93 = h.2.1 118 93 from ((hk_neq (by decide)).trans ((hk_ot rfl).trans ((hk_ot rfl).trans ((hk_ot rfl).trans ((hk_ot rfl).trans ((hk_ot rfl).trans ((hk_ot rfl).trans ((hk_ot rfl).trans rfl))))))))), List.forall_mem_cons.mpr ⟨(show (qm_up (qm_up (qm_up (qm_up (qm_up (qm_up (qm_up (qm_up h.2.1 43 (f0.toInt.toNat) 4) 44 (f0.toInt.toNat) (-1)) 45 (f0.toInt.toNat) s2) 42 7 v27) 164 (f0.toInt.toNat) 4) 165 (f0.toInt.toNat) s2) 166 (f0.toInt.toNat) 0) 118 70 v27) 118 94 = h.2.1 118 94 from ((hk_neq (by decide)).trans ((hk_ot rfl).trans ((hk_ot rfl).trans ((hk_ot rfl).trans ((hk_ot rfl).trans ((hk_ot rfl).trans ((hk_ot rfl).trans ((hk_ot rfl).trans rfl))))))))), fun _ z => absurd z List.not_mem_nil⟩⟩⟩⟩⟩⟩⟩⟩⟩) rfl)
            exact hE _ v38 (by omega) (qa_Inv_of0 ⟨hH.1, hH.2⟩ (hb_up (o := 118) (k := 70) (x := v27) (hb_up (o := 166) (k := f0.toInt.toNat) (x := 0) (hb_up (o := 165) (k := f0.toInt.toNat) (x := s2) (hb_up (o := 164) (k := f0.toInt.toNat) (x := 4) (hb_up (o := 42) (k := 7) (x := v27) (hb_up (o := 45) (k := f0.toInt.toNat) (x := s2) (hb_up (o := 44) (k := f0.toInt.toNat) (x := (-1)) (hb_up (o := 43) (k := f0.toInt.toNat) (x := 4) hB ⟨(show (0 : Int) ≤ 4 from by decide), (show (4 : Int) ≤ 4 from by decide)⟩) ⟨(show (-1 : Int) ≤ -1 from by decide), (show (-1 : Int) ≤ 29 from by decide)⟩) ⟨by show (-99999 : Int) ≤ s2.toInt; omega, by show s2.toInt ≤ (99999 : Int); omega⟩) ⟨by show (0 : Int) ≤ v27.toInt; omega, by show v27.toInt ≤ (60 : Int); omega⟩) ⟨(show (0 : Int) ≤ 4 from by decide), (show (4 : Int) ≤ 4 from by decide)⟩) ⟨by show (-99999 : Int) ≤ s2.toInt; omega, by show s2.toInt ≤ (99999 : Int); omega⟩) ⟨(show (0 : Int) ≤ 0 from by decide), (show (0 : Int) ≤ 5 from by decide)⟩) ⟨by show (0 : Int) ≤ v27.toInt; omega, by show v27.toInt ≤ (60 : Int); omega⟩) ⟨⟨⟨hS2, hX3⟩, hZ3⟩, t⟩ (gS2_ru hS2))
        · refine qm_Ru.go 1 (c' := (10, [.ref 42, .int 4, .int (-1), .int s2], [.int (-1)], h)) rfl ?_
          refine qm_Ru.rt (v := (some (.int (-1)))) (h' := h) rfl ?_
          refine qm_Ru.go 0 (c' := (39, [.ref 0, .int s2], [.int (-1)], h)) rfl ?_
          refine qm_Ru.rt (v := (some (.int (-1)))) (h' := h) rfl ?_
          refine qm_Ru.go 6 (c' := (1348, [.retAddr 0, .ref 0, .ref 118, .int i], [.int (i + 1), .retAddr 0, .ref 118], h)) rfl ?_
          rw [q_v1]
          refine hk_scr (v := s2) rfl (by omega) (by omega) q_s2 ?_
          refine qm_Ru.go 0 (c' := (1349, [.retAddr 0, .ref 0, .ref 118, .int i], [.int s2, .ref 118], h)) rfl ?_
          refine hk_inv (o := 118) (r := []) (as := [.ref 118, .int s2]) rfl rfl (hH.1 118 (17, 105) rfl) rfl rfl rfl rfl ?_
          refine qm_Ru.go 1 (c' := (1, [.ref 118, .int s2], [.ref 118], h)) rfl ?_
          refine hk_geti (v := f0) rfl (hH.1 118 (17, 105) rfl) rfl p_f0 ?_
          refine qm_Ru.go 1 (c' := (6, [.ref 118, .int s2], [.int 60, .int f0], h)) rfl ?_
          refine hk_ceq (ix := f0.toInt) (iy := 60) rfl rfl rfl (fun z40 => ?_) (fun z40 => by exfalso; omega)
          refine qm_Ru.go 2 (c' := (44, [.ref 118, .int s2], [.int (-1)], h)) rfl ?_
          refine qm_Ru.rt (v := (some (.int (-1)))) (h' := h) rfl ?_
          refine qm_Ru.go 3 (c' := (2081, [.retAddr 0, .ref 0, .ref 118, .int (i + 6)], [], h)) rfl ?_
          obtain ⟨v41, q_v41, e_v41⟩ := hk_add (x := i) (y := 6) (a := i.toInt) (b := 6) rfl rfl (by omega) (by omega)
          rw [q_v41]
          refine qm_Ru.go 1 (c' := (18, [.retAddr 0, .ref 0, .ref 118, .int v41], [], h)) rfl ?_
          have hG : gR (h.2.1) := hS.2
          have hS1 : gS (h.1, h.2.1, h.2.2.1, h.2.2.2) := hS.1
          have hS2 : gS2 (h.1, h.2.1, h.2.2.1, h.2.2.2) := ⟨hS1, hG⟩
          have hX3 : gX (h.1, h.2.1, h.2.2.1, h.2.2.2) := hX
          have hZ3 : (gZB tb) (h.1, h.2.1, h.2.2.1, h.2.2.2) := hZ
          exact hE _ v41 (by omega) (qa_Inv_of0 ⟨hH.1, hH.2⟩ hB ⟨⟨⟨hS2, hX3⟩, hZ3⟩, t⟩ (gS2_ru hS2))
      · refine qm_Ru.go 1 (c' := (28, [.ref 0, .int s2], [.int (-1)], h)) rfl ?_
        refine qm_Ru.rt (v := (some (.int (-1)))) (h' := h) rfl ?_
        refine qm_Ru.go 6 (c' := (1348, [.retAddr 0, .ref 0, .ref 118, .int i], [.int (i + 1), .retAddr 0, .ref 118], h)) rfl ?_
        rw [q_v1]
        refine hk_scr (v := s2) rfl (by omega) (by omega) q_s2 ?_
        refine qm_Ru.go 0 (c' := (1349, [.retAddr 0, .ref 0, .ref 118, .int i], [.int s2, .ref 118], h)) rfl ?_
        refine hk_inv (o := 118) (r := []) (as := [.ref 118, .int s2]) rfl rfl (hH.1 118 (17, 105) rfl) rfl rfl rfl rfl ?_
        refine qm_Ru.go 1 (c' := (1, [.ref 118, .int s2], [.ref 118], h)) rfl ?_
        refine hk_geti (v := f0) rfl (hH.1 118 (17, 105) rfl) rfl p_f0 ?_
        refine qm_Ru.go 1 (c' := (6, [.ref 118, .int s2], [.int 60, .int f0], h)) rfl ?_
        refine hk_ceq (ix := f0.toInt) (iy := 60) rfl rfl rfl (fun z43 => ?_) (fun z43 => ?_)
        · refine qm_Ru.go 2 (c' := (44, [.ref 118, .int s2], [.int (-1)], h)) rfl ?_
          refine qm_Ru.rt (v := (some (.int (-1)))) (h' := h) rfl ?_
          refine qm_Ru.go 3 (c' := (2081, [.retAddr 0, .ref 0, .ref 118, .int (i + 6)], [], h)) rfl ?_
          obtain ⟨v44, q_v44, e_v44⟩ := hk_add (x := i) (y := 6) (a := i.toInt) (b := 6) rfl rfl (by omega) (by omega)
          rw [q_v44]
          refine qm_Ru.go 1 (c' := (18, [.retAddr 0, .ref 0, .ref 118, .int v44], [], h)) rfl ?_
          have hG : gR (h.2.1) := hS.2
          have hS1 : gS (h.1, h.2.1, h.2.2.1, h.2.2.2) := hS.1
          have hS2 : gS2 (h.1, h.2.1, h.2.2.1, h.2.2.2) := ⟨hS1, hG⟩
          have hX3 : gX (h.1, h.2.1, h.2.2.1, h.2.2.2) := hX
          have hZ3 : (gZB tb) (h.1, h.2.1, h.2.2.1, h.2.2.2) := hZ
          exact hE _ v44 (by omega) (qa_Inv_of0 ⟨hH.1, hH.2⟩ hB ⟨⟨⟨hS2, hX3⟩, hZ3⟩, t⟩ (gS2_ru hS2))
        · refine qm_Ru.go 3 (c' := (12, [.ref 118, .int s2], [.ref 118, .int 0, .int s2], h)) rfl ?_
          refine hk_geti (v := f0) rfl (hH.1 118 (17, 105) rfl) rfl p_f0 ?_
          refine qm_Ru.go 2 (c' := (17, [.ref 118, .int s2], [.int (f0 - 1), .int 0, .int s2], h)) rfl ?_
          obtain ⟨v45, q_v45, e_v45⟩ := hk_sub (x := f0) (y := 1) (a := f0.toInt) (b := 1) rfl rfl (by omega) (by omega)
          rw [q_v45]
          refine qm_Ru.call (j := 270) (as := [.int s2, .int 0, .int v45]) (c' := (20, [.ref 118, .int s2], [], h)) rfl rfl rfl ?_
          refine qm_Ru.go 2 (c' := (2, [.int s2, .int 0, .int v45], [.int 0, .int s2], h)) rfl ?_
          refine hk_clt (ix := s2.toInt) (iy := 0) rfl rfl rfl (fun z46 => by exfalso; omega) (fun z46 => ?_)
          refine qm_Ru.go 2 (c' := (7, [.int s2, .int 0, .int v45], [.int v45, .int s2], h)) rfl ?_
          refine hk_cgt (ix := s2.toInt) (iy := v45.toInt) rfl rfl rfl (fun z47 => ?_) (fun z47 => ?_)
          · refine qm_Ru.go 1 (c' := (15, [.int s2, .int 0, .int v45], [.int 0], h)) rfl ?_
            refine qm_Ru.rt (v := (some (.int 0))) (h' := h) rfl ?_
            refine qm_Ru.go 3 (c' := (44, [.ref 118, .int s2], [.int (-1)], h)) rfl ?_
            refine qm_Ru.rt (v := (some (.int (-1)))) (h' := h) rfl ?_
            refine qm_Ru.go 3 (c' := (2081, [.retAddr 0, .ref 0, .ref 118, .int (i + 6)], [], h)) rfl ?_
            obtain ⟨v48, q_v48, e_v48⟩ := hk_add (x := i) (y := 6) (a := i.toInt) (b := 6) rfl rfl (by omega) (by omega)
            rw [q_v48]
            refine qm_Ru.go 1 (c' := (18, [.retAddr 0, .ref 0, .ref 118, .int v48], [], h)) rfl ?_
            have hG : gR (h.2.1) := hS.2
            have hS1 : gS (h.1, h.2.1, h.2.2.1, h.2.2.2) := hS.1
            have hS2 : gS2 (h.1, h.2.1, h.2.2.1, h.2.2.2) := ⟨hS1, hG⟩
            have hX3 : gX (h.1, h.2.1, h.2.2.1, h.2.2.2) := hX
            have hZ3 : (gZB tb) (h.1, h.2.1, h.2.2.1, h.2.2.2) := hZ
            exact hE _ v48 (by omega) (qa_Inv_of0 ⟨hH.1, hH.2⟩ hB ⟨⟨⟨hS2, hX3⟩, hZ3⟩, t⟩ (gS2_ru hS2))
          · refine qm_Ru.go 2 (c' := (15, [.int s2, .int 0, .int v45], [.int 1], h)) rfl ?_
            refine qm_Ru.rt (v := (some (.int 1))) (h' := h) rfl ?_
            refine qm_Ru.go 2 (c' := (24, [.ref 118, .int s2], [.ref 118], h)) rfl ?_
            refine hk_getr rfl (hH.1 118 (17, 105) rfl) rfl (hH.2 118 71 (some 164) rfl) ?_
            refine qm_Ru.go 1 (c' := (28, [.ref 118, .int s2], [.int s2, .ref 164], h)) rfl ?_
            refine hk_ial (v := v24) rfl (hH.1 164 (0, 60) rfl) (by omega) (by omega) ((hS.2.2.2.2.2.1 (s2.toInt.toNat) (by rw [q_f0]; omega)).1.2.2.symm.trans q_v24) ?_
            refine qm_Ru.go 1 (c' := (30, [.ref 118, .int s2], [.int 4, .int v24], h)) rfl ?_
            refine hk_cne (ix := v24.toInt) (iy := 4) rfl rfl rfl (fun z49 => by exfalso; omega) (fun z49 => ?_)
            refine qm_Ru.go 2 (c' := (44, [.ref 118, .int s2], [.int (-1)], h)) rfl ?_
            refine qm_Ru.rt (v := (some (.int (-1)))) (h' := h) rfl ?_
            refine qm_Ru.go 3 (c' := (2081, [.retAddr 0, .ref 0, .ref 118, .int (i + 6)], [], h)) rfl ?_
            obtain ⟨v50, q_v50, e_v50⟩ := hk_add (x := i) (y := 6) (a := i.toInt) (b := 6) rfl rfl (by omega) (by omega)
            rw [q_v50]
            refine qm_Ru.go 1 (c' := (18, [.retAddr 0, .ref 0, .ref 118, .int v50], [], h)) rfl ?_
            have hG : gR (h.2.1) := hS.2
            have hS1 : gS (h.1, h.2.1, h.2.2.1, h.2.2.2) := hS.1
            have hS2 : gS2 (h.1, h.2.1, h.2.2.1, h.2.2.2) := ⟨hS1, hG⟩
            have hX3 : gX (h.1, h.2.1, h.2.2.1, h.2.2.2) := hX
            have hZ3 : (gZB tb) (h.1, h.2.1, h.2.2.1, h.2.2.2) := hZ
            exact hE _ v50 (by omega) (qa_Inv_of0 ⟨hH.1, hH.2⟩ hB ⟨⟨⟨hS2, hX3⟩, hZ3⟩, t⟩ (gS2_ru hS2))
theorem qv_49 {L : Nat} {xs : Nat → Int32} {Z : Option Value → qm_H → Prop} (h6 : 6 ≤ L) (hl : L ≤ 3072) : qv_PB tb tb L xs Z 49 := by
  intro i h i0 i1 hI hE
  obtain ⟨j1, hB, j3, ⟨⟨⟨hS, hX⟩, hZ⟩, t⟩, -⟩ := hI
  have hH : hk_H h := ⟨j1, j3⟩
  have b_i : 0 ≤ i.toInt ∧ i.toInt ≤ 3066 := by omega
  obtain ⟨c0, q_c0⟩ : ∃ v, h.2.1 6 0 = v := ⟨_, rfl⟩
  have p_c0 : h.2.1 118 44 = c0 := hS.2.2.1.symm.trans q_c0
  have b_c0 : (0 : Int) ≤ c0.toInt ∧ c0.toInt ≤ 30 := by rw [← q_c0]; exact hB 6 0
  show qm_Ru (some (L, xs)) 300 cd_law (1785, [.retAddr 0, .ref 0, .ref 118, .int i], [], h) Z
  refine qm_Ru.go 5 (c' := (1790, [.retAddr 0, .ref 0, .ref 118, .int i], [.int (i + 1), .retAddr 0, .ref 0], h)) rfl ?_
  obtain ⟨v1, q_v1, e_v1⟩ := hk_add (x := i) (y := 1) (a := i.toInt) (b := 1) rfl rfl (by omega) (by omega)
  rw [q_v1]
  obtain ⟨s2, q_s2⟩ : ∃ v_, xs (v1).toNatClampNeg = v_ := ⟨_, rfl⟩
  have := hk_rng s2
  refine hk_scr (v := s2) rfl (by omega) (by omega) q_s2 ?_
  refine qm_Ru.go 4 (c' := (1795, [.retAddr 0, .ref 0, .ref 118, .int i], [.int (i + 2), .retAddr 0, .int s2, .ref 0], h)) rfl ?_
  obtain ⟨v3, q_v3, e_v3⟩ := hk_add (x := i) (y := 2) (a := i.toInt) (b := 2) rfl rfl (by omega) (by omega)
  rw [q_v3]
  obtain ⟨s4, q_s4⟩ : ∃ v_, xs (v3).toNatClampNeg = v_ := ⟨_, rfl⟩
  have := hk_rng s4
  refine hk_scr (v := s4) rfl (by omega) (by omega) q_s4 ?_
  refine qm_Ru.go 4 (c' := (1800, [.retAddr 0, .ref 0, .ref 118, .int i], [.int (i + 3), .retAddr 0, .int s4, .int s2, .ref 0], h)) rfl ?_
  obtain ⟨v5, q_v5, e_v5⟩ := hk_add (x := i) (y := 3) (a := i.toInt) (b := 3) rfl rfl (by omega) (by omega)
  rw [q_v5]
  obtain ⟨s6, q_s6⟩ : ∃ v_, xs (v5).toNatClampNeg = v_ := ⟨_, rfl⟩
  have := hk_rng s6
  refine hk_scr (v := s6) rfl (by omega) (by omega) q_s6 ?_
  refine qm_Ru.go 0 (c' := (1801, [.retAddr 0, .ref 0, .ref 118, .int i], [.int s6, .int s4, .int s2, .ref 0], h)) rfl ?_
  refine hk_zeq (ix := s6.toInt) rfl rfl (fun z7 => ?_) (fun z7 => ?_)
  · refine qm_Ru.go 5 (c' := (1813, [.retAddr 0, .ref 0, .ref 118, .int i], [.int (i + 4), .retAddr 0, .int 0, .int s4, .int s2, .ref 0], h)) rfl ?_
    obtain ⟨v8, q_v8, e_v8⟩ := hk_add (x := i) (y := 4) (a := i.toInt) (b := 4) rfl rfl (by omega) (by omega)
    rw [q_v8]
    obtain ⟨s9, q_s9⟩ : ∃ v_, xs (v8).toNatClampNeg = v_ := ⟨_, rfl⟩
    have := hk_rng s9
    refine hk_scr (v := s9) rfl (by omega) (by omega) q_s9 ?_
    refine qm_Ru.go 0 (c' := (1814, [.retAddr 0, .ref 0, .ref 118, .int i], [.int s9, .int 0, .int s4, .int s2, .ref 0], h)) rfl ?_
    refine hk_inv (o := 0) (r := []) (as := [.ref 0, .int s2, .int s4, .int 0, .int s9]) rfl rfl (hH.1 0 (16, 10) rfl) rfl rfl rfl rfl ?_
    refine qm_Ru.go 2 (c' := (2, [.ref 0, .int s2, .int s4, .int 0, .int s9], [.int 2, .int s2], h)) rfl ?_
    refine qm_Ru.call (j := 65) (as := [.int s2, .int 2]) (c' := (5, [.ref 0, .int s2, .int s4, .int 0, .int s9], [], h)) rfl rfl rfl ?_
    refine qm_Ru.go 1 (c' := (1, [.int s2, .int 2], [.int s2], h)) rfl ?_
    refine hk_zlt (ix := s2.toInt) rfl rfl (fun z10 => ?_) (fun z10 => ?_)
    · refine qm_Ru.go 1 (c' := (14, [.int s2, .int 2], [.int 0], h)) rfl ?_
      refine qm_Ru.rt (v := (some (.int 0))) (h' := h) rfl ?_
      refine qm_Ru.go 2 (c' := (33, [.ref 0, .int s2, .int s4, .int 0, .int s9], [.int (-1)], h)) rfl ?_
      refine qm_Ru.rt (v := (some (.int (-1)))) (h' := h) rfl ?_
      refine qm_Ru.go 6 (c' := (1823, [.retAddr 0, .ref 0, .ref 118, .int i], [.int (i + 1), .retAddr 0, .ref 118], h)) rfl ?_
      rw [q_v1]
      refine hk_scr (v := s2) rfl (by omega) (by omega) q_s2 ?_
      refine qm_Ru.go 4 (c' := (1828, [.retAddr 0, .ref 0, .ref 118, .int i], [.int (i + 2), .retAddr 0, .int s2, .ref 118], h)) rfl ?_
      rw [q_v3]
      refine hk_scr (v := s4) rfl (by omega) (by omega) q_s4 ?_
      refine qm_Ru.go 4 (c' := (1833, [.retAddr 0, .ref 0, .ref 118, .int i], [.int (i + 3), .retAddr 0, .int s4, .int s2, .ref 118], h)) rfl ?_
      rw [q_v5]
      refine hk_scr (v := s6) rfl (by omega) (by omega) q_s6 ?_
      refine qm_Ru.go 0 (c' := (1834, [.retAddr 0, .ref 0, .ref 118, .int i], [.int s6, .int s4, .int s2, .ref 118], h)) rfl ?_
      refine hk_zeq (ix := s6.toInt) rfl rfl (fun z14 => ?_) (fun z14 => by exfalso; omega)
      refine qm_Ru.go 5 (c' := (1846, [.retAddr 0, .ref 0, .ref 118, .int i], [.int (i + 4), .retAddr 0, .int 0, .int s4, .int s2, .ref 118], h)) rfl ?_
      rw [q_v8]
      refine hk_scr (v := s9) rfl (by omega) (by omega) q_s9 ?_
      refine qm_Ru.go 0 (c' := (1847, [.retAddr 0, .ref 0, .ref 118, .int i], [.int s9, .int 0, .int s4, .int s2, .ref 118], h)) rfl ?_
      refine hk_inv (o := 118) (r := []) (as := [.ref 118, .int s2, .int s4, .int 0, .int s9]) rfl rfl (hH.1 118 (17, 105) rfl) rfl rfl rfl rfl ?_
      refine qm_Ru.go 3 (c' := (3, [.ref 118, .int s2, .int s4, .int 0, .int s9, .float 0], [.int 1, .int 0, .int s2], h)) rfl ?_
      refine qm_Ru.call (j := 270) (as := [.int s2, .int 0, .int 1]) (c' := (6, [.ref 118, .int s2, .int s4, .int 0, .int s9, .float 0], [], h)) rfl rfl rfl ?_
      refine qm_Ru.go 2 (c' := (2, [.int s2, .int 0, .int 1], [.int 0, .int s2], h)) rfl ?_
      refine hk_clt (ix := s2.toInt) (iy := 0) rfl rfl rfl (fun z16 => ?_) (fun z16 => by exfalso; omega)
      refine qm_Ru.go 1 (c' := (15, [.int s2, .int 0, .int 1], [.int 0], h)) rfl ?_
      refine qm_Ru.rt (v := (some (.int 0))) (h' := h) rfl ?_
      refine qm_Ru.go 2 (c' := (41, [.ref 118, .int s2, .int s4, .int 0, .int s9, .float 0], [.int (-1)], h)) rfl ?_
      refine qm_Ru.rt (v := (some (.int (-1)))) (h' := h) rfl ?_
      refine qm_Ru.go 3 (c' := (2081, [.retAddr 0, .ref 0, .ref 118, .int (i + 6)], [], h)) rfl ?_
      obtain ⟨v17, q_v17, e_v17⟩ := hk_add (x := i) (y := 6) (a := i.toInt) (b := 6) rfl rfl (by omega) (by omega)
      rw [q_v17]
      refine qm_Ru.go 1 (c' := (18, [.retAddr 0, .ref 0, .ref 118, .int v17], [], h)) rfl ?_
      have hG : gR (h.2.1) := hS.2
      have hS1 : gS (h.1, h.2.1, h.2.2.1, h.2.2.2) := hS.1
      have hS2 : gS2 (h.1, h.2.1, h.2.2.1, h.2.2.2) := ⟨hS1, hG⟩
      have hX3 : gX (h.1, h.2.1, h.2.2.1, h.2.2.2) := hX
      have hZ3 : (gZB tb) (h.1, h.2.1, h.2.2.1, h.2.2.2) := hZ
      exact hE _ v17 (by omega) (qa_Inv_of0 ⟨hH.1, hH.2⟩ hB ⟨⟨⟨hS2, hX3⟩, hZ3⟩, t⟩ (gS2_ru hS2))
    · refine qm_Ru.go 2 (c' := (6, [.int s2, .int 2], [.int 2, .int s2], h)) rfl ?_
      refine hk_cge (ix := s2.toInt) (iy := 2) rfl rfl rfl (fun z18 => ?_) (fun z18 => ?_)
      · refine qm_Ru.go 1 (c' := (14, [.int s2, .int 2], [.int 0], h)) rfl ?_
        refine qm_Ru.rt (v := (some (.int 0))) (h' := h) rfl ?_
        refine qm_Ru.go 2 (c' := (33, [.ref 0, .int s2, .int s4, .int 0, .int s9], [.int (-1)], h)) rfl ?_
        refine qm_Ru.rt (v := (some (.int (-1)))) (h' := h) rfl ?_
        refine qm_Ru.go 6 (c' := (1823, [.retAddr 0, .ref 0, .ref 118, .int i], [.int (i + 1), .retAddr 0, .ref 118], h)) rfl ?_
        rw [q_v1]
        refine hk_scr (v := s2) rfl (by omega) (by omega) q_s2 ?_
        refine qm_Ru.go 4 (c' := (1828, [.retAddr 0, .ref 0, .ref 118, .int i], [.int (i + 2), .retAddr 0, .int s2, .ref 118], h)) rfl ?_
        rw [q_v3]
        refine hk_scr (v := s4) rfl (by omega) (by omega) q_s4 ?_
        refine qm_Ru.go 4 (c' := (1833, [.retAddr 0, .ref 0, .ref 118, .int i], [.int (i + 3), .retAddr 0, .int s4, .int s2, .ref 118], h)) rfl ?_
        rw [q_v5]
        refine hk_scr (v := s6) rfl (by omega) (by omega) q_s6 ?_
        refine qm_Ru.go 0 (c' := (1834, [.retAddr 0, .ref 0, .ref 118, .int i], [.int s6, .int s4, .int s2, .ref 118], h)) rfl ?_
        refine hk_zeq (ix := s6.toInt) rfl rfl (fun z22 => ?_) (fun z22 => by exfalso; omega)
        refine qm_Ru.go 5 (c' := (1846, [.retAddr 0, .ref 0, .ref 118, .int i], [.int (i + 4), .retAddr 0, .int 0, .int s4, .int s2, .ref 118], h)) rfl ?_
        rw [q_v8]
        refine hk_scr (v := s9) rfl (by omega) (by omega) q_s9 ?_
        refine qm_Ru.go 0 (c' := (1847, [.retAddr 0, .ref 0, .ref 118, .int i], [.int s9, .int 0, .int s4, .int s2, .ref 118], h)) rfl ?_
        refine hk_inv (o := 118) (r := []) (as := [.ref 118, .int s2, .int s4, .int 0, .int s9]) rfl rfl (hH.1 118 (17, 105) rfl) rfl rfl rfl rfl ?_
        refine qm_Ru.go 3 (c' := (3, [.ref 118, .int s2, .int s4, .int 0, .int s9, .float 0], [.int 1, .int 0, .int s2], h)) rfl ?_
        refine qm_Ru.call (j := 270) (as := [.int s2, .int 0, .int 1]) (c' := (6, [.ref 118, .int s2, .int s4, .int 0, .int s9, .float 0], [], h)) rfl rfl rfl ?_
        refine qm_Ru.go 2 (c' := (2, [.int s2, .int 0, .int 1], [.int 0, .int s2], h)) rfl ?_
        refine hk_clt (ix := s2.toInt) (iy := 0) rfl rfl rfl (fun z24 => by exfalso; omega) (fun z24 => ?_)
        refine qm_Ru.go 2 (c' := (7, [.int s2, .int 0, .int 1], [.int 1, .int s2], h)) rfl ?_
        refine hk_cgt (ix := s2.toInt) (iy := 1) rfl rfl rfl (fun z25 => ?_) (fun z25 => by exfalso; omega)
        refine qm_Ru.go 1 (c' := (15, [.int s2, .int 0, .int 1], [.int 0], h)) rfl ?_
        refine qm_Ru.rt (v := (some (.int 0))) (h' := h) rfl ?_
        refine qm_Ru.go 2 (c' := (41, [.ref 118, .int s2, .int s4, .int 0, .int s9, .float 0], [.int (-1)], h)) rfl ?_
        refine qm_Ru.rt (v := (some (.int (-1)))) (h' := h) rfl ?_
        refine qm_Ru.go 3 (c' := (2081, [.retAddr 0, .ref 0, .ref 118, .int (i + 6)], [], h)) rfl ?_
        obtain ⟨v26, q_v26, e_v26⟩ := hk_add (x := i) (y := 6) (a := i.toInt) (b := 6) rfl rfl (by omega) (by omega)
        rw [q_v26]
        refine qm_Ru.go 1 (c' := (18, [.retAddr 0, .ref 0, .ref 118, .int v26], [], h)) rfl ?_
        have hG : gR (h.2.1) := hS.2
        have hS1 : gS (h.1, h.2.1, h.2.2.1, h.2.2.2) := hS.1
        have hS2 : gS2 (h.1, h.2.1, h.2.2.1, h.2.2.2) := ⟨hS1, hG⟩
        have hX3 : gX (h.1, h.2.1, h.2.2.1, h.2.2.2) := hX
        have hZ3 : (gZB tb) (h.1, h.2.1, h.2.2.1, h.2.2.2) := hZ
        exact hE _ v26 (by omega) (qa_Inv_of0 ⟨hH.1, hH.2⟩ hB ⟨⟨⟨hS2, hX3⟩, hZ3⟩, t⟩ (gS2_ru hS2))
      · refine qm_Ru.go 2 (c' := (14, [.int s2, .int 2], [.int 1], h)) rfl ?_
        refine qm_Ru.rt (v := (some (.int 1))) (h' := h) rfl ?_
        refine qm_Ru.go 2 (c' := (9, [.ref 0, .int s2, .int s4, .int 0, .int s9], [.ref 0], h)) rfl ?_
        refine hk_getr rfl (hH.1 0 (16, 10) rfl) rfl (hH.2 0 2 (some 6) rfl) ?_
        refine qm_Ru.go 1 (c' := (13, [.ref 0, .int s2, .int s4, .int 0, .int s9], [.int s4, .ref 6], h)) rfl ?_
        refine hk_inv (o := 6) (r := []) (as := [.ref 6, .int s4]) rfl rfl (hH.1 6 (6, 9) rfl) rfl rfl rfl rfl ?_
        refine qm_Ru.go 1 (c' := (1, [.ref 6, .int s4], [.int s4], h)) rfl ?_
        refine hk_zlt (ix := s4.toInt) rfl rfl (fun z27 => ?_) (fun z27 => ?_)
        · refine qm_Ru.go 1 (c' := (17, [.ref 6, .int s4], [.int 0], h)) rfl ?_
          refine qm_Ru.rt (v := (some (.int 0))) (h' := h) rfl ?_
          refine qm_Ru.go 2 (c' := (33, [.ref 0, .int s2, .int s4, .int 0, .int s9], [.int (-1)], h)) rfl ?_
          refine qm_Ru.rt (v := (some (.int (-1)))) (h' := h) rfl ?_
          refine qm_Ru.go 6 (c' := (1823, [.retAddr 0, .ref 0, .ref 118, .int i], [.int (i + 1), .retAddr 0, .ref 118], h)) rfl ?_
          rw [q_v1]
          refine hk_scr (v := s2) rfl (by omega) (by omega) q_s2 ?_
          refine qm_Ru.go 4 (c' := (1828, [.retAddr 0, .ref 0, .ref 118, .int i], [.int (i + 2), .retAddr 0, .int s2, .ref 118], h)) rfl ?_
          rw [q_v3]
          refine hk_scr (v := s4) rfl (by omega) (by omega) q_s4 ?_
          refine qm_Ru.go 4 (c' := (1833, [.retAddr 0, .ref 0, .ref 118, .int i], [.int (i + 3), .retAddr 0, .int s4, .int s2, .ref 118], h)) rfl ?_
          rw [q_v5]
          refine hk_scr (v := s6) rfl (by omega) (by omega) q_s6 ?_
          refine qm_Ru.go 0 (c' := (1834, [.retAddr 0, .ref 0, .ref 118, .int i], [.int s6, .int s4, .int s2, .ref 118], h)) rfl ?_
          refine hk_zeq (ix := s6.toInt) rfl rfl (fun z31 => ?_) (fun z31 => by exfalso; omega)
          refine qm_Ru.go 5 (c' := (1846, [.retAddr 0, .ref 0, .ref 118, .int i], [.int (i + 4), .retAddr 0, .int 0, .int s4, .int s2, .ref 118], h)) rfl ?_
          rw [q_v8]
          refine hk_scr (v := s9) rfl (by omega) (by omega) q_s9 ?_
          refine qm_Ru.go 0 (c' := (1847, [.retAddr 0, .ref 0, .ref 118, .int i], [.int s9, .int 0, .int s4, .int s2, .ref 118], h)) rfl ?_
          refine hk_inv (o := 118) (r := []) (as := [.ref 118, .int s2, .int s4, .int 0, .int s9]) rfl rfl (hH.1 118 (17, 105) rfl) rfl rfl rfl rfl ?_
          refine qm_Ru.go 3 (c' := (3, [.ref 118, .int s2, .int s4, .int 0, .int s9, .float 0], [.int 1, .int 0, .int s2], h)) rfl ?_
          refine qm_Ru.call (j := 270) (as := [.int s2, .int 0, .int 1]) (c' := (6, [.ref 118, .int s2, .int s4, .int 0, .int s9, .float 0], [], h)) rfl rfl rfl ?_
          refine qm_Ru.go 2 (c' := (2, [.int s2, .int 0, .int 1], [.int 0, .int s2], h)) rfl ?_
          refine hk_clt (ix := s2.toInt) (iy := 0) rfl rfl rfl (fun z33 => by exfalso; omega) (fun z33 => ?_)
          refine qm_Ru.go 2 (c' := (7, [.int s2, .int 0, .int 1], [.int 1, .int s2], h)) rfl ?_
          refine hk_cgt (ix := s2.toInt) (iy := 1) rfl rfl rfl (fun z34 => by exfalso; omega) (fun z34 => ?_)
          refine qm_Ru.go 2 (c' := (15, [.int s2, .int 0, .int 1], [.int 1], h)) rfl ?_
          refine qm_Ru.rt (v := (some (.int 1))) (h' := h) rfl ?_
          refine qm_Ru.go 2 (c' := (10, [.ref 118, .int s2, .int s4, .int 0, .int s9, .float 0], [.ref 118], h)) rfl ?_
          refine hk_getr rfl (hH.1 118 (17, 105) rfl) rfl (hH.2 118 95 (some 182) rfl) ?_
          refine qm_Ru.go 1 (c' := (14, [.ref 118, .int s2, .int s4, .int 0, .int s9, .float 0], [.int s2, .ref 182], h)) rfl ?_
          obtain ⟨v35, q_v35⟩ : ∃ v_, h.2.1 182 (s2.toInt.toNat) = v_ := ⟨_, rfl⟩
          refine hk_ial (v := v35) rfl (hH.1 182 (0, 2) rfl) (by omega) (by omega) q_v35 ?_
          refine qm_Ru.go 1 (c' := (17, [.ref 118, .int s2, .int s4, .int 0, .int s9, .float 0], [.int 30, .int v35], h)) rfl ?_
          refine hk_ceq (ix := v35.toInt) (iy := 30) rfl rfl rfl (fun z36 => ?_) (fun z36 => ?_)
          · refine qm_Ru.go 1 (c' := (41, [.ref 118, .int s2, .int s4, .int 0, .int s9, .float 0], [.int (-1)], h)) rfl ?_
            refine qm_Ru.rt (v := (some (.int (-1)))) (h' := h) rfl ?_
            refine qm_Ru.go 3 (c' := (2081, [.retAddr 0, .ref 0, .ref 118, .int (i + 6)], [], h)) rfl ?_
            obtain ⟨v37, q_v37, e_v37⟩ := hk_add (x := i) (y := 6) (a := i.toInt) (b := 6) rfl rfl (by omega) (by omega)
            rw [q_v37]
            refine qm_Ru.go 1 (c' := (18, [.retAddr 0, .ref 0, .ref 118, .int v37], [], h)) rfl ?_
            have hG : gR (h.2.1) := hS.2
            have hS1 : gS (h.1, h.2.1, h.2.2.1, h.2.2.2) := hS.1
            have hS2 : gS2 (h.1, h.2.1, h.2.2.1, h.2.2.2) := ⟨hS1, hG⟩
            have hX3 : gX (h.1, h.2.1, h.2.2.1, h.2.2.2) := hX
            have hZ3 : (gZB tb) (h.1, h.2.1, h.2.2.1, h.2.2.2) := hZ
            exact hE _ v37 (by omega) (qa_Inv_of0 ⟨hH.1, hH.2⟩ hB ⟨⟨⟨hS2, hX3⟩, hZ3⟩, t⟩ (gS2_ru hS2))
          · refine qm_Ru.go 2 (c' := (22, [.ref 118, .int s2, .int s4, .int 0, .int s9, .float 0], [.int s4, .ref 118], h)) rfl ?_
            refine hk_inv (o := 118) (r := []) (as := [.ref 118, .int s4]) rfl rfl (hH.1 118 (17, 105) rfl) rfl rfl rfl rfl ?_
            refine qm_Ru.go 3 (c' := (3, [.ref 118, .int s4], [.ref 118, .int 0, .int s4], h)) rfl ?_
            refine hk_geti (v := c0) rfl (hH.1 118 (17, 105) rfl) rfl p_c0 ?_
            refine qm_Ru.go 2 (c' := (8, [.ref 118, .int s4], [.int (c0 - 1), .int 0, .int s4], h)) rfl ?_
            obtain ⟨v38, q_v38, e_v38⟩ := hk_sub (x := c0) (y := 1) (a := c0.toInt) (b := 1) rfl rfl (by omega) (by omega)
            rw [q_v38]
            refine qm_Ru.call (j := 270) (as := [.int s4, .int 0, .int v38]) (c' := (11, [.ref 118, .int s4], [], h)) rfl rfl rfl ?_
            refine qm_Ru.go 2 (c' := (2, [.int s4, .int 0, .int v38], [.int 0, .int s4], h)) rfl ?_
            refine hk_clt (ix := s4.toInt) (iy := 0) rfl rfl rfl (fun z39 => ?_) (fun z39 => by exfalso; omega)
            refine qm_Ru.go 1 (c' := (15, [.int s4, .int 0, .int v38], [.int 0], h)) rfl ?_
            refine qm_Ru.rt (v := (some (.int 0))) (h' := h) rfl ?_
            refine qm_Ru.go 0 (c' := (11, [.ref 118, .int s4], [.int 0], h)) rfl ?_
            refine qm_Ru.rt (v := (some (.int 0))) (h' := h) rfl ?_
            refine qm_Ru.go 2 (c' := (41, [.ref 118, .int s2, .int s4, .int 0, .int s9, .float 0], [.int (-1)], h)) rfl ?_
            refine qm_Ru.rt (v := (some (.int (-1)))) (h' := h) rfl ?_
            refine qm_Ru.go 3 (c' := (2081, [.retAddr 0, .ref 0, .ref 118, .int (i + 6)], [], h)) rfl ?_
            obtain ⟨v40, q_v40, e_v40⟩ := hk_add (x := i) (y := 6) (a := i.toInt) (b := 6) rfl rfl (by omega) (by omega)
            rw [q_v40]
            refine qm_Ru.go 1 (c' := (18, [.retAddr 0, .ref 0, .ref 118, .int v40], [], h)) rfl ?_
            have hG : gR (h.2.1) := hS.2
            have hS1 : gS (h.1, h.2.1, h.2.2.1, h.2.2.2) := hS.1
            have hS2 : gS2 (h.1, h.2.1, h.2.2.1, h.2.2.2) := ⟨hS1, hG⟩
            have hX3 : gX (h.1, h.2.1, h.2.2.1, h.2.2.2) := hX
            have hZ3 : (gZB tb) (h.1, h.2.1, h.2.2.1, h.2.2.2) := hZ
            exact hE _ v40 (by omega) (qa_Inv_of0 ⟨hH.1, hH.2⟩ hB ⟨⟨⟨hS2, hX3⟩, hZ3⟩, t⟩ (gS2_ru hS2))
        · refine qm_Ru.go 2 (c' := (6, [.ref 6, .int s4], [.ref 6, .int s4], h)) rfl ?_
          refine hk_geti (v := c0) rfl (hH.1 6 (6, 9) rfl) rfl q_c0 ?_
          refine qm_Ru.go 0 (c' := (9, [.ref 6, .int s4], [.int c0, .int s4], h)) rfl ?_
          refine hk_cge (ix := s4.toInt) (iy := c0.toInt) rfl rfl rfl (fun z41 => ?_) (fun z41 => ?_)
          · refine qm_Ru.go 1 (c' := (17, [.ref 6, .int s4], [.int 0], h)) rfl ?_
            refine qm_Ru.rt (v := (some (.int 0))) (h' := h) rfl ?_
            refine qm_Ru.go 2 (c' := (33, [.ref 0, .int s2, .int s4, .int 0, .int s9], [.int (-1)], h)) rfl ?_
            refine qm_Ru.rt (v := (some (.int (-1)))) (h' := h) rfl ?_
            refine qm_Ru.go 6 (c' := (1823, [.retAddr 0, .ref 0, .ref 118, .int i], [.int (i + 1), .retAddr 0, .ref 118], h)) rfl ?_
            rw [q_v1]
            refine hk_scr (v := s2) rfl (by omega) (by omega) q_s2 ?_
            refine qm_Ru.go 4 (c' := (1828, [.retAddr 0, .ref 0, .ref 118, .int i], [.int (i + 2), .retAddr 0, .int s2, .ref 118], h)) rfl ?_
            rw [q_v3]
            refine hk_scr (v := s4) rfl (by omega) (by omega) q_s4 ?_
            refine qm_Ru.go 4 (c' := (1833, [.retAddr 0, .ref 0, .ref 118, .int i], [.int (i + 3), .retAddr 0, .int s4, .int s2, .ref 118], h)) rfl ?_
            rw [q_v5]
            refine hk_scr (v := s6) rfl (by omega) (by omega) q_s6 ?_
            refine qm_Ru.go 0 (c' := (1834, [.retAddr 0, .ref 0, .ref 118, .int i], [.int s6, .int s4, .int s2, .ref 118], h)) rfl ?_
            refine hk_zeq (ix := s6.toInt) rfl rfl (fun z45 => ?_) (fun z45 => by exfalso; omega)
            refine qm_Ru.go 5 (c' := (1846, [.retAddr 0, .ref 0, .ref 118, .int i], [.int (i + 4), .retAddr 0, .int 0, .int s4, .int s2, .ref 118], h)) rfl ?_
            rw [q_v8]
            refine hk_scr (v := s9) rfl (by omega) (by omega) q_s9 ?_
            refine qm_Ru.go 0 (c' := (1847, [.retAddr 0, .ref 0, .ref 118, .int i], [.int s9, .int 0, .int s4, .int s2, .ref 118], h)) rfl ?_
            refine hk_inv (o := 118) (r := []) (as := [.ref 118, .int s2, .int s4, .int 0, .int s9]) rfl rfl (hH.1 118 (17, 105) rfl) rfl rfl rfl rfl ?_
            refine qm_Ru.go 3 (c' := (3, [.ref 118, .int s2, .int s4, .int 0, .int s9, .float 0], [.int 1, .int 0, .int s2], h)) rfl ?_
            refine qm_Ru.call (j := 270) (as := [.int s2, .int 0, .int 1]) (c' := (6, [.ref 118, .int s2, .int s4, .int 0, .int s9, .float 0], [], h)) rfl rfl rfl ?_
            refine qm_Ru.go 2 (c' := (2, [.int s2, .int 0, .int 1], [.int 0, .int s2], h)) rfl ?_
            refine hk_clt (ix := s2.toInt) (iy := 0) rfl rfl rfl (fun z47 => by exfalso; omega) (fun z47 => ?_)
            refine qm_Ru.go 2 (c' := (7, [.int s2, .int 0, .int 1], [.int 1, .int s2], h)) rfl ?_
            refine hk_cgt (ix := s2.toInt) (iy := 1) rfl rfl rfl (fun z48 => by exfalso; omega) (fun z48 => ?_)
            refine qm_Ru.go 2 (c' := (15, [.int s2, .int 0, .int 1], [.int 1], h)) rfl ?_
            refine qm_Ru.rt (v := (some (.int 1))) (h' := h) rfl ?_
            refine qm_Ru.go 2 (c' := (10, [.ref 118, .int s2, .int s4, .int 0, .int s9, .float 0], [.ref 118], h)) rfl ?_
            refine hk_getr rfl (hH.1 118 (17, 105) rfl) rfl (hH.2 118 95 (some 182) rfl) ?_
            refine qm_Ru.go 1 (c' := (14, [.ref 118, .int s2, .int s4, .int 0, .int s9, .float 0], [.int s2, .ref 182], h)) rfl ?_
            obtain ⟨v49, q_v49⟩ : ∃ v_, h.2.1 182 (s2.toInt.toNat) = v_ := ⟨_, rfl⟩
            refine hk_ial (v := v49) rfl (hH.1 182 (0, 2) rfl) (by omega) (by omega) q_v49 ?_
            refine qm_Ru.go 1 (c' := (17, [.ref 118, .int s2, .int s4, .int 0, .int s9, .float 0], [.int 30, .int v49], h)) rfl ?_
            refine hk_ceq (ix := v49.toInt) (iy := 30) rfl rfl rfl (fun z50 => ?_) (fun z50 => ?_)
            · refine qm_Ru.go 1 (c' := (41, [.ref 118, .int s2, .int s4, .int 0, .int s9, .float 0], [.int (-1)], h)) rfl ?_
              refine qm_Ru.rt (v := (some (.int (-1)))) (h' := h) rfl ?_
              refine qm_Ru.go 3 (c' := (2081, [.retAddr 0, .ref 0, .ref 118, .int (i + 6)], [], h)) rfl ?_
              obtain ⟨v51, q_v51, e_v51⟩ := hk_add (x := i) (y := 6) (a := i.toInt) (b := 6) rfl rfl (by omega) (by omega)
              rw [q_v51]
              refine qm_Ru.go 1 (c' := (18, [.retAddr 0, .ref 0, .ref 118, .int v51], [], h)) rfl ?_
              have hG : gR (h.2.1) := hS.2
              have hS1 : gS (h.1, h.2.1, h.2.2.1, h.2.2.2) := hS.1
              have hS2 : gS2 (h.1, h.2.1, h.2.2.1, h.2.2.2) := ⟨hS1, hG⟩
              have hX3 : gX (h.1, h.2.1, h.2.2.1, h.2.2.2) := hX
              have hZ3 : (gZB tb) (h.1, h.2.1, h.2.2.1, h.2.2.2) := hZ
              exact hE _ v51 (by omega) (qa_Inv_of0 ⟨hH.1, hH.2⟩ hB ⟨⟨⟨hS2, hX3⟩, hZ3⟩, t⟩ (gS2_ru hS2))
            · refine qm_Ru.go 2 (c' := (22, [.ref 118, .int s2, .int s4, .int 0, .int s9, .float 0], [.int s4, .ref 118], h)) rfl ?_
              refine hk_inv (o := 118) (r := []) (as := [.ref 118, .int s4]) rfl rfl (hH.1 118 (17, 105) rfl) rfl rfl rfl rfl ?_
              refine qm_Ru.go 3 (c' := (3, [.ref 118, .int s4], [.ref 118, .int 0, .int s4], h)) rfl ?_
              refine hk_geti (v := c0) rfl (hH.1 118 (17, 105) rfl) rfl p_c0 ?_
              refine qm_Ru.go 2 (c' := (8, [.ref 118, .int s4], [.int (c0 - 1), .int 0, .int s4], h)) rfl ?_
              obtain ⟨v52, q_v52, e_v52⟩ := hk_sub (x := c0) (y := 1) (a := c0.toInt) (b := 1) rfl rfl (by omega) (by omega)
              rw [q_v52]
              refine qm_Ru.call (j := 270) (as := [.int s4, .int 0, .int v52]) (c' := (11, [.ref 118, .int s4], [], h)) rfl rfl rfl ?_
              refine qm_Ru.go 2 (c' := (2, [.int s4, .int 0, .int v52], [.int 0, .int s4], h)) rfl ?_
              refine hk_clt (ix := s4.toInt) (iy := 0) rfl rfl rfl (fun z53 => by exfalso; omega) (fun z53 => ?_)
              refine qm_Ru.go 2 (c' := (7, [.int s4, .int 0, .int v52], [.int v52, .int s4], h)) rfl ?_
              refine hk_cgt (ix := s4.toInt) (iy := v52.toInt) rfl rfl rfl (fun z54 => ?_) (fun z54 => ?_)
              · refine qm_Ru.go 1 (c' := (15, [.int s4, .int 0, .int v52], [.int 0], h)) rfl ?_
                refine qm_Ru.rt (v := (some (.int 0))) (h' := h) rfl ?_
                refine qm_Ru.go 0 (c' := (11, [.ref 118, .int s4], [.int 0], h)) rfl ?_
                refine qm_Ru.rt (v := (some (.int 0))) (h' := h) rfl ?_
                refine qm_Ru.go 2 (c' := (41, [.ref 118, .int s2, .int s4, .int 0, .int s9, .float 0], [.int (-1)], h)) rfl ?_
                refine qm_Ru.rt (v := (some (.int (-1)))) (h' := h) rfl ?_
                refine qm_Ru.go 3 (c' := (2081, [.retAddr 0, .ref 0, .ref 118, .int (i + 6)], [], h)) rfl ?_
                obtain ⟨v55, q_v55, e_v55⟩ := hk_add (x := i) (y := 6) (a := i.toInt) (b := 6) rfl rfl (by omega) (by omega)
                rw [q_v55]
                refine qm_Ru.go 1 (c' := (18, [.retAddr 0, .ref 0, .ref 118, .int v55], [], h)) rfl ?_
                have hG : gR (h.2.1) := hS.2
                have hS1 : gS (h.1, h.2.1, h.2.2.1, h.2.2.2) := hS.1
                have hS2 : gS2 (h.1, h.2.1, h.2.2.1, h.2.2.2) := ⟨hS1, hG⟩
                have hX3 : gX (h.1, h.2.1, h.2.2.1, h.2.2.2) := hX
                have hZ3 : (gZB tb) (h.1, h.2.1, h.2.2.1, h.2.2.2) := hZ
                exact hE _ v55 (by omega) (qa_Inv_of0 ⟨hH.1, hH.2⟩ hB ⟨⟨⟨hS2, hX3⟩, hZ3⟩, t⟩ (gS2_ru hS2))
              · refine qm_Ru.go 2 (c' := (15, [.int s4, .int 0, .int v52], [.int 1], h)) rfl ?_
                refine qm_Ru.rt (v := (some (.int 1))) (h' := h) rfl ?_
                refine qm_Ru.go 0 (c' := (11, [.ref 118, .int s4], [.int 1], h)) rfl ?_
                refine qm_Ru.rt (v := (some (.int 1))) (h' := h) rfl ?_
                refine qm_Ru.go 4 (c' := (34, [.ref 118, .int s2, .int s4, .int 0, .int s9, .float 0], [.int 9999, .int 0, .int s9], h)) rfl ?_
                refine qm_Ru.call (j := 270) (as := [.int s9, .int 0, .int 9999]) (c' := (37, [.ref 118, .int s2, .int s4, .int 0, .int s9, .float 0], [], h)) rfl rfl rfl ?_
                refine qm_Ru.go 2 (c' := (2, [.int s9, .int 0, .int 9999], [.int 0, .int s9], h)) rfl ?_
                refine hk_clt (ix := s9.toInt) (iy := 0) rfl rfl rfl (fun z56 => ?_) (fun z56 => ?_)
                · refine qm_Ru.go 1 (c' := (15, [.int s9, .int 0, .int 9999], [.int 0], h)) rfl ?_
                  refine qm_Ru.rt (v := (some (.int 0))) (h' := h) rfl ?_
                  refine qm_Ru.go 2 (c' := (41, [.ref 118, .int s2, .int s4, .int 0, .int s9, .float 0], [.int (-1)], h)) rfl ?_
                  refine qm_Ru.rt (v := (some (.int (-1)))) (h' := h) rfl ?_
                  refine qm_Ru.go 3 (c' := (2081, [.retAddr 0, .ref 0, .ref 118, .int (i + 6)], [], h)) rfl ?_
                  obtain ⟨v57, q_v57, e_v57⟩ := hk_add (x := i) (y := 6) (a := i.toInt) (b := 6) rfl rfl (by omega) (by omega)
                  rw [q_v57]
                  refine qm_Ru.go 1 (c' := (18, [.retAddr 0, .ref 0, .ref 118, .int v57], [], h)) rfl ?_
                  have hG : gR (h.2.1) := hS.2
                  have hS1 : gS (h.1, h.2.1, h.2.2.1, h.2.2.2) := hS.1
                  have hS2 : gS2 (h.1, h.2.1, h.2.2.1, h.2.2.2) := ⟨hS1, hG⟩
                  have hX3 : gX (h.1, h.2.1, h.2.2.1, h.2.2.2) := hX
                  have hZ3 : (gZB tb) (h.1, h.2.1, h.2.2.1, h.2.2.2) := hZ
                  exact hE _ v57 (by omega) (qa_Inv_of0 ⟨hH.1, hH.2⟩ hB ⟨⟨⟨hS2, hX3⟩, hZ3⟩, t⟩ (gS2_ru hS2))
                · refine qm_Ru.go 2 (c' := (7, [.int s9, .int 0, .int 9999], [.int 9999, .int s9], h)) rfl ?_
                  refine hk_cgt (ix := s9.toInt) (iy := 9999) rfl rfl rfl (fun z58 => ?_) (fun z58 => ?_)
                  · refine qm_Ru.go 1 (c' := (15, [.int s9, .int 0, .int 9999], [.int 0], h)) rfl ?_
                    refine qm_Ru.rt (v := (some (.int 0))) (h' := h) rfl ?_
                    refine qm_Ru.go 2 (c' := (41, [.ref 118, .int s2, .int s4, .int 0, .int s9, .float 0], [.int (-1)], h)) rfl ?_
                    refine qm_Ru.rt (v := (some (.int (-1)))) (h' := h) rfl ?_
                    refine qm_Ru.go 3 (c' := (2081, [.retAddr 0, .ref 0, .ref 118, .int (i + 6)], [], h)) rfl ?_
                    obtain ⟨v59, q_v59, e_v59⟩ := hk_add (x := i) (y := 6) (a := i.toInt) (b := 6) rfl rfl (by omega) (by omega)
                    rw [q_v59]
                    refine qm_Ru.go 1 (c' := (18, [.retAddr 0, .ref 0, .ref 118, .int v59], [], h)) rfl ?_
                    have hG : gR (h.2.1) := hS.2
                    have hS1 : gS (h.1, h.2.1, h.2.2.1, h.2.2.2) := hS.1
                    have hS2 : gS2 (h.1, h.2.1, h.2.2.1, h.2.2.2) := ⟨hS1, hG⟩
                    have hX3 : gX (h.1, h.2.1, h.2.2.1, h.2.2.2) := hX
                    have hZ3 : (gZB tb) (h.1, h.2.1, h.2.2.1, h.2.2.2) := hZ
                    exact hE _ v59 (by omega) (qa_Inv_of0 ⟨hH.1, hH.2⟩ hB ⟨⟨⟨hS2, hX3⟩, hZ3⟩, t⟩ (gS2_ru hS2))
                  · refine qm_Ru.go 2 (c' := (15, [.int s9, .int 0, .int 9999], [.int 1], h)) rfl ?_
                    refine qm_Ru.rt (v := (some (.int 1))) (h' := h) rfl ?_
                    refine qm_Ru.go 4 (c' := (46, [.ref 118, .int s2, .int s4, .int 0, .int s9, .float 0], [.int (30 * s2)], h)) rfl ?_
                    obtain ⟨v60, q_v60, e_v60⟩ := hk_mul (x := 30) (y := s2) (a := 30) (b := s2.toInt) rfl rfl (by omega) (by omega)
                    rw [q_v60]
                    refine qm_Ru.go 1 (c' := (47, [.ref 118, .int s2, .int s4, .int 0, .int s9, .float 0], [.ref 118, .int v60], h)) rfl ?_
                    refine hk_getr rfl (hH.1 118 (17, 105) rfl) rfl (hH.2 118 95 (some 182) rfl) ?_
                    refine qm_Ru.go 1 (c' := (51, [.ref 118, .int s2, .int s4, .int 0, .int s9, .float 0], [.int s2, .ref 182, .int v60], h)) rfl ?_
                    refine hk_ial (v := v49) rfl (hH.1 182 (0, 2) rfl) (by omega) (by omega) q_v49 ?_
                    refine qm_Ru.go 1 (c' := (53, [.ref 118, .int s2, .int s4, .int 0, .int s9, .float 0], [.int (v60 + v49)], h)) rfl ?_
                    obtain ⟨v61, q_v61⟩ : ∃ v_, (v60 + v49) = v_ := ⟨_, rfl⟩
                    rw [q_v61]
                    refine qm_Ru.go 2 (c' := (56, [.ref 118, .int s2, .int s4, .int 0, .int s9, .int v61], [.ref 118], h)) rfl ?_
                    refine hk_getr rfl (hH.1 118 (17, 105) rfl) rfl (hH.2 118 96 (some 183) rfl) ?_
                    refine qm_Ru.go 2 (c' := (62, [.ref 118, .int s2, .int s4, .int 0, .int s9, .int v61], [.int s4, .int v61, .ref 183], h)) rfl ?_
                    refine hk_ias rfl (hH.1 183 (0, 60) rfl) (by omega) (by omega) ?_
                    refine qm_Ru.go 1 (c' := (64, [.ref 118, .int s2, .int s4, .int 0, .int s9, .int v61], [.ref 118], (h.1, qm_up h.2.1 183 (v61.toInt.toNat) s4, h.2.2.1, h.2.2.2))) rfl ?_
                    refine hk_getr rfl (hH.1 118 (17, 105) rfl) rfl (hH.2 118 97 (some 184) rfl) ?_
                    refine qm_Ru.go 2 (c' := (70, [.ref 118, .int s2, .int s4, .int 0, .int s9, .int v61], [.int 0, .int v61, .ref 184], (h.1, qm_up h.2.1 183 (v61.toInt.toNat) s4, h.2.2.1, h.2.2.2))) rfl ?_
                    refine hk_bas rfl (hH.1 184 (2, 60) rfl) (by omega) (by omega) rfl ?_
                    refine qm_Ru.go 1 (c' := (72, [.ref 118, .int s2, .int s4, .int 0, .int s9, .int v61], [.ref 118], (h.1, qm_up (qm_up h.2.1 183 (v61.toInt.toNat) s4) 184 (v61.toInt.toNat) 0, h.2.2.1, h.2.2.2))) rfl ?_
                    refine hk_getr rfl (hH.1 118 (17, 105) rfl) rfl (hH.2 118 98 (some 185) rfl) ?_
                    refine qm_Ru.go 2 (c' := (79, [.ref 118, .int s2, .int s4, .int 0, .int s9, .int v61], [.int s9, .int v61, .ref 185], (h.1, qm_up (qm_up h.2.1 183 (v61.toInt.toNat) s4) 184 (v61.toInt.toNat) 0, h.2.2.1, h.2.2.2))) rfl ?_
                    refine hk_ias rfl (hH.1 185 (0, 60) rfl) (by omega) (by omega) ?_
                    refine qm_Ru.go 1 (c' := (81, [.ref 118, .int s2, .int s4, .int 0, .int s9, .int v61], [.ref 118], (h.1, qm_up (qm_up (qm_up h.2.1 183 (v61.toInt.toNat) s4) 184 (v61.toInt.toNat) 0) 185 (v61.toInt.toNat) s9, h.2.2.1, h.2.2.2))) rfl ?_
                    refine hk_getr rfl (hH.1 118 (17, 105) rfl) rfl (hH.2 118 95 (some 182) rfl) ?_
                    refine qm_Ru.go 2 (c' := (86, [.ref 118, .int s2, .int s4, .int 0, .int s9, .int v61], [.int s2, .ref 182, .int s2, .ref 182], (h.1, qm_up (qm_up (qm_up h.2.1 183 (v61.toInt.toNat) s4) 184 (v61.toInt.toNat) 0) 185 (v61.toInt.toNat) s9, h.2.2.1, h.2.2.2))) rfl ?_
                    refine hk_ial (v := v49) rfl (hH.1 182 (0, 2) rfl) (by omega) (by omega) (show (qm_up (qm_up (qm_up h.2.1 183 (v61.toInt.toNat) s4) 184 (v61.toInt.toNat) 0) 185 (v61.toInt.toNat) s9) 182 (s2.toInt.toNat) = _ from ((hk_ot rfl).trans ((hk_ot rfl).trans ((hk_ot rfl).trans q_v49)))) ?_
                    refine qm_Ru.go 2 (c' := (89, [.ref 118, .int s2, .int s4, .int 0, .int s9, .int v61], [.int (v49 + 1), .int s2, .ref 182], (h.1, qm_up (qm_up (qm_up h.2.1 183 (v61.toInt.toNat) s4) 184 (v61.toInt.toNat) 0) 185 (v61.toInt.toNat) s9, h.2.2.1, h.2.2.2))) rfl ?_
                    obtain ⟨v62, q_v62⟩ : ∃ v_, (v49 + 1) = v_ := ⟨_, rfl⟩
                    rw [q_v62]
                    refine hk_ias rfl (hH.1 182 (0, 2) rfl) (by omega) (by omega) ?_
                    refine qm_Ru.go 1 (c' := (91, [.ref 118, .int s2, .int s4, .int 0, .int s9, .int v61], [.ref 118], (h.1, qm_up (qm_up (qm_up (qm_up h.2.1 183 (v61.toInt.toNat) s4) 184 (v61.toInt.toNat) 0) 185 (v61.toInt.toNat) s9) 182 (s2.toInt.toNat) v62, h.2.2.1, h.2.2.2))) rfl ?_
                    refine hk_getr rfl (hH.1 118 (17, 105) rfl) rfl (hH.2 118 95 (some 182) rfl) ?_
                    refine qm_Ru.go 1 (c' := (95, [.ref 118, .int s2, .int s4, .int 0, .int s9, .int v61], [.int s2, .ref 182], (h.1, qm_up (qm_up (qm_up (qm_up h.2.1 183 (v61.toInt.toNat) s4) 184 (v61.toInt.toNat) 0) 185 (v61.toInt.toNat) s9) 182 (s2.toInt.toNat) v62, h.2.2.1, h.2.2.2))) rfl ?_
                    refine hk_ial (v := v62) rfl (hH.1 182 (0, 2) rfl) (by omega) (by omega) (show (qm_up (qm_up (qm_up (qm_up h.2.1 183 (v61.toInt.toNat) s4) 184 (v61.toInt.toNat) 0) 185 (v61.toInt.toNat) s9) 182 (s2.toInt.toNat) v62) 182 (s2.toInt.toNat) = _ from (hk_same)) ?_
                    refine qm_Ru.go 2 (c' := (98, [.ref 118, .int s2, .int s4, .int 0, .int s9, .int v61], [.int (v62 - 1)], (h.1, qm_up (qm_up (qm_up (qm_up h.2.1 183 (v61.toInt.toNat) s4) 184 (v61.toInt.toNat) 0) 185 (v61.toInt.toNat) s9) 182 (s2.toInt.toNat) v62, h.2.2.1, h.2.2.2))) rfl ?_
                    obtain ⟨v63, q_v63⟩ : ∃ v_, (v62 - 1) = v_ := ⟨_, rfl⟩
                    rw [q_v63]
                    refine qm_Ru.rt (v := (some (.int v63))) (h' := (h.1, qm_up (qm_up (qm_up (qm_up h.2.1 183 (v61.toInt.toNat) s4) 184 (v61.toInt.toNat) 0) 185 (v61.toInt.toNat) s9) 182 (s2.toInt.toNat) v62, h.2.2.1, h.2.2.2)) rfl ?_
                    refine qm_Ru.go 3 (c' := (2081, [.retAddr 0, .ref 0, .ref 118, .int (i + 6)], [], (h.1, qm_up (qm_up (qm_up (qm_up h.2.1 183 (v61.toInt.toNat) s4) 184 (v61.toInt.toNat) 0) 185 (v61.toInt.toNat) s9) 182 (s2.toInt.toNat) v62, h.2.2.1, h.2.2.2))) rfl ?_
                    obtain ⟨v64, q_v64, e_v64⟩ := hk_add (x := i) (y := 6) (a := i.toInt) (b := 6) rfl rfl (by omega) (by omega)
                    rw [q_v64]
                    refine qm_Ru.go 1 (c' := (18, [.retAddr 0, .ref 0, .ref 118, .int v64], [], (h.1, qm_up (qm_up (qm_up (qm_up h.2.1 183 (v61.toInt.toNat) s4) 184 (v61.toInt.toNat) 0) 185 (v61.toInt.toNat) s9) 182 (s2.toInt.toNat) v62, h.2.2.1, h.2.2.2))) rfl ?_
                    exfalso
                    omega
          · refine qm_Ru.go 2 (c' := (17, [.ref 6, .int s4], [.int 1], h)) rfl ?_
            refine qm_Ru.rt (v := (some (.int 1))) (h' := h) rfl ?_
            refine qm_Ru.go 2 (c' := (21, [.ref 0, .int s2, .int s4, .int 0, .int s9], [.int s9], h)) rfl ?_
            refine hk_zlt (ix := s9.toInt) rfl rfl (fun z65 => ?_) (fun z65 => ?_)
            · refine qm_Ru.go 1 (c' := (33, [.ref 0, .int s2, .int s4, .int 0, .int s9], [.int (-1)], h)) rfl ?_
              refine qm_Ru.rt (v := (some (.int (-1)))) (h' := h) rfl ?_
              refine qm_Ru.go 6 (c' := (1823, [.retAddr 0, .ref 0, .ref 118, .int i], [.int (i + 1), .retAddr 0, .ref 118], h)) rfl ?_
              rw [q_v1]
              refine hk_scr (v := s2) rfl (by omega) (by omega) q_s2 ?_
              refine qm_Ru.go 4 (c' := (1828, [.retAddr 0, .ref 0, .ref 118, .int i], [.int (i + 2), .retAddr 0, .int s2, .ref 118], h)) rfl ?_
              rw [q_v3]
              refine hk_scr (v := s4) rfl (by omega) (by omega) q_s4 ?_
              refine qm_Ru.go 4 (c' := (1833, [.retAddr 0, .ref 0, .ref 118, .int i], [.int (i + 3), .retAddr 0, .int s4, .int s2, .ref 118], h)) rfl ?_
              rw [q_v5]
              refine hk_scr (v := s6) rfl (by omega) (by omega) q_s6 ?_
              refine qm_Ru.go 0 (c' := (1834, [.retAddr 0, .ref 0, .ref 118, .int i], [.int s6, .int s4, .int s2, .ref 118], h)) rfl ?_
              refine hk_zeq (ix := s6.toInt) rfl rfl (fun z69 => ?_) (fun z69 => by exfalso; omega)
              refine qm_Ru.go 5 (c' := (1846, [.retAddr 0, .ref 0, .ref 118, .int i], [.int (i + 4), .retAddr 0, .int 0, .int s4, .int s2, .ref 118], h)) rfl ?_
              rw [q_v8]
              refine hk_scr (v := s9) rfl (by omega) (by omega) q_s9 ?_
              refine qm_Ru.go 0 (c' := (1847, [.retAddr 0, .ref 0, .ref 118, .int i], [.int s9, .int 0, .int s4, .int s2, .ref 118], h)) rfl ?_
              refine hk_inv (o := 118) (r := []) (as := [.ref 118, .int s2, .int s4, .int 0, .int s9]) rfl rfl (hH.1 118 (17, 105) rfl) rfl rfl rfl rfl ?_
              refine qm_Ru.go 3 (c' := (3, [.ref 118, .int s2, .int s4, .int 0, .int s9, .float 0], [.int 1, .int 0, .int s2], h)) rfl ?_
              refine qm_Ru.call (j := 270) (as := [.int s2, .int 0, .int 1]) (c' := (6, [.ref 118, .int s2, .int s4, .int 0, .int s9, .float 0], [], h)) rfl rfl rfl ?_
              refine qm_Ru.go 2 (c' := (2, [.int s2, .int 0, .int 1], [.int 0, .int s2], h)) rfl ?_
              refine hk_clt (ix := s2.toInt) (iy := 0) rfl rfl rfl (fun z71 => by exfalso; omega) (fun z71 => ?_)
              refine qm_Ru.go 2 (c' := (7, [.int s2, .int 0, .int 1], [.int 1, .int s2], h)) rfl ?_
              refine hk_cgt (ix := s2.toInt) (iy := 1) rfl rfl rfl (fun z72 => by exfalso; omega) (fun z72 => ?_)
              refine qm_Ru.go 2 (c' := (15, [.int s2, .int 0, .int 1], [.int 1], h)) rfl ?_
              refine qm_Ru.rt (v := (some (.int 1))) (h' := h) rfl ?_
              refine qm_Ru.go 2 (c' := (10, [.ref 118, .int s2, .int s4, .int 0, .int s9, .float 0], [.ref 118], h)) rfl ?_
              refine hk_getr rfl (hH.1 118 (17, 105) rfl) rfl (hH.2 118 95 (some 182) rfl) ?_
              refine qm_Ru.go 1 (c' := (14, [.ref 118, .int s2, .int s4, .int 0, .int s9, .float 0], [.int s2, .ref 182], h)) rfl ?_
              obtain ⟨v73, q_v73⟩ : ∃ v_, h.2.1 182 (s2.toInt.toNat) = v_ := ⟨_, rfl⟩
              refine hk_ial (v := v73) rfl (hH.1 182 (0, 2) rfl) (by omega) (by omega) q_v73 ?_
              refine qm_Ru.go 1 (c' := (17, [.ref 118, .int s2, .int s4, .int 0, .int s9, .float 0], [.int 30, .int v73], h)) rfl ?_
              refine hk_ceq (ix := v73.toInt) (iy := 30) rfl rfl rfl (fun z74 => ?_) (fun z74 => ?_)
              · refine qm_Ru.go 1 (c' := (41, [.ref 118, .int s2, .int s4, .int 0, .int s9, .float 0], [.int (-1)], h)) rfl ?_
                refine qm_Ru.rt (v := (some (.int (-1)))) (h' := h) rfl ?_
                refine qm_Ru.go 3 (c' := (2081, [.retAddr 0, .ref 0, .ref 118, .int (i + 6)], [], h)) rfl ?_
                obtain ⟨v75, q_v75, e_v75⟩ := hk_add (x := i) (y := 6) (a := i.toInt) (b := 6) rfl rfl (by omega) (by omega)
                rw [q_v75]
                refine qm_Ru.go 1 (c' := (18, [.retAddr 0, .ref 0, .ref 118, .int v75], [], h)) rfl ?_
                have hG : gR (h.2.1) := hS.2
                have hS1 : gS (h.1, h.2.1, h.2.2.1, h.2.2.2) := hS.1
                have hS2 : gS2 (h.1, h.2.1, h.2.2.1, h.2.2.2) := ⟨hS1, hG⟩
                have hX3 : gX (h.1, h.2.1, h.2.2.1, h.2.2.2) := hX
                have hZ3 : (gZB tb) (h.1, h.2.1, h.2.2.1, h.2.2.2) := hZ
                exact hE _ v75 (by omega) (qa_Inv_of0 ⟨hH.1, hH.2⟩ hB ⟨⟨⟨hS2, hX3⟩, hZ3⟩, t⟩ (gS2_ru hS2))
              · refine qm_Ru.go 2 (c' := (22, [.ref 118, .int s2, .int s4, .int 0, .int s9, .float 0], [.int s4, .ref 118], h)) rfl ?_
                refine hk_inv (o := 118) (r := []) (as := [.ref 118, .int s4]) rfl rfl (hH.1 118 (17, 105) rfl) rfl rfl rfl rfl ?_
                refine qm_Ru.go 3 (c' := (3, [.ref 118, .int s4], [.ref 118, .int 0, .int s4], h)) rfl ?_
                refine hk_geti (v := c0) rfl (hH.1 118 (17, 105) rfl) rfl p_c0 ?_
                refine qm_Ru.go 2 (c' := (8, [.ref 118, .int s4], [.int (c0 - 1), .int 0, .int s4], h)) rfl ?_
                obtain ⟨v76, q_v76, e_v76⟩ := hk_sub (x := c0) (y := 1) (a := c0.toInt) (b := 1) rfl rfl (by omega) (by omega)
                rw [q_v76]
                refine qm_Ru.call (j := 270) (as := [.int s4, .int 0, .int v76]) (c' := (11, [.ref 118, .int s4], [], h)) rfl rfl rfl ?_
                refine qm_Ru.go 2 (c' := (2, [.int s4, .int 0, .int v76], [.int 0, .int s4], h)) rfl ?_
                refine hk_clt (ix := s4.toInt) (iy := 0) rfl rfl rfl (fun z77 => by exfalso; omega) (fun z77 => ?_)
                refine qm_Ru.go 2 (c' := (7, [.int s4, .int 0, .int v76], [.int v76, .int s4], h)) rfl ?_
                refine hk_cgt (ix := s4.toInt) (iy := v76.toInt) rfl rfl rfl (fun z78 => ?_) (fun z78 => ?_)
                · refine qm_Ru.go 1 (c' := (15, [.int s4, .int 0, .int v76], [.int 0], h)) rfl ?_
                  refine qm_Ru.rt (v := (some (.int 0))) (h' := h) rfl ?_
                  refine qm_Ru.go 0 (c' := (11, [.ref 118, .int s4], [.int 0], h)) rfl ?_
                  refine qm_Ru.rt (v := (some (.int 0))) (h' := h) rfl ?_
                  refine qm_Ru.go 2 (c' := (41, [.ref 118, .int s2, .int s4, .int 0, .int s9, .float 0], [.int (-1)], h)) rfl ?_
                  refine qm_Ru.rt (v := (some (.int (-1)))) (h' := h) rfl ?_
                  refine qm_Ru.go 3 (c' := (2081, [.retAddr 0, .ref 0, .ref 118, .int (i + 6)], [], h)) rfl ?_
                  obtain ⟨v79, q_v79, e_v79⟩ := hk_add (x := i) (y := 6) (a := i.toInt) (b := 6) rfl rfl (by omega) (by omega)
                  rw [q_v79]
                  refine qm_Ru.go 1 (c' := (18, [.retAddr 0, .ref 0, .ref 118, .int v79], [], h)) rfl ?_
                  have hG : gR (h.2.1) := hS.2
                  have hS1 : gS (h.1, h.2.1, h.2.2.1, h.2.2.2) := hS.1
                  have hS2 : gS2 (h.1, h.2.1, h.2.2.1, h.2.2.2) := ⟨hS1, hG⟩
                  have hX3 : gX (h.1, h.2.1, h.2.2.1, h.2.2.2) := hX
                  have hZ3 : (gZB tb) (h.1, h.2.1, h.2.2.1, h.2.2.2) := hZ
                  exact hE _ v79 (by omega) (qa_Inv_of0 ⟨hH.1, hH.2⟩ hB ⟨⟨⟨hS2, hX3⟩, hZ3⟩, t⟩ (gS2_ru hS2))
                · refine qm_Ru.go 2 (c' := (15, [.int s4, .int 0, .int v76], [.int 1], h)) rfl ?_
                  refine qm_Ru.rt (v := (some (.int 1))) (h' := h) rfl ?_
                  refine qm_Ru.go 0 (c' := (11, [.ref 118, .int s4], [.int 1], h)) rfl ?_
                  refine qm_Ru.rt (v := (some (.int 1))) (h' := h) rfl ?_
                  refine qm_Ru.go 4 (c' := (34, [.ref 118, .int s2, .int s4, .int 0, .int s9, .float 0], [.int 9999, .int 0, .int s9], h)) rfl ?_
                  refine qm_Ru.call (j := 270) (as := [.int s9, .int 0, .int 9999]) (c' := (37, [.ref 118, .int s2, .int s4, .int 0, .int s9, .float 0], [], h)) rfl rfl rfl ?_
                  refine qm_Ru.go 2 (c' := (2, [.int s9, .int 0, .int 9999], [.int 0, .int s9], h)) rfl ?_
                  refine hk_clt (ix := s9.toInt) (iy := 0) rfl rfl rfl (fun z80 => ?_) (fun z80 => by exfalso; omega)
                  refine qm_Ru.go 1 (c' := (15, [.int s9, .int 0, .int 9999], [.int 0], h)) rfl ?_
                  refine qm_Ru.rt (v := (some (.int 0))) (h' := h) rfl ?_
                  refine qm_Ru.go 2 (c' := (41, [.ref 118, .int s2, .int s4, .int 0, .int s9, .float 0], [.int (-1)], h)) rfl ?_
                  refine qm_Ru.rt (v := (some (.int (-1)))) (h' := h) rfl ?_
                  refine qm_Ru.go 3 (c' := (2081, [.retAddr 0, .ref 0, .ref 118, .int (i + 6)], [], h)) rfl ?_
                  obtain ⟨v81, q_v81, e_v81⟩ := hk_add (x := i) (y := 6) (a := i.toInt) (b := 6) rfl rfl (by omega) (by omega)
                  rw [q_v81]
                  refine qm_Ru.go 1 (c' := (18, [.retAddr 0, .ref 0, .ref 118, .int v81], [], h)) rfl ?_
                  have hG : gR (h.2.1) := hS.2
                  have hS1 : gS (h.1, h.2.1, h.2.2.1, h.2.2.2) := hS.1
                  have hS2 : gS2 (h.1, h.2.1, h.2.2.1, h.2.2.2) := ⟨hS1, hG⟩
                  have hX3 : gX (h.1, h.2.1, h.2.2.1, h.2.2.2) := hX
                  have hZ3 : (gZB tb) (h.1, h.2.1, h.2.2.1, h.2.2.2) := hZ
                  exact hE _ v81 (by omega) (qa_Inv_of0 ⟨hH.1, hH.2⟩ hB ⟨⟨⟨hS2, hX3⟩, hZ3⟩, t⟩ (gS2_ru hS2))
            · refine qm_Ru.go 2 (c' := (29, [.ref 0, .int s2, .int s4, .int 0, .int s9], [.int 9999, .int s9], h)) rfl ?_
              refine hk_cle (ix := s9.toInt) (iy := 9999) rfl rfl rfl (fun z82 => ?_) (fun z82 => ?_)
              · refine qm_Ru.go 1 (c' := (35, [.ref 0, .int s2, .int s4, .int 0, .int s9], [.ref 0], h)) rfl ?_
                refine hk_getr rfl (hH.1 0 (16, 10) rfl) rfl (hH.2 0 8 (some 98) rfl) ?_
                refine qm_Ru.go 4 (c' := (43, [.ref 0, .int s2, .int s4, .int 0, .int s9], [.int s9, .int 0, .int s4, .int s2, .ref 98], h)) rfl ?_
                rcases (show s2.toInt = 0 ∨ s2.toInt = 1 from by omega) with gb | gb
                · obtain ⟨y83, q_y83⟩ : ∃ v, h.2.1 99 (s2.toInt.toNat) = v := ⟨_, rfl⟩
                  have b_y83 : (0 : Int) ≤ y83.toInt ∧ y83.toInt ≤ 30 := by rw [← q_y83, show s2.toInt.toNat = 0 from by omega]; exact hB 99 0
                  refine hk_inv (o := 98) (r := []) (as := [.ref 98, .int s2, .int s4, .int 0, .int s9]) rfl rfl (hH.1 98 (5, 6) rfl) rfl rfl rfl rfl ?_
                  refine qm_Ru.go 1 (c' := (1, [.ref 98, .int s2, .int s4, .int 0, .int s9, .float 0], [.ref 98], h)) rfl ?_
                  refine hk_getr rfl (hH.1 98 (5, 6) rfl) rfl (hH.2 98 0 (some 99) rfl) ?_
                  refine qm_Ru.go 1 (c' := (5, [.ref 98, .int s2, .int s4, .int 0, .int s9, .float 0], [.int s2, .ref 99], h)) rfl ?_
                  refine hk_ial (v := y83) rfl (hH.1 99 (0, 2) rfl) (by omega) (by omega) q_y83 ?_
                  refine qm_Ru.go 3 (c' := (12, [.ref 98, .int s2, .int s4, .int 0, .int s9, .int y83], [.int 30, .int y83], h)) rfl ?_
                  refine hk_clt (ix := y83.toInt) (iy := 30) rfl rfl rfl (fun z84 => ?_) (fun z84 => ?_)
                  · refine qm_Ru.go 1 (c' := (18, [.ref 98, .int s2, .int s4, .int 0, .int s9, .int y83], [.ref 98], h)) rfl ?_
                    refine hk_getr rfl (hH.1 98 (5, 6) rfl) rfl (hH.2 98 2 (some 101) rfl) ?_
                    refine qm_Ru.go 1 (c' := (22, [.ref 98, .int s2, .int s4, .int 0, .int s9, .int y83], [.int s2, .ref 101], h)) rfl ?_
                    refine hk_aal rfl (hH.1 101 (4, 2) rfl) (by omega) (by omega) (by rw [show s2.toInt.toNat = 0 from by omega]; exact (hH.2 101 0 (some 102) rfl)) ?_
                    refine qm_Ru.go 2 (c' := (26, [.ref 98, .int s2, .int s4, .int 0, .int s9, .int y83], [.int s4, .int y83, .ref 102], h)) rfl ?_
                    refine hk_ias rfl (hH.1 102 (0, 30) rfl) (by omega) (by omega) ?_
                    refine qm_Ru.go 1 (c' := (28, [.ref 98, .int s2, .int s4, .int 0, .int s9, .int y83], [.ref 98], (h.1, qm_up h.2.1 102 (y83.toInt.toNat) s4, h.2.2.1, h.2.2.2))) rfl ?_
                    refine hk_getr rfl (hH.1 98 (5, 6) rfl) rfl (hH.2 98 3 (some 104) rfl) ?_
                    refine qm_Ru.go 1 (c' := (32, [.ref 98, .int s2, .int s4, .int 0, .int s9, .int y83], [.int s2, .ref 104], (h.1, qm_up h.2.1 102 (y83.toInt.toNat) s4, h.2.2.1, h.2.2.2))) rfl ?_
                    refine hk_aal rfl (hH.1 104 (4, 2) rfl) (by omega) (by omega) (by rw [show s2.toInt.toNat = 0 from by omega]; exact (hH.2 104 0 (some 105) rfl)) ?_
                    refine qm_Ru.go 4 (c' := (44, [.ref 98, .int s2, .int s4, .int 0, .int s9, .int y83], [.int 0, .int y83, .ref 105], (h.1, qm_up h.2.1 102 (y83.toInt.toNat) s4, h.2.2.1, h.2.2.2))) rfl ?_
                    refine hk_ias rfl (hH.1 105 (0, 30) rfl) (by omega) (by omega) ?_
                    refine qm_Ru.go 1 (c' := (46, [.ref 98, .int s2, .int s4, .int 0, .int s9, .int y83], [.ref 98], (h.1, qm_up (qm_up h.2.1 102 (y83.toInt.toNat) s4) 105 (y83.toInt.toNat) 0, h.2.2.1, h.2.2.2))) rfl ?_
                    refine hk_getr rfl (hH.1 98 (5, 6) rfl) rfl (hH.2 98 4 (some 107) rfl) ?_
                    refine qm_Ru.go 1 (c' := (50, [.ref 98, .int s2, .int s4, .int 0, .int s9, .int y83], [.int s2, .ref 107], (h.1, qm_up (qm_up h.2.1 102 (y83.toInt.toNat) s4) 105 (y83.toInt.toNat) 0, h.2.2.1, h.2.2.2))) rfl ?_
                    refine hk_aal rfl (hH.1 107 (4, 2) rfl) (by omega) (by omega) (by rw [show s2.toInt.toNat = 0 from by omega]; exact (hH.2 107 0 (some 108) rfl)) ?_
                    refine qm_Ru.go 2 (c' := (55, [.ref 98, .int s2, .int s4, .int 0, .int s9, .int y83], [.int s9, .int y83, .ref 108], (h.1, qm_up (qm_up h.2.1 102 (y83.toInt.toNat) s4) 105 (y83.toInt.toNat) 0, h.2.2.1, h.2.2.2))) rfl ?_
                    refine hk_ias rfl (hH.1 108 (0, 30) rfl) (by omega) (by omega) ?_
                    refine qm_Ru.go 1 (c' := (57, [.ref 98, .int s2, .int s4, .int 0, .int s9, .int y83], [.ref 98], (h.1, qm_up (qm_up (qm_up h.2.1 102 (y83.toInt.toNat) s4) 105 (y83.toInt.toNat) 0) 108 (y83.toInt.toNat) s9, h.2.2.1, h.2.2.2))) rfl ?_
                    refine hk_getr rfl (hH.1 98 (5, 6) rfl) rfl (hH.2 98 0 (some 99) rfl) ?_
                    refine qm_Ru.go 2 (c' := (62, [.ref 98, .int s2, .int s4, .int 0, .int s9, .int y83], [.int s2, .ref 99, .int s2, .ref 99], (h.1, qm_up (qm_up (qm_up h.2.1 102 (y83.toInt.toNat) s4) 105 (y83.toInt.toNat) 0) 108 (y83.toInt.toNat) s9, h.2.2.1, h.2.2.2))) rfl ?_
                    refine hk_ial (v := y83) rfl (hH.1 99 (0, 2) rfl) (by omega) (by omega) (show (qm_up (qm_up (qm_up h.2.1 102 (y83.toInt.toNat) s4) 105 (y83.toInt.toNat) 0) 108 (y83.toInt.toNat) s9) 99 (s2.toInt.toNat) = _ from ((hk_ot rfl).trans ((hk_ot rfl).trans ((hk_ot rfl).trans q_y83)))) ?_
                    refine qm_Ru.go 2 (c' := (65, [.ref 98, .int s2, .int s4, .int 0, .int s9, .int y83], [.int (y83 + 1), .int s2, .ref 99], (h.1, qm_up (qm_up (qm_up h.2.1 102 (y83.toInt.toNat) s4) 105 (y83.toInt.toNat) 0) 108 (y83.toInt.toNat) s9, h.2.2.1, h.2.2.2))) rfl ?_
                    obtain ⟨v85, q_v85, e_v85⟩ := hk_add (x := y83) (y := 1) (a := y83.toInt) (b := 1) rfl rfl (by omega) (by omega)
                    rw [q_v85]
                    refine hk_ias rfl (hH.1 99 (0, 2) rfl) (by omega) (by omega) ?_
                    refine qm_Ru.go 1 (c' := (68, [.ref 98, .int s2, .int s4, .int 0, .int s9, .int y83], [.int y83], (h.1, qm_up (qm_up (qm_up (qm_up h.2.1 102 (y83.toInt.toNat) s4) 105 (y83.toInt.toNat) 0) 108 (y83.toInt.toNat) s9) 99 (s2.toInt.toNat) v85, h.2.2.1, h.2.2.2))) rfl ?_
                    refine qm_Ru.rt (v := (some (.int y83))) (h' := (h.1, qm_up (qm_up (qm_up (qm_up h.2.1 102 (y83.toInt.toNat) s4) 105 (y83.toInt.toNat) 0) 108 (y83.toInt.toNat) s9) 99 (s2.toInt.toNat) v85, h.2.2.1, h.2.2.2)) rfl ?_
                    refine qm_Ru.go 0 (c' := (46, [.ref 0, .int s2, .int s4, .int 0, .int s9], [.int y83], (h.1, qm_up (qm_up (qm_up (qm_up h.2.1 102 (y83.toInt.toNat) s4) 105 (y83.toInt.toNat) 0) 108 (y83.toInt.toNat) s9) 99 (s2.toInt.toNat) v85, h.2.2.1, h.2.2.2))) rfl ?_
                    refine qm_Ru.rt (v := (some (.int y83))) (h' := (h.1, qm_up (qm_up (qm_up (qm_up h.2.1 102 (y83.toInt.toNat) s4) 105 (y83.toInt.toNat) 0) 108 (y83.toInt.toNat) s9) 99 (s2.toInt.toNat) v85, h.2.2.1, h.2.2.2)) rfl ?_
                    refine qm_Ru.go 6 (c' := (1823, [.retAddr 0, .ref 0, .ref 118, .int i], [.int (i + 1), .retAddr 0, .ref 118], (h.1, qm_up (qm_up (qm_up (qm_up h.2.1 102 (y83.toInt.toNat) s4) 105 (y83.toInt.toNat) 0) 108 (y83.toInt.toNat) s9) 99 (s2.toInt.toNat) v85, h.2.2.1, h.2.2.2))) rfl ?_
                    rw [q_v1]
                    refine hk_scr (v := s2) rfl (by omega) (by omega) q_s2 ?_
                    refine qm_Ru.go 4 (c' := (1828, [.retAddr 0, .ref 0, .ref 118, .int i], [.int (i + 2), .retAddr 0, .int s2, .ref 118], (h.1, qm_up (qm_up (qm_up (qm_up h.2.1 102 (y83.toInt.toNat) s4) 105 (y83.toInt.toNat) 0) 108 (y83.toInt.toNat) s9) 99 (s2.toInt.toNat) v85, h.2.2.1, h.2.2.2))) rfl ?_
                    rw [q_v3]
                    refine hk_scr (v := s4) rfl (by omega) (by omega) q_s4 ?_
                    refine qm_Ru.go 4 (c' := (1833, [.retAddr 0, .ref 0, .ref 118, .int i], [.int (i + 3), .retAddr 0, .int s4, .int s2, .ref 118], (h.1, qm_up (qm_up (qm_up (qm_up h.2.1 102 (y83.toInt.toNat) s4) 105 (y83.toInt.toNat) 0) 108 (y83.toInt.toNat) s9) 99 (s2.toInt.toNat) v85, h.2.2.1, h.2.2.2))) rfl ?_
                    rw [q_v5]
                    refine hk_scr (v := s6) rfl (by omega) (by omega) q_s6 ?_
                    refine qm_Ru.go 0 (c' := (1834, [.retAddr 0, .ref 0, .ref 118, .int i], [.int s6, .int s4, .int s2, .ref 118], (h.1, qm_up (qm_up (qm_up (qm_up h.2.1 102 (y83.toInt.toNat) s4) 105 (y83.toInt.toNat) 0) 108 (y83.toInt.toNat) s9) 99 (s2.toInt.toNat) v85, h.2.2.1, h.2.2.2))) rfl ?_
                    refine hk_zeq (ix := s6.toInt) rfl rfl (fun z89 => ?_) (fun z89 => by exfalso; omega)
                    refine qm_Ru.go 5 (c' := (1846, [.retAddr 0, .ref 0, .ref 118, .int i], [.int (i + 4), .retAddr 0, .int 0, .int s4, .int s2, .ref 118], (h.1, qm_up (qm_up (qm_up (qm_up h.2.1 102 (y83.toInt.toNat) s4) 105 (y83.toInt.toNat) 0) 108 (y83.toInt.toNat) s9) 99 (s2.toInt.toNat) v85, h.2.2.1, h.2.2.2))) rfl ?_
                    rw [q_v8]
                    refine hk_scr (v := s9) rfl (by omega) (by omega) q_s9 ?_
                    refine qm_Ru.go 0 (c' := (1847, [.retAddr 0, .ref 0, .ref 118, .int i], [.int s9, .int 0, .int s4, .int s2, .ref 118], (h.1, qm_up (qm_up (qm_up (qm_up h.2.1 102 (y83.toInt.toNat) s4) 105 (y83.toInt.toNat) 0) 108 (y83.toInt.toNat) s9) 99 (s2.toInt.toNat) v85, h.2.2.1, h.2.2.2))) rfl ?_
                    refine hk_inv (o := 118) (r := []) (as := [.ref 118, .int s2, .int s4, .int 0, .int s9]) rfl rfl (hH.1 118 (17, 105) rfl) rfl rfl rfl rfl ?_
                    refine qm_Ru.go 3 (c' := (3, [.ref 118, .int s2, .int s4, .int 0, .int s9, .float 0], [.int 1, .int 0, .int s2], (h.1, qm_up (qm_up (qm_up (qm_up h.2.1 102 (y83.toInt.toNat) s4) 105 (y83.toInt.toNat) 0) 108 (y83.toInt.toNat) s9) 99 (s2.toInt.toNat) v85, h.2.2.1, h.2.2.2))) rfl ?_
                    refine qm_Ru.call (j := 270) (as := [.int s2, .int 0, .int 1]) (c' := (6, [.ref 118, .int s2, .int s4, .int 0, .int s9, .float 0], [], (h.1, qm_up (qm_up (qm_up (qm_up h.2.1 102 (y83.toInt.toNat) s4) 105 (y83.toInt.toNat) 0) 108 (y83.toInt.toNat) s9) 99 (s2.toInt.toNat) v85, h.2.2.1, h.2.2.2))) rfl rfl rfl ?_
                    refine qm_Ru.go 2 (c' := (2, [.int s2, .int 0, .int 1], [.int 0, .int s2], (h.1, qm_up (qm_up (qm_up (qm_up h.2.1 102 (y83.toInt.toNat) s4) 105 (y83.toInt.toNat) 0) 108 (y83.toInt.toNat) s9) 99 (s2.toInt.toNat) v85, h.2.2.1, h.2.2.2))) rfl ?_
                    refine hk_clt (ix := s2.toInt) (iy := 0) rfl rfl rfl (fun z91 => by exfalso; omega) (fun z91 => ?_)
                    refine qm_Ru.go 2 (c' := (7, [.int s2, .int 0, .int 1], [.int 1, .int s2], (h.1, qm_up (qm_up (qm_up (qm_up h.2.1 102 (y83.toInt.toNat) s4) 105 (y83.toInt.toNat) 0) 108 (y83.toInt.toNat) s9) 99 (s2.toInt.toNat) v85, h.2.2.1, h.2.2.2))) rfl ?_
                    refine hk_cgt (ix := s2.toInt) (iy := 1) rfl rfl rfl (fun z92 => by exfalso; omega) (fun z92 => ?_)
                    refine qm_Ru.go 2 (c' := (15, [.int s2, .int 0, .int 1], [.int 1], (h.1, qm_up (qm_up (qm_up (qm_up h.2.1 102 (y83.toInt.toNat) s4) 105 (y83.toInt.toNat) 0) 108 (y83.toInt.toNat) s9) 99 (s2.toInt.toNat) v85, h.2.2.1, h.2.2.2))) rfl ?_
                    refine qm_Ru.rt (v := (some (.int 1))) (h' := (h.1, qm_up (qm_up (qm_up (qm_up h.2.1 102 (y83.toInt.toNat) s4) 105 (y83.toInt.toNat) 0) 108 (y83.toInt.toNat) s9) 99 (s2.toInt.toNat) v85, h.2.2.1, h.2.2.2)) rfl ?_
                    refine qm_Ru.go 2 (c' := (10, [.ref 118, .int s2, .int s4, .int 0, .int s9, .float 0], [.ref 118], (h.1, qm_up (qm_up (qm_up (qm_up h.2.1 102 (y83.toInt.toNat) s4) 105 (y83.toInt.toNat) 0) 108 (y83.toInt.toNat) s9) 99 (s2.toInt.toNat) v85, h.2.2.1, h.2.2.2))) rfl ?_
                    refine hk_getr rfl (hH.1 118 (17, 105) rfl) rfl (hH.2 118 95 (some 182) rfl) ?_
                    refine qm_Ru.go 1 (c' := (14, [.ref 118, .int s2, .int s4, .int 0, .int s9, .float 0], [.int s2, .ref 182], (h.1, qm_up (qm_up (qm_up (qm_up h.2.1 102 (y83.toInt.toNat) s4) 105 (y83.toInt.toNat) 0) 108 (y83.toInt.toNat) s9) 99 (s2.toInt.toNat) v85, h.2.2.1, h.2.2.2))) rfl ?_
                    refine hk_ial (v := y83) rfl (hH.1 182 (0, 2) rfl) (by omega) (by omega) (show (qm_up (qm_up (qm_up (qm_up h.2.1 102 (y83.toInt.toNat) s4) 105 (y83.toInt.toNat) 0) 108 (y83.toInt.toNat) s9) 99 (s2.toInt.toNat) v85) 182 (s2.toInt.toNat) = _ from ((hk_ot rfl).trans ((hk_ot rfl).trans ((hk_ot rfl).trans ((hk_ot rfl).trans ((hS.2.2.2.2.1 _).symm.trans q_y83)))))) ?_
                    refine qm_Ru.go 1 (c' := (17, [.ref 118, .int s2, .int s4, .int 0, .int s9, .float 0], [.int 30, .int y83], (h.1, qm_up (qm_up (qm_up (qm_up h.2.1 102 (y83.toInt.toNat) s4) 105 (y83.toInt.toNat) 0) 108 (y83.toInt.toNat) s9) 99 (s2.toInt.toNat) v85, h.2.2.1, h.2.2.2))) rfl ?_
                    refine hk_ceq (ix := y83.toInt) (iy := 30) rfl rfl rfl (fun z93 => by exfalso; omega) (fun z93 => ?_)
                    refine qm_Ru.go 2 (c' := (22, [.ref 118, .int s2, .int s4, .int 0, .int s9, .float 0], [.int s4, .ref 118], (h.1, qm_up (qm_up (qm_up (qm_up h.2.1 102 (y83.toInt.toNat) s4) 105 (y83.toInt.toNat) 0) 108 (y83.toInt.toNat) s9) 99 (s2.toInt.toNat) v85, h.2.2.1, h.2.2.2))) rfl ?_
                    refine hk_inv (o := 118) (r := []) (as := [.ref 118, .int s4]) rfl rfl (hH.1 118 (17, 105) rfl) rfl rfl rfl rfl ?_
                    refine qm_Ru.go 3 (c' := (3, [.ref 118, .int s4], [.ref 118, .int 0, .int s4], (h.1, qm_up (qm_up (qm_up (qm_up h.2.1 102 (y83.toInt.toNat) s4) 105 (y83.toInt.toNat) 0) 108 (y83.toInt.toNat) s9) 99 (s2.toInt.toNat) v85, h.2.2.1, h.2.2.2))) rfl ?_
                    refine hk_geti (v := c0) rfl (hH.1 118 (17, 105) rfl) rfl (show (qm_up (qm_up (qm_up (qm_up h.2.1 102 (y83.toInt.toNat) s4) 105 (y83.toInt.toNat) 0) 108 (y83.toInt.toNat) s9) 99 (s2.toInt.toNat) v85) 118 44 = _ from ((hk_ot rfl).trans ((hk_ot rfl).trans ((hk_ot rfl).trans ((hk_ot rfl).trans p_c0))))) ?_
                    refine qm_Ru.go 2 (c' := (8, [.ref 118, .int s4], [.int (c0 - 1), .int 0, .int s4], (h.1, qm_up (qm_up (qm_up (qm_up h.2.1 102 (y83.toInt.toNat) s4) 105 (y83.toInt.toNat) 0) 108 (y83.toInt.toNat) s9) 99 (s2.toInt.toNat) v85, h.2.2.1, h.2.2.2))) rfl ?_
                    obtain ⟨v94, q_v94, e_v94⟩ := hk_sub (x := c0) (y := 1) (a := c0.toInt) (b := 1) rfl rfl (by omega) (by omega)
                    rw [q_v94]
                    refine qm_Ru.call (j := 270) (as := [.int s4, .int 0, .int v94]) (c' := (11, [.ref 118, .int s4], [], (h.1, qm_up (qm_up (qm_up (qm_up h.2.1 102 (y83.toInt.toNat) s4) 105 (y83.toInt.toNat) 0) 108 (y83.toInt.toNat) s9) 99 (s2.toInt.toNat) v85, h.2.2.1, h.2.2.2))) rfl rfl rfl ?_
                    refine qm_Ru.go 2 (c' := (2, [.int s4, .int 0, .int v94], [.int 0, .int s4], (h.1, qm_up (qm_up (qm_up (qm_up h.2.1 102 (y83.toInt.toNat) s4) 105 (y83.toInt.toNat) 0) 108 (y83.toInt.toNat) s9) 99 (s2.toInt.toNat) v85, h.2.2.1, h.2.2.2))) rfl ?_
                    refine hk_clt (ix := s4.toInt) (iy := 0) rfl rfl rfl (fun z95 => by exfalso; omega) (fun z95 => ?_)
                    refine qm_Ru.go 2 (c' := (7, [.int s4, .int 0, .int v94], [.int v94, .int s4], (h.1, qm_up (qm_up (qm_up (qm_up h.2.1 102 (y83.toInt.toNat) s4) 105 (y83.toInt.toNat) 0) 108 (y83.toInt.toNat) s9) 99 (s2.toInt.toNat) v85, h.2.2.1, h.2.2.2))) rfl ?_
                    refine hk_cgt (ix := s4.toInt) (iy := v94.toInt) rfl rfl rfl (fun z96 => ?_) (fun z96 => ?_)
                    · refine qm_Ru.go 1 (c' := (15, [.int s4, .int 0, .int v94], [.int 0], (h.1, qm_up (qm_up (qm_up (qm_up h.2.1 102 (y83.toInt.toNat) s4) 105 (y83.toInt.toNat) 0) 108 (y83.toInt.toNat) s9) 99 (s2.toInt.toNat) v85, h.2.2.1, h.2.2.2))) rfl ?_
                      refine qm_Ru.rt (v := (some (.int 0))) (h' := (h.1, qm_up (qm_up (qm_up (qm_up h.2.1 102 (y83.toInt.toNat) s4) 105 (y83.toInt.toNat) 0) 108 (y83.toInt.toNat) s9) 99 (s2.toInt.toNat) v85, h.2.2.1, h.2.2.2)) rfl ?_
                      refine qm_Ru.go 0 (c' := (11, [.ref 118, .int s4], [.int 0], (h.1, qm_up (qm_up (qm_up (qm_up h.2.1 102 (y83.toInt.toNat) s4) 105 (y83.toInt.toNat) 0) 108 (y83.toInt.toNat) s9) 99 (s2.toInt.toNat) v85, h.2.2.1, h.2.2.2))) rfl ?_
                      refine qm_Ru.rt (v := (some (.int 0))) (h' := (h.1, qm_up (qm_up (qm_up (qm_up h.2.1 102 (y83.toInt.toNat) s4) 105 (y83.toInt.toNat) 0) 108 (y83.toInt.toNat) s9) 99 (s2.toInt.toNat) v85, h.2.2.1, h.2.2.2)) rfl ?_
                      refine qm_Ru.go 2 (c' := (41, [.ref 118, .int s2, .int s4, .int 0, .int s9, .float 0], [.int (-1)], (h.1, qm_up (qm_up (qm_up (qm_up h.2.1 102 (y83.toInt.toNat) s4) 105 (y83.toInt.toNat) 0) 108 (y83.toInt.toNat) s9) 99 (s2.toInt.toNat) v85, h.2.2.1, h.2.2.2))) rfl ?_
                      refine qm_Ru.rt (v := (some (.int (-1)))) (h' := (h.1, qm_up (qm_up (qm_up (qm_up h.2.1 102 (y83.toInt.toNat) s4) 105 (y83.toInt.toNat) 0) 108 (y83.toInt.toNat) s9) 99 (s2.toInt.toNat) v85, h.2.2.1, h.2.2.2)) rfl ?_
                      refine qm_Ru.go 3 (c' := (2081, [.retAddr 0, .ref 0, .ref 118, .int (i + 6)], [], (h.1, qm_up (qm_up (qm_up (qm_up h.2.1 102 (y83.toInt.toNat) s4) 105 (y83.toInt.toNat) 0) 108 (y83.toInt.toNat) s9) 99 (s2.toInt.toNat) v85, h.2.2.1, h.2.2.2))) rfl ?_
                      obtain ⟨v97, q_v97, e_v97⟩ := hk_add (x := i) (y := 6) (a := i.toInt) (b := 6) rfl rfl (by omega) (by omega)
                      rw [q_v97]
                      refine qm_Ru.go 1 (c' := (18, [.retAddr 0, .ref 0, .ref 118, .int v97], [], (h.1, qm_up (qm_up (qm_up (qm_up h.2.1 102 (y83.toInt.toNat) s4) 105 (y83.toInt.toNat) 0) 108 (y83.toInt.toNat) s9) 99 (s2.toInt.toNat) v85, h.2.2.1, h.2.2.2))) rfl ?_
                      exfalso
                      omega
                    · refine qm_Ru.go 2 (c' := (15, [.int s4, .int 0, .int v94], [.int 1], (h.1, qm_up (qm_up (qm_up (qm_up h.2.1 102 (y83.toInt.toNat) s4) 105 (y83.toInt.toNat) 0) 108 (y83.toInt.toNat) s9) 99 (s2.toInt.toNat) v85, h.2.2.1, h.2.2.2))) rfl ?_
                      refine qm_Ru.rt (v := (some (.int 1))) (h' := (h.1, qm_up (qm_up (qm_up (qm_up h.2.1 102 (y83.toInt.toNat) s4) 105 (y83.toInt.toNat) 0) 108 (y83.toInt.toNat) s9) 99 (s2.toInt.toNat) v85, h.2.2.1, h.2.2.2)) rfl ?_
                      refine qm_Ru.go 0 (c' := (11, [.ref 118, .int s4], [.int 1], (h.1, qm_up (qm_up (qm_up (qm_up h.2.1 102 (y83.toInt.toNat) s4) 105 (y83.toInt.toNat) 0) 108 (y83.toInt.toNat) s9) 99 (s2.toInt.toNat) v85, h.2.2.1, h.2.2.2))) rfl ?_
                      refine qm_Ru.rt (v := (some (.int 1))) (h' := (h.1, qm_up (qm_up (qm_up (qm_up h.2.1 102 (y83.toInt.toNat) s4) 105 (y83.toInt.toNat) 0) 108 (y83.toInt.toNat) s9) 99 (s2.toInt.toNat) v85, h.2.2.1, h.2.2.2)) rfl ?_
                      refine qm_Ru.go 4 (c' := (34, [.ref 118, .int s2, .int s4, .int 0, .int s9, .float 0], [.int 9999, .int 0, .int s9], (h.1, qm_up (qm_up (qm_up (qm_up h.2.1 102 (y83.toInt.toNat) s4) 105 (y83.toInt.toNat) 0) 108 (y83.toInt.toNat) s9) 99 (s2.toInt.toNat) v85, h.2.2.1, h.2.2.2))) rfl ?_
                      refine qm_Ru.call (j := 270) (as := [.int s9, .int 0, .int 9999]) (c' := (37, [.ref 118, .int s2, .int s4, .int 0, .int s9, .float 0], [], (h.1, qm_up (qm_up (qm_up (qm_up h.2.1 102 (y83.toInt.toNat) s4) 105 (y83.toInt.toNat) 0) 108 (y83.toInt.toNat) s9) 99 (s2.toInt.toNat) v85, h.2.2.1, h.2.2.2))) rfl rfl rfl ?_
                      refine qm_Ru.go 2 (c' := (2, [.int s9, .int 0, .int 9999], [.int 0, .int s9], (h.1, qm_up (qm_up (qm_up (qm_up h.2.1 102 (y83.toInt.toNat) s4) 105 (y83.toInt.toNat) 0) 108 (y83.toInt.toNat) s9) 99 (s2.toInt.toNat) v85, h.2.2.1, h.2.2.2))) rfl ?_
                      refine hk_clt (ix := s9.toInt) (iy := 0) rfl rfl rfl (fun z98 => by exfalso; omega) (fun z98 => ?_)
                      refine qm_Ru.go 2 (c' := (7, [.int s9, .int 0, .int 9999], [.int 9999, .int s9], (h.1, qm_up (qm_up (qm_up (qm_up h.2.1 102 (y83.toInt.toNat) s4) 105 (y83.toInt.toNat) 0) 108 (y83.toInt.toNat) s9) 99 (s2.toInt.toNat) v85, h.2.2.1, h.2.2.2))) rfl ?_
                      refine hk_cgt (ix := s9.toInt) (iy := 9999) rfl rfl rfl (fun z99 => by exfalso; omega) (fun z99 => ?_)
                      refine qm_Ru.go 2 (c' := (15, [.int s9, .int 0, .int 9999], [.int 1], (h.1, qm_up (qm_up (qm_up (qm_up h.2.1 102 (y83.toInt.toNat) s4) 105 (y83.toInt.toNat) 0) 108 (y83.toInt.toNat) s9) 99 (s2.toInt.toNat) v85, h.2.2.1, h.2.2.2))) rfl ?_
                      refine qm_Ru.rt (v := (some (.int 1))) (h' := (h.1, qm_up (qm_up (qm_up (qm_up h.2.1 102 (y83.toInt.toNat) s4) 105 (y83.toInt.toNat) 0) 108 (y83.toInt.toNat) s9) 99 (s2.toInt.toNat) v85, h.2.2.1, h.2.2.2)) rfl ?_
                      refine qm_Ru.go 4 (c' := (46, [.ref 118, .int s2, .int s4, .int 0, .int s9, .float 0], [.int (30 * s2)], (h.1, qm_up (qm_up (qm_up (qm_up h.2.1 102 (y83.toInt.toNat) s4) 105 (y83.toInt.toNat) 0) 108 (y83.toInt.toNat) s9) 99 (s2.toInt.toNat) v85, h.2.2.1, h.2.2.2))) rfl ?_
                      obtain ⟨v100, q_v100, e_v100⟩ := hk_mul (x := 30) (y := s2) (a := 30) (b := s2.toInt) rfl rfl (by omega) (by omega)
                      rw [q_v100]
                      refine qm_Ru.go 1 (c' := (47, [.ref 118, .int s2, .int s4, .int 0, .int s9, .float 0], [.ref 118, .int v100], (h.1, qm_up (qm_up (qm_up (qm_up h.2.1 102 (y83.toInt.toNat) s4) 105 (y83.toInt.toNat) 0) 108 (y83.toInt.toNat) s9) 99 (s2.toInt.toNat) v85, h.2.2.1, h.2.2.2))) rfl ?_
                      refine hk_getr rfl (hH.1 118 (17, 105) rfl) rfl (hH.2 118 95 (some 182) rfl) ?_
                      refine qm_Ru.go 1 (c' := (51, [.ref 118, .int s2, .int s4, .int 0, .int s9, .float 0], [.int s2, .ref 182, .int v100], (h.1, qm_up (qm_up (qm_up (qm_up h.2.1 102 (y83.toInt.toNat) s4) 105 (y83.toInt.toNat) 0) 108 (y83.toInt.toNat) s9) 99 (s2.toInt.toNat) v85, h.2.2.1, h.2.2.2))) rfl ?_
                      refine hk_ial (v := y83) rfl (hH.1 182 (0, 2) rfl) (by omega) (by omega) (show (qm_up (qm_up (qm_up (qm_up h.2.1 102 (y83.toInt.toNat) s4) 105 (y83.toInt.toNat) 0) 108 (y83.toInt.toNat) s9) 99 (s2.toInt.toNat) v85) 182 (s2.toInt.toNat) = _ from ((hk_ot rfl).trans ((hk_ot rfl).trans ((hk_ot rfl).trans ((hk_ot rfl).trans ((hS.2.2.2.2.1 _).symm.trans q_y83)))))) ?_
                      refine qm_Ru.go 1 (c' := (53, [.ref 118, .int s2, .int s4, .int 0, .int s9, .float 0], [.int (v100 + y83)], (h.1, qm_up (qm_up (qm_up (qm_up h.2.1 102 (y83.toInt.toNat) s4) 105 (y83.toInt.toNat) 0) 108 (y83.toInt.toNat) s9) 99 (s2.toInt.toNat) v85, h.2.2.1, h.2.2.2))) rfl ?_
                      obtain ⟨v101, q_v101, e_v101⟩ := hk_add (x := v100) (y := y83) (a := v100.toInt) (b := y83.toInt) rfl rfl (by omega) (by omega)
                      rw [q_v101]
                      refine qm_Ru.go 2 (c' := (56, [.ref 118, .int s2, .int s4, .int 0, .int s9, .int v101], [.ref 118], (h.1, qm_up (qm_up (qm_up (qm_up h.2.1 102 (y83.toInt.toNat) s4) 105 (y83.toInt.toNat) 0) 108 (y83.toInt.toNat) s9) 99 (s2.toInt.toNat) v85, h.2.2.1, h.2.2.2))) rfl ?_
                      refine hk_getr rfl (hH.1 118 (17, 105) rfl) rfl (hH.2 118 96 (some 183) rfl) ?_
                      refine qm_Ru.go 2 (c' := (62, [.ref 118, .int s2, .int s4, .int 0, .int s9, .int v101], [.int s4, .int v101, .ref 183], (h.1, qm_up (qm_up (qm_up (qm_up h.2.1 102 (y83.toInt.toNat) s4) 105 (y83.toInt.toNat) 0) 108 (y83.toInt.toNat) s9) 99 (s2.toInt.toNat) v85, h.2.2.1, h.2.2.2))) rfl ?_
                      refine hk_ias rfl (hH.1 183 (0, 60) rfl) (by omega) (by omega) ?_
                      refine qm_Ru.go 1 (c' := (64, [.ref 118, .int s2, .int s4, .int 0, .int s9, .int v101], [.ref 118], (h.1, qm_up (qm_up (qm_up (qm_up (qm_up h.2.1 102 (y83.toInt.toNat) s4) 105 (y83.toInt.toNat) 0) 108 (y83.toInt.toNat) s9) 99 (s2.toInt.toNat) v85) 183 (v101.toInt.toNat) s4, h.2.2.1, h.2.2.2))) rfl ?_
                      refine hk_getr rfl (hH.1 118 (17, 105) rfl) rfl (hH.2 118 97 (some 184) rfl) ?_
                      refine qm_Ru.go 2 (c' := (70, [.ref 118, .int s2, .int s4, .int 0, .int s9, .int v101], [.int 0, .int v101, .ref 184], (h.1, qm_up (qm_up (qm_up (qm_up (qm_up h.2.1 102 (y83.toInt.toNat) s4) 105 (y83.toInt.toNat) 0) 108 (y83.toInt.toNat) s9) 99 (s2.toInt.toNat) v85) 183 (v101.toInt.toNat) s4, h.2.2.1, h.2.2.2))) rfl ?_
                      refine hk_bas rfl (hH.1 184 (2, 60) rfl) (by omega) (by omega) rfl ?_
                      refine qm_Ru.go 1 (c' := (72, [.ref 118, .int s2, .int s4, .int 0, .int s9, .int v101], [.ref 118], (h.1, qm_up (qm_up (qm_up (qm_up (qm_up (qm_up h.2.1 102 (y83.toInt.toNat) s4) 105 (y83.toInt.toNat) 0) 108 (y83.toInt.toNat) s9) 99 (s2.toInt.toNat) v85) 183 (v101.toInt.toNat) s4) 184 (v101.toInt.toNat) 0, h.2.2.1, h.2.2.2))) rfl ?_
                      refine hk_getr rfl (hH.1 118 (17, 105) rfl) rfl (hH.2 118 98 (some 185) rfl) ?_
                      refine qm_Ru.go 2 (c' := (79, [.ref 118, .int s2, .int s4, .int 0, .int s9, .int v101], [.int s9, .int v101, .ref 185], (h.1, qm_up (qm_up (qm_up (qm_up (qm_up (qm_up h.2.1 102 (y83.toInt.toNat) s4) 105 (y83.toInt.toNat) 0) 108 (y83.toInt.toNat) s9) 99 (s2.toInt.toNat) v85) 183 (v101.toInt.toNat) s4) 184 (v101.toInt.toNat) 0, h.2.2.1, h.2.2.2))) rfl ?_
                      refine hk_ias rfl (hH.1 185 (0, 60) rfl) (by omega) (by omega) ?_
                      refine qm_Ru.go 1 (c' := (81, [.ref 118, .int s2, .int s4, .int 0, .int s9, .int v101], [.ref 118], (h.1, qm_up (qm_up (qm_up (qm_up (qm_up (qm_up (qm_up h.2.1 102 (y83.toInt.toNat) s4) 105 (y83.toInt.toNat) 0) 108 (y83.toInt.toNat) s9) 99 (s2.toInt.toNat) v85) 183 (v101.toInt.toNat) s4) 184 (v101.toInt.toNat) 0) 185 (v101.toInt.toNat) s9, h.2.2.1, h.2.2.2))) rfl ?_
                      refine hk_getr rfl (hH.1 118 (17, 105) rfl) rfl (hH.2 118 95 (some 182) rfl) ?_
                      refine qm_Ru.go 2 (c' := (86, [.ref 118, .int s2, .int s4, .int 0, .int s9, .int v101], [.int s2, .ref 182, .int s2, .ref 182], (h.1, qm_up (qm_up (qm_up (qm_up (qm_up (qm_up (qm_up h.2.1 102 (y83.toInt.toNat) s4) 105 (y83.toInt.toNat) 0) 108 (y83.toInt.toNat) s9) 99 (s2.toInt.toNat) v85) 183 (v101.toInt.toNat) s4) 184 (v101.toInt.toNat) 0) 185 (v101.toInt.toNat) s9, h.2.2.1, h.2.2.2))) rfl ?_
                      refine hk_ial (v := y83) rfl (hH.1 182 (0, 2) rfl) (by omega) (by omega) (show (qm_up (qm_up (qm_up (qm_up (qm_up (qm_up (qm_up h.2.1 102 (y83.toInt.toNat) s4) 105 (y83.toInt.toNat) 0) 108 (y83.toInt.toNat) s9) 99 (s2.toInt.toNat) v85) 183 (v101.toInt.toNat) s4) 184 (v101.toInt.toNat) 0) 185 (v101.toInt.toNat) s9) 182 (s2.toInt.toNat) = _ from ((hk_ot rfl).trans ((hk_ot rfl).trans ((hk_ot rfl).trans ((hk_ot rfl).trans ((hk_ot rfl).trans ((hk_ot rfl).trans ((hk_ot rfl).trans ((hS.2.2.2.2.1 _).symm.trans q_y83))))))))) ?_
                      refine qm_Ru.go 2 (c' := (89, [.ref 118, .int s2, .int s4, .int 0, .int s9, .int v101], [.int (y83 + 1), .int s2, .ref 182], (h.1, qm_up (qm_up (qm_up (qm_up (qm_up (qm_up (qm_up h.2.1 102 (y83.toInt.toNat) s4) 105 (y83.toInt.toNat) 0) 108 (y83.toInt.toNat) s9) 99 (s2.toInt.toNat) v85) 183 (v101.toInt.toNat) s4) 184 (v101.toInt.toNat) 0) 185 (v101.toInt.toNat) s9, h.2.2.1, h.2.2.2))) rfl ?_
                      rw [q_v85]
                      refine hk_ias rfl (hH.1 182 (0, 2) rfl) (by omega) (by omega) ?_
                      refine qm_Ru.go 1 (c' := (91, [.ref 118, .int s2, .int s4, .int 0, .int s9, .int v101], [.ref 118], (h.1, qm_up (qm_up (qm_up (qm_up (qm_up (qm_up (qm_up (qm_up h.2.1 102 (y83.toInt.toNat) s4) 105 (y83.toInt.toNat) 0) 108 (y83.toInt.toNat) s9) 99 (s2.toInt.toNat) v85) 183 (v101.toInt.toNat) s4) 184 (v101.toInt.toNat) 0) 185 (v101.toInt.toNat) s9) 182 (s2.toInt.toNat) v85, h.2.2.1, h.2.2.2))) rfl ?_
                      refine hk_getr rfl (hH.1 118 (17, 105) rfl) rfl (hH.2 118 95 (some 182) rfl) ?_
                      refine qm_Ru.go 1 (c' := (95, [.ref 118, .int s2, .int s4, .int 0, .int s9, .int v101], [.int s2, .ref 182], (h.1, qm_up (qm_up (qm_up (qm_up (qm_up (qm_up (qm_up (qm_up h.2.1 102 (y83.toInt.toNat) s4) 105 (y83.toInt.toNat) 0) 108 (y83.toInt.toNat) s9) 99 (s2.toInt.toNat) v85) 183 (v101.toInt.toNat) s4) 184 (v101.toInt.toNat) 0) 185 (v101.toInt.toNat) s9) 182 (s2.toInt.toNat) v85, h.2.2.1, h.2.2.2))) rfl ?_
                      refine hk_ial (v := v85) rfl (hH.1 182 (0, 2) rfl) (by omega) (by omega) (show (qm_up (qm_up (qm_up (qm_up (qm_up (qm_up (qm_up (qm_up h.2.1 102 (y83.toInt.toNat) s4) 105 (y83.toInt.toNat) 0) 108 (y83.toInt.toNat) s9) 99 (s2.toInt.toNat) v85) 183 (v101.toInt.toNat) s4) 184 (v101.toInt.toNat) 0) 185 (v101.toInt.toNat) s9) 182 (s2.toInt.toNat) v85) 182 (s2.toInt.toNat) = _ from (hk_same)) ?_
                      refine qm_Ru.go 2 (c' := (98, [.ref 118, .int s2, .int s4, .int 0, .int s9, .int v101], [.int (v85 - 1)], (h.1, qm_up (qm_up (qm_up (qm_up (qm_up (qm_up (qm_up (qm_up h.2.1 102 (y83.toInt.toNat) s4) 105 (y83.toInt.toNat) 0) 108 (y83.toInt.toNat) s9) 99 (s2.toInt.toNat) v85) 183 (v101.toInt.toNat) s4) 184 (v101.toInt.toNat) 0) 185 (v101.toInt.toNat) s9) 182 (s2.toInt.toNat) v85, h.2.2.1, h.2.2.2))) rfl ?_
                      obtain ⟨v103, q_v103, e_v103⟩ := hk_sub (x := v85) (y := 1) (a := v85.toInt) (b := 1) rfl rfl (by omega) (by omega)
                      rw [q_v103]
                      refine qm_Ru.rt (v := (some (.int v103))) (h' := (h.1, qm_up (qm_up (qm_up (qm_up (qm_up (qm_up (qm_up (qm_up h.2.1 102 (y83.toInt.toNat) s4) 105 (y83.toInt.toNat) 0) 108 (y83.toInt.toNat) s9) 99 (s2.toInt.toNat) v85) 183 (v101.toInt.toNat) s4) 184 (v101.toInt.toNat) 0) 185 (v101.toInt.toNat) s9) 182 (s2.toInt.toNat) v85, h.2.2.1, h.2.2.2)) rfl ?_
                      refine qm_Ru.go 3 (c' := (2081, [.retAddr 0, .ref 0, .ref 118, .int (i + 6)], [], (h.1, qm_up (qm_up (qm_up (qm_up (qm_up (qm_up (qm_up (qm_up h.2.1 102 (y83.toInt.toNat) s4) 105 (y83.toInt.toNat) 0) 108 (y83.toInt.toNat) s9) 99 (s2.toInt.toNat) v85) 183 (v101.toInt.toNat) s4) 184 (v101.toInt.toNat) 0) 185 (v101.toInt.toNat) s9) 182 (s2.toInt.toNat) v85, h.2.2.1, h.2.2.2))) rfl ?_
                      obtain ⟨v104, q_v104, e_v104⟩ := hk_add (x := i) (y := 6) (a := i.toInt) (b := 6) rfl rfl (by omega) (by omega)
                      rw [q_v104]
                      refine qm_Ru.go 1 (c' := (18, [.retAddr 0, .ref 0, .ref 118, .int v104], [], (h.1, qm_up (qm_up (qm_up (qm_up (qm_up (qm_up (qm_up (qm_up h.2.1 102 (y83.toInt.toNat) s4) 105 (y83.toInt.toNat) 0) 108 (y83.toInt.toNat) s9) 99 (s2.toInt.toNat) v85) 183 (v101.toInt.toNat) s4) 184 (v101.toInt.toNat) 0) 185 (v101.toInt.toNat) s9) 182 (s2.toInt.toNat) v85, h.2.2.1, h.2.2.2))) rfl ?_
                      have q9 : h.2.1 99 0 = y83 := by rw [← q_y83, show s2.toInt.toNat = 0 from by omega]
                      have hG : gR (qm_up (qm_up (qm_up (qm_up (qm_up (qm_up (qm_up (qm_up h.2.1 102 (y83.toInt.toNat) s4) 105 (y83.toInt.toNat) 0) 108 (y83.toInt.toNat) s9) 99 (s2.toInt.toNat) v85) 183 (v101.toInt.toNat) s4) 184 (v101.toInt.toNat) 0) 185 (v101.toInt.toNat) s9) 182 (s2.toInt.toNat) v85) := (gR_row0 (I := h.2.1) (I2 := qm_up (qm_up (qm_up (qm_up (qm_up (qm_up (qm_up (qm_up h.2.1 102 (y83.toInt.toNat) s4) 105 (y83.toInt.toNat) 0) 108 (y83.toInt.toNat) s9) 99 (s2.toInt.toNat) v85) 183 (v101.toInt.toNat) s4) 184 (v101.toInt.toNat) 0) 185 (v101.toInt.toNat) s9) 182 (s2.toInt.toNat) v85) (n := y83.toInt.toNat) hS.2 (by rw [q9]; omega) ⟨(hB 99 0).2, (hB 99 1).1⟩ (fun o ho k => ((hk_ot (n_in ho rfl)).trans ((hk_ot (n_in ho rfl)).trans ((hk_ot (n_in ho rfl)).trans ((hk_ot (n_in ho rfl)).trans ((hk_ot (n_in ho rfl)).trans ((hk_ot (n_in ho rfl)).trans ((hk_ot (n_in ho rfl)).trans ((hk_ot (n_in ho rfl)).trans rfl))))))))) (fun o ho k hk => ((hk_ot (n_in ho rfl)).trans ((hk_ot (n_in ho rfl)).trans ((hk_ot (n_in ho rfl)).trans ((hk_ot (n_in ho rfl)).trans ((hk_ot (n_in ho rfl)).trans ((hk_ni (by omega)).trans ((hk_ni (by omega)).trans ((hk_ni (by omega)).trans rfl))))))))) (fun o ho k hk => ((hk_ot (n_in ho rfl)).trans ((hk_ni (by omega)).trans ((hk_ni (by omega)).trans ((hk_ni (by omega)).trans ((hk_ot (n_in ho rfl)).trans ((hk_ot (n_in ho rfl)).trans ((hk_ot (n_in ho rfl)).trans ((hk_ot (n_in ho rfl)).trans rfl))))))))) (fun b hb => ((hk_ot rfl).trans ((hk_ot rfl).trans ((hk_ot rfl).trans ((hk_ot rfl).trans ((hk_ni (by omega)).trans ((hk_ot rfl).trans ((hk_ot rfl).trans ((hk_ot rfl).trans rfl))))))))) (fun b hb => ((hk_ni (by omega)).trans ((hk_ot rfl).trans ((hk_ot rfl).trans ((hk_ot rfl).trans ((hk_ot rfl).trans ((hk_ot rfl).trans ((hk_ot rfl).trans ((hk_ot rfl).trans rfl))))))))) (by omega) ((hk_ot rfl).trans ((hk_ot rfl).trans ((hk_ot rfl).trans ((hk_ot rfl).trans ((hk_ot rfl).trans ((hk_ot rfl).trans ((hk_ot rfl).trans ((hk_ot rfl).trans rfl)))))))) ((hk_ot rfl).trans ((hk_ot rfl).trans ((hk_ot rfl).trans ((hk_ot rfl).trans ((hk_ot rfl).trans ((hk_ot rfl).trans ((hk_ot rfl).trans ((hk_ot rfl).trans rfl)))))))) ((hk_ot rfl).trans ((hk_ot rfl).trans ((hk_ot rfl).trans ((hk_ot rfl).trans ((hk_ot rfl).trans ((hk_ot rfl).trans ((hk_ot rfl).trans ((hk_ot rfl).trans rfl)))))))) ((hk_ot rfl).trans ((hk_ot rfl).trans ((hk_ot rfl).trans ((hk_ot rfl).trans ((hk_ot rfl).trans ((hk_ot rfl).trans ((hk_ot rfl).trans ((hk_ot rfl).trans rfl)))))))) ((hk_ot rfl).trans ((hk_ot rfl).trans ((hk_ot rfl).trans ((hk_ot rfl).trans ((hk_ot rfl).trans ((hk_ot rfl).trans ((hk_ot rfl).trans ((hk_ot rfl).trans rfl)))))))) ((hk_ot rfl).trans ((hk_ot rfl).trans ((hk_ot rfl).trans ((hk_ot rfl).trans ((hk_ot rfl).trans ((hk_ot rfl).trans ((hk_ot rfl).trans ((hk_ot rfl).trans rfl)))))))) ((congrArg Int32.toInt ((hk_ot rfl).trans ((hk_ot rfl).trans ((hk_ot rfl).trans ((hk_ot rfl).trans (hk_equ (by omega))))))).trans (by omega)) (((hk_ot rfl).trans ((hk_ot rfl).trans ((hk_ot rfl).trans ((hk_ot rfl).trans (hk_equ (by omega)))))).trans (hk_equ (by omega)).symm) ⟨((hk_ot rfl).trans ((hk_ot rfl).trans ((hk_ot rfl).trans ((hk_ot rfl).trans ((hk_ot rfl).trans ((hk_ot rfl).trans ((hk_ot rfl).trans hk_same))))))).trans ((hk_ot rfl).trans ((hk_ot rfl).trans ((hk_ot rfl).trans (hk_equ (by omega))))).symm, ((hk_ot rfl).trans ((hk_ot rfl).trans ((hk_ot rfl).trans ((hk_ot rfl).trans ((hk_ot rfl).trans ((hk_ot rfl).trans hk_same)))))).trans ((hk_ot rfl).trans ((hk_ot rfl).trans (hk_equ (by omega)))).symm, ((hk_ot rfl).trans ((hk_ot rfl).trans ((hk_ot rfl).trans ((hk_ot rfl).trans ((hk_ot rfl).trans hk_same))))).trans ((hk_ot rfl).trans (hk_equ (by omega))).symm⟩)
                      have hS1 : gS (h.1, qm_up (qm_up (qm_up (qm_up (qm_up (qm_up (qm_up (qm_up h.2.1 102 (y83.toInt.toNat) s4) 105 (y83.toInt.toNat) 0) 108 (y83.toInt.toNat) s9) 99 (s2.toInt.toNat) v85) 183 (v101.toInt.toNat) s4) 184 (v101.toInt.toNat) 0) 185 (v101.toInt.toNat) s9) 182 (s2.toInt.toNat) v85, h.2.2.1, h.2.2.2) := (gS_upa (gS_upa (gS_upa (gS_upa (gS_upa (gS_upa (gS_upa (gS_upa (show gS (h.1, h.2.1, h.2.2.1, h.2.2.2) from hS.1) (by decide)) (by decide)) (by decide)) (by decide)) (by decide)) (by decide)) (by decide)) (by decide))
                      have hS2 : gS2 (h.1, qm_up (qm_up (qm_up (qm_up (qm_up (qm_up (qm_up (qm_up h.2.1 102 (y83.toInt.toNat) s4) 105 (y83.toInt.toNat) 0) 108 (y83.toInt.toNat) s9) 99 (s2.toInt.toNat) v85) 183 (v101.toInt.toNat) s4) 184 (v101.toInt.toNat) 0) 185 (v101.toInt.toNat) s9) 182 (s2.toInt.toNat) v85, h.2.2.1, h.2.2.2) := ⟨hS1, hG⟩
                      have hX3 : gX (h.1, qm_up (qm_up (qm_up (qm_up (qm_up (qm_up (qm_up (qm_up h.2.1 102 (y83.toInt.toNat) s4) 105 (y83.toInt.toNat) 0) 108 (y83.toInt.toNat) s9) 99 (s2.toInt.toNat) v85) 183 (v101.toInt.toNat) s4) 184 (v101.toInt.toNat) 0) 185 (v101.toInt.toNat) s9) 182 (s2.toInt.toNat) v85, h.2.2.1, h.2.2.2) := ⟨gP_cg hX.1 (fun o ho i => ((hk_ot (n_in ho rfl)).trans ((hk_ot (n_in ho rfl)).trans ((hk_ot (n_in ho rfl)).trans ((hk_ot (n_in ho rfl)).trans ((hk_ot (n_in ho rfl)).trans ((hk_ot (n_in ho rfl)).trans ((hk_ot (n_in ho rfl)).trans ((hk_ot (n_in ho rfl)).trans rfl))))))))) (show (qm_up (qm_up (qm_up (qm_up (qm_up (qm_up (qm_up (qm_up h.2.1 102 (y83.toInt.toNat) s4) 105 (y83.toInt.toNat) 0) 108 (y83.toInt.toNat) s9) 99 (s2.toInt.toNat) v85) 183 (v101.toInt.toNat) s4) 184 (v101.toInt.toNat) 0) 185 (v101.toInt.toNat) s9) 182 (s2.toInt.toNat) v85) 1 1 = h.2.1 1 1 from ((hk_ot rfl).trans ((hk_ot rfl).trans ((hk_ot rfl).trans ((hk_ot rfl).trans ((hk_ot rfl).trans ((hk_ot rfl).trans ((hk_ot rfl).trans ((hk_ot rfl).trans rfl))))))))) (show (qm_up (qm_up (qm_up (qm_up (qm_up (qm_up (qm_up (qm_up h.2.1 102 (y83.toInt.toNat) s4) 105 (y83.toInt.toNat) 0) 108 (y83.toInt.toNat) s9) 99 (s2.toInt.toNat) v85) 183 (v101.toInt.toNat) s4) 184 (v101.toInt.toNat) 0) 185 (v101.toInt.toNat) s9) 182 (s2.toInt.toNat) v85) 3 4 = h.2.1 3 4 from ((hk_ot rfl).trans ((hk_ot rfl).trans ((hk_ot rfl).trans ((hk_ot rfl).trans ((hk_ot rfl).trans ((hk_ot rfl).trans ((hk_ot rfl).trans ((hk_ot rfl).trans rfl))))))))) (show (qm_up (qm_up (qm_up (qm_up (qm_up (qm_up (qm_up (qm_up h.2.1 102 (y83.toInt.toNat) s4) 105 (y83.toInt.toNat) 0) 108 (y83.toInt.toNat) s9) 99 (s2.toInt.toNat) v85) 183 (v101.toInt.toNat) s4) 184 (v101.toInt.toNat) 0) 185 (v101.toInt.toNat) s9) 182 (s2.toInt.toNat) v85) 118 17 = h.2.1 118 17 from ((hk_ot rfl).trans ((hk_ot rfl).trans ((hk_ot rfl).trans ((hk_ot rfl).trans ((hk_ot rfl).trans ((hk_ot rfl).trans ((hk_ot rfl).trans ((hk_ot rfl).trans rfl))))))))), hX.2⟩
                      have hZ3 : (gZB tb) (h.1, qm_up (qm_up (qm_up (qm_up (qm_up (qm_up (qm_up (qm_up h.2.1 102 (y83.toInt.toNat) s4) 105 (y83.toInt.toNat) 0) 108 (y83.toInt.toNat) s9) 99 (s2.toInt.toNat) v85) 183 (v101.toInt.toNat) s4) 184 (v101.toInt.toNat) 0) 185 (v101.toInt.toNat) s9) 182 (s2.toInt.toNat) v85, h.2.2.1, h.2.2.2) := (gZ_cg (h2 := (h.1, qm_up (qm_up (qm_up (qm_up (qm_up (qm_up (qm_up (qm_up h.2.1 102 (y83.toInt.toNat) s4) 105 (y83.toInt.toNat) 0) 108 (y83.toInt.toNat) s9) 99 (s2.toInt.toNat) v85) 183 (v101.toInt.toNat) s4) 184 (v101.toInt.toNat) 0) 185 (v101.toInt.toNat) s9) 182 (s2.toInt.toNat) v85, h.2.2.1, h.2.2.2)) hZ (fun o ho i => ((hk_ot (n_in ho rfl)).trans ((hk_ot (n_in ho rfl)).trans ((hk_ot (n_in ho rfl)).trans ((hk_ot (n_in ho rfl)).trans ((hk_ot (n_in ho rfl)).trans ((hk_ot (n_in ho rfl)).trans ((hk_ot (n_in ho rfl)).trans ((hk_ot (n_in ho rfl)).trans rfl))))))))) (show (qm_up (qm_up (qm_up (qm_up (qm_up (qm_up (qm_up (qm_up h.2.1 102 (y83.toInt.toNat) s4) 105 (y83.toInt.toNat) 0) 108 (y83.toInt.toNat) s9) 99 (s2.toInt.toNat) v85) 183 (v101.toInt.toNat) s4) 184 (v101.toInt.toNat) 0) 185 (v101.toInt.toNat) s9) 182 (s2.toInt.toNat) v85) 6 0 = h.2.1 6 0 from ((hk_ot rfl).trans ((hk_ot rfl).trans ((hk_ot rfl).trans ((hk_ot rfl).trans ((hk_ot rfl).trans ((hk_ot rfl).trans ((hk_ot rfl).trans ((hk_ot rfl).trans rfl))))))))) (fun i _ => show (qm_up (qm_up (qm_up (qm_up (qm_up (qm_up (qm_up (qm_up h.2.1 102 (y83.toInt.toNat) s4) 105 (y83.toInt.toNat) 0) 108 (y83.toInt.toNat) s9) 99 (s2.toInt.toNat) v85) 183 (v101.toInt.toNat) s4) 184 (v101.toInt.toNat) 0) 185 (v101.toInt.toNat) s9) 182 (s2.toInt.toNat) v85) 28 i = h.2.1 28 i from ((hk_ot rfl).trans ((hk_ot rfl).trans ((hk_ot rfl).trans ((hk_ot rfl).trans ((hk_ot rfl).trans ((hk_ot rfl).trans ((hk_ot rfl).trans ((hk_ot rfl).trans rfl))))))))) (fun i _ => show (qm_up (qm_up (qm_up (qm_up (qm_up (qm_up (qm_up (qm_up h.2.1 102 (y83.toInt.toNat) s4) 105 (y83.toInt.toNat) 0) 108 (y83.toInt.toNat) s9) 99 (s2.toInt.toNat) v85) 183 (v101.toInt.toNat) s4) 184 (v101.toInt.toNat) 0) 185 (v101.toInt.toNat) s9) 182 (s2.toInt.toNat) v85) 29 i = h.2.1 29 i from ((hk_ot rfl).trans ((hk_ot rfl).trans ((hk_ot rfl).trans ((hk_ot rfl).trans ((hk_ot rfl).trans ((hk_ot rfl).trans ((hk_ot rfl).trans ((hk_ot rfl).trans rfl))))))))) (fun i _ => show (qm_up (qm_up (qm_up (qm_up (qm_up (qm_up (qm_up (qm_up h.2.1 102 (y83.toInt.toNat) s4) 105 (y83.toInt.toNat) 0) 108 (y83.toInt.toNat) s9) 99 (s2.toInt.toNat) v85) 183 (v101.toInt.toNat) s4) 184 (v101.toInt.toNat) 0) 185 (v101.toInt.toNat) s9) 182 (s2.toInt.toNat) v85) 111 i = h.2.1 111 i from ((hk_ot rfl).trans ((hk_ot rfl).trans ((hk_ot rfl).trans ((hk_ot rfl).trans ((hk_ot rfl).trans ((hk_ot rfl).trans ((hk_ot rfl).trans ((hk_ot rfl).trans rfl))))))))) (fun i _ => show (qm_up (qm_up (qm_up (qm_up (qm_up (qm_up (qm_up (qm_up h.2.1 102 (y83.toInt.toNat) s4) 105 (y83.toInt.toNat) 0) 108 (y83.toInt.toNat) s9) 99 (s2.toInt.toNat) v85) 183 (v101.toInt.toNat) s4) 184 (v101.toInt.toNat) 0) 185 (v101.toInt.toNat) s9) 182 (s2.toInt.toNat) v85) 51 i = h.2.1 51 i from ((hk_ot rfl).trans ((hk_ot rfl).trans ((hk_ot rfl).trans ((hk_ot rfl).trans ((hk_ot rfl).trans ((hk_ot rfl).trans ((hk_ot rfl).trans ((hk_ot rfl).trans rfl))))))))) (List.forall_mem_cons.mpr ⟨(show (qm_up (qm_up (qm_up (qm_up (qm_up (qm_up (qm_up (qm_up h.2.1 102 (y83.toInt.toNat) s4) 105 (y83.toInt.toNat) 0) 108 (y83.toInt.toNat) s9) 99 (s2.toInt.toNat) v85) 183 (v101.toInt.toNat) s4) 184 (v101.toInt.toNat) 0) 185 (v101.toInt.toNat) s9) 182 (s2.toInt.toNat) v85) 118 18 = h.2.1 118 18 from ((hk_ot rfl).trans ((hk_ot rfl).trans ((hk_ot rfl).trans ((hk_ot rfl).trans ((hk_ot rfl).trans ((hk_ot rfl).trans ((hk_ot rfl).trans ((hk_ot rfl).trans rfl))))))))), List.forall_mem_cons.mpr ⟨(show (qm_up (qm_up (qm_up (qm_up (qm_up (qm_up (qm_up (qm_up h.2.1 102 (y83.toInt.toNat) s4) 105 (y83.toInt.toNat) 0) 108 (y83.toInt.toNat) s9) 99 (s2.toInt.toNat) v85) 183 (v101.toInt.toNat) s4) 184 (v101.toInt.toNat) 0) 185 (v101.toInt.toNat) s9) 182 (s2.toInt.toNat) v85) 118 44 = h.2.1 118 44 from ((hk_ot rfl).trans ((hk_ot rfl).trans ((hk_ot rfl).trans ((hk_ot rfl).trans ((hk_ot rfl).trans ((hk_ot rfl).trans ((hk_ot rfl).trans ((hk_ot rfl).trans rfl))))))))), List.forall_mem_cons.mpr ⟨(show (qm_up (qm_up (qm_up (qm_up (qm_up (qm_up (qm_up (qm_up h.2.1 102 (y83.toInt.toNat) s4) 105 (y83.toInt.toNat) 0) 108 (y83.toInt.toNat) s9) 99 (s2.toInt.toNat) v85) 183 (v101.toInt.toNat) s4) 184 (v101.toInt.toNat) 0) 185 (v101.toInt.toNat) s9) 182 (s2.toInt.toNat) v85) 118 54 = h.2.1 118 54 from ((hk_ot rfl).trans ((hk_ot rfl).trans ((hk_ot rfl).trans ((hk_ot rfl).trans ((hk_ot rfl).trans ((hk_ot rfl).trans ((hk_ot rfl).trans ((hk_ot rfl).trans rfl))))))))), List.forall_mem_cons.mpr ⟨(show (qm_up (qm_up (qm_up (qm_up (qm_up (qm_up (qm_up (qm_up h.2.1 102 (y83.toInt.toNat) s4) 105 (y83.toInt.toNat) 0) 108 (y83.toInt.toNat) s9) 99 (s2.toInt.toNat) v85) 183 (v101.toInt.toNat) s4) 184 (v101.toInt.toNat) 0) 185 (v101.toInt.toNat) s9) 182 (s2.toInt.toNat) v85) 118 75 = h.2.1 118 75 from ((hk_ot rfl).trans ((hk_ot rfl).trans ((hk_ot rfl).trans ((hk_ot rfl).trans ((hk_ot rfl).trans ((hk_ot rfl).trans ((hk_ot rfl).trans ((hk_ot rfl).trans rfl))))))))), List.forall_mem_cons.mpr ⟨(show (qm_up (qm_up (qm_up (qm_up (qm_up (qm_up (qm_up (qm_up h.2.1 102 (y83.toInt.toNat) s4) 105 (y83.toInt.toNat) 0) 108 (y83.toInt.toNat) s9) 99 (s2.toInt.toNat) v85) 183 (v101.toInt.toNat) s4) 184 (v101.toInt.toNat) 0) 185 (v101.toInt.toNat) s9) 182 (s2.toInt.toNat) v85) 118 85 = h.2.1 118 85 from ((hk_ot rfl).trans ((hk_ot rfl).trans ((hk_ot rfl).trans ((hk_ot rfl).trans ((hk_ot rfl).trans ((hk_ot rfl).trans ((hk_ot rfl).trans ((hk_ot rfl).trans rfl))))))))), List.forall_mem_cons.mpr ⟨(show (qm_up (qm_up (qm_up (qm_up (qm_up (qm_up (qm_up (qm_up h.2.1 102 (y83.toInt.toNat) s4) 105 (y83.toInt.toNat) 0) 108 (y83.toInt.toNat) s9) 99 (s2.toInt.toNat) v85) 183 (v101.toInt.toNat) s4) 184 (v101.toInt.toNat) 0) 185 (v101.toInt.toNat) s9) 182 (s2.toInt.toNat) v85) 118 91 = h.2.1 118 91 from ((hk_ot rfl).trans ((hk_ot rfl).trans ((hk_ot rfl).trans ((hk_ot rfl).trans ((hk_ot rfl).trans ((hk_ot rfl).trans ((hk_ot rfl).trans ((hk_ot rfl).trans rfl))))))))), List.forall_mem_cons.mpr ⟨(show (qm_up (qm_up (qm_up (qm_up (qm_up (qm_up (qm_up (qm_up h.2.1 102 (y83.toInt.toNat) s4) 105 (y83.toInt.toNat) 0) 108 (y83.toInt.toNat) s9) 99 (s2.toInt.toNat) v85) 183 (v101.toInt.toNat) s4) 184 (v101.toInt.toNat) 0) 185 (v101.toInt.toNat) s9) 182 (s2.toInt.toNat) v85) 118 92 = h.2.1 118 92 from ((hk_ot rfl).trans ((hk_ot rfl).trans ((hk_ot rfl).trans ((hk_ot rfl).trans ((hk_ot rfl).trans ((hk_ot rfl).trans ((hk_ot rfl).trans ((hk_ot rfl).trans rfl))))))))), List.forall_mem_cons.mpr ⟨(show (qm_up (qm_up (qm_up (qm_up (qm_up (qm_up (qm_up (qm_up h.2.1 102 (y83.toInt.toNat) s4) 105 (y83.toInt.toNat) 0) 108 (y83.toInt.toNat) s9) 99 (s2.toInt.toNat) v85) 183 (v101.toInt.toNat) s4) 184 (v101.toInt.toNat) 0) 185 (v101.toInt.toNat) s9) 182 (s2.toInt.toNat) v85) 118 93 = h.2.1 118 93 from ((hk_ot rfl).trans ((hk_ot rfl).trans ((hk_ot rfl).trans ((hk_ot rfl).trans ((hk_ot rfl).trans ((hk_ot rfl).trans ((hk_ot rfl).trans ((hk_ot rfl).trans rfl))))))))), List.forall_mem_cons.mpr ⟨(show (qm_up (qm_up (qm_up (qm_up (qm_up (qm_up (qm_up (qm_up h.2.1 102 (y83.toInt.toNat) s4) 105 (y83.toInt.toNat) 0) 108 (y83.toInt.toNat) s9) 99 (s2.toInt.toNat) v85) 183 (v101.toInt.toNat) s4) 184 (v101.toInt.toNat) 0) 185 (v101.toInt.toNat) s9) 182 (s2.toInt.toNat) v85) 118 94 = h.2.1 118 94 from ((hk_ot rfl).trans ((hk_ot rfl).trans ((hk_ot rfl).trans ((hk_ot rfl).trans ((hk_ot rfl).trans ((hk_ot rfl).trans ((hk_ot rfl).trans ((hk_ot rfl).trans rfl))))))))), fun _ z => absurd z List.not_mem_nil⟩⟩⟩⟩⟩⟩⟩⟩⟩) rfl)
                      exact hE _ v104 (by omega) (qa_Inv_of0 ⟨hH.1, hH.2⟩ (hb_up (o := 182) (k := s2.toInt.toNat) (x := v85) (hb_up (o := 185) (k := v101.toInt.toNat) (x := s9) (hb_up (o := 184) (k := v101.toInt.toNat) (x := 0) (hb_up (o := 183) (k := v101.toInt.toNat) (x := s4) (hb_up (o := 99) (k := s2.toInt.toNat) (x := v85) (hb_up (o := 108) (k := y83.toInt.toNat) (x := s9) (hb_up (o := 105) (k := y83.toInt.toNat) (x := 0) (hb_up (o := 102) (k := y83.toInt.toNat) (x := s4) hB ⟨by show (0 : Int) ≤ s4.toInt; omega, by show s4.toInt ≤ (29 : Int); omega⟩) ⟨(show (0 : Int) ≤ 0 from by decide), (show (0 : Int) ≤ 1 from by decide)⟩) ⟨by show (0 : Int) ≤ s9.toInt; omega, by show s9.toInt ≤ (9999 : Int); omega⟩) (by rw [show s2.toInt.toNat = 0 from by omega]; exact ⟨by show (0 : Int) ≤ v85.toInt; omega, by show v85.toInt ≤ (30 : Int); omega⟩)) ⟨by show (0 : Int) ≤ s4.toInt; omega, by show s4.toInt ≤ (29 : Int); omega⟩) ⟨(show (0 : Int) ≤ 0 from by decide), (show (0 : Int) ≤ 1 from by decide)⟩) ⟨by show (0 : Int) ≤ s9.toInt; omega, by show s9.toInt ≤ (9999 : Int); omega⟩) (by rw [show s2.toInt.toNat = 0 from by omega]; exact ⟨by show (0 : Int) ≤ v85.toInt; omega, by show v85.toInt ≤ (30 : Int); omega⟩)) ⟨⟨⟨hS2, hX3⟩, hZ3⟩, t⟩ (gS2_ru hS2))
                  · refine qm_Ru.go 1 (c' := (16, [.ref 98, .int s2, .int s4, .int 0, .int s9, .int y83], [.int (-1)], h)) rfl ?_
                    refine qm_Ru.rt (v := (some (.int (-1)))) (h' := h) rfl ?_
                    refine qm_Ru.go 0 (c' := (46, [.ref 0, .int s2, .int s4, .int 0, .int s9], [.int (-1)], h)) rfl ?_
                    refine qm_Ru.rt (v := (some (.int (-1)))) (h' := h) rfl ?_
                    refine qm_Ru.go 6 (c' := (1823, [.retAddr 0, .ref 0, .ref 118, .int i], [.int (i + 1), .retAddr 0, .ref 118], h)) rfl ?_
                    rw [q_v1]
                    refine hk_scr (v := s2) rfl (by omega) (by omega) q_s2 ?_
                    refine qm_Ru.go 4 (c' := (1828, [.retAddr 0, .ref 0, .ref 118, .int i], [.int (i + 2), .retAddr 0, .int s2, .ref 118], h)) rfl ?_
                    rw [q_v3]
                    refine hk_scr (v := s4) rfl (by omega) (by omega) q_s4 ?_
                    refine qm_Ru.go 4 (c' := (1833, [.retAddr 0, .ref 0, .ref 118, .int i], [.int (i + 3), .retAddr 0, .int s4, .int s2, .ref 118], h)) rfl ?_
                    rw [q_v5]
                    refine hk_scr (v := s6) rfl (by omega) (by omega) q_s6 ?_
                    refine qm_Ru.go 0 (c' := (1834, [.retAddr 0, .ref 0, .ref 118, .int i], [.int s6, .int s4, .int s2, .ref 118], h)) rfl ?_
                    refine hk_zeq (ix := s6.toInt) rfl rfl (fun z108 => ?_) (fun z108 => by exfalso; omega)
                    refine qm_Ru.go 5 (c' := (1846, [.retAddr 0, .ref 0, .ref 118, .int i], [.int (i + 4), .retAddr 0, .int 0, .int s4, .int s2, .ref 118], h)) rfl ?_
                    rw [q_v8]
                    refine hk_scr (v := s9) rfl (by omega) (by omega) q_s9 ?_
                    refine qm_Ru.go 0 (c' := (1847, [.retAddr 0, .ref 0, .ref 118, .int i], [.int s9, .int 0, .int s4, .int s2, .ref 118], h)) rfl ?_
                    refine hk_inv (o := 118) (r := []) (as := [.ref 118, .int s2, .int s4, .int 0, .int s9]) rfl rfl (hH.1 118 (17, 105) rfl) rfl rfl rfl rfl ?_
                    refine qm_Ru.go 3 (c' := (3, [.ref 118, .int s2, .int s4, .int 0, .int s9, .float 0], [.int 1, .int 0, .int s2], h)) rfl ?_
                    refine qm_Ru.call (j := 270) (as := [.int s2, .int 0, .int 1]) (c' := (6, [.ref 118, .int s2, .int s4, .int 0, .int s9, .float 0], [], h)) rfl rfl rfl ?_
                    refine qm_Ru.go 2 (c' := (2, [.int s2, .int 0, .int 1], [.int 0, .int s2], h)) rfl ?_
                    refine hk_clt (ix := s2.toInt) (iy := 0) rfl rfl rfl (fun z110 => by exfalso; omega) (fun z110 => ?_)
                    refine qm_Ru.go 2 (c' := (7, [.int s2, .int 0, .int 1], [.int 1, .int s2], h)) rfl ?_
                    refine hk_cgt (ix := s2.toInt) (iy := 1) rfl rfl rfl (fun z111 => by exfalso; omega) (fun z111 => ?_)
                    refine qm_Ru.go 2 (c' := (15, [.int s2, .int 0, .int 1], [.int 1], h)) rfl ?_
                    refine qm_Ru.rt (v := (some (.int 1))) (h' := h) rfl ?_
                    refine qm_Ru.go 2 (c' := (10, [.ref 118, .int s2, .int s4, .int 0, .int s9, .float 0], [.ref 118], h)) rfl ?_
                    refine hk_getr rfl (hH.1 118 (17, 105) rfl) rfl (hH.2 118 95 (some 182) rfl) ?_
                    refine qm_Ru.go 1 (c' := (14, [.ref 118, .int s2, .int s4, .int 0, .int s9, .float 0], [.int s2, .ref 182], h)) rfl ?_
                    refine hk_ial (v := y83) rfl (hH.1 182 (0, 2) rfl) (by omega) (by omega) ((hS.2.2.2.2.1 _).symm.trans q_y83) ?_
                    refine qm_Ru.go 1 (c' := (17, [.ref 118, .int s2, .int s4, .int 0, .int s9, .float 0], [.int 30, .int y83], h)) rfl ?_
                    refine hk_ceq (ix := y83.toInt) (iy := 30) rfl rfl rfl (fun z112 => ?_) (fun z112 => by exfalso; omega)
                    refine qm_Ru.go 1 (c' := (41, [.ref 118, .int s2, .int s4, .int 0, .int s9, .float 0], [.int (-1)], h)) rfl ?_
                    refine qm_Ru.rt (v := (some (.int (-1)))) (h' := h) rfl ?_
                    refine qm_Ru.go 3 (c' := (2081, [.retAddr 0, .ref 0, .ref 118, .int (i + 6)], [], h)) rfl ?_
                    obtain ⟨v113, q_v113, e_v113⟩ := hk_add (x := i) (y := 6) (a := i.toInt) (b := 6) rfl rfl (by omega) (by omega)
                    rw [q_v113]
                    refine qm_Ru.go 1 (c' := (18, [.retAddr 0, .ref 0, .ref 118, .int v113], [], h)) rfl ?_
                    have hG : gR (h.2.1) := hS.2
                    have hS1 : gS (h.1, h.2.1, h.2.2.1, h.2.2.2) := hS.1
                    have hS2 : gS2 (h.1, h.2.1, h.2.2.1, h.2.2.2) := ⟨hS1, hG⟩
                    have hX3 : gX (h.1, h.2.1, h.2.2.1, h.2.2.2) := hX
                    have hZ3 : (gZB tb) (h.1, h.2.1, h.2.2.1, h.2.2.2) := hZ
                    exact hE _ v113 (by omega) (qa_Inv_of0 ⟨hH.1, hH.2⟩ hB ⟨⟨⟨hS2, hX3⟩, hZ3⟩, t⟩ (gS2_ru hS2))
                · obtain ⟨y114, q_y114⟩ : ∃ v, h.2.1 99 (s2.toInt.toNat) = v := ⟨_, rfl⟩
                  have b_y114 : (0 : Int) ≤ y114.toInt ∧ y114.toInt ≤ 30 := by rw [← q_y114, show s2.toInt.toNat = 1 from by omega]; exact hB 99 1
                  refine hk_inv (o := 98) (r := []) (as := [.ref 98, .int s2, .int s4, .int 0, .int s9]) rfl rfl (hH.1 98 (5, 6) rfl) rfl rfl rfl rfl ?_
                  refine qm_Ru.go 1 (c' := (1, [.ref 98, .int s2, .int s4, .int 0, .int s9, .float 0], [.ref 98], h)) rfl ?_
                  refine hk_getr rfl (hH.1 98 (5, 6) rfl) rfl (hH.2 98 0 (some 99) rfl) ?_
                  refine qm_Ru.go 1 (c' := (5, [.ref 98, .int s2, .int s4, .int 0, .int s9, .float 0], [.int s2, .ref 99], h)) rfl ?_
                  refine hk_ial (v := y114) rfl (hH.1 99 (0, 2) rfl) (by omega) (by omega) q_y114 ?_
                  refine qm_Ru.go 3 (c' := (12, [.ref 98, .int s2, .int s4, .int 0, .int s9, .int y114], [.int 30, .int y114], h)) rfl ?_
                  refine hk_clt (ix := y114.toInt) (iy := 30) rfl rfl rfl (fun z115 => ?_) (fun z115 => ?_)
                  · refine qm_Ru.go 1 (c' := (18, [.ref 98, .int s2, .int s4, .int 0, .int s9, .int y114], [.ref 98], h)) rfl ?_
                    refine hk_getr rfl (hH.1 98 (5, 6) rfl) rfl (hH.2 98 2 (some 101) rfl) ?_
                    refine qm_Ru.go 1 (c' := (22, [.ref 98, .int s2, .int s4, .int 0, .int s9, .int y114], [.int s2, .ref 101], h)) rfl ?_
                    refine hk_aal rfl (hH.1 101 (4, 2) rfl) (by omega) (by omega) (by rw [show s2.toInt.toNat = 1 from by omega]; exact (hH.2 101 1 (some 103) rfl)) ?_
                    refine qm_Ru.go 2 (c' := (26, [.ref 98, .int s2, .int s4, .int 0, .int s9, .int y114], [.int s4, .int y114, .ref 103], h)) rfl ?_
                    refine hk_ias rfl (hH.1 103 (0, 30) rfl) (by omega) (by omega) ?_
                    refine qm_Ru.go 1 (c' := (28, [.ref 98, .int s2, .int s4, .int 0, .int s9, .int y114], [.ref 98], (h.1, qm_up h.2.1 103 (y114.toInt.toNat) s4, h.2.2.1, h.2.2.2))) rfl ?_
                    refine hk_getr rfl (hH.1 98 (5, 6) rfl) rfl (hH.2 98 3 (some 104) rfl) ?_
                    refine qm_Ru.go 1 (c' := (32, [.ref 98, .int s2, .int s4, .int 0, .int s9, .int y114], [.int s2, .ref 104], (h.1, qm_up h.2.1 103 (y114.toInt.toNat) s4, h.2.2.1, h.2.2.2))) rfl ?_
                    refine hk_aal rfl (hH.1 104 (4, 2) rfl) (by omega) (by omega) (by rw [show s2.toInt.toNat = 1 from by omega]; exact (hH.2 104 1 (some 106) rfl)) ?_
                    refine qm_Ru.go 4 (c' := (44, [.ref 98, .int s2, .int s4, .int 0, .int s9, .int y114], [.int 0, .int y114, .ref 106], (h.1, qm_up h.2.1 103 (y114.toInt.toNat) s4, h.2.2.1, h.2.2.2))) rfl ?_
                    refine hk_ias rfl (hH.1 106 (0, 30) rfl) (by omega) (by omega) ?_
                    refine qm_Ru.go 1 (c' := (46, [.ref 98, .int s2, .int s4, .int 0, .int s9, .int y114], [.ref 98], (h.1, qm_up (qm_up h.2.1 103 (y114.toInt.toNat) s4) 106 (y114.toInt.toNat) 0, h.2.2.1, h.2.2.2))) rfl ?_
                    refine hk_getr rfl (hH.1 98 (5, 6) rfl) rfl (hH.2 98 4 (some 107) rfl) ?_
                    refine qm_Ru.go 1 (c' := (50, [.ref 98, .int s2, .int s4, .int 0, .int s9, .int y114], [.int s2, .ref 107], (h.1, qm_up (qm_up h.2.1 103 (y114.toInt.toNat) s4) 106 (y114.toInt.toNat) 0, h.2.2.1, h.2.2.2))) rfl ?_
                    refine hk_aal rfl (hH.1 107 (4, 2) rfl) (by omega) (by omega) (by rw [show s2.toInt.toNat = 1 from by omega]; exact (hH.2 107 1 (some 109) rfl)) ?_
                    refine qm_Ru.go 2 (c' := (55, [.ref 98, .int s2, .int s4, .int 0, .int s9, .int y114], [.int s9, .int y114, .ref 109], (h.1, qm_up (qm_up h.2.1 103 (y114.toInt.toNat) s4) 106 (y114.toInt.toNat) 0, h.2.2.1, h.2.2.2))) rfl ?_
                    refine hk_ias rfl (hH.1 109 (0, 30) rfl) (by omega) (by omega) ?_
                    refine qm_Ru.go 1 (c' := (57, [.ref 98, .int s2, .int s4, .int 0, .int s9, .int y114], [.ref 98], (h.1, qm_up (qm_up (qm_up h.2.1 103 (y114.toInt.toNat) s4) 106 (y114.toInt.toNat) 0) 109 (y114.toInt.toNat) s9, h.2.2.1, h.2.2.2))) rfl ?_
                    refine hk_getr rfl (hH.1 98 (5, 6) rfl) rfl (hH.2 98 0 (some 99) rfl) ?_
                    refine qm_Ru.go 2 (c' := (62, [.ref 98, .int s2, .int s4, .int 0, .int s9, .int y114], [.int s2, .ref 99, .int s2, .ref 99], (h.1, qm_up (qm_up (qm_up h.2.1 103 (y114.toInt.toNat) s4) 106 (y114.toInt.toNat) 0) 109 (y114.toInt.toNat) s9, h.2.2.1, h.2.2.2))) rfl ?_
                    refine hk_ial (v := y114) rfl (hH.1 99 (0, 2) rfl) (by omega) (by omega) (show (qm_up (qm_up (qm_up h.2.1 103 (y114.toInt.toNat) s4) 106 (y114.toInt.toNat) 0) 109 (y114.toInt.toNat) s9) 99 (s2.toInt.toNat) = _ from ((hk_ot rfl).trans ((hk_ot rfl).trans ((hk_ot rfl).trans q_y114)))) ?_
                    refine qm_Ru.go 2 (c' := (65, [.ref 98, .int s2, .int s4, .int 0, .int s9, .int y114], [.int (y114 + 1), .int s2, .ref 99], (h.1, qm_up (qm_up (qm_up h.2.1 103 (y114.toInt.toNat) s4) 106 (y114.toInt.toNat) 0) 109 (y114.toInt.toNat) s9, h.2.2.1, h.2.2.2))) rfl ?_
                    obtain ⟨v116, q_v116, e_v116⟩ := hk_add (x := y114) (y := 1) (a := y114.toInt) (b := 1) rfl rfl (by omega) (by omega)
                    rw [q_v116]
                    refine hk_ias rfl (hH.1 99 (0, 2) rfl) (by omega) (by omega) ?_
                    refine qm_Ru.go 1 (c' := (68, [.ref 98, .int s2, .int s4, .int 0, .int s9, .int y114], [.int y114], (h.1, qm_up (qm_up (qm_up (qm_up h.2.1 103 (y114.toInt.toNat) s4) 106 (y114.toInt.toNat) 0) 109 (y114.toInt.toNat) s9) 99 (s2.toInt.toNat) v116, h.2.2.1, h.2.2.2))) rfl ?_
                    refine qm_Ru.rt (v := (some (.int y114))) (h' := (h.1, qm_up (qm_up (qm_up (qm_up h.2.1 103 (y114.toInt.toNat) s4) 106 (y114.toInt.toNat) 0) 109 (y114.toInt.toNat) s9) 99 (s2.toInt.toNat) v116, h.2.2.1, h.2.2.2)) rfl ?_
                    refine qm_Ru.go 0 (c' := (46, [.ref 0, .int s2, .int s4, .int 0, .int s9], [.int y114], (h.1, qm_up (qm_up (qm_up (qm_up h.2.1 103 (y114.toInt.toNat) s4) 106 (y114.toInt.toNat) 0) 109 (y114.toInt.toNat) s9) 99 (s2.toInt.toNat) v116, h.2.2.1, h.2.2.2))) rfl ?_
                    refine qm_Ru.rt (v := (some (.int y114))) (h' := (h.1, qm_up (qm_up (qm_up (qm_up h.2.1 103 (y114.toInt.toNat) s4) 106 (y114.toInt.toNat) 0) 109 (y114.toInt.toNat) s9) 99 (s2.toInt.toNat) v116, h.2.2.1, h.2.2.2)) rfl ?_
                    refine qm_Ru.go 6 (c' := (1823, [.retAddr 0, .ref 0, .ref 118, .int i], [.int (i + 1), .retAddr 0, .ref 118], (h.1, qm_up (qm_up (qm_up (qm_up h.2.1 103 (y114.toInt.toNat) s4) 106 (y114.toInt.toNat) 0) 109 (y114.toInt.toNat) s9) 99 (s2.toInt.toNat) v116, h.2.2.1, h.2.2.2))) rfl ?_
                    rw [q_v1]
                    refine hk_scr (v := s2) rfl (by omega) (by omega) q_s2 ?_
                    refine qm_Ru.go 4 (c' := (1828, [.retAddr 0, .ref 0, .ref 118, .int i], [.int (i + 2), .retAddr 0, .int s2, .ref 118], (h.1, qm_up (qm_up (qm_up (qm_up h.2.1 103 (y114.toInt.toNat) s4) 106 (y114.toInt.toNat) 0) 109 (y114.toInt.toNat) s9) 99 (s2.toInt.toNat) v116, h.2.2.1, h.2.2.2))) rfl ?_
                    rw [q_v3]
                    refine hk_scr (v := s4) rfl (by omega) (by omega) q_s4 ?_
                    refine qm_Ru.go 4 (c' := (1833, [.retAddr 0, .ref 0, .ref 118, .int i], [.int (i + 3), .retAddr 0, .int s4, .int s2, .ref 118], (h.1, qm_up (qm_up (qm_up (qm_up h.2.1 103 (y114.toInt.toNat) s4) 106 (y114.toInt.toNat) 0) 109 (y114.toInt.toNat) s9) 99 (s2.toInt.toNat) v116, h.2.2.1, h.2.2.2))) rfl ?_
                    rw [q_v5]
                    refine hk_scr (v := s6) rfl (by omega) (by omega) q_s6 ?_
                    refine qm_Ru.go 0 (c' := (1834, [.retAddr 0, .ref 0, .ref 118, .int i], [.int s6, .int s4, .int s2, .ref 118], (h.1, qm_up (qm_up (qm_up (qm_up h.2.1 103 (y114.toInt.toNat) s4) 106 (y114.toInt.toNat) 0) 109 (y114.toInt.toNat) s9) 99 (s2.toInt.toNat) v116, h.2.2.1, h.2.2.2))) rfl ?_
                    refine hk_zeq (ix := s6.toInt) rfl rfl (fun z120 => ?_) (fun z120 => by exfalso; omega)
                    refine qm_Ru.go 5 (c' := (1846, [.retAddr 0, .ref 0, .ref 118, .int i], [.int (i + 4), .retAddr 0, .int 0, .int s4, .int s2, .ref 118], (h.1, qm_up (qm_up (qm_up (qm_up h.2.1 103 (y114.toInt.toNat) s4) 106 (y114.toInt.toNat) 0) 109 (y114.toInt.toNat) s9) 99 (s2.toInt.toNat) v116, h.2.2.1, h.2.2.2))) rfl ?_
                    rw [q_v8]
                    refine hk_scr (v := s9) rfl (by omega) (by omega) q_s9 ?_
                    refine qm_Ru.go 0 (c' := (1847, [.retAddr 0, .ref 0, .ref 118, .int i], [.int s9, .int 0, .int s4, .int s2, .ref 118], (h.1, qm_up (qm_up (qm_up (qm_up h.2.1 103 (y114.toInt.toNat) s4) 106 (y114.toInt.toNat) 0) 109 (y114.toInt.toNat) s9) 99 (s2.toInt.toNat) v116, h.2.2.1, h.2.2.2))) rfl ?_
                    refine hk_inv (o := 118) (r := []) (as := [.ref 118, .int s2, .int s4, .int 0, .int s9]) rfl rfl (hH.1 118 (17, 105) rfl) rfl rfl rfl rfl ?_
                    refine qm_Ru.go 3 (c' := (3, [.ref 118, .int s2, .int s4, .int 0, .int s9, .float 0], [.int 1, .int 0, .int s2], (h.1, qm_up (qm_up (qm_up (qm_up h.2.1 103 (y114.toInt.toNat) s4) 106 (y114.toInt.toNat) 0) 109 (y114.toInt.toNat) s9) 99 (s2.toInt.toNat) v116, h.2.2.1, h.2.2.2))) rfl ?_
                    refine qm_Ru.call (j := 270) (as := [.int s2, .int 0, .int 1]) (c' := (6, [.ref 118, .int s2, .int s4, .int 0, .int s9, .float 0], [], (h.1, qm_up (qm_up (qm_up (qm_up h.2.1 103 (y114.toInt.toNat) s4) 106 (y114.toInt.toNat) 0) 109 (y114.toInt.toNat) s9) 99 (s2.toInt.toNat) v116, h.2.2.1, h.2.2.2))) rfl rfl rfl ?_
                    refine qm_Ru.go 2 (c' := (2, [.int s2, .int 0, .int 1], [.int 0, .int s2], (h.1, qm_up (qm_up (qm_up (qm_up h.2.1 103 (y114.toInt.toNat) s4) 106 (y114.toInt.toNat) 0) 109 (y114.toInt.toNat) s9) 99 (s2.toInt.toNat) v116, h.2.2.1, h.2.2.2))) rfl ?_
                    refine hk_clt (ix := s2.toInt) (iy := 0) rfl rfl rfl (fun z122 => by exfalso; omega) (fun z122 => ?_)
                    refine qm_Ru.go 2 (c' := (7, [.int s2, .int 0, .int 1], [.int 1, .int s2], (h.1, qm_up (qm_up (qm_up (qm_up h.2.1 103 (y114.toInt.toNat) s4) 106 (y114.toInt.toNat) 0) 109 (y114.toInt.toNat) s9) 99 (s2.toInt.toNat) v116, h.2.2.1, h.2.2.2))) rfl ?_
                    refine hk_cgt (ix := s2.toInt) (iy := 1) rfl rfl rfl (fun z123 => by exfalso; omega) (fun z123 => ?_)
                    refine qm_Ru.go 2 (c' := (15, [.int s2, .int 0, .int 1], [.int 1], (h.1, qm_up (qm_up (qm_up (qm_up h.2.1 103 (y114.toInt.toNat) s4) 106 (y114.toInt.toNat) 0) 109 (y114.toInt.toNat) s9) 99 (s2.toInt.toNat) v116, h.2.2.1, h.2.2.2))) rfl ?_
                    refine qm_Ru.rt (v := (some (.int 1))) (h' := (h.1, qm_up (qm_up (qm_up (qm_up h.2.1 103 (y114.toInt.toNat) s4) 106 (y114.toInt.toNat) 0) 109 (y114.toInt.toNat) s9) 99 (s2.toInt.toNat) v116, h.2.2.1, h.2.2.2)) rfl ?_
                    refine qm_Ru.go 2 (c' := (10, [.ref 118, .int s2, .int s4, .int 0, .int s9, .float 0], [.ref 118], (h.1, qm_up (qm_up (qm_up (qm_up h.2.1 103 (y114.toInt.toNat) s4) 106 (y114.toInt.toNat) 0) 109 (y114.toInt.toNat) s9) 99 (s2.toInt.toNat) v116, h.2.2.1, h.2.2.2))) rfl ?_
                    refine hk_getr rfl (hH.1 118 (17, 105) rfl) rfl (hH.2 118 95 (some 182) rfl) ?_
                    refine qm_Ru.go 1 (c' := (14, [.ref 118, .int s2, .int s4, .int 0, .int s9, .float 0], [.int s2, .ref 182], (h.1, qm_up (qm_up (qm_up (qm_up h.2.1 103 (y114.toInt.toNat) s4) 106 (y114.toInt.toNat) 0) 109 (y114.toInt.toNat) s9) 99 (s2.toInt.toNat) v116, h.2.2.1, h.2.2.2))) rfl ?_
                    refine hk_ial (v := y114) rfl (hH.1 182 (0, 2) rfl) (by omega) (by omega) (show (qm_up (qm_up (qm_up (qm_up h.2.1 103 (y114.toInt.toNat) s4) 106 (y114.toInt.toNat) 0) 109 (y114.toInt.toNat) s9) 99 (s2.toInt.toNat) v116) 182 (s2.toInt.toNat) = _ from ((hk_ot rfl).trans ((hk_ot rfl).trans ((hk_ot rfl).trans ((hk_ot rfl).trans ((hS.2.2.2.2.1 _).symm.trans q_y114)))))) ?_
                    refine qm_Ru.go 1 (c' := (17, [.ref 118, .int s2, .int s4, .int 0, .int s9, .float 0], [.int 30, .int y114], (h.1, qm_up (qm_up (qm_up (qm_up h.2.1 103 (y114.toInt.toNat) s4) 106 (y114.toInt.toNat) 0) 109 (y114.toInt.toNat) s9) 99 (s2.toInt.toNat) v116, h.2.2.1, h.2.2.2))) rfl ?_
                    refine hk_ceq (ix := y114.toInt) (iy := 30) rfl rfl rfl (fun z124 => by exfalso; omega) (fun z124 => ?_)
                    refine qm_Ru.go 2 (c' := (22, [.ref 118, .int s2, .int s4, .int 0, .int s9, .float 0], [.int s4, .ref 118], (h.1, qm_up (qm_up (qm_up (qm_up h.2.1 103 (y114.toInt.toNat) s4) 106 (y114.toInt.toNat) 0) 109 (y114.toInt.toNat) s9) 99 (s2.toInt.toNat) v116, h.2.2.1, h.2.2.2))) rfl ?_
                    refine hk_inv (o := 118) (r := []) (as := [.ref 118, .int s4]) rfl rfl (hH.1 118 (17, 105) rfl) rfl rfl rfl rfl ?_
                    refine qm_Ru.go 3 (c' := (3, [.ref 118, .int s4], [.ref 118, .int 0, .int s4], (h.1, qm_up (qm_up (qm_up (qm_up h.2.1 103 (y114.toInt.toNat) s4) 106 (y114.toInt.toNat) 0) 109 (y114.toInt.toNat) s9) 99 (s2.toInt.toNat) v116, h.2.2.1, h.2.2.2))) rfl ?_
                    refine hk_geti (v := c0) rfl (hH.1 118 (17, 105) rfl) rfl (show (qm_up (qm_up (qm_up (qm_up h.2.1 103 (y114.toInt.toNat) s4) 106 (y114.toInt.toNat) 0) 109 (y114.toInt.toNat) s9) 99 (s2.toInt.toNat) v116) 118 44 = _ from ((hk_ot rfl).trans ((hk_ot rfl).trans ((hk_ot rfl).trans ((hk_ot rfl).trans p_c0))))) ?_
                    refine qm_Ru.go 2 (c' := (8, [.ref 118, .int s4], [.int (c0 - 1), .int 0, .int s4], (h.1, qm_up (qm_up (qm_up (qm_up h.2.1 103 (y114.toInt.toNat) s4) 106 (y114.toInt.toNat) 0) 109 (y114.toInt.toNat) s9) 99 (s2.toInt.toNat) v116, h.2.2.1, h.2.2.2))) rfl ?_
                    obtain ⟨v125, q_v125, e_v125⟩ := hk_sub (x := c0) (y := 1) (a := c0.toInt) (b := 1) rfl rfl (by omega) (by omega)
                    rw [q_v125]
                    refine qm_Ru.call (j := 270) (as := [.int s4, .int 0, .int v125]) (c' := (11, [.ref 118, .int s4], [], (h.1, qm_up (qm_up (qm_up (qm_up h.2.1 103 (y114.toInt.toNat) s4) 106 (y114.toInt.toNat) 0) 109 (y114.toInt.toNat) s9) 99 (s2.toInt.toNat) v116, h.2.2.1, h.2.2.2))) rfl rfl rfl ?_
                    refine qm_Ru.go 2 (c' := (2, [.int s4, .int 0, .int v125], [.int 0, .int s4], (h.1, qm_up (qm_up (qm_up (qm_up h.2.1 103 (y114.toInt.toNat) s4) 106 (y114.toInt.toNat) 0) 109 (y114.toInt.toNat) s9) 99 (s2.toInt.toNat) v116, h.2.2.1, h.2.2.2))) rfl ?_
                    refine hk_clt (ix := s4.toInt) (iy := 0) rfl rfl rfl (fun z126 => by exfalso; omega) (fun z126 => ?_)
                    refine qm_Ru.go 2 (c' := (7, [.int s4, .int 0, .int v125], [.int v125, .int s4], (h.1, qm_up (qm_up (qm_up (qm_up h.2.1 103 (y114.toInt.toNat) s4) 106 (y114.toInt.toNat) 0) 109 (y114.toInt.toNat) s9) 99 (s2.toInt.toNat) v116, h.2.2.1, h.2.2.2))) rfl ?_
                    refine hk_cgt (ix := s4.toInt) (iy := v125.toInt) rfl rfl rfl (fun z127 => ?_) (fun z127 => ?_)
                    · refine qm_Ru.go 1 (c' := (15, [.int s4, .int 0, .int v125], [.int 0], (h.1, qm_up (qm_up (qm_up (qm_up h.2.1 103 (y114.toInt.toNat) s4) 106 (y114.toInt.toNat) 0) 109 (y114.toInt.toNat) s9) 99 (s2.toInt.toNat) v116, h.2.2.1, h.2.2.2))) rfl ?_
                      refine qm_Ru.rt (v := (some (.int 0))) (h' := (h.1, qm_up (qm_up (qm_up (qm_up h.2.1 103 (y114.toInt.toNat) s4) 106 (y114.toInt.toNat) 0) 109 (y114.toInt.toNat) s9) 99 (s2.toInt.toNat) v116, h.2.2.1, h.2.2.2)) rfl ?_
                      refine qm_Ru.go 0 (c' := (11, [.ref 118, .int s4], [.int 0], (h.1, qm_up (qm_up (qm_up (qm_up h.2.1 103 (y114.toInt.toNat) s4) 106 (y114.toInt.toNat) 0) 109 (y114.toInt.toNat) s9) 99 (s2.toInt.toNat) v116, h.2.2.1, h.2.2.2))) rfl ?_
                      refine qm_Ru.rt (v := (some (.int 0))) (h' := (h.1, qm_up (qm_up (qm_up (qm_up h.2.1 103 (y114.toInt.toNat) s4) 106 (y114.toInt.toNat) 0) 109 (y114.toInt.toNat) s9) 99 (s2.toInt.toNat) v116, h.2.2.1, h.2.2.2)) rfl ?_
                      refine qm_Ru.go 2 (c' := (41, [.ref 118, .int s2, .int s4, .int 0, .int s9, .float 0], [.int (-1)], (h.1, qm_up (qm_up (qm_up (qm_up h.2.1 103 (y114.toInt.toNat) s4) 106 (y114.toInt.toNat) 0) 109 (y114.toInt.toNat) s9) 99 (s2.toInt.toNat) v116, h.2.2.1, h.2.2.2))) rfl ?_
                      refine qm_Ru.rt (v := (some (.int (-1)))) (h' := (h.1, qm_up (qm_up (qm_up (qm_up h.2.1 103 (y114.toInt.toNat) s4) 106 (y114.toInt.toNat) 0) 109 (y114.toInt.toNat) s9) 99 (s2.toInt.toNat) v116, h.2.2.1, h.2.2.2)) rfl ?_
                      refine qm_Ru.go 3 (c' := (2081, [.retAddr 0, .ref 0, .ref 118, .int (i + 6)], [], (h.1, qm_up (qm_up (qm_up (qm_up h.2.1 103 (y114.toInt.toNat) s4) 106 (y114.toInt.toNat) 0) 109 (y114.toInt.toNat) s9) 99 (s2.toInt.toNat) v116, h.2.2.1, h.2.2.2))) rfl ?_
                      obtain ⟨v128, q_v128, e_v128⟩ := hk_add (x := i) (y := 6) (a := i.toInt) (b := 6) rfl rfl (by omega) (by omega)
                      rw [q_v128]
                      refine qm_Ru.go 1 (c' := (18, [.retAddr 0, .ref 0, .ref 118, .int v128], [], (h.1, qm_up (qm_up (qm_up (qm_up h.2.1 103 (y114.toInt.toNat) s4) 106 (y114.toInt.toNat) 0) 109 (y114.toInt.toNat) s9) 99 (s2.toInt.toNat) v116, h.2.2.1, h.2.2.2))) rfl ?_
                      exfalso
                      omega
                    · refine qm_Ru.go 2 (c' := (15, [.int s4, .int 0, .int v125], [.int 1], (h.1, qm_up (qm_up (qm_up (qm_up h.2.1 103 (y114.toInt.toNat) s4) 106 (y114.toInt.toNat) 0) 109 (y114.toInt.toNat) s9) 99 (s2.toInt.toNat) v116, h.2.2.1, h.2.2.2))) rfl ?_
                      refine qm_Ru.rt (v := (some (.int 1))) (h' := (h.1, qm_up (qm_up (qm_up (qm_up h.2.1 103 (y114.toInt.toNat) s4) 106 (y114.toInt.toNat) 0) 109 (y114.toInt.toNat) s9) 99 (s2.toInt.toNat) v116, h.2.2.1, h.2.2.2)) rfl ?_
                      refine qm_Ru.go 0 (c' := (11, [.ref 118, .int s4], [.int 1], (h.1, qm_up (qm_up (qm_up (qm_up h.2.1 103 (y114.toInt.toNat) s4) 106 (y114.toInt.toNat) 0) 109 (y114.toInt.toNat) s9) 99 (s2.toInt.toNat) v116, h.2.2.1, h.2.2.2))) rfl ?_
                      refine qm_Ru.rt (v := (some (.int 1))) (h' := (h.1, qm_up (qm_up (qm_up (qm_up h.2.1 103 (y114.toInt.toNat) s4) 106 (y114.toInt.toNat) 0) 109 (y114.toInt.toNat) s9) 99 (s2.toInt.toNat) v116, h.2.2.1, h.2.2.2)) rfl ?_
                      refine qm_Ru.go 4 (c' := (34, [.ref 118, .int s2, .int s4, .int 0, .int s9, .float 0], [.int 9999, .int 0, .int s9], (h.1, qm_up (qm_up (qm_up (qm_up h.2.1 103 (y114.toInt.toNat) s4) 106 (y114.toInt.toNat) 0) 109 (y114.toInt.toNat) s9) 99 (s2.toInt.toNat) v116, h.2.2.1, h.2.2.2))) rfl ?_
                      refine qm_Ru.call (j := 270) (as := [.int s9, .int 0, .int 9999]) (c' := (37, [.ref 118, .int s2, .int s4, .int 0, .int s9, .float 0], [], (h.1, qm_up (qm_up (qm_up (qm_up h.2.1 103 (y114.toInt.toNat) s4) 106 (y114.toInt.toNat) 0) 109 (y114.toInt.toNat) s9) 99 (s2.toInt.toNat) v116, h.2.2.1, h.2.2.2))) rfl rfl rfl ?_
                      refine qm_Ru.go 2 (c' := (2, [.int s9, .int 0, .int 9999], [.int 0, .int s9], (h.1, qm_up (qm_up (qm_up (qm_up h.2.1 103 (y114.toInt.toNat) s4) 106 (y114.toInt.toNat) 0) 109 (y114.toInt.toNat) s9) 99 (s2.toInt.toNat) v116, h.2.2.1, h.2.2.2))) rfl ?_
                      refine hk_clt (ix := s9.toInt) (iy := 0) rfl rfl rfl (fun z129 => by exfalso; omega) (fun z129 => ?_)
                      refine qm_Ru.go 2 (c' := (7, [.int s9, .int 0, .int 9999], [.int 9999, .int s9], (h.1, qm_up (qm_up (qm_up (qm_up h.2.1 103 (y114.toInt.toNat) s4) 106 (y114.toInt.toNat) 0) 109 (y114.toInt.toNat) s9) 99 (s2.toInt.toNat) v116, h.2.2.1, h.2.2.2))) rfl ?_
                      refine hk_cgt (ix := s9.toInt) (iy := 9999) rfl rfl rfl (fun z130 => by exfalso; omega) (fun z130 => ?_)
                      refine qm_Ru.go 2 (c' := (15, [.int s9, .int 0, .int 9999], [.int 1], (h.1, qm_up (qm_up (qm_up (qm_up h.2.1 103 (y114.toInt.toNat) s4) 106 (y114.toInt.toNat) 0) 109 (y114.toInt.toNat) s9) 99 (s2.toInt.toNat) v116, h.2.2.1, h.2.2.2))) rfl ?_
                      refine qm_Ru.rt (v := (some (.int 1))) (h' := (h.1, qm_up (qm_up (qm_up (qm_up h.2.1 103 (y114.toInt.toNat) s4) 106 (y114.toInt.toNat) 0) 109 (y114.toInt.toNat) s9) 99 (s2.toInt.toNat) v116, h.2.2.1, h.2.2.2)) rfl ?_
                      refine qm_Ru.go 4 (c' := (46, [.ref 118, .int s2, .int s4, .int 0, .int s9, .float 0], [.int (30 * s2)], (h.1, qm_up (qm_up (qm_up (qm_up h.2.1 103 (y114.toInt.toNat) s4) 106 (y114.toInt.toNat) 0) 109 (y114.toInt.toNat) s9) 99 (s2.toInt.toNat) v116, h.2.2.1, h.2.2.2))) rfl ?_
                      obtain ⟨v131, q_v131, e_v131⟩ := hk_mul (x := 30) (y := s2) (a := 30) (b := s2.toInt) rfl rfl (by omega) (by omega)
                      rw [q_v131]
                      refine qm_Ru.go 1 (c' := (47, [.ref 118, .int s2, .int s4, .int 0, .int s9, .float 0], [.ref 118, .int v131], (h.1, qm_up (qm_up (qm_up (qm_up h.2.1 103 (y114.toInt.toNat) s4) 106 (y114.toInt.toNat) 0) 109 (y114.toInt.toNat) s9) 99 (s2.toInt.toNat) v116, h.2.2.1, h.2.2.2))) rfl ?_
                      refine hk_getr rfl (hH.1 118 (17, 105) rfl) rfl (hH.2 118 95 (some 182) rfl) ?_
                      refine qm_Ru.go 1 (c' := (51, [.ref 118, .int s2, .int s4, .int 0, .int s9, .float 0], [.int s2, .ref 182, .int v131], (h.1, qm_up (qm_up (qm_up (qm_up h.2.1 103 (y114.toInt.toNat) s4) 106 (y114.toInt.toNat) 0) 109 (y114.toInt.toNat) s9) 99 (s2.toInt.toNat) v116, h.2.2.1, h.2.2.2))) rfl ?_
                      refine hk_ial (v := y114) rfl (hH.1 182 (0, 2) rfl) (by omega) (by omega) (show (qm_up (qm_up (qm_up (qm_up h.2.1 103 (y114.toInt.toNat) s4) 106 (y114.toInt.toNat) 0) 109 (y114.toInt.toNat) s9) 99 (s2.toInt.toNat) v116) 182 (s2.toInt.toNat) = _ from ((hk_ot rfl).trans ((hk_ot rfl).trans ((hk_ot rfl).trans ((hk_ot rfl).trans ((hS.2.2.2.2.1 _).symm.trans q_y114)))))) ?_
                      refine qm_Ru.go 1 (c' := (53, [.ref 118, .int s2, .int s4, .int 0, .int s9, .float 0], [.int (v131 + y114)], (h.1, qm_up (qm_up (qm_up (qm_up h.2.1 103 (y114.toInt.toNat) s4) 106 (y114.toInt.toNat) 0) 109 (y114.toInt.toNat) s9) 99 (s2.toInt.toNat) v116, h.2.2.1, h.2.2.2))) rfl ?_
                      obtain ⟨v132, q_v132, e_v132⟩ := hk_add (x := v131) (y := y114) (a := v131.toInt) (b := y114.toInt) rfl rfl (by omega) (by omega)
                      rw [q_v132]
                      refine qm_Ru.go 2 (c' := (56, [.ref 118, .int s2, .int s4, .int 0, .int s9, .int v132], [.ref 118], (h.1, qm_up (qm_up (qm_up (qm_up h.2.1 103 (y114.toInt.toNat) s4) 106 (y114.toInt.toNat) 0) 109 (y114.toInt.toNat) s9) 99 (s2.toInt.toNat) v116, h.2.2.1, h.2.2.2))) rfl ?_
                      refine hk_getr rfl (hH.1 118 (17, 105) rfl) rfl (hH.2 118 96 (some 183) rfl) ?_
                      refine qm_Ru.go 2 (c' := (62, [.ref 118, .int s2, .int s4, .int 0, .int s9, .int v132], [.int s4, .int v132, .ref 183], (h.1, qm_up (qm_up (qm_up (qm_up h.2.1 103 (y114.toInt.toNat) s4) 106 (y114.toInt.toNat) 0) 109 (y114.toInt.toNat) s9) 99 (s2.toInt.toNat) v116, h.2.2.1, h.2.2.2))) rfl ?_
                      refine hk_ias rfl (hH.1 183 (0, 60) rfl) (by omega) (by omega) ?_
                      refine qm_Ru.go 1 (c' := (64, [.ref 118, .int s2, .int s4, .int 0, .int s9, .int v132], [.ref 118], (h.1, qm_up (qm_up (qm_up (qm_up (qm_up h.2.1 103 (y114.toInt.toNat) s4) 106 (y114.toInt.toNat) 0) 109 (y114.toInt.toNat) s9) 99 (s2.toInt.toNat) v116) 183 (v132.toInt.toNat) s4, h.2.2.1, h.2.2.2))) rfl ?_
                      refine hk_getr rfl (hH.1 118 (17, 105) rfl) rfl (hH.2 118 97 (some 184) rfl) ?_
                      refine qm_Ru.go 2 (c' := (70, [.ref 118, .int s2, .int s4, .int 0, .int s9, .int v132], [.int 0, .int v132, .ref 184], (h.1, qm_up (qm_up (qm_up (qm_up (qm_up h.2.1 103 (y114.toInt.toNat) s4) 106 (y114.toInt.toNat) 0) 109 (y114.toInt.toNat) s9) 99 (s2.toInt.toNat) v116) 183 (v132.toInt.toNat) s4, h.2.2.1, h.2.2.2))) rfl ?_
                      refine hk_bas rfl (hH.1 184 (2, 60) rfl) (by omega) (by omega) rfl ?_
                      refine qm_Ru.go 1 (c' := (72, [.ref 118, .int s2, .int s4, .int 0, .int s9, .int v132], [.ref 118], (h.1, qm_up (qm_up (qm_up (qm_up (qm_up (qm_up h.2.1 103 (y114.toInt.toNat) s4) 106 (y114.toInt.toNat) 0) 109 (y114.toInt.toNat) s9) 99 (s2.toInt.toNat) v116) 183 (v132.toInt.toNat) s4) 184 (v132.toInt.toNat) 0, h.2.2.1, h.2.2.2))) rfl ?_
                      refine hk_getr rfl (hH.1 118 (17, 105) rfl) rfl (hH.2 118 98 (some 185) rfl) ?_
                      refine qm_Ru.go 2 (c' := (79, [.ref 118, .int s2, .int s4, .int 0, .int s9, .int v132], [.int s9, .int v132, .ref 185], (h.1, qm_up (qm_up (qm_up (qm_up (qm_up (qm_up h.2.1 103 (y114.toInt.toNat) s4) 106 (y114.toInt.toNat) 0) 109 (y114.toInt.toNat) s9) 99 (s2.toInt.toNat) v116) 183 (v132.toInt.toNat) s4) 184 (v132.toInt.toNat) 0, h.2.2.1, h.2.2.2))) rfl ?_
                      refine hk_ias rfl (hH.1 185 (0, 60) rfl) (by omega) (by omega) ?_
                      refine qm_Ru.go 1 (c' := (81, [.ref 118, .int s2, .int s4, .int 0, .int s9, .int v132], [.ref 118], (h.1, qm_up (qm_up (qm_up (qm_up (qm_up (qm_up (qm_up h.2.1 103 (y114.toInt.toNat) s4) 106 (y114.toInt.toNat) 0) 109 (y114.toInt.toNat) s9) 99 (s2.toInt.toNat) v116) 183 (v132.toInt.toNat) s4) 184 (v132.toInt.toNat) 0) 185 (v132.toInt.toNat) s9, h.2.2.1, h.2.2.2))) rfl ?_
                      refine hk_getr rfl (hH.1 118 (17, 105) rfl) rfl (hH.2 118 95 (some 182) rfl) ?_
                      refine qm_Ru.go 2 (c' := (86, [.ref 118, .int s2, .int s4, .int 0, .int s9, .int v132], [.int s2, .ref 182, .int s2, .ref 182], (h.1, qm_up (qm_up (qm_up (qm_up (qm_up (qm_up (qm_up h.2.1 103 (y114.toInt.toNat) s4) 106 (y114.toInt.toNat) 0) 109 (y114.toInt.toNat) s9) 99 (s2.toInt.toNat) v116) 183 (v132.toInt.toNat) s4) 184 (v132.toInt.toNat) 0) 185 (v132.toInt.toNat) s9, h.2.2.1, h.2.2.2))) rfl ?_
                      refine hk_ial (v := y114) rfl (hH.1 182 (0, 2) rfl) (by omega) (by omega) (show (qm_up (qm_up (qm_up (qm_up (qm_up (qm_up (qm_up h.2.1 103 (y114.toInt.toNat) s4) 106 (y114.toInt.toNat) 0) 109 (y114.toInt.toNat) s9) 99 (s2.toInt.toNat) v116) 183 (v132.toInt.toNat) s4) 184 (v132.toInt.toNat) 0) 185 (v132.toInt.toNat) s9) 182 (s2.toInt.toNat) = _ from ((hk_ot rfl).trans ((hk_ot rfl).trans ((hk_ot rfl).trans ((hk_ot rfl).trans ((hk_ot rfl).trans ((hk_ot rfl).trans ((hk_ot rfl).trans ((hS.2.2.2.2.1 _).symm.trans q_y114))))))))) ?_
                      refine qm_Ru.go 2 (c' := (89, [.ref 118, .int s2, .int s4, .int 0, .int s9, .int v132], [.int (y114 + 1), .int s2, .ref 182], (h.1, qm_up (qm_up (qm_up (qm_up (qm_up (qm_up (qm_up h.2.1 103 (y114.toInt.toNat) s4) 106 (y114.toInt.toNat) 0) 109 (y114.toInt.toNat) s9) 99 (s2.toInt.toNat) v116) 183 (v132.toInt.toNat) s4) 184 (v132.toInt.toNat) 0) 185 (v132.toInt.toNat) s9, h.2.2.1, h.2.2.2))) rfl ?_
                      rw [q_v116]
                      refine hk_ias rfl (hH.1 182 (0, 2) rfl) (by omega) (by omega) ?_
                      refine qm_Ru.go 1 (c' := (91, [.ref 118, .int s2, .int s4, .int 0, .int s9, .int v132], [.ref 118], (h.1, qm_up (qm_up (qm_up (qm_up (qm_up (qm_up (qm_up (qm_up h.2.1 103 (y114.toInt.toNat) s4) 106 (y114.toInt.toNat) 0) 109 (y114.toInt.toNat) s9) 99 (s2.toInt.toNat) v116) 183 (v132.toInt.toNat) s4) 184 (v132.toInt.toNat) 0) 185 (v132.toInt.toNat) s9) 182 (s2.toInt.toNat) v116, h.2.2.1, h.2.2.2))) rfl ?_
                      refine hk_getr rfl (hH.1 118 (17, 105) rfl) rfl (hH.2 118 95 (some 182) rfl) ?_
                      refine qm_Ru.go 1 (c' := (95, [.ref 118, .int s2, .int s4, .int 0, .int s9, .int v132], [.int s2, .ref 182], (h.1, qm_up (qm_up (qm_up (qm_up (qm_up (qm_up (qm_up (qm_up h.2.1 103 (y114.toInt.toNat) s4) 106 (y114.toInt.toNat) 0) 109 (y114.toInt.toNat) s9) 99 (s2.toInt.toNat) v116) 183 (v132.toInt.toNat) s4) 184 (v132.toInt.toNat) 0) 185 (v132.toInt.toNat) s9) 182 (s2.toInt.toNat) v116, h.2.2.1, h.2.2.2))) rfl ?_
                      refine hk_ial (v := v116) rfl (hH.1 182 (0, 2) rfl) (by omega) (by omega) (show (qm_up (qm_up (qm_up (qm_up (qm_up (qm_up (qm_up (qm_up h.2.1 103 (y114.toInt.toNat) s4) 106 (y114.toInt.toNat) 0) 109 (y114.toInt.toNat) s9) 99 (s2.toInt.toNat) v116) 183 (v132.toInt.toNat) s4) 184 (v132.toInt.toNat) 0) 185 (v132.toInt.toNat) s9) 182 (s2.toInt.toNat) v116) 182 (s2.toInt.toNat) = _ from (hk_same)) ?_
                      refine qm_Ru.go 2 (c' := (98, [.ref 118, .int s2, .int s4, .int 0, .int s9, .int v132], [.int (v116 - 1)], (h.1, qm_up (qm_up (qm_up (qm_up (qm_up (qm_up (qm_up (qm_up h.2.1 103 (y114.toInt.toNat) s4) 106 (y114.toInt.toNat) 0) 109 (y114.toInt.toNat) s9) 99 (s2.toInt.toNat) v116) 183 (v132.toInt.toNat) s4) 184 (v132.toInt.toNat) 0) 185 (v132.toInt.toNat) s9) 182 (s2.toInt.toNat) v116, h.2.2.1, h.2.2.2))) rfl ?_
                      obtain ⟨v134, q_v134, e_v134⟩ := hk_sub (x := v116) (y := 1) (a := v116.toInt) (b := 1) rfl rfl (by omega) (by omega)
                      rw [q_v134]
                      refine qm_Ru.rt (v := (some (.int v134))) (h' := (h.1, qm_up (qm_up (qm_up (qm_up (qm_up (qm_up (qm_up (qm_up h.2.1 103 (y114.toInt.toNat) s4) 106 (y114.toInt.toNat) 0) 109 (y114.toInt.toNat) s9) 99 (s2.toInt.toNat) v116) 183 (v132.toInt.toNat) s4) 184 (v132.toInt.toNat) 0) 185 (v132.toInt.toNat) s9) 182 (s2.toInt.toNat) v116, h.2.2.1, h.2.2.2)) rfl ?_
                      refine qm_Ru.go 3 (c' := (2081, [.retAddr 0, .ref 0, .ref 118, .int (i + 6)], [], (h.1, qm_up (qm_up (qm_up (qm_up (qm_up (qm_up (qm_up (qm_up h.2.1 103 (y114.toInt.toNat) s4) 106 (y114.toInt.toNat) 0) 109 (y114.toInt.toNat) s9) 99 (s2.toInt.toNat) v116) 183 (v132.toInt.toNat) s4) 184 (v132.toInt.toNat) 0) 185 (v132.toInt.toNat) s9) 182 (s2.toInt.toNat) v116, h.2.2.1, h.2.2.2))) rfl ?_
                      obtain ⟨v135, q_v135, e_v135⟩ := hk_add (x := i) (y := 6) (a := i.toInt) (b := 6) rfl rfl (by omega) (by omega)
                      rw [q_v135]
                      refine qm_Ru.go 1 (c' := (18, [.retAddr 0, .ref 0, .ref 118, .int v135], [], (h.1, qm_up (qm_up (qm_up (qm_up (qm_up (qm_up (qm_up (qm_up h.2.1 103 (y114.toInt.toNat) s4) 106 (y114.toInt.toNat) 0) 109 (y114.toInt.toNat) s9) 99 (s2.toInt.toNat) v116) 183 (v132.toInt.toNat) s4) 184 (v132.toInt.toNat) 0) 185 (v132.toInt.toNat) s9) 182 (s2.toInt.toNat) v116, h.2.2.1, h.2.2.2))) rfl ?_
                      have q9 : h.2.1 99 1 = y114 := by rw [← q_y114, show s2.toInt.toNat = 1 from by omega]
                      have hG : gR (qm_up (qm_up (qm_up (qm_up (qm_up (qm_up (qm_up (qm_up h.2.1 103 (y114.toInt.toNat) s4) 106 (y114.toInt.toNat) 0) 109 (y114.toInt.toNat) s9) 99 (s2.toInt.toNat) v116) 183 (v132.toInt.toNat) s4) 184 (v132.toInt.toNat) 0) 185 (v132.toInt.toNat) s9) 182 (s2.toInt.toNat) v116) := (gR_row1 (I := h.2.1) (I2 := qm_up (qm_up (qm_up (qm_up (qm_up (qm_up (qm_up (qm_up h.2.1 103 (y114.toInt.toNat) s4) 106 (y114.toInt.toNat) 0) 109 (y114.toInt.toNat) s9) 99 (s2.toInt.toNat) v116) 183 (v132.toInt.toNat) s4) 184 (v132.toInt.toNat) 0) 185 (v132.toInt.toNat) s9) 182 (s2.toInt.toNat) v116) (n := y114.toInt.toNat) hS.2 (by rw [q9]; omega) (hB 99 0).2 (fun o ho k => ((hk_ot (n_in ho rfl)).trans ((hk_ot (n_in ho rfl)).trans ((hk_ot (n_in ho rfl)).trans ((hk_ot (n_in ho rfl)).trans ((hk_ot (n_in ho rfl)).trans ((hk_ot (n_in ho rfl)).trans ((hk_ot (n_in ho rfl)).trans ((hk_ot (n_in ho rfl)).trans rfl))))))))) (fun o ho k hk => ((hk_ot (n_in ho rfl)).trans ((hk_ot (n_in ho rfl)).trans ((hk_ot (n_in ho rfl)).trans ((hk_ot (n_in ho rfl)).trans ((hk_ot (n_in ho rfl)).trans ((hk_ni (by omega)).trans ((hk_ni (by omega)).trans ((hk_ni (by omega)).trans rfl))))))))) (fun o ho k hk => ((hk_ot (n_in ho rfl)).trans ((hk_ni (by omega)).trans ((hk_ni (by omega)).trans ((hk_ni (by omega)).trans ((hk_ot (n_in ho rfl)).trans ((hk_ot (n_in ho rfl)).trans ((hk_ot (n_in ho rfl)).trans ((hk_ot (n_in ho rfl)).trans rfl))))))))) (fun b hb => ((hk_ot rfl).trans ((hk_ot rfl).trans ((hk_ot rfl).trans ((hk_ot rfl).trans ((hk_ni (by omega)).trans ((hk_ot rfl).trans ((hk_ot rfl).trans ((hk_ot rfl).trans rfl))))))))) (fun b hb => ((hk_ni (by omega)).trans ((hk_ot rfl).trans ((hk_ot rfl).trans ((hk_ot rfl).trans ((hk_ot rfl).trans ((hk_ot rfl).trans ((hk_ot rfl).trans ((hk_ot rfl).trans rfl))))))))) ((hk_ot rfl).trans ((hk_ot rfl).trans ((hk_ot rfl).trans ((hk_ot rfl).trans ((hk_ot rfl).trans ((hk_ot rfl).trans ((hk_ot rfl).trans ((hk_ot rfl).trans rfl)))))))) ((hk_ot rfl).trans ((hk_ot rfl).trans ((hk_ot rfl).trans ((hk_ot rfl).trans ((hk_ot rfl).trans ((hk_ot rfl).trans ((hk_ot rfl).trans ((hk_ot rfl).trans rfl)))))))) ((hk_ot rfl).trans ((hk_ot rfl).trans ((hk_ot rfl).trans ((hk_ot rfl).trans ((hk_ot rfl).trans ((hk_ot rfl).trans ((hk_ot rfl).trans ((hk_ot rfl).trans rfl)))))))) ((hk_ot rfl).trans ((hk_ot rfl).trans ((hk_ot rfl).trans ((hk_ot rfl).trans ((hk_ot rfl).trans ((hk_ot rfl).trans ((hk_ot rfl).trans ((hk_ot rfl).trans rfl)))))))) ((hk_ot rfl).trans ((hk_ot rfl).trans ((hk_ot rfl).trans ((hk_ot rfl).trans ((hk_ot rfl).trans ((hk_ot rfl).trans ((hk_ot rfl).trans ((hk_ot rfl).trans rfl)))))))) ((hk_ot rfl).trans ((hk_ot rfl).trans ((hk_ot rfl).trans ((hk_ot rfl).trans ((hk_ot rfl).trans ((hk_ot rfl).trans ((hk_ot rfl).trans ((hk_ot rfl).trans rfl)))))))) ((congrArg Int32.toInt ((hk_ot rfl).trans ((hk_ot rfl).trans ((hk_ot rfl).trans ((hk_ot rfl).trans (hk_equ (by omega))))))).trans (by omega)) (((hk_ot rfl).trans ((hk_ot rfl).trans ((hk_ot rfl).trans ((hk_ot rfl).trans (hk_equ (by omega)))))).trans (hk_equ (by omega)).symm) ⟨((hk_ot rfl).trans ((hk_ot rfl).trans ((hk_ot rfl).trans ((hk_ot rfl).trans ((hk_ot rfl).trans ((hk_ot rfl).trans ((hk_ot rfl).trans hk_same))))))).trans ((hk_ot rfl).trans ((hk_ot rfl).trans ((hk_ot rfl).trans (hk_equ (by omega))))).symm, ((hk_ot rfl).trans ((hk_ot rfl).trans ((hk_ot rfl).trans ((hk_ot rfl).trans ((hk_ot rfl).trans ((hk_ot rfl).trans hk_same)))))).trans ((hk_ot rfl).trans ((hk_ot rfl).trans (hk_equ (by omega)))).symm, ((hk_ot rfl).trans ((hk_ot rfl).trans ((hk_ot rfl).trans ((hk_ot rfl).trans ((hk_ot rfl).trans hk_same))))).trans ((hk_ot rfl).trans (hk_equ (by omega))).symm⟩)
                      have hS1 : gS (h.1, qm_up (qm_up (qm_up (qm_up (qm_up (qm_up (qm_up (qm_up h.2.1 103 (y114.toInt.toNat) s4) 106 (y114.toInt.toNat) 0) 109 (y114.toInt.toNat) s9) 99 (s2.toInt.toNat) v116) 183 (v132.toInt.toNat) s4) 184 (v132.toInt.toNat) 0) 185 (v132.toInt.toNat) s9) 182 (s2.toInt.toNat) v116, h.2.2.1, h.2.2.2) := (gS_upa (gS_upa (gS_upa (gS_upa (gS_upa (gS_upa (gS_upa (gS_upa (show gS (h.1, h.2.1, h.2.2.1, h.2.2.2) from hS.1) (by decide)) (by decide)) (by decide)) (by decide)) (by decide)) (by decide)) (by decide)) (by decide))
                      have hS2 : gS2 (h.1, qm_up (qm_up (qm_up (qm_up (qm_up (qm_up (qm_up (qm_up h.2.1 103 (y114.toInt.toNat) s4) 106 (y114.toInt.toNat) 0) 109 (y114.toInt.toNat) s9) 99 (s2.toInt.toNat) v116) 183 (v132.toInt.toNat) s4) 184 (v132.toInt.toNat) 0) 185 (v132.toInt.toNat) s9) 182 (s2.toInt.toNat) v116, h.2.2.1, h.2.2.2) := ⟨hS1, hG⟩
                      have hX3 : gX (h.1, qm_up (qm_up (qm_up (qm_up (qm_up (qm_up (qm_up (qm_up h.2.1 103 (y114.toInt.toNat) s4) 106 (y114.toInt.toNat) 0) 109 (y114.toInt.toNat) s9) 99 (s2.toInt.toNat) v116) 183 (v132.toInt.toNat) s4) 184 (v132.toInt.toNat) 0) 185 (v132.toInt.toNat) s9) 182 (s2.toInt.toNat) v116, h.2.2.1, h.2.2.2) := ⟨gP_cg hX.1 (fun o ho i => ((hk_ot (n_in ho rfl)).trans ((hk_ot (n_in ho rfl)).trans ((hk_ot (n_in ho rfl)).trans ((hk_ot (n_in ho rfl)).trans ((hk_ot (n_in ho rfl)).trans ((hk_ot (n_in ho rfl)).trans ((hk_ot (n_in ho rfl)).trans ((hk_ot (n_in ho rfl)).trans rfl))))))))) (show (qm_up (qm_up (qm_up (qm_up (qm_up (qm_up (qm_up (qm_up h.2.1 103 (y114.toInt.toNat) s4) 106 (y114.toInt.toNat) 0) 109 (y114.toInt.toNat) s9) 99 (s2.toInt.toNat) v116) 183 (v132.toInt.toNat) s4) 184 (v132.toInt.toNat) 0) 185 (v132.toInt.toNat) s9) 182 (s2.toInt.toNat) v116) 1 1 = h.2.1 1 1 from ((hk_ot rfl).trans ((hk_ot rfl).trans ((hk_ot rfl).trans ((hk_ot rfl).trans ((hk_ot rfl).trans ((hk_ot rfl).trans ((hk_ot rfl).trans ((hk_ot rfl).trans rfl))))))))) (show (qm_up (qm_up (qm_up (qm_up (qm_up (qm_up (qm_up (qm_up h.2.1 103 (y114.toInt.toNat) s4) 106 (y114.toInt.toNat) 0) 109 (y114.toInt.toNat) s9) 99 (s2.toInt.toNat) v116) 183 (v132.toInt.toNat) s4) 184 (v132.toInt.toNat) 0) 185 (v132.toInt.toNat) s9) 182 (s2.toInt.toNat) v116) 3 4 = h.2.1 3 4 from ((hk_ot rfl).trans ((hk_ot rfl).trans ((hk_ot rfl).trans ((hk_ot rfl).trans ((hk_ot rfl).trans ((hk_ot rfl).trans ((hk_ot rfl).trans ((hk_ot rfl).trans rfl))))))))) (show (qm_up (qm_up (qm_up (qm_up (qm_up (qm_up (qm_up (qm_up h.2.1 103 (y114.toInt.toNat) s4) 106 (y114.toInt.toNat) 0) 109 (y114.toInt.toNat) s9) 99 (s2.toInt.toNat) v116) 183 (v132.toInt.toNat) s4) 184 (v132.toInt.toNat) 0) 185 (v132.toInt.toNat) s9) 182 (s2.toInt.toNat) v116) 118 17 = h.2.1 118 17 from ((hk_ot rfl).trans ((hk_ot rfl).trans ((hk_ot rfl).trans ((hk_ot rfl).trans ((hk_ot rfl).trans ((hk_ot rfl).trans ((hk_ot rfl).trans ((hk_ot rfl).trans rfl))))))))), hX.2⟩
                      have hZ3 : (gZB tb) (h.1, qm_up (qm_up (qm_up (qm_up (qm_up (qm_up (qm_up (qm_up h.2.1 103 (y114.toInt.toNat) s4) 106 (y114.toInt.toNat) 0) 109 (y114.toInt.toNat) s9) 99 (s2.toInt.toNat) v116) 183 (v132.toInt.toNat) s4) 184 (v132.toInt.toNat) 0) 185 (v132.toInt.toNat) s9) 182 (s2.toInt.toNat) v116, h.2.2.1, h.2.2.2) := (gZ_cg (h2 := (h.1, qm_up (qm_up (qm_up (qm_up (qm_up (qm_up (qm_up (qm_up h.2.1 103 (y114.toInt.toNat) s4) 106 (y114.toInt.toNat) 0) 109 (y114.toInt.toNat) s9) 99 (s2.toInt.toNat) v116) 183 (v132.toInt.toNat) s4) 184 (v132.toInt.toNat) 0) 185 (v132.toInt.toNat) s9) 182 (s2.toInt.toNat) v116, h.2.2.1, h.2.2.2)) hZ (fun o ho i => ((hk_ot (n_in ho rfl)).trans ((hk_ot (n_in ho rfl)).trans ((hk_ot (n_in ho rfl)).trans ((hk_ot (n_in ho rfl)).trans ((hk_ot (n_in ho rfl)).trans ((hk_ot (n_in ho rfl)).trans ((hk_ot (n_in ho rfl)).trans ((hk_ot (n_in ho rfl)).trans rfl))))))))) (show (qm_up (qm_up (qm_up (qm_up (qm_up (qm_up (qm_up (qm_up h.2.1 103 (y114.toInt.toNat) s4) 106 (y114.toInt.toNat) 0) 109 (y114.toInt.toNat) s9) 99 (s2.toInt.toNat) v116) 183 (v132.toInt.toNat) s4) 184 (v132.toInt.toNat) 0) 185 (v132.toInt.toNat) s9) 182 (s2.toInt.toNat) v116) 6 0 = h.2.1 6 0 from ((hk_ot rfl).trans ((hk_ot rfl).trans ((hk_ot rfl).trans ((hk_ot rfl).trans ((hk_ot rfl).trans ((hk_ot rfl).trans ((hk_ot rfl).trans ((hk_ot rfl).trans rfl))))))))) (fun i _ => show (qm_up (qm_up (qm_up (qm_up (qm_up (qm_up (qm_up (qm_up h.2.1 103 (y114.toInt.toNat) s4) 106 (y114.toInt.toNat) 0) 109 (y114.toInt.toNat) s9) 99 (s2.toInt.toNat) v116) 183 (v132.toInt.toNat) s4) 184 (v132.toInt.toNat) 0) 185 (v132.toInt.toNat) s9) 182 (s2.toInt.toNat) v116) 28 i = h.2.1 28 i from ((hk_ot rfl).trans ((hk_ot rfl).trans ((hk_ot rfl).trans ((hk_ot rfl).trans ((hk_ot rfl).trans ((hk_ot rfl).trans ((hk_ot rfl).trans ((hk_ot rfl).trans rfl))))))))) (fun i _ => show (qm_up (qm_up (qm_up (qm_up (qm_up (qm_up (qm_up (qm_up h.2.1 103 (y114.toInt.toNat) s4) 106 (y114.toInt.toNat) 0) 109 (y114.toInt.toNat) s9) 99 (s2.toInt.toNat) v116) 183 (v132.toInt.toNat) s4) 184 (v132.toInt.toNat) 0) 185 (v132.toInt.toNat) s9) 182 (s2.toInt.toNat) v116) 29 i = h.2.1 29 i from ((hk_ot rfl).trans ((hk_ot rfl).trans ((hk_ot rfl).trans ((hk_ot rfl).trans ((hk_ot rfl).trans ((hk_ot rfl).trans ((hk_ot rfl).trans ((hk_ot rfl).trans rfl))))))))) (fun i _ => show (qm_up (qm_up (qm_up (qm_up (qm_up (qm_up (qm_up (qm_up h.2.1 103 (y114.toInt.toNat) s4) 106 (y114.toInt.toNat) 0) 109 (y114.toInt.toNat) s9) 99 (s2.toInt.toNat) v116) 183 (v132.toInt.toNat) s4) 184 (v132.toInt.toNat) 0) 185 (v132.toInt.toNat) s9) 182 (s2.toInt.toNat) v116) 111 i = h.2.1 111 i from ((hk_ot rfl).trans ((hk_ot rfl).trans ((hk_ot rfl).trans ((hk_ot rfl).trans ((hk_ot rfl).trans ((hk_ot rfl).trans ((hk_ot rfl).trans ((hk_ot rfl).trans rfl))))))))) (fun i _ => show (qm_up (qm_up (qm_up (qm_up (qm_up (qm_up (qm_up (qm_up h.2.1 103 (y114.toInt.toNat) s4) 106 (y114.toInt.toNat) 0) 109 (y114.toInt.toNat) s9) 99 (s2.toInt.toNat) v116) 183 (v132.toInt.toNat) s4) 184 (v132.toInt.toNat) 0) 185 (v132.toInt.toNat) s9) 182 (s2.toInt.toNat) v116) 51 i = h.2.1 51 i from ((hk_ot rfl).trans ((hk_ot rfl).trans ((hk_ot rfl).trans ((hk_ot rfl).trans ((hk_ot rfl).trans ((hk_ot rfl).trans ((hk_ot rfl).trans ((hk_ot rfl).trans rfl))))))))) (List.forall_mem_cons.mpr ⟨(show (qm_up (qm_up (qm_up (qm_up (qm_up (qm_up (qm_up (qm_up h.2.1 103 (y114.toInt.toNat) s4) 106 (y114.toInt.toNat) 0) 109 (y114.toInt.toNat) s9) 99 (s2.toInt.toNat) v116) 183 (v132.toInt.toNat) s4) 184 (v132.toInt.toNat) 0) 185 (v132.toInt.toNat) s9) 182 (s2.toInt.toNat) v116) 118 18 = h.2.1 118 18 from ((hk_ot rfl).trans ((hk_ot rfl).trans ((hk_ot rfl).trans ((hk_ot rfl).trans ((hk_ot rfl).trans ((hk_ot rfl).trans ((hk_ot rfl).trans ((hk_ot rfl).trans rfl))))))))), List.forall_mem_cons.mpr ⟨(show (qm_up (qm_up (qm_up (qm_up (qm_up (qm_up (qm_up (qm_up h.2.1 103 (y114.toInt.toNat) s4) 106 (y114.toInt.toNat) 0) 109 (y114.toInt.toNat) s9) 99 (s2.toInt.toNat) v116) 183 (v132.toInt.toNat) s4) 184 (v132.toInt.toNat) 0) 185 (v132.toInt.toNat) s9) 182 (s2.toInt.toNat) v116) 118 44 = h.2.1 118 44 from ((hk_ot rfl).trans ((hk_ot rfl).trans ((hk_ot rfl).trans ((hk_ot rfl).trans ((hk_ot rfl).trans ((hk_ot rfl).trans ((hk_ot rfl).trans ((hk_ot rfl).trans rfl))))))))), List.forall_mem_cons.mpr ⟨(show (qm_up (qm_up (qm_up (qm_up (qm_up (qm_up (qm_up (qm_up h.2.1 103 (y114.toInt.toNat) s4) 106 (y114.toInt.toNat) 0) 109 (y114.toInt.toNat) s9) 99 (s2.toInt.toNat) v116) 183 (v132.toInt.toNat) s4) 184 (v132.toInt.toNat) 0) 185 (v132.toInt.toNat) s9) 182 (s2.toInt.toNat) v116) 118 54 = h.2.1 118 54 from ((hk_ot rfl).trans ((hk_ot rfl).trans ((hk_ot rfl).trans ((hk_ot rfl).trans ((hk_ot rfl).trans ((hk_ot rfl).trans ((hk_ot rfl).trans ((hk_ot rfl).trans rfl))))))))), List.forall_mem_cons.mpr ⟨(show (qm_up (qm_up (qm_up (qm_up (qm_up (qm_up (qm_up (qm_up h.2.1 103 (y114.toInt.toNat) s4) 106 (y114.toInt.toNat) 0) 109 (y114.toInt.toNat) s9) 99 (s2.toInt.toNat) v116) 183 (v132.toInt.toNat) s4) 184 (v132.toInt.toNat) 0) 185 (v132.toInt.toNat) s9) 182 (s2.toInt.toNat) v116) 118 75 = h.2.1 118 75 from ((hk_ot rfl).trans ((hk_ot rfl).trans ((hk_ot rfl).trans ((hk_ot rfl).trans ((hk_ot rfl).trans ((hk_ot rfl).trans ((hk_ot rfl).trans ((hk_ot rfl).trans rfl))))))))), List.forall_mem_cons.mpr ⟨(show (qm_up (qm_up (qm_up (qm_up (qm_up (qm_up (qm_up (qm_up h.2.1 103 (y114.toInt.toNat) s4) 106 (y114.toInt.toNat) 0) 109 (y114.toInt.toNat) s9) 99 (s2.toInt.toNat) v116) 183 (v132.toInt.toNat) s4) 184 (v132.toInt.toNat) 0) 185 (v132.toInt.toNat) s9) 182 (s2.toInt.toNat) v116) 118 85 = h.2.1 118 85 from ((hk_ot rfl).trans ((hk_ot rfl).trans ((hk_ot rfl).trans ((hk_ot rfl).trans ((hk_ot rfl).trans ((hk_ot rfl).trans ((hk_ot rfl).trans ((hk_ot rfl).trans rfl))))))))), List.forall_mem_cons.mpr ⟨(show (qm_up (qm_up (qm_up (qm_up (qm_up (qm_up (qm_up (qm_up h.2.1 103 (y114.toInt.toNat) s4) 106 (y114.toInt.toNat) 0) 109 (y114.toInt.toNat) s9) 99 (s2.toInt.toNat) v116) 183 (v132.toInt.toNat) s4) 184 (v132.toInt.toNat) 0) 185 (v132.toInt.toNat) s9) 182 (s2.toInt.toNat) v116) 118 91 = h.2.1 118 91 from ((hk_ot rfl).trans ((hk_ot rfl).trans ((hk_ot rfl).trans ((hk_ot rfl).trans ((hk_ot rfl).trans ((hk_ot rfl).trans ((hk_ot rfl).trans ((hk_ot rfl).trans rfl))))))))), List.forall_mem_cons.mpr ⟨(show (qm_up (qm_up (qm_up (qm_up (qm_up (qm_up (qm_up (qm_up h.2.1 103 (y114.toInt.toNat) s4) 106 (y114.toInt.toNat) 0) 109 (y114.toInt.toNat) s9) 99 (s2.toInt.toNat) v116) 183 (v132.toInt.toNat) s4) 184 (v132.toInt.toNat) 0) 185 (v132.toInt.toNat) s9) 182 (s2.toInt.toNat) v116) 118 92 = h.2.1 118 92 from ((hk_ot rfl).trans ((hk_ot rfl).trans ((hk_ot rfl).trans ((hk_ot rfl).trans ((hk_ot rfl).trans ((hk_ot rfl).trans ((hk_ot rfl).trans ((hk_ot rfl).trans rfl))))))))), List.forall_mem_cons.mpr ⟨(show (qm_up (qm_up (qm_up (qm_up (qm_up (qm_up (qm_up (qm_up h.2.1 103 (y114.toInt.toNat) s4) 106 (y114.toInt.toNat) 0) 109 (y114.toInt.toNat) s9) 99 (s2.toInt.toNat) v116) 183 (v132.toInt.toNat) s4) 184 (v132.toInt.toNat) 0) 185 (v132.toInt.toNat) s9) 182 (s2.toInt.toNat) v116) 118 93 = h.2.1 118 93 from ((hk_ot rfl).trans ((hk_ot rfl).trans ((hk_ot rfl).trans ((hk_ot rfl).trans ((hk_ot rfl).trans ((hk_ot rfl).trans ((hk_ot rfl).trans ((hk_ot rfl).trans rfl))))))))), List.forall_mem_cons.mpr ⟨(show (qm_up (qm_up (qm_up (qm_up (qm_up (qm_up (qm_up (qm_up h.2.1 103 (y114.toInt.toNat) s4) 106 (y114.toInt.toNat) 0) 109 (y114.toInt.toNat) s9) 99 (s2.toInt.toNat) v116) 183 (v132.toInt.toNat) s4) 184 (v132.toInt.toNat) 0) 185 (v132.toInt.toNat) s9) 182 (s2.toInt.toNat) v116) 118 94 = h.2.1 118 94 from ((hk_ot rfl).trans ((hk_ot rfl).trans ((hk_ot rfl).trans ((hk_ot rfl).trans ((hk_ot rfl).trans ((hk_ot rfl).trans ((hk_ot rfl).trans ((hk_ot rfl).trans rfl))))))))), fun _ z => absurd z List.not_mem_nil⟩⟩⟩⟩⟩⟩⟩⟩⟩) rfl)
                      exact hE _ v135 (by omega) (qa_Inv_of0 ⟨hH.1, hH.2⟩ (hb_up (o := 182) (k := s2.toInt.toNat) (x := v116) (hb_up (o := 185) (k := v132.toInt.toNat) (x := s9) (hb_up (o := 184) (k := v132.toInt.toNat) (x := 0) (hb_up (o := 183) (k := v132.toInt.toNat) (x := s4) (hb_up (o := 99) (k := s2.toInt.toNat) (x := v116) (hb_up (o := 109) (k := y114.toInt.toNat) (x := s9) (hb_up (o := 106) (k := y114.toInt.toNat) (x := 0) (hb_up (o := 103) (k := y114.toInt.toNat) (x := s4) hB ⟨by show (0 : Int) ≤ s4.toInt; omega, by show s4.toInt ≤ (29 : Int); omega⟩) ⟨(show (0 : Int) ≤ 0 from by decide), (show (0 : Int) ≤ 1 from by decide)⟩) ⟨by show (0 : Int) ≤ s9.toInt; omega, by show s9.toInt ≤ (9999 : Int); omega⟩) (by rw [show s2.toInt.toNat = 1 from by omega]; exact ⟨by show (0 : Int) ≤ v116.toInt; omega, by show v116.toInt ≤ (30 : Int); omega⟩)) ⟨by show (0 : Int) ≤ s4.toInt; omega, by show s4.toInt ≤ (29 : Int); omega⟩) ⟨(show (0 : Int) ≤ 0 from by decide), (show (0 : Int) ≤ 1 from by decide)⟩) ⟨by show (0 : Int) ≤ s9.toInt; omega, by show s9.toInt ≤ (9999 : Int); omega⟩) (by rw [show s2.toInt.toNat = 1 from by omega]; exact ⟨by show (0 : Int) ≤ v116.toInt; omega, by show v116.toInt ≤ (30 : Int); omega⟩)) ⟨⟨⟨hS2, hX3⟩, hZ3⟩, t⟩ (gS2_ru hS2))
                  · refine qm_Ru.go 1 (c' := (16, [.ref 98, .int s2, .int s4, .int 0, .int s9, .int y114], [.int (-1)], h)) rfl ?_
                    refine qm_Ru.rt (v := (some (.int (-1)))) (h' := h) rfl ?_
                    refine qm_Ru.go 0 (c' := (46, [.ref 0, .int s2, .int s4, .int 0, .int s9], [.int (-1)], h)) rfl ?_
                    refine qm_Ru.rt (v := (some (.int (-1)))) (h' := h) rfl ?_
                    refine qm_Ru.go 6 (c' := (1823, [.retAddr 0, .ref 0, .ref 118, .int i], [.int (i + 1), .retAddr 0, .ref 118], h)) rfl ?_
                    rw [q_v1]
                    refine hk_scr (v := s2) rfl (by omega) (by omega) q_s2 ?_
                    refine qm_Ru.go 4 (c' := (1828, [.retAddr 0, .ref 0, .ref 118, .int i], [.int (i + 2), .retAddr 0, .int s2, .ref 118], h)) rfl ?_
                    rw [q_v3]
                    refine hk_scr (v := s4) rfl (by omega) (by omega) q_s4 ?_
                    refine qm_Ru.go 4 (c' := (1833, [.retAddr 0, .ref 0, .ref 118, .int i], [.int (i + 3), .retAddr 0, .int s4, .int s2, .ref 118], h)) rfl ?_
                    rw [q_v5]
                    refine hk_scr (v := s6) rfl (by omega) (by omega) q_s6 ?_
                    refine qm_Ru.go 0 (c' := (1834, [.retAddr 0, .ref 0, .ref 118, .int i], [.int s6, .int s4, .int s2, .ref 118], h)) rfl ?_
                    refine hk_zeq (ix := s6.toInt) rfl rfl (fun z139 => ?_) (fun z139 => by exfalso; omega)
                    refine qm_Ru.go 5 (c' := (1846, [.retAddr 0, .ref 0, .ref 118, .int i], [.int (i + 4), .retAddr 0, .int 0, .int s4, .int s2, .ref 118], h)) rfl ?_
                    rw [q_v8]
                    refine hk_scr (v := s9) rfl (by omega) (by omega) q_s9 ?_
                    refine qm_Ru.go 0 (c' := (1847, [.retAddr 0, .ref 0, .ref 118, .int i], [.int s9, .int 0, .int s4, .int s2, .ref 118], h)) rfl ?_
                    refine hk_inv (o := 118) (r := []) (as := [.ref 118, .int s2, .int s4, .int 0, .int s9]) rfl rfl (hH.1 118 (17, 105) rfl) rfl rfl rfl rfl ?_
                    refine qm_Ru.go 3 (c' := (3, [.ref 118, .int s2, .int s4, .int 0, .int s9, .float 0], [.int 1, .int 0, .int s2], h)) rfl ?_
                    refine qm_Ru.call (j := 270) (as := [.int s2, .int 0, .int 1]) (c' := (6, [.ref 118, .int s2, .int s4, .int 0, .int s9, .float 0], [], h)) rfl rfl rfl ?_
                    refine qm_Ru.go 2 (c' := (2, [.int s2, .int 0, .int 1], [.int 0, .int s2], h)) rfl ?_
                    refine hk_clt (ix := s2.toInt) (iy := 0) rfl rfl rfl (fun z141 => by exfalso; omega) (fun z141 => ?_)
                    refine qm_Ru.go 2 (c' := (7, [.int s2, .int 0, .int 1], [.int 1, .int s2], h)) rfl ?_
                    refine hk_cgt (ix := s2.toInt) (iy := 1) rfl rfl rfl (fun z142 => by exfalso; omega) (fun z142 => ?_)
                    refine qm_Ru.go 2 (c' := (15, [.int s2, .int 0, .int 1], [.int 1], h)) rfl ?_
                    refine qm_Ru.rt (v := (some (.int 1))) (h' := h) rfl ?_
                    refine qm_Ru.go 2 (c' := (10, [.ref 118, .int s2, .int s4, .int 0, .int s9, .float 0], [.ref 118], h)) rfl ?_
                    refine hk_getr rfl (hH.1 118 (17, 105) rfl) rfl (hH.2 118 95 (some 182) rfl) ?_
                    refine qm_Ru.go 1 (c' := (14, [.ref 118, .int s2, .int s4, .int 0, .int s9, .float 0], [.int s2, .ref 182], h)) rfl ?_
                    refine hk_ial (v := y114) rfl (hH.1 182 (0, 2) rfl) (by omega) (by omega) ((hS.2.2.2.2.1 _).symm.trans q_y114) ?_
                    refine qm_Ru.go 1 (c' := (17, [.ref 118, .int s2, .int s4, .int 0, .int s9, .float 0], [.int 30, .int y114], h)) rfl ?_
                    refine hk_ceq (ix := y114.toInt) (iy := 30) rfl rfl rfl (fun z143 => ?_) (fun z143 => by exfalso; omega)
                    refine qm_Ru.go 1 (c' := (41, [.ref 118, .int s2, .int s4, .int 0, .int s9, .float 0], [.int (-1)], h)) rfl ?_
                    refine qm_Ru.rt (v := (some (.int (-1)))) (h' := h) rfl ?_
                    refine qm_Ru.go 3 (c' := (2081, [.retAddr 0, .ref 0, .ref 118, .int (i + 6)], [], h)) rfl ?_
                    obtain ⟨v144, q_v144, e_v144⟩ := hk_add (x := i) (y := 6) (a := i.toInt) (b := 6) rfl rfl (by omega) (by omega)
                    rw [q_v144]
                    refine qm_Ru.go 1 (c' := (18, [.retAddr 0, .ref 0, .ref 118, .int v144], [], h)) rfl ?_
                    have hG : gR (h.2.1) := hS.2
                    have hS1 : gS (h.1, h.2.1, h.2.2.1, h.2.2.2) := hS.1
                    have hS2 : gS2 (h.1, h.2.1, h.2.2.1, h.2.2.2) := ⟨hS1, hG⟩
                    have hX3 : gX (h.1, h.2.1, h.2.2.1, h.2.2.2) := hX
                    have hZ3 : (gZB tb) (h.1, h.2.1, h.2.2.1, h.2.2.2) := hZ
                    exact hE _ v144 (by omega) (qa_Inv_of0 ⟨hH.1, hH.2⟩ hB ⟨⟨⟨hS2, hX3⟩, hZ3⟩, t⟩ (gS2_ru hS2))
              · refine qm_Ru.go 1 (c' := (33, [.ref 0, .int s2, .int s4, .int 0, .int s9], [.int (-1)], h)) rfl ?_
                refine qm_Ru.rt (v := (some (.int (-1)))) (h' := h) rfl ?_
                refine qm_Ru.go 6 (c' := (1823, [.retAddr 0, .ref 0, .ref 118, .int i], [.int (i + 1), .retAddr 0, .ref 118], h)) rfl ?_
                rw [q_v1]
                refine hk_scr (v := s2) rfl (by omega) (by omega) q_s2 ?_
                refine qm_Ru.go 4 (c' := (1828, [.retAddr 0, .ref 0, .ref 118, .int i], [.int (i + 2), .retAddr 0, .int s2, .ref 118], h)) rfl ?_
                rw [q_v3]
                refine hk_scr (v := s4) rfl (by omega) (by omega) q_s4 ?_
                refine qm_Ru.go 4 (c' := (1833, [.retAddr 0, .ref 0, .ref 118, .int i], [.int (i + 3), .retAddr 0, .int s4, .int s2, .ref 118], h)) rfl ?_
                rw [q_v5]
                refine hk_scr (v := s6) rfl (by omega) (by omega) q_s6 ?_
                refine qm_Ru.go 0 (c' := (1834, [.retAddr 0, .ref 0, .ref 118, .int i], [.int s6, .int s4, .int s2, .ref 118], h)) rfl ?_
                refine hk_zeq (ix := s6.toInt) rfl rfl (fun z148 => ?_) (fun z148 => by exfalso; omega)
                refine qm_Ru.go 5 (c' := (1846, [.retAddr 0, .ref 0, .ref 118, .int i], [.int (i + 4), .retAddr 0, .int 0, .int s4, .int s2, .ref 118], h)) rfl ?_
                rw [q_v8]
                refine hk_scr (v := s9) rfl (by omega) (by omega) q_s9 ?_
                refine qm_Ru.go 0 (c' := (1847, [.retAddr 0, .ref 0, .ref 118, .int i], [.int s9, .int 0, .int s4, .int s2, .ref 118], h)) rfl ?_
                refine hk_inv (o := 118) (r := []) (as := [.ref 118, .int s2, .int s4, .int 0, .int s9]) rfl rfl (hH.1 118 (17, 105) rfl) rfl rfl rfl rfl ?_
                refine qm_Ru.go 3 (c' := (3, [.ref 118, .int s2, .int s4, .int 0, .int s9, .float 0], [.int 1, .int 0, .int s2], h)) rfl ?_
                refine qm_Ru.call (j := 270) (as := [.int s2, .int 0, .int 1]) (c' := (6, [.ref 118, .int s2, .int s4, .int 0, .int s9, .float 0], [], h)) rfl rfl rfl ?_
                refine qm_Ru.go 2 (c' := (2, [.int s2, .int 0, .int 1], [.int 0, .int s2], h)) rfl ?_
                refine hk_clt (ix := s2.toInt) (iy := 0) rfl rfl rfl (fun z150 => by exfalso; omega) (fun z150 => ?_)
                refine qm_Ru.go 2 (c' := (7, [.int s2, .int 0, .int 1], [.int 1, .int s2], h)) rfl ?_
                refine hk_cgt (ix := s2.toInt) (iy := 1) rfl rfl rfl (fun z151 => by exfalso; omega) (fun z151 => ?_)
                refine qm_Ru.go 2 (c' := (15, [.int s2, .int 0, .int 1], [.int 1], h)) rfl ?_
                refine qm_Ru.rt (v := (some (.int 1))) (h' := h) rfl ?_
                refine qm_Ru.go 2 (c' := (10, [.ref 118, .int s2, .int s4, .int 0, .int s9, .float 0], [.ref 118], h)) rfl ?_
                refine hk_getr rfl (hH.1 118 (17, 105) rfl) rfl (hH.2 118 95 (some 182) rfl) ?_
                refine qm_Ru.go 1 (c' := (14, [.ref 118, .int s2, .int s4, .int 0, .int s9, .float 0], [.int s2, .ref 182], h)) rfl ?_
                obtain ⟨v152, q_v152⟩ : ∃ v_, h.2.1 182 (s2.toInt.toNat) = v_ := ⟨_, rfl⟩
                refine hk_ial (v := v152) rfl (hH.1 182 (0, 2) rfl) (by omega) (by omega) q_v152 ?_
                refine qm_Ru.go 1 (c' := (17, [.ref 118, .int s2, .int s4, .int 0, .int s9, .float 0], [.int 30, .int v152], h)) rfl ?_
                refine hk_ceq (ix := v152.toInt) (iy := 30) rfl rfl rfl (fun z153 => ?_) (fun z153 => ?_)
                · refine qm_Ru.go 1 (c' := (41, [.ref 118, .int s2, .int s4, .int 0, .int s9, .float 0], [.int (-1)], h)) rfl ?_
                  refine qm_Ru.rt (v := (some (.int (-1)))) (h' := h) rfl ?_
                  refine qm_Ru.go 3 (c' := (2081, [.retAddr 0, .ref 0, .ref 118, .int (i + 6)], [], h)) rfl ?_
                  obtain ⟨v154, q_v154, e_v154⟩ := hk_add (x := i) (y := 6) (a := i.toInt) (b := 6) rfl rfl (by omega) (by omega)
                  rw [q_v154]
                  refine qm_Ru.go 1 (c' := (18, [.retAddr 0, .ref 0, .ref 118, .int v154], [], h)) rfl ?_
                  have hG : gR (h.2.1) := hS.2
                  have hS1 : gS (h.1, h.2.1, h.2.2.1, h.2.2.2) := hS.1
                  have hS2 : gS2 (h.1, h.2.1, h.2.2.1, h.2.2.2) := ⟨hS1, hG⟩
                  have hX3 : gX (h.1, h.2.1, h.2.2.1, h.2.2.2) := hX
                  have hZ3 : (gZB tb) (h.1, h.2.1, h.2.2.1, h.2.2.2) := hZ
                  exact hE _ v154 (by omega) (qa_Inv_of0 ⟨hH.1, hH.2⟩ hB ⟨⟨⟨hS2, hX3⟩, hZ3⟩, t⟩ (gS2_ru hS2))
                · refine qm_Ru.go 2 (c' := (22, [.ref 118, .int s2, .int s4, .int 0, .int s9, .float 0], [.int s4, .ref 118], h)) rfl ?_
                  refine hk_inv (o := 118) (r := []) (as := [.ref 118, .int s4]) rfl rfl (hH.1 118 (17, 105) rfl) rfl rfl rfl rfl ?_
                  refine qm_Ru.go 3 (c' := (3, [.ref 118, .int s4], [.ref 118, .int 0, .int s4], h)) rfl ?_
                  refine hk_geti (v := c0) rfl (hH.1 118 (17, 105) rfl) rfl p_c0 ?_
                  refine qm_Ru.go 2 (c' := (8, [.ref 118, .int s4], [.int (c0 - 1), .int 0, .int s4], h)) rfl ?_
                  obtain ⟨v155, q_v155, e_v155⟩ := hk_sub (x := c0) (y := 1) (a := c0.toInt) (b := 1) rfl rfl (by omega) (by omega)
                  rw [q_v155]
                  refine qm_Ru.call (j := 270) (as := [.int s4, .int 0, .int v155]) (c' := (11, [.ref 118, .int s4], [], h)) rfl rfl rfl ?_
                  refine qm_Ru.go 2 (c' := (2, [.int s4, .int 0, .int v155], [.int 0, .int s4], h)) rfl ?_
                  refine hk_clt (ix := s4.toInt) (iy := 0) rfl rfl rfl (fun z156 => by exfalso; omega) (fun z156 => ?_)
                  refine qm_Ru.go 2 (c' := (7, [.int s4, .int 0, .int v155], [.int v155, .int s4], h)) rfl ?_
                  refine hk_cgt (ix := s4.toInt) (iy := v155.toInt) rfl rfl rfl (fun z157 => ?_) (fun z157 => ?_)
                  · refine qm_Ru.go 1 (c' := (15, [.int s4, .int 0, .int v155], [.int 0], h)) rfl ?_
                    refine qm_Ru.rt (v := (some (.int 0))) (h' := h) rfl ?_
                    refine qm_Ru.go 0 (c' := (11, [.ref 118, .int s4], [.int 0], h)) rfl ?_
                    refine qm_Ru.rt (v := (some (.int 0))) (h' := h) rfl ?_
                    refine qm_Ru.go 2 (c' := (41, [.ref 118, .int s2, .int s4, .int 0, .int s9, .float 0], [.int (-1)], h)) rfl ?_
                    refine qm_Ru.rt (v := (some (.int (-1)))) (h' := h) rfl ?_
                    refine qm_Ru.go 3 (c' := (2081, [.retAddr 0, .ref 0, .ref 118, .int (i + 6)], [], h)) rfl ?_
                    obtain ⟨v158, q_v158, e_v158⟩ := hk_add (x := i) (y := 6) (a := i.toInt) (b := 6) rfl rfl (by omega) (by omega)
                    rw [q_v158]
                    refine qm_Ru.go 1 (c' := (18, [.retAddr 0, .ref 0, .ref 118, .int v158], [], h)) rfl ?_
                    have hG : gR (h.2.1) := hS.2
                    have hS1 : gS (h.1, h.2.1, h.2.2.1, h.2.2.2) := hS.1
                    have hS2 : gS2 (h.1, h.2.1, h.2.2.1, h.2.2.2) := ⟨hS1, hG⟩
                    have hX3 : gX (h.1, h.2.1, h.2.2.1, h.2.2.2) := hX
                    have hZ3 : (gZB tb) (h.1, h.2.1, h.2.2.1, h.2.2.2) := hZ
                    exact hE _ v158 (by omega) (qa_Inv_of0 ⟨hH.1, hH.2⟩ hB ⟨⟨⟨hS2, hX3⟩, hZ3⟩, t⟩ (gS2_ru hS2))
                  · refine qm_Ru.go 2 (c' := (15, [.int s4, .int 0, .int v155], [.int 1], h)) rfl ?_
                    refine qm_Ru.rt (v := (some (.int 1))) (h' := h) rfl ?_
                    refine qm_Ru.go 0 (c' := (11, [.ref 118, .int s4], [.int 1], h)) rfl ?_
                    refine qm_Ru.rt (v := (some (.int 1))) (h' := h) rfl ?_
                    refine qm_Ru.go 4 (c' := (34, [.ref 118, .int s2, .int s4, .int 0, .int s9, .float 0], [.int 9999, .int 0, .int s9], h)) rfl ?_
                    refine qm_Ru.call (j := 270) (as := [.int s9, .int 0, .int 9999]) (c' := (37, [.ref 118, .int s2, .int s4, .int 0, .int s9, .float 0], [], h)) rfl rfl rfl ?_
                    refine qm_Ru.go 2 (c' := (2, [.int s9, .int 0, .int 9999], [.int 0, .int s9], h)) rfl ?_
                    refine hk_clt (ix := s9.toInt) (iy := 0) rfl rfl rfl (fun z159 => by exfalso; omega) (fun z159 => ?_)
                    refine qm_Ru.go 2 (c' := (7, [.int s9, .int 0, .int 9999], [.int 9999, .int s9], h)) rfl ?_
                    refine hk_cgt (ix := s9.toInt) (iy := 9999) rfl rfl rfl (fun z160 => ?_) (fun z160 => by exfalso; omega)
                    refine qm_Ru.go 1 (c' := (15, [.int s9, .int 0, .int 9999], [.int 0], h)) rfl ?_
                    refine qm_Ru.rt (v := (some (.int 0))) (h' := h) rfl ?_
                    refine qm_Ru.go 2 (c' := (41, [.ref 118, .int s2, .int s4, .int 0, .int s9, .float 0], [.int (-1)], h)) rfl ?_
                    refine qm_Ru.rt (v := (some (.int (-1)))) (h' := h) rfl ?_
                    refine qm_Ru.go 3 (c' := (2081, [.retAddr 0, .ref 0, .ref 118, .int (i + 6)], [], h)) rfl ?_
                    obtain ⟨v161, q_v161, e_v161⟩ := hk_add (x := i) (y := 6) (a := i.toInt) (b := 6) rfl rfl (by omega) (by omega)
                    rw [q_v161]
                    refine qm_Ru.go 1 (c' := (18, [.retAddr 0, .ref 0, .ref 118, .int v161], [], h)) rfl ?_
                    have hG : gR (h.2.1) := hS.2
                    have hS1 : gS (h.1, h.2.1, h.2.2.1, h.2.2.2) := hS.1
                    have hS2 : gS2 (h.1, h.2.1, h.2.2.1, h.2.2.2) := ⟨hS1, hG⟩
                    have hX3 : gX (h.1, h.2.1, h.2.2.1, h.2.2.2) := hX
                    have hZ3 : (gZB tb) (h.1, h.2.1, h.2.2.1, h.2.2.2) := hZ
                    exact hE _ v161 (by omega) (qa_Inv_of0 ⟨hH.1, hH.2⟩ hB ⟨⟨⟨hS2, hX3⟩, hZ3⟩, t⟩ (gS2_ru hS2))
  · refine qm_Ru.go 6 (c' := (1813, [.retAddr 0, .ref 0, .ref 118, .int i], [.int (i + 4), .retAddr 0, .int 1, .int s4, .int s2, .ref 0], h)) rfl ?_
    obtain ⟨v162, q_v162, e_v162⟩ := hk_add (x := i) (y := 4) (a := i.toInt) (b := 4) rfl rfl (by omega) (by omega)
    rw [q_v162]
    obtain ⟨s163, q_s163⟩ : ∃ v_, xs (v162).toNatClampNeg = v_ := ⟨_, rfl⟩
    have := hk_rng s163
    refine hk_scr (v := s163) rfl (by omega) (by omega) q_s163 ?_
    refine qm_Ru.go 0 (c' := (1814, [.retAddr 0, .ref 0, .ref 118, .int i], [.int s163, .int 1, .int s4, .int s2, .ref 0], h)) rfl ?_
    refine hk_inv (o := 0) (r := []) (as := [.ref 0, .int s2, .int s4, .int 1, .int s163]) rfl rfl (hH.1 0 (16, 10) rfl) rfl rfl rfl rfl ?_
    refine qm_Ru.go 2 (c' := (2, [.ref 0, .int s2, .int s4, .int 1, .int s163], [.int 2, .int s2], h)) rfl ?_
    refine qm_Ru.call (j := 65) (as := [.int s2, .int 2]) (c' := (5, [.ref 0, .int s2, .int s4, .int 1, .int s163], [], h)) rfl rfl rfl ?_
    refine qm_Ru.go 1 (c' := (1, [.int s2, .int 2], [.int s2], h)) rfl ?_
    refine hk_zlt (ix := s2.toInt) rfl rfl (fun z164 => ?_) (fun z164 => ?_)
    · refine qm_Ru.go 1 (c' := (14, [.int s2, .int 2], [.int 0], h)) rfl ?_
      refine qm_Ru.rt (v := (some (.int 0))) (h' := h) rfl ?_
      refine qm_Ru.go 2 (c' := (33, [.ref 0, .int s2, .int s4, .int 1, .int s163], [.int (-1)], h)) rfl ?_
      refine qm_Ru.rt (v := (some (.int (-1)))) (h' := h) rfl ?_
      refine qm_Ru.go 6 (c' := (1823, [.retAddr 0, .ref 0, .ref 118, .int i], [.int (i + 1), .retAddr 0, .ref 118], h)) rfl ?_
      rw [q_v1]
      refine hk_scr (v := s2) rfl (by omega) (by omega) q_s2 ?_
      refine qm_Ru.go 4 (c' := (1828, [.retAddr 0, .ref 0, .ref 118, .int i], [.int (i + 2), .retAddr 0, .int s2, .ref 118], h)) rfl ?_
      rw [q_v3]
      refine hk_scr (v := s4) rfl (by omega) (by omega) q_s4 ?_
      refine qm_Ru.go 4 (c' := (1833, [.retAddr 0, .ref 0, .ref 118, .int i], [.int (i + 3), .retAddr 0, .int s4, .int s2, .ref 118], h)) rfl ?_
      rw [q_v5]
      refine hk_scr (v := s6) rfl (by omega) (by omega) q_s6 ?_
      refine qm_Ru.go 0 (c' := (1834, [.retAddr 0, .ref 0, .ref 118, .int i], [.int s6, .int s4, .int s2, .ref 118], h)) rfl ?_
      refine hk_zeq (ix := s6.toInt) rfl rfl (fun z168 => by exfalso; omega) (fun z168 => ?_)
      refine qm_Ru.go 6 (c' := (1846, [.retAddr 0, .ref 0, .ref 118, .int i], [.int (i + 4), .retAddr 0, .int 1, .int s4, .int s2, .ref 118], h)) rfl ?_
      rw [q_v162]
      refine hk_scr (v := s163) rfl (by omega) (by omega) q_s163 ?_
      refine qm_Ru.go 0 (c' := (1847, [.retAddr 0, .ref 0, .ref 118, .int i], [.int s163, .int 1, .int s4, .int s2, .ref 118], h)) rfl ?_
      refine hk_inv (o := 118) (r := []) (as := [.ref 118, .int s2, .int s4, .int 1, .int s163]) rfl rfl (hH.1 118 (17, 105) rfl) rfl rfl rfl rfl ?_
      refine qm_Ru.go 3 (c' := (3, [.ref 118, .int s2, .int s4, .int 1, .int s163, .float 0], [.int 1, .int 0, .int s2], h)) rfl ?_
      refine qm_Ru.call (j := 270) (as := [.int s2, .int 0, .int 1]) (c' := (6, [.ref 118, .int s2, .int s4, .int 1, .int s163, .float 0], [], h)) rfl rfl rfl ?_
      refine qm_Ru.go 2 (c' := (2, [.int s2, .int 0, .int 1], [.int 0, .int s2], h)) rfl ?_
      refine hk_clt (ix := s2.toInt) (iy := 0) rfl rfl rfl (fun z170 => ?_) (fun z170 => by exfalso; omega)
      refine qm_Ru.go 1 (c' := (15, [.int s2, .int 0, .int 1], [.int 0], h)) rfl ?_
      refine qm_Ru.rt (v := (some (.int 0))) (h' := h) rfl ?_
      refine qm_Ru.go 2 (c' := (41, [.ref 118, .int s2, .int s4, .int 1, .int s163, .float 0], [.int (-1)], h)) rfl ?_
      refine qm_Ru.rt (v := (some (.int (-1)))) (h' := h) rfl ?_
      refine qm_Ru.go 3 (c' := (2081, [.retAddr 0, .ref 0, .ref 118, .int (i + 6)], [], h)) rfl ?_
      obtain ⟨v171, q_v171, e_v171⟩ := hk_add (x := i) (y := 6) (a := i.toInt) (b := 6) rfl rfl (by omega) (by omega)
      rw [q_v171]
      refine qm_Ru.go 1 (c' := (18, [.retAddr 0, .ref 0, .ref 118, .int v171], [], h)) rfl ?_
      have hG : gR (h.2.1) := hS.2
      have hS1 : gS (h.1, h.2.1, h.2.2.1, h.2.2.2) := hS.1
      have hS2 : gS2 (h.1, h.2.1, h.2.2.1, h.2.2.2) := ⟨hS1, hG⟩
      have hX3 : gX (h.1, h.2.1, h.2.2.1, h.2.2.2) := hX
      have hZ3 : (gZB tb) (h.1, h.2.1, h.2.2.1, h.2.2.2) := hZ
      exact hE _ v171 (by omega) (qa_Inv_of0 ⟨hH.1, hH.2⟩ hB ⟨⟨⟨hS2, hX3⟩, hZ3⟩, t⟩ (gS2_ru hS2))
    · refine qm_Ru.go 2 (c' := (6, [.int s2, .int 2], [.int 2, .int s2], h)) rfl ?_
      refine hk_cge (ix := s2.toInt) (iy := 2) rfl rfl rfl (fun z172 => ?_) (fun z172 => ?_)
      · refine qm_Ru.go 1 (c' := (14, [.int s2, .int 2], [.int 0], h)) rfl ?_
        refine qm_Ru.rt (v := (some (.int 0))) (h' := h) rfl ?_
        refine qm_Ru.go 2 (c' := (33, [.ref 0, .int s2, .int s4, .int 1, .int s163], [.int (-1)], h)) rfl ?_
        refine qm_Ru.rt (v := (some (.int (-1)))) (h' := h) rfl ?_
        refine qm_Ru.go 6 (c' := (1823, [.retAddr 0, .ref 0, .ref 118, .int i], [.int (i + 1), .retAddr 0, .ref 118], h)) rfl ?_
        rw [q_v1]
        refine hk_scr (v := s2) rfl (by omega) (by omega) q_s2 ?_
        refine qm_Ru.go 4 (c' := (1828, [.retAddr 0, .ref 0, .ref 118, .int i], [.int (i + 2), .retAddr 0, .int s2, .ref 118], h)) rfl ?_
        rw [q_v3]
        refine hk_scr (v := s4) rfl (by omega) (by omega) q_s4 ?_
        refine qm_Ru.go 4 (c' := (1833, [.retAddr 0, .ref 0, .ref 118, .int i], [.int (i + 3), .retAddr 0, .int s4, .int s2, .ref 118], h)) rfl ?_
        rw [q_v5]
        refine hk_scr (v := s6) rfl (by omega) (by omega) q_s6 ?_
        refine qm_Ru.go 0 (c' := (1834, [.retAddr 0, .ref 0, .ref 118, .int i], [.int s6, .int s4, .int s2, .ref 118], h)) rfl ?_
        refine hk_zeq (ix := s6.toInt) rfl rfl (fun z176 => by exfalso; omega) (fun z176 => ?_)
        refine qm_Ru.go 6 (c' := (1846, [.retAddr 0, .ref 0, .ref 118, .int i], [.int (i + 4), .retAddr 0, .int 1, .int s4, .int s2, .ref 118], h)) rfl ?_
        rw [q_v162]
        refine hk_scr (v := s163) rfl (by omega) (by omega) q_s163 ?_
        refine qm_Ru.go 0 (c' := (1847, [.retAddr 0, .ref 0, .ref 118, .int i], [.int s163, .int 1, .int s4, .int s2, .ref 118], h)) rfl ?_
        refine hk_inv (o := 118) (r := []) (as := [.ref 118, .int s2, .int s4, .int 1, .int s163]) rfl rfl (hH.1 118 (17, 105) rfl) rfl rfl rfl rfl ?_
        refine qm_Ru.go 3 (c' := (3, [.ref 118, .int s2, .int s4, .int 1, .int s163, .float 0], [.int 1, .int 0, .int s2], h)) rfl ?_
        refine qm_Ru.call (j := 270) (as := [.int s2, .int 0, .int 1]) (c' := (6, [.ref 118, .int s2, .int s4, .int 1, .int s163, .float 0], [], h)) rfl rfl rfl ?_
        refine qm_Ru.go 2 (c' := (2, [.int s2, .int 0, .int 1], [.int 0, .int s2], h)) rfl ?_
        refine hk_clt (ix := s2.toInt) (iy := 0) rfl rfl rfl (fun z178 => by exfalso; omega) (fun z178 => ?_)
        refine qm_Ru.go 2 (c' := (7, [.int s2, .int 0, .int 1], [.int 1, .int s2], h)) rfl ?_
        refine hk_cgt (ix := s2.toInt) (iy := 1) rfl rfl rfl (fun z179 => ?_) (fun z179 => by exfalso; omega)
        refine qm_Ru.go 1 (c' := (15, [.int s2, .int 0, .int 1], [.int 0], h)) rfl ?_
        refine qm_Ru.rt (v := (some (.int 0))) (h' := h) rfl ?_
        refine qm_Ru.go 2 (c' := (41, [.ref 118, .int s2, .int s4, .int 1, .int s163, .float 0], [.int (-1)], h)) rfl ?_
        refine qm_Ru.rt (v := (some (.int (-1)))) (h' := h) rfl ?_
        refine qm_Ru.go 3 (c' := (2081, [.retAddr 0, .ref 0, .ref 118, .int (i + 6)], [], h)) rfl ?_
        obtain ⟨v180, q_v180, e_v180⟩ := hk_add (x := i) (y := 6) (a := i.toInt) (b := 6) rfl rfl (by omega) (by omega)
        rw [q_v180]
        refine qm_Ru.go 1 (c' := (18, [.retAddr 0, .ref 0, .ref 118, .int v180], [], h)) rfl ?_
        have hG : gR (h.2.1) := hS.2
        have hS1 : gS (h.1, h.2.1, h.2.2.1, h.2.2.2) := hS.1
        have hS2 : gS2 (h.1, h.2.1, h.2.2.1, h.2.2.2) := ⟨hS1, hG⟩
        have hX3 : gX (h.1, h.2.1, h.2.2.1, h.2.2.2) := hX
        have hZ3 : (gZB tb) (h.1, h.2.1, h.2.2.1, h.2.2.2) := hZ
        exact hE _ v180 (by omega) (qa_Inv_of0 ⟨hH.1, hH.2⟩ hB ⟨⟨⟨hS2, hX3⟩, hZ3⟩, t⟩ (gS2_ru hS2))
      · refine qm_Ru.go 2 (c' := (14, [.int s2, .int 2], [.int 1], h)) rfl ?_
        refine qm_Ru.rt (v := (some (.int 1))) (h' := h) rfl ?_
        refine qm_Ru.go 2 (c' := (9, [.ref 0, .int s2, .int s4, .int 1, .int s163], [.ref 0], h)) rfl ?_
        refine hk_getr rfl (hH.1 0 (16, 10) rfl) rfl (hH.2 0 2 (some 6) rfl) ?_
        refine qm_Ru.go 1 (c' := (13, [.ref 0, .int s2, .int s4, .int 1, .int s163], [.int s4, .ref 6], h)) rfl ?_
        refine hk_inv (o := 6) (r := []) (as := [.ref 6, .int s4]) rfl rfl (hH.1 6 (6, 9) rfl) rfl rfl rfl rfl ?_
        refine qm_Ru.go 1 (c' := (1, [.ref 6, .int s4], [.int s4], h)) rfl ?_
        refine hk_zlt (ix := s4.toInt) rfl rfl (fun z181 => ?_) (fun z181 => ?_)
        · refine qm_Ru.go 1 (c' := (17, [.ref 6, .int s4], [.int 0], h)) rfl ?_
          refine qm_Ru.rt (v := (some (.int 0))) (h' := h) rfl ?_
          refine qm_Ru.go 2 (c' := (33, [.ref 0, .int s2, .int s4, .int 1, .int s163], [.int (-1)], h)) rfl ?_
          refine qm_Ru.rt (v := (some (.int (-1)))) (h' := h) rfl ?_
          refine qm_Ru.go 6 (c' := (1823, [.retAddr 0, .ref 0, .ref 118, .int i], [.int (i + 1), .retAddr 0, .ref 118], h)) rfl ?_
          rw [q_v1]
          refine hk_scr (v := s2) rfl (by omega) (by omega) q_s2 ?_
          refine qm_Ru.go 4 (c' := (1828, [.retAddr 0, .ref 0, .ref 118, .int i], [.int (i + 2), .retAddr 0, .int s2, .ref 118], h)) rfl ?_
          rw [q_v3]
          refine hk_scr (v := s4) rfl (by omega) (by omega) q_s4 ?_
          refine qm_Ru.go 4 (c' := (1833, [.retAddr 0, .ref 0, .ref 118, .int i], [.int (i + 3), .retAddr 0, .int s4, .int s2, .ref 118], h)) rfl ?_
          rw [q_v5]
          refine hk_scr (v := s6) rfl (by omega) (by omega) q_s6 ?_
          refine qm_Ru.go 0 (c' := (1834, [.retAddr 0, .ref 0, .ref 118, .int i], [.int s6, .int s4, .int s2, .ref 118], h)) rfl ?_
          refine hk_zeq (ix := s6.toInt) rfl rfl (fun z185 => by exfalso; omega) (fun z185 => ?_)
          refine qm_Ru.go 6 (c' := (1846, [.retAddr 0, .ref 0, .ref 118, .int i], [.int (i + 4), .retAddr 0, .int 1, .int s4, .int s2, .ref 118], h)) rfl ?_
          rw [q_v162]
          refine hk_scr (v := s163) rfl (by omega) (by omega) q_s163 ?_
          refine qm_Ru.go 0 (c' := (1847, [.retAddr 0, .ref 0, .ref 118, .int i], [.int s163, .int 1, .int s4, .int s2, .ref 118], h)) rfl ?_
          refine hk_inv (o := 118) (r := []) (as := [.ref 118, .int s2, .int s4, .int 1, .int s163]) rfl rfl (hH.1 118 (17, 105) rfl) rfl rfl rfl rfl ?_
          refine qm_Ru.go 3 (c' := (3, [.ref 118, .int s2, .int s4, .int 1, .int s163, .float 0], [.int 1, .int 0, .int s2], h)) rfl ?_
          refine qm_Ru.call (j := 270) (as := [.int s2, .int 0, .int 1]) (c' := (6, [.ref 118, .int s2, .int s4, .int 1, .int s163, .float 0], [], h)) rfl rfl rfl ?_
          refine qm_Ru.go 2 (c' := (2, [.int s2, .int 0, .int 1], [.int 0, .int s2], h)) rfl ?_
          refine hk_clt (ix := s2.toInt) (iy := 0) rfl rfl rfl (fun z187 => by exfalso; omega) (fun z187 => ?_)
          refine qm_Ru.go 2 (c' := (7, [.int s2, .int 0, .int 1], [.int 1, .int s2], h)) rfl ?_
          refine hk_cgt (ix := s2.toInt) (iy := 1) rfl rfl rfl (fun z188 => by exfalso; omega) (fun z188 => ?_)
          refine qm_Ru.go 2 (c' := (15, [.int s2, .int 0, .int 1], [.int 1], h)) rfl ?_
          refine qm_Ru.rt (v := (some (.int 1))) (h' := h) rfl ?_
          refine qm_Ru.go 2 (c' := (10, [.ref 118, .int s2, .int s4, .int 1, .int s163, .float 0], [.ref 118], h)) rfl ?_
          refine hk_getr rfl (hH.1 118 (17, 105) rfl) rfl (hH.2 118 95 (some 182) rfl) ?_
          refine qm_Ru.go 1 (c' := (14, [.ref 118, .int s2, .int s4, .int 1, .int s163, .float 0], [.int s2, .ref 182], h)) rfl ?_
          obtain ⟨v189, q_v189⟩ : ∃ v_, h.2.1 182 (s2.toInt.toNat) = v_ := ⟨_, rfl⟩
          refine hk_ial (v := v189) rfl (hH.1 182 (0, 2) rfl) (by omega) (by omega) q_v189 ?_
          refine qm_Ru.go 1 (c' := (17, [.ref 118, .int s2, .int s4, .int 1, .int s163, .float 0], [.int 30, .int v189], h)) rfl ?_
          refine hk_ceq (ix := v189.toInt) (iy := 30) rfl rfl rfl (fun z190 => ?_) (fun z190 => ?_)
          · refine qm_Ru.go 1 (c' := (41, [.ref 118, .int s2, .int s4, .int 1, .int s163, .float 0], [.int (-1)], h)) rfl ?_
            refine qm_Ru.rt (v := (some (.int (-1)))) (h' := h) rfl ?_
            refine qm_Ru.go 3 (c' := (2081, [.retAddr 0, .ref 0, .ref 118, .int (i + 6)], [], h)) rfl ?_
            obtain ⟨v191, q_v191, e_v191⟩ := hk_add (x := i) (y := 6) (a := i.toInt) (b := 6) rfl rfl (by omega) (by omega)
            rw [q_v191]
            refine qm_Ru.go 1 (c' := (18, [.retAddr 0, .ref 0, .ref 118, .int v191], [], h)) rfl ?_
            have hG : gR (h.2.1) := hS.2
            have hS1 : gS (h.1, h.2.1, h.2.2.1, h.2.2.2) := hS.1
            have hS2 : gS2 (h.1, h.2.1, h.2.2.1, h.2.2.2) := ⟨hS1, hG⟩
            have hX3 : gX (h.1, h.2.1, h.2.2.1, h.2.2.2) := hX
            have hZ3 : (gZB tb) (h.1, h.2.1, h.2.2.1, h.2.2.2) := hZ
            exact hE _ v191 (by omega) (qa_Inv_of0 ⟨hH.1, hH.2⟩ hB ⟨⟨⟨hS2, hX3⟩, hZ3⟩, t⟩ (gS2_ru hS2))
          · refine qm_Ru.go 2 (c' := (22, [.ref 118, .int s2, .int s4, .int 1, .int s163, .float 0], [.int s4, .ref 118], h)) rfl ?_
            refine hk_inv (o := 118) (r := []) (as := [.ref 118, .int s4]) rfl rfl (hH.1 118 (17, 105) rfl) rfl rfl rfl rfl ?_
            refine qm_Ru.go 3 (c' := (3, [.ref 118, .int s4], [.ref 118, .int 0, .int s4], h)) rfl ?_
            refine hk_geti (v := c0) rfl (hH.1 118 (17, 105) rfl) rfl p_c0 ?_
            refine qm_Ru.go 2 (c' := (8, [.ref 118, .int s4], [.int (c0 - 1), .int 0, .int s4], h)) rfl ?_
            obtain ⟨v192, q_v192, e_v192⟩ := hk_sub (x := c0) (y := 1) (a := c0.toInt) (b := 1) rfl rfl (by omega) (by omega)
            rw [q_v192]
            refine qm_Ru.call (j := 270) (as := [.int s4, .int 0, .int v192]) (c' := (11, [.ref 118, .int s4], [], h)) rfl rfl rfl ?_
            refine qm_Ru.go 2 (c' := (2, [.int s4, .int 0, .int v192], [.int 0, .int s4], h)) rfl ?_
            refine hk_clt (ix := s4.toInt) (iy := 0) rfl rfl rfl (fun z193 => ?_) (fun z193 => by exfalso; omega)
            refine qm_Ru.go 1 (c' := (15, [.int s4, .int 0, .int v192], [.int 0], h)) rfl ?_
            refine qm_Ru.rt (v := (some (.int 0))) (h' := h) rfl ?_
            refine qm_Ru.go 0 (c' := (11, [.ref 118, .int s4], [.int 0], h)) rfl ?_
            refine qm_Ru.rt (v := (some (.int 0))) (h' := h) rfl ?_
            refine qm_Ru.go 2 (c' := (41, [.ref 118, .int s2, .int s4, .int 1, .int s163, .float 0], [.int (-1)], h)) rfl ?_
            refine qm_Ru.rt (v := (some (.int (-1)))) (h' := h) rfl ?_
            refine qm_Ru.go 3 (c' := (2081, [.retAddr 0, .ref 0, .ref 118, .int (i + 6)], [], h)) rfl ?_
            obtain ⟨v194, q_v194, e_v194⟩ := hk_add (x := i) (y := 6) (a := i.toInt) (b := 6) rfl rfl (by omega) (by omega)
            rw [q_v194]
            refine qm_Ru.go 1 (c' := (18, [.retAddr 0, .ref 0, .ref 118, .int v194], [], h)) rfl ?_
            have hG : gR (h.2.1) := hS.2
            have hS1 : gS (h.1, h.2.1, h.2.2.1, h.2.2.2) := hS.1
            have hS2 : gS2 (h.1, h.2.1, h.2.2.1, h.2.2.2) := ⟨hS1, hG⟩
            have hX3 : gX (h.1, h.2.1, h.2.2.1, h.2.2.2) := hX
            have hZ3 : (gZB tb) (h.1, h.2.1, h.2.2.1, h.2.2.2) := hZ
            exact hE _ v194 (by omega) (qa_Inv_of0 ⟨hH.1, hH.2⟩ hB ⟨⟨⟨hS2, hX3⟩, hZ3⟩, t⟩ (gS2_ru hS2))
        · refine qm_Ru.go 2 (c' := (6, [.ref 6, .int s4], [.ref 6, .int s4], h)) rfl ?_
          refine hk_geti (v := c0) rfl (hH.1 6 (6, 9) rfl) rfl q_c0 ?_
          refine qm_Ru.go 0 (c' := (9, [.ref 6, .int s4], [.int c0, .int s4], h)) rfl ?_
          refine hk_cge (ix := s4.toInt) (iy := c0.toInt) rfl rfl rfl (fun z195 => ?_) (fun z195 => ?_)
          · refine qm_Ru.go 1 (c' := (17, [.ref 6, .int s4], [.int 0], h)) rfl ?_
            refine qm_Ru.rt (v := (some (.int 0))) (h' := h) rfl ?_
            refine qm_Ru.go 2 (c' := (33, [.ref 0, .int s2, .int s4, .int 1, .int s163], [.int (-1)], h)) rfl ?_
            refine qm_Ru.rt (v := (some (.int (-1)))) (h' := h) rfl ?_
            refine qm_Ru.go 6 (c' := (1823, [.retAddr 0, .ref 0, .ref 118, .int i], [.int (i + 1), .retAddr 0, .ref 118], h)) rfl ?_
            rw [q_v1]
            refine hk_scr (v := s2) rfl (by omega) (by omega) q_s2 ?_
            refine qm_Ru.go 4 (c' := (1828, [.retAddr 0, .ref 0, .ref 118, .int i], [.int (i + 2), .retAddr 0, .int s2, .ref 118], h)) rfl ?_
            rw [q_v3]
            refine hk_scr (v := s4) rfl (by omega) (by omega) q_s4 ?_
            refine qm_Ru.go 4 (c' := (1833, [.retAddr 0, .ref 0, .ref 118, .int i], [.int (i + 3), .retAddr 0, .int s4, .int s2, .ref 118], h)) rfl ?_
            rw [q_v5]
            refine hk_scr (v := s6) rfl (by omega) (by omega) q_s6 ?_
            refine qm_Ru.go 0 (c' := (1834, [.retAddr 0, .ref 0, .ref 118, .int i], [.int s6, .int s4, .int s2, .ref 118], h)) rfl ?_
            refine hk_zeq (ix := s6.toInt) rfl rfl (fun z199 => by exfalso; omega) (fun z199 => ?_)
            refine qm_Ru.go 6 (c' := (1846, [.retAddr 0, .ref 0, .ref 118, .int i], [.int (i + 4), .retAddr 0, .int 1, .int s4, .int s2, .ref 118], h)) rfl ?_
            rw [q_v162]
            refine hk_scr (v := s163) rfl (by omega) (by omega) q_s163 ?_
            refine qm_Ru.go 0 (c' := (1847, [.retAddr 0, .ref 0, .ref 118, .int i], [.int s163, .int 1, .int s4, .int s2, .ref 118], h)) rfl ?_
            refine hk_inv (o := 118) (r := []) (as := [.ref 118, .int s2, .int s4, .int 1, .int s163]) rfl rfl (hH.1 118 (17, 105) rfl) rfl rfl rfl rfl ?_
            refine qm_Ru.go 3 (c' := (3, [.ref 118, .int s2, .int s4, .int 1, .int s163, .float 0], [.int 1, .int 0, .int s2], h)) rfl ?_
            refine qm_Ru.call (j := 270) (as := [.int s2, .int 0, .int 1]) (c' := (6, [.ref 118, .int s2, .int s4, .int 1, .int s163, .float 0], [], h)) rfl rfl rfl ?_
            refine qm_Ru.go 2 (c' := (2, [.int s2, .int 0, .int 1], [.int 0, .int s2], h)) rfl ?_
            refine hk_clt (ix := s2.toInt) (iy := 0) rfl rfl rfl (fun z201 => by exfalso; omega) (fun z201 => ?_)
            refine qm_Ru.go 2 (c' := (7, [.int s2, .int 0, .int 1], [.int 1, .int s2], h)) rfl ?_
            refine hk_cgt (ix := s2.toInt) (iy := 1) rfl rfl rfl (fun z202 => by exfalso; omega) (fun z202 => ?_)
            refine qm_Ru.go 2 (c' := (15, [.int s2, .int 0, .int 1], [.int 1], h)) rfl ?_
            refine qm_Ru.rt (v := (some (.int 1))) (h' := h) rfl ?_
            refine qm_Ru.go 2 (c' := (10, [.ref 118, .int s2, .int s4, .int 1, .int s163, .float 0], [.ref 118], h)) rfl ?_
            refine hk_getr rfl (hH.1 118 (17, 105) rfl) rfl (hH.2 118 95 (some 182) rfl) ?_
            refine qm_Ru.go 1 (c' := (14, [.ref 118, .int s2, .int s4, .int 1, .int s163, .float 0], [.int s2, .ref 182], h)) rfl ?_
            obtain ⟨v203, q_v203⟩ : ∃ v_, h.2.1 182 (s2.toInt.toNat) = v_ := ⟨_, rfl⟩
            refine hk_ial (v := v203) rfl (hH.1 182 (0, 2) rfl) (by omega) (by omega) q_v203 ?_
            refine qm_Ru.go 1 (c' := (17, [.ref 118, .int s2, .int s4, .int 1, .int s163, .float 0], [.int 30, .int v203], h)) rfl ?_
            refine hk_ceq (ix := v203.toInt) (iy := 30) rfl rfl rfl (fun z204 => ?_) (fun z204 => ?_)
            · refine qm_Ru.go 1 (c' := (41, [.ref 118, .int s2, .int s4, .int 1, .int s163, .float 0], [.int (-1)], h)) rfl ?_
              refine qm_Ru.rt (v := (some (.int (-1)))) (h' := h) rfl ?_
              refine qm_Ru.go 3 (c' := (2081, [.retAddr 0, .ref 0, .ref 118, .int (i + 6)], [], h)) rfl ?_
              obtain ⟨v205, q_v205, e_v205⟩ := hk_add (x := i) (y := 6) (a := i.toInt) (b := 6) rfl rfl (by omega) (by omega)
              rw [q_v205]
              refine qm_Ru.go 1 (c' := (18, [.retAddr 0, .ref 0, .ref 118, .int v205], [], h)) rfl ?_
              have hG : gR (h.2.1) := hS.2
              have hS1 : gS (h.1, h.2.1, h.2.2.1, h.2.2.2) := hS.1
              have hS2 : gS2 (h.1, h.2.1, h.2.2.1, h.2.2.2) := ⟨hS1, hG⟩
              have hX3 : gX (h.1, h.2.1, h.2.2.1, h.2.2.2) := hX
              have hZ3 : (gZB tb) (h.1, h.2.1, h.2.2.1, h.2.2.2) := hZ
              exact hE _ v205 (by omega) (qa_Inv_of0 ⟨hH.1, hH.2⟩ hB ⟨⟨⟨hS2, hX3⟩, hZ3⟩, t⟩ (gS2_ru hS2))
            · refine qm_Ru.go 2 (c' := (22, [.ref 118, .int s2, .int s4, .int 1, .int s163, .float 0], [.int s4, .ref 118], h)) rfl ?_
              refine hk_inv (o := 118) (r := []) (as := [.ref 118, .int s4]) rfl rfl (hH.1 118 (17, 105) rfl) rfl rfl rfl rfl ?_
              refine qm_Ru.go 3 (c' := (3, [.ref 118, .int s4], [.ref 118, .int 0, .int s4], h)) rfl ?_
              refine hk_geti (v := c0) rfl (hH.1 118 (17, 105) rfl) rfl p_c0 ?_
              refine qm_Ru.go 2 (c' := (8, [.ref 118, .int s4], [.int (c0 - 1), .int 0, .int s4], h)) rfl ?_
              obtain ⟨v206, q_v206, e_v206⟩ := hk_sub (x := c0) (y := 1) (a := c0.toInt) (b := 1) rfl rfl (by omega) (by omega)
              rw [q_v206]
              refine qm_Ru.call (j := 270) (as := [.int s4, .int 0, .int v206]) (c' := (11, [.ref 118, .int s4], [], h)) rfl rfl rfl ?_
              refine qm_Ru.go 2 (c' := (2, [.int s4, .int 0, .int v206], [.int 0, .int s4], h)) rfl ?_
              refine hk_clt (ix := s4.toInt) (iy := 0) rfl rfl rfl (fun z207 => by exfalso; omega) (fun z207 => ?_)
              refine qm_Ru.go 2 (c' := (7, [.int s4, .int 0, .int v206], [.int v206, .int s4], h)) rfl ?_
              refine hk_cgt (ix := s4.toInt) (iy := v206.toInt) rfl rfl rfl (fun z208 => ?_) (fun z208 => ?_)
              · refine qm_Ru.go 1 (c' := (15, [.int s4, .int 0, .int v206], [.int 0], h)) rfl ?_
                refine qm_Ru.rt (v := (some (.int 0))) (h' := h) rfl ?_
                refine qm_Ru.go 0 (c' := (11, [.ref 118, .int s4], [.int 0], h)) rfl ?_
                refine qm_Ru.rt (v := (some (.int 0))) (h' := h) rfl ?_
                refine qm_Ru.go 2 (c' := (41, [.ref 118, .int s2, .int s4, .int 1, .int s163, .float 0], [.int (-1)], h)) rfl ?_
                refine qm_Ru.rt (v := (some (.int (-1)))) (h' := h) rfl ?_
                refine qm_Ru.go 3 (c' := (2081, [.retAddr 0, .ref 0, .ref 118, .int (i + 6)], [], h)) rfl ?_
                obtain ⟨v209, q_v209, e_v209⟩ := hk_add (x := i) (y := 6) (a := i.toInt) (b := 6) rfl rfl (by omega) (by omega)
                rw [q_v209]
                refine qm_Ru.go 1 (c' := (18, [.retAddr 0, .ref 0, .ref 118, .int v209], [], h)) rfl ?_
                have hG : gR (h.2.1) := hS.2
                have hS1 : gS (h.1, h.2.1, h.2.2.1, h.2.2.2) := hS.1
                have hS2 : gS2 (h.1, h.2.1, h.2.2.1, h.2.2.2) := ⟨hS1, hG⟩
                have hX3 : gX (h.1, h.2.1, h.2.2.1, h.2.2.2) := hX
                have hZ3 : (gZB tb) (h.1, h.2.1, h.2.2.1, h.2.2.2) := hZ
                exact hE _ v209 (by omega) (qa_Inv_of0 ⟨hH.1, hH.2⟩ hB ⟨⟨⟨hS2, hX3⟩, hZ3⟩, t⟩ (gS2_ru hS2))
              · refine qm_Ru.go 2 (c' := (15, [.int s4, .int 0, .int v206], [.int 1], h)) rfl ?_
                refine qm_Ru.rt (v := (some (.int 1))) (h' := h) rfl ?_
                refine qm_Ru.go 0 (c' := (11, [.ref 118, .int s4], [.int 1], h)) rfl ?_
                refine qm_Ru.rt (v := (some (.int 1))) (h' := h) rfl ?_
                refine qm_Ru.go 4 (c' := (34, [.ref 118, .int s2, .int s4, .int 1, .int s163, .float 0], [.int 9999, .int 0, .int s163], h)) rfl ?_
                refine qm_Ru.call (j := 270) (as := [.int s163, .int 0, .int 9999]) (c' := (37, [.ref 118, .int s2, .int s4, .int 1, .int s163, .float 0], [], h)) rfl rfl rfl ?_
                refine qm_Ru.go 2 (c' := (2, [.int s163, .int 0, .int 9999], [.int 0, .int s163], h)) rfl ?_
                refine hk_clt (ix := s163.toInt) (iy := 0) rfl rfl rfl (fun z210 => ?_) (fun z210 => ?_)
                · refine qm_Ru.go 1 (c' := (15, [.int s163, .int 0, .int 9999], [.int 0], h)) rfl ?_
                  refine qm_Ru.rt (v := (some (.int 0))) (h' := h) rfl ?_
                  refine qm_Ru.go 2 (c' := (41, [.ref 118, .int s2, .int s4, .int 1, .int s163, .float 0], [.int (-1)], h)) rfl ?_
                  refine qm_Ru.rt (v := (some (.int (-1)))) (h' := h) rfl ?_
                  refine qm_Ru.go 3 (c' := (2081, [.retAddr 0, .ref 0, .ref 118, .int (i + 6)], [], h)) rfl ?_
                  obtain ⟨v211, q_v211, e_v211⟩ := hk_add (x := i) (y := 6) (a := i.toInt) (b := 6) rfl rfl (by omega) (by omega)
                  rw [q_v211]
                  refine qm_Ru.go 1 (c' := (18, [.retAddr 0, .ref 0, .ref 118, .int v211], [], h)) rfl ?_
                  have hG : gR (h.2.1) := hS.2
                  have hS1 : gS (h.1, h.2.1, h.2.2.1, h.2.2.2) := hS.1
                  have hS2 : gS2 (h.1, h.2.1, h.2.2.1, h.2.2.2) := ⟨hS1, hG⟩
                  have hX3 : gX (h.1, h.2.1, h.2.2.1, h.2.2.2) := hX
                  have hZ3 : (gZB tb) (h.1, h.2.1, h.2.2.1, h.2.2.2) := hZ
                  exact hE _ v211 (by omega) (qa_Inv_of0 ⟨hH.1, hH.2⟩ hB ⟨⟨⟨hS2, hX3⟩, hZ3⟩, t⟩ (gS2_ru hS2))
                · refine qm_Ru.go 2 (c' := (7, [.int s163, .int 0, .int 9999], [.int 9999, .int s163], h)) rfl ?_
                  refine hk_cgt (ix := s163.toInt) (iy := 9999) rfl rfl rfl (fun z212 => ?_) (fun z212 => ?_)
                  · refine qm_Ru.go 1 (c' := (15, [.int s163, .int 0, .int 9999], [.int 0], h)) rfl ?_
                    refine qm_Ru.rt (v := (some (.int 0))) (h' := h) rfl ?_
                    refine qm_Ru.go 2 (c' := (41, [.ref 118, .int s2, .int s4, .int 1, .int s163, .float 0], [.int (-1)], h)) rfl ?_
                    refine qm_Ru.rt (v := (some (.int (-1)))) (h' := h) rfl ?_
                    refine qm_Ru.go 3 (c' := (2081, [.retAddr 0, .ref 0, .ref 118, .int (i + 6)], [], h)) rfl ?_
                    obtain ⟨v213, q_v213, e_v213⟩ := hk_add (x := i) (y := 6) (a := i.toInt) (b := 6) rfl rfl (by omega) (by omega)
                    rw [q_v213]
                    refine qm_Ru.go 1 (c' := (18, [.retAddr 0, .ref 0, .ref 118, .int v213], [], h)) rfl ?_
                    have hG : gR (h.2.1) := hS.2
                    have hS1 : gS (h.1, h.2.1, h.2.2.1, h.2.2.2) := hS.1
                    have hS2 : gS2 (h.1, h.2.1, h.2.2.1, h.2.2.2) := ⟨hS1, hG⟩
                    have hX3 : gX (h.1, h.2.1, h.2.2.1, h.2.2.2) := hX
                    have hZ3 : (gZB tb) (h.1, h.2.1, h.2.2.1, h.2.2.2) := hZ
                    exact hE _ v213 (by omega) (qa_Inv_of0 ⟨hH.1, hH.2⟩ hB ⟨⟨⟨hS2, hX3⟩, hZ3⟩, t⟩ (gS2_ru hS2))
                  · refine qm_Ru.go 2 (c' := (15, [.int s163, .int 0, .int 9999], [.int 1], h)) rfl ?_
                    refine qm_Ru.rt (v := (some (.int 1))) (h' := h) rfl ?_
                    refine qm_Ru.go 4 (c' := (46, [.ref 118, .int s2, .int s4, .int 1, .int s163, .float 0], [.int (30 * s2)], h)) rfl ?_
                    obtain ⟨v214, q_v214, e_v214⟩ := hk_mul (x := 30) (y := s2) (a := 30) (b := s2.toInt) rfl rfl (by omega) (by omega)
                    rw [q_v214]
                    refine qm_Ru.go 1 (c' := (47, [.ref 118, .int s2, .int s4, .int 1, .int s163, .float 0], [.ref 118, .int v214], h)) rfl ?_
                    refine hk_getr rfl (hH.1 118 (17, 105) rfl) rfl (hH.2 118 95 (some 182) rfl) ?_
                    refine qm_Ru.go 1 (c' := (51, [.ref 118, .int s2, .int s4, .int 1, .int s163, .float 0], [.int s2, .ref 182, .int v214], h)) rfl ?_
                    refine hk_ial (v := v203) rfl (hH.1 182 (0, 2) rfl) (by omega) (by omega) q_v203 ?_
                    refine qm_Ru.go 1 (c' := (53, [.ref 118, .int s2, .int s4, .int 1, .int s163, .float 0], [.int (v214 + v203)], h)) rfl ?_
                    obtain ⟨v215, q_v215⟩ : ∃ v_, (v214 + v203) = v_ := ⟨_, rfl⟩
                    rw [q_v215]
                    refine qm_Ru.go 2 (c' := (56, [.ref 118, .int s2, .int s4, .int 1, .int s163, .int v215], [.ref 118], h)) rfl ?_
                    refine hk_getr rfl (hH.1 118 (17, 105) rfl) rfl (hH.2 118 96 (some 183) rfl) ?_
                    refine qm_Ru.go 2 (c' := (62, [.ref 118, .int s2, .int s4, .int 1, .int s163, .int v215], [.int s4, .int v215, .ref 183], h)) rfl ?_
                    refine hk_ias rfl (hH.1 183 (0, 60) rfl) (by omega) (by omega) ?_
                    refine qm_Ru.go 1 (c' := (64, [.ref 118, .int s2, .int s4, .int 1, .int s163, .int v215], [.ref 118], (h.1, qm_up h.2.1 183 (v215.toInt.toNat) s4, h.2.2.1, h.2.2.2))) rfl ?_
                    refine hk_getr rfl (hH.1 118 (17, 105) rfl) rfl (hH.2 118 97 (some 184) rfl) ?_
                    refine qm_Ru.go 2 (c' := (70, [.ref 118, .int s2, .int s4, .int 1, .int s163, .int v215], [.int 1, .int v215, .ref 184], (h.1, qm_up h.2.1 183 (v215.toInt.toNat) s4, h.2.2.1, h.2.2.2))) rfl ?_
                    refine hk_bas rfl (hH.1 184 (2, 60) rfl) (by omega) (by omega) rfl ?_
                    refine qm_Ru.go 1 (c' := (72, [.ref 118, .int s2, .int s4, .int 1, .int s163, .int v215], [.ref 118], (h.1, qm_up (qm_up h.2.1 183 (v215.toInt.toNat) s4) 184 (v215.toInt.toNat) 1, h.2.2.1, h.2.2.2))) rfl ?_
                    refine hk_getr rfl (hH.1 118 (17, 105) rfl) rfl (hH.2 118 98 (some 185) rfl) ?_
                    refine qm_Ru.go 2 (c' := (79, [.ref 118, .int s2, .int s4, .int 1, .int s163, .int v215], [.int s163, .int v215, .ref 185], (h.1, qm_up (qm_up h.2.1 183 (v215.toInt.toNat) s4) 184 (v215.toInt.toNat) 1, h.2.2.1, h.2.2.2))) rfl ?_
                    refine hk_ias rfl (hH.1 185 (0, 60) rfl) (by omega) (by omega) ?_
                    refine qm_Ru.go 1 (c' := (81, [.ref 118, .int s2, .int s4, .int 1, .int s163, .int v215], [.ref 118], (h.1, qm_up (qm_up (qm_up h.2.1 183 (v215.toInt.toNat) s4) 184 (v215.toInt.toNat) 1) 185 (v215.toInt.toNat) s163, h.2.2.1, h.2.2.2))) rfl ?_
                    refine hk_getr rfl (hH.1 118 (17, 105) rfl) rfl (hH.2 118 95 (some 182) rfl) ?_
                    refine qm_Ru.go 2 (c' := (86, [.ref 118, .int s2, .int s4, .int 1, .int s163, .int v215], [.int s2, .ref 182, .int s2, .ref 182], (h.1, qm_up (qm_up (qm_up h.2.1 183 (v215.toInt.toNat) s4) 184 (v215.toInt.toNat) 1) 185 (v215.toInt.toNat) s163, h.2.2.1, h.2.2.2))) rfl ?_
                    refine hk_ial (v := v203) rfl (hH.1 182 (0, 2) rfl) (by omega) (by omega) (show (qm_up (qm_up (qm_up h.2.1 183 (v215.toInt.toNat) s4) 184 (v215.toInt.toNat) 1) 185 (v215.toInt.toNat) s163) 182 (s2.toInt.toNat) = _ from ((hk_ot rfl).trans ((hk_ot rfl).trans ((hk_ot rfl).trans q_v203)))) ?_
                    refine qm_Ru.go 2 (c' := (89, [.ref 118, .int s2, .int s4, .int 1, .int s163, .int v215], [.int (v203 + 1), .int s2, .ref 182], (h.1, qm_up (qm_up (qm_up h.2.1 183 (v215.toInt.toNat) s4) 184 (v215.toInt.toNat) 1) 185 (v215.toInt.toNat) s163, h.2.2.1, h.2.2.2))) rfl ?_
                    obtain ⟨v216, q_v216⟩ : ∃ v_, (v203 + 1) = v_ := ⟨_, rfl⟩
                    rw [q_v216]
                    refine hk_ias rfl (hH.1 182 (0, 2) rfl) (by omega) (by omega) ?_
                    refine qm_Ru.go 1 (c' := (91, [.ref 118, .int s2, .int s4, .int 1, .int s163, .int v215], [.ref 118], (h.1, qm_up (qm_up (qm_up (qm_up h.2.1 183 (v215.toInt.toNat) s4) 184 (v215.toInt.toNat) 1) 185 (v215.toInt.toNat) s163) 182 (s2.toInt.toNat) v216, h.2.2.1, h.2.2.2))) rfl ?_
                    refine hk_getr rfl (hH.1 118 (17, 105) rfl) rfl (hH.2 118 95 (some 182) rfl) ?_
                    refine qm_Ru.go 1 (c' := (95, [.ref 118, .int s2, .int s4, .int 1, .int s163, .int v215], [.int s2, .ref 182], (h.1, qm_up (qm_up (qm_up (qm_up h.2.1 183 (v215.toInt.toNat) s4) 184 (v215.toInt.toNat) 1) 185 (v215.toInt.toNat) s163) 182 (s2.toInt.toNat) v216, h.2.2.1, h.2.2.2))) rfl ?_
                    refine hk_ial (v := v216) rfl (hH.1 182 (0, 2) rfl) (by omega) (by omega) (show (qm_up (qm_up (qm_up (qm_up h.2.1 183 (v215.toInt.toNat) s4) 184 (v215.toInt.toNat) 1) 185 (v215.toInt.toNat) s163) 182 (s2.toInt.toNat) v216) 182 (s2.toInt.toNat) = _ from (hk_same)) ?_
                    refine qm_Ru.go 2 (c' := (98, [.ref 118, .int s2, .int s4, .int 1, .int s163, .int v215], [.int (v216 - 1)], (h.1, qm_up (qm_up (qm_up (qm_up h.2.1 183 (v215.toInt.toNat) s4) 184 (v215.toInt.toNat) 1) 185 (v215.toInt.toNat) s163) 182 (s2.toInt.toNat) v216, h.2.2.1, h.2.2.2))) rfl ?_
                    obtain ⟨v217, q_v217⟩ : ∃ v_, (v216 - 1) = v_ := ⟨_, rfl⟩
                    rw [q_v217]
                    refine qm_Ru.rt (v := (some (.int v217))) (h' := (h.1, qm_up (qm_up (qm_up (qm_up h.2.1 183 (v215.toInt.toNat) s4) 184 (v215.toInt.toNat) 1) 185 (v215.toInt.toNat) s163) 182 (s2.toInt.toNat) v216, h.2.2.1, h.2.2.2)) rfl ?_
                    refine qm_Ru.go 3 (c' := (2081, [.retAddr 0, .ref 0, .ref 118, .int (i + 6)], [], (h.1, qm_up (qm_up (qm_up (qm_up h.2.1 183 (v215.toInt.toNat) s4) 184 (v215.toInt.toNat) 1) 185 (v215.toInt.toNat) s163) 182 (s2.toInt.toNat) v216, h.2.2.1, h.2.2.2))) rfl ?_
                    obtain ⟨v218, q_v218, e_v218⟩ := hk_add (x := i) (y := 6) (a := i.toInt) (b := 6) rfl rfl (by omega) (by omega)
                    rw [q_v218]
                    refine qm_Ru.go 1 (c' := (18, [.retAddr 0, .ref 0, .ref 118, .int v218], [], (h.1, qm_up (qm_up (qm_up (qm_up h.2.1 183 (v215.toInt.toNat) s4) 184 (v215.toInt.toNat) 1) 185 (v215.toInt.toNat) s163) 182 (s2.toInt.toNat) v216, h.2.2.1, h.2.2.2))) rfl ?_
                    exfalso
                    omega
          · refine qm_Ru.go 2 (c' := (17, [.ref 6, .int s4], [.int 1], h)) rfl ?_
            refine qm_Ru.rt (v := (some (.int 1))) (h' := h) rfl ?_
            refine qm_Ru.go 2 (c' := (21, [.ref 0, .int s2, .int s4, .int 1, .int s163], [.int s163], h)) rfl ?_
            refine hk_zlt (ix := s163.toInt) rfl rfl (fun z219 => ?_) (fun z219 => ?_)
            · refine qm_Ru.go 1 (c' := (33, [.ref 0, .int s2, .int s4, .int 1, .int s163], [.int (-1)], h)) rfl ?_
              refine qm_Ru.rt (v := (some (.int (-1)))) (h' := h) rfl ?_
              refine qm_Ru.go 6 (c' := (1823, [.retAddr 0, .ref 0, .ref 118, .int i], [.int (i + 1), .retAddr 0, .ref 118], h)) rfl ?_
              rw [q_v1]
              refine hk_scr (v := s2) rfl (by omega) (by omega) q_s2 ?_
              refine qm_Ru.go 4 (c' := (1828, [.retAddr 0, .ref 0, .ref 118, .int i], [.int (i + 2), .retAddr 0, .int s2, .ref 118], h)) rfl ?_
              rw [q_v3]
              refine hk_scr (v := s4) rfl (by omega) (by omega) q_s4 ?_
              refine qm_Ru.go 4 (c' := (1833, [.retAddr 0, .ref 0, .ref 118, .int i], [.int (i + 3), .retAddr 0, .int s4, .int s2, .ref 118], h)) rfl ?_
              rw [q_v5]
              refine hk_scr (v := s6) rfl (by omega) (by omega) q_s6 ?_
              refine qm_Ru.go 0 (c' := (1834, [.retAddr 0, .ref 0, .ref 118, .int i], [.int s6, .int s4, .int s2, .ref 118], h)) rfl ?_
              refine hk_zeq (ix := s6.toInt) rfl rfl (fun z223 => by exfalso; omega) (fun z223 => ?_)
              refine qm_Ru.go 6 (c' := (1846, [.retAddr 0, .ref 0, .ref 118, .int i], [.int (i + 4), .retAddr 0, .int 1, .int s4, .int s2, .ref 118], h)) rfl ?_
              rw [q_v162]
              refine hk_scr (v := s163) rfl (by omega) (by omega) q_s163 ?_
              refine qm_Ru.go 0 (c' := (1847, [.retAddr 0, .ref 0, .ref 118, .int i], [.int s163, .int 1, .int s4, .int s2, .ref 118], h)) rfl ?_
              refine hk_inv (o := 118) (r := []) (as := [.ref 118, .int s2, .int s4, .int 1, .int s163]) rfl rfl (hH.1 118 (17, 105) rfl) rfl rfl rfl rfl ?_
              refine qm_Ru.go 3 (c' := (3, [.ref 118, .int s2, .int s4, .int 1, .int s163, .float 0], [.int 1, .int 0, .int s2], h)) rfl ?_
              refine qm_Ru.call (j := 270) (as := [.int s2, .int 0, .int 1]) (c' := (6, [.ref 118, .int s2, .int s4, .int 1, .int s163, .float 0], [], h)) rfl rfl rfl ?_
              refine qm_Ru.go 2 (c' := (2, [.int s2, .int 0, .int 1], [.int 0, .int s2], h)) rfl ?_
              refine hk_clt (ix := s2.toInt) (iy := 0) rfl rfl rfl (fun z225 => by exfalso; omega) (fun z225 => ?_)
              refine qm_Ru.go 2 (c' := (7, [.int s2, .int 0, .int 1], [.int 1, .int s2], h)) rfl ?_
              refine hk_cgt (ix := s2.toInt) (iy := 1) rfl rfl rfl (fun z226 => by exfalso; omega) (fun z226 => ?_)
              refine qm_Ru.go 2 (c' := (15, [.int s2, .int 0, .int 1], [.int 1], h)) rfl ?_
              refine qm_Ru.rt (v := (some (.int 1))) (h' := h) rfl ?_
              refine qm_Ru.go 2 (c' := (10, [.ref 118, .int s2, .int s4, .int 1, .int s163, .float 0], [.ref 118], h)) rfl ?_
              refine hk_getr rfl (hH.1 118 (17, 105) rfl) rfl (hH.2 118 95 (some 182) rfl) ?_
              refine qm_Ru.go 1 (c' := (14, [.ref 118, .int s2, .int s4, .int 1, .int s163, .float 0], [.int s2, .ref 182], h)) rfl ?_
              obtain ⟨v227, q_v227⟩ : ∃ v_, h.2.1 182 (s2.toInt.toNat) = v_ := ⟨_, rfl⟩
              refine hk_ial (v := v227) rfl (hH.1 182 (0, 2) rfl) (by omega) (by omega) q_v227 ?_
              refine qm_Ru.go 1 (c' := (17, [.ref 118, .int s2, .int s4, .int 1, .int s163, .float 0], [.int 30, .int v227], h)) rfl ?_
              refine hk_ceq (ix := v227.toInt) (iy := 30) rfl rfl rfl (fun z228 => ?_) (fun z228 => ?_)
              · refine qm_Ru.go 1 (c' := (41, [.ref 118, .int s2, .int s4, .int 1, .int s163, .float 0], [.int (-1)], h)) rfl ?_
                refine qm_Ru.rt (v := (some (.int (-1)))) (h' := h) rfl ?_
                refine qm_Ru.go 3 (c' := (2081, [.retAddr 0, .ref 0, .ref 118, .int (i + 6)], [], h)) rfl ?_
                obtain ⟨v229, q_v229, e_v229⟩ := hk_add (x := i) (y := 6) (a := i.toInt) (b := 6) rfl rfl (by omega) (by omega)
                rw [q_v229]
                refine qm_Ru.go 1 (c' := (18, [.retAddr 0, .ref 0, .ref 118, .int v229], [], h)) rfl ?_
                have hG : gR (h.2.1) := hS.2
                have hS1 : gS (h.1, h.2.1, h.2.2.1, h.2.2.2) := hS.1
                have hS2 : gS2 (h.1, h.2.1, h.2.2.1, h.2.2.2) := ⟨hS1, hG⟩
                have hX3 : gX (h.1, h.2.1, h.2.2.1, h.2.2.2) := hX
                have hZ3 : (gZB tb) (h.1, h.2.1, h.2.2.1, h.2.2.2) := hZ
                exact hE _ v229 (by omega) (qa_Inv_of0 ⟨hH.1, hH.2⟩ hB ⟨⟨⟨hS2, hX3⟩, hZ3⟩, t⟩ (gS2_ru hS2))
              · refine qm_Ru.go 2 (c' := (22, [.ref 118, .int s2, .int s4, .int 1, .int s163, .float 0], [.int s4, .ref 118], h)) rfl ?_
                refine hk_inv (o := 118) (r := []) (as := [.ref 118, .int s4]) rfl rfl (hH.1 118 (17, 105) rfl) rfl rfl rfl rfl ?_
                refine qm_Ru.go 3 (c' := (3, [.ref 118, .int s4], [.ref 118, .int 0, .int s4], h)) rfl ?_
                refine hk_geti (v := c0) rfl (hH.1 118 (17, 105) rfl) rfl p_c0 ?_
                refine qm_Ru.go 2 (c' := (8, [.ref 118, .int s4], [.int (c0 - 1), .int 0, .int s4], h)) rfl ?_
                obtain ⟨v230, q_v230, e_v230⟩ := hk_sub (x := c0) (y := 1) (a := c0.toInt) (b := 1) rfl rfl (by omega) (by omega)
                rw [q_v230]
                refine qm_Ru.call (j := 270) (as := [.int s4, .int 0, .int v230]) (c' := (11, [.ref 118, .int s4], [], h)) rfl rfl rfl ?_
                refine qm_Ru.go 2 (c' := (2, [.int s4, .int 0, .int v230], [.int 0, .int s4], h)) rfl ?_
                refine hk_clt (ix := s4.toInt) (iy := 0) rfl rfl rfl (fun z231 => by exfalso; omega) (fun z231 => ?_)
                refine qm_Ru.go 2 (c' := (7, [.int s4, .int 0, .int v230], [.int v230, .int s4], h)) rfl ?_
                refine hk_cgt (ix := s4.toInt) (iy := v230.toInt) rfl rfl rfl (fun z232 => ?_) (fun z232 => ?_)
                · refine qm_Ru.go 1 (c' := (15, [.int s4, .int 0, .int v230], [.int 0], h)) rfl ?_
                  refine qm_Ru.rt (v := (some (.int 0))) (h' := h) rfl ?_
                  refine qm_Ru.go 0 (c' := (11, [.ref 118, .int s4], [.int 0], h)) rfl ?_
                  refine qm_Ru.rt (v := (some (.int 0))) (h' := h) rfl ?_
                  refine qm_Ru.go 2 (c' := (41, [.ref 118, .int s2, .int s4, .int 1, .int s163, .float 0], [.int (-1)], h)) rfl ?_
                  refine qm_Ru.rt (v := (some (.int (-1)))) (h' := h) rfl ?_
                  refine qm_Ru.go 3 (c' := (2081, [.retAddr 0, .ref 0, .ref 118, .int (i + 6)], [], h)) rfl ?_
                  obtain ⟨v233, q_v233, e_v233⟩ := hk_add (x := i) (y := 6) (a := i.toInt) (b := 6) rfl rfl (by omega) (by omega)
                  rw [q_v233]
                  refine qm_Ru.go 1 (c' := (18, [.retAddr 0, .ref 0, .ref 118, .int v233], [], h)) rfl ?_
                  have hG : gR (h.2.1) := hS.2
                  have hS1 : gS (h.1, h.2.1, h.2.2.1, h.2.2.2) := hS.1
                  have hS2 : gS2 (h.1, h.2.1, h.2.2.1, h.2.2.2) := ⟨hS1, hG⟩
                  have hX3 : gX (h.1, h.2.1, h.2.2.1, h.2.2.2) := hX
                  have hZ3 : (gZB tb) (h.1, h.2.1, h.2.2.1, h.2.2.2) := hZ
                  exact hE _ v233 (by omega) (qa_Inv_of0 ⟨hH.1, hH.2⟩ hB ⟨⟨⟨hS2, hX3⟩, hZ3⟩, t⟩ (gS2_ru hS2))
                · refine qm_Ru.go 2 (c' := (15, [.int s4, .int 0, .int v230], [.int 1], h)) rfl ?_
                  refine qm_Ru.rt (v := (some (.int 1))) (h' := h) rfl ?_
                  refine qm_Ru.go 0 (c' := (11, [.ref 118, .int s4], [.int 1], h)) rfl ?_
                  refine qm_Ru.rt (v := (some (.int 1))) (h' := h) rfl ?_
                  refine qm_Ru.go 4 (c' := (34, [.ref 118, .int s2, .int s4, .int 1, .int s163, .float 0], [.int 9999, .int 0, .int s163], h)) rfl ?_
                  refine qm_Ru.call (j := 270) (as := [.int s163, .int 0, .int 9999]) (c' := (37, [.ref 118, .int s2, .int s4, .int 1, .int s163, .float 0], [], h)) rfl rfl rfl ?_
                  refine qm_Ru.go 2 (c' := (2, [.int s163, .int 0, .int 9999], [.int 0, .int s163], h)) rfl ?_
                  refine hk_clt (ix := s163.toInt) (iy := 0) rfl rfl rfl (fun z234 => ?_) (fun z234 => by exfalso; omega)
                  refine qm_Ru.go 1 (c' := (15, [.int s163, .int 0, .int 9999], [.int 0], h)) rfl ?_
                  refine qm_Ru.rt (v := (some (.int 0))) (h' := h) rfl ?_
                  refine qm_Ru.go 2 (c' := (41, [.ref 118, .int s2, .int s4, .int 1, .int s163, .float 0], [.int (-1)], h)) rfl ?_
                  refine qm_Ru.rt (v := (some (.int (-1)))) (h' := h) rfl ?_
                  refine qm_Ru.go 3 (c' := (2081, [.retAddr 0, .ref 0, .ref 118, .int (i + 6)], [], h)) rfl ?_
                  obtain ⟨v235, q_v235, e_v235⟩ := hk_add (x := i) (y := 6) (a := i.toInt) (b := 6) rfl rfl (by omega) (by omega)
                  rw [q_v235]
                  refine qm_Ru.go 1 (c' := (18, [.retAddr 0, .ref 0, .ref 118, .int v235], [], h)) rfl ?_
                  have hG : gR (h.2.1) := hS.2
                  have hS1 : gS (h.1, h.2.1, h.2.2.1, h.2.2.2) := hS.1
                  have hS2 : gS2 (h.1, h.2.1, h.2.2.1, h.2.2.2) := ⟨hS1, hG⟩
                  have hX3 : gX (h.1, h.2.1, h.2.2.1, h.2.2.2) := hX
                  have hZ3 : (gZB tb) (h.1, h.2.1, h.2.2.1, h.2.2.2) := hZ
                  exact hE _ v235 (by omega) (qa_Inv_of0 ⟨hH.1, hH.2⟩ hB ⟨⟨⟨hS2, hX3⟩, hZ3⟩, t⟩ (gS2_ru hS2))
            · refine qm_Ru.go 2 (c' := (29, [.ref 0, .int s2, .int s4, .int 1, .int s163], [.int 9999, .int s163], h)) rfl ?_
              refine hk_cle (ix := s163.toInt) (iy := 9999) rfl rfl rfl (fun z236 => ?_) (fun z236 => ?_)
              · refine qm_Ru.go 1 (c' := (35, [.ref 0, .int s2, .int s4, .int 1, .int s163], [.ref 0], h)) rfl ?_
                refine hk_getr rfl (hH.1 0 (16, 10) rfl) rfl (hH.2 0 8 (some 98) rfl) ?_
                refine qm_Ru.go 4 (c' := (43, [.ref 0, .int s2, .int s4, .int 1, .int s163], [.int s163, .int 1, .int s4, .int s2, .ref 98], h)) rfl ?_
                rcases (show s2.toInt = 0 ∨ s2.toInt = 1 from by omega) with gb | gb
                · obtain ⟨y237, q_y237⟩ : ∃ v, h.2.1 99 (s2.toInt.toNat) = v := ⟨_, rfl⟩
                  have b_y237 : (0 : Int) ≤ y237.toInt ∧ y237.toInt ≤ 30 := by rw [← q_y237, show s2.toInt.toNat = 0 from by omega]; exact hB 99 0
                  refine hk_inv (o := 98) (r := []) (as := [.ref 98, .int s2, .int s4, .int 1, .int s163]) rfl rfl (hH.1 98 (5, 6) rfl) rfl rfl rfl rfl ?_
                  refine qm_Ru.go 1 (c' := (1, [.ref 98, .int s2, .int s4, .int 1, .int s163, .float 0], [.ref 98], h)) rfl ?_
                  refine hk_getr rfl (hH.1 98 (5, 6) rfl) rfl (hH.2 98 0 (some 99) rfl) ?_
                  refine qm_Ru.go 1 (c' := (5, [.ref 98, .int s2, .int s4, .int 1, .int s163, .float 0], [.int s2, .ref 99], h)) rfl ?_
                  refine hk_ial (v := y237) rfl (hH.1 99 (0, 2) rfl) (by omega) (by omega) q_y237 ?_
                  refine qm_Ru.go 3 (c' := (12, [.ref 98, .int s2, .int s4, .int 1, .int s163, .int y237], [.int 30, .int y237], h)) rfl ?_
                  refine hk_clt (ix := y237.toInt) (iy := 30) rfl rfl rfl (fun z238 => ?_) (fun z238 => ?_)
                  · refine qm_Ru.go 1 (c' := (18, [.ref 98, .int s2, .int s4, .int 1, .int s163, .int y237], [.ref 98], h)) rfl ?_
                    refine hk_getr rfl (hH.1 98 (5, 6) rfl) rfl (hH.2 98 2 (some 101) rfl) ?_
                    refine qm_Ru.go 1 (c' := (22, [.ref 98, .int s2, .int s4, .int 1, .int s163, .int y237], [.int s2, .ref 101], h)) rfl ?_
                    refine hk_aal rfl (hH.1 101 (4, 2) rfl) (by omega) (by omega) (by rw [show s2.toInt.toNat = 0 from by omega]; exact (hH.2 101 0 (some 102) rfl)) ?_
                    refine qm_Ru.go 2 (c' := (26, [.ref 98, .int s2, .int s4, .int 1, .int s163, .int y237], [.int s4, .int y237, .ref 102], h)) rfl ?_
                    refine hk_ias rfl (hH.1 102 (0, 30) rfl) (by omega) (by omega) ?_
                    refine qm_Ru.go 1 (c' := (28, [.ref 98, .int s2, .int s4, .int 1, .int s163, .int y237], [.ref 98], (h.1, qm_up h.2.1 102 (y237.toInt.toNat) s4, h.2.2.1, h.2.2.2))) rfl ?_
                    refine hk_getr rfl (hH.1 98 (5, 6) rfl) rfl (hH.2 98 3 (some 104) rfl) ?_
                    refine qm_Ru.go 1 (c' := (32, [.ref 98, .int s2, .int s4, .int 1, .int s163, .int y237], [.int s2, .ref 104], (h.1, qm_up h.2.1 102 (y237.toInt.toNat) s4, h.2.2.1, h.2.2.2))) rfl ?_
                    refine hk_aal rfl (hH.1 104 (4, 2) rfl) (by omega) (by omega) (by rw [show s2.toInt.toNat = 0 from by omega]; exact (hH.2 104 0 (some 105) rfl)) ?_
                    refine qm_Ru.go 5 (c' := (44, [.ref 98, .int s2, .int s4, .int 1, .int s163, .int y237], [.int 1, .int y237, .ref 105], (h.1, qm_up h.2.1 102 (y237.toInt.toNat) s4, h.2.2.1, h.2.2.2))) rfl ?_
                    refine hk_ias rfl (hH.1 105 (0, 30) rfl) (by omega) (by omega) ?_
                    refine qm_Ru.go 1 (c' := (46, [.ref 98, .int s2, .int s4, .int 1, .int s163, .int y237], [.ref 98], (h.1, qm_up (qm_up h.2.1 102 (y237.toInt.toNat) s4) 105 (y237.toInt.toNat) 1, h.2.2.1, h.2.2.2))) rfl ?_
                    refine hk_getr rfl (hH.1 98 (5, 6) rfl) rfl (hH.2 98 4 (some 107) rfl) ?_
                    refine qm_Ru.go 1 (c' := (50, [.ref 98, .int s2, .int s4, .int 1, .int s163, .int y237], [.int s2, .ref 107], (h.1, qm_up (qm_up h.2.1 102 (y237.toInt.toNat) s4) 105 (y237.toInt.toNat) 1, h.2.2.1, h.2.2.2))) rfl ?_
                    refine hk_aal rfl (hH.1 107 (4, 2) rfl) (by omega) (by omega) (by rw [show s2.toInt.toNat = 0 from by omega]; exact (hH.2 107 0 (some 108) rfl)) ?_
                    refine qm_Ru.go 2 (c' := (55, [.ref 98, .int s2, .int s4, .int 1, .int s163, .int y237], [.int s163, .int y237, .ref 108], (h.1, qm_up (qm_up h.2.1 102 (y237.toInt.toNat) s4) 105 (y237.toInt.toNat) 1, h.2.2.1, h.2.2.2))) rfl ?_
                    refine hk_ias rfl (hH.1 108 (0, 30) rfl) (by omega) (by omega) ?_
                    refine qm_Ru.go 1 (c' := (57, [.ref 98, .int s2, .int s4, .int 1, .int s163, .int y237], [.ref 98], (h.1, qm_up (qm_up (qm_up h.2.1 102 (y237.toInt.toNat) s4) 105 (y237.toInt.toNat) 1) 108 (y237.toInt.toNat) s163, h.2.2.1, h.2.2.2))) rfl ?_
                    refine hk_getr rfl (hH.1 98 (5, 6) rfl) rfl (hH.2 98 0 (some 99) rfl) ?_
                    refine qm_Ru.go 2 (c' := (62, [.ref 98, .int s2, .int s4, .int 1, .int s163, .int y237], [.int s2, .ref 99, .int s2, .ref 99], (h.1, qm_up (qm_up (qm_up h.2.1 102 (y237.toInt.toNat) s4) 105 (y237.toInt.toNat) 1) 108 (y237.toInt.toNat) s163, h.2.2.1, h.2.2.2))) rfl ?_
                    refine hk_ial (v := y237) rfl (hH.1 99 (0, 2) rfl) (by omega) (by omega) (show (qm_up (qm_up (qm_up h.2.1 102 (y237.toInt.toNat) s4) 105 (y237.toInt.toNat) 1) 108 (y237.toInt.toNat) s163) 99 (s2.toInt.toNat) = _ from ((hk_ot rfl).trans ((hk_ot rfl).trans ((hk_ot rfl).trans q_y237)))) ?_
                    refine qm_Ru.go 2 (c' := (65, [.ref 98, .int s2, .int s4, .int 1, .int s163, .int y237], [.int (y237 + 1), .int s2, .ref 99], (h.1, qm_up (qm_up (qm_up h.2.1 102 (y237.toInt.toNat) s4) 105 (y237.toInt.toNat) 1) 108 (y237.toInt.toNat) s163, h.2.2.1, h.2.2.2))) rfl ?_
                    obtain ⟨v239, q_v239, e_v239⟩ := hk_add (x := y237) (y := 1) (a := y237.toInt) (b := 1) rfl rfl (by omega) (by omega)
                    rw [q_v239]
                    refine hk_ias rfl (hH.1 99 (0, 2) rfl) (by omega) (by omega) ?_
                    refine qm_Ru.go 1 (c' := (68, [.ref 98, .int s2, .int s4, .int 1, .int s163, .int y237], [.int y237], (h.1, qm_up (qm_up (qm_up (qm_up h.2.1 102 (y237.toInt.toNat) s4) 105 (y237.toInt.toNat) 1) 108 (y237.toInt.toNat) s163) 99 (s2.toInt.toNat) v239, h.2.2.1, h.2.2.2))) rfl ?_
                    refine qm_Ru.rt (v := (some (.int y237))) (h' := (h.1, qm_up (qm_up (qm_up (qm_up h.2.1 102 (y237.toInt.toNat) s4) 105 (y237.toInt.toNat) 1) 108 (y237.toInt.toNat) s163) 99 (s2.toInt.toNat) v239, h.2.2.1, h.2.2.2)) rfl ?_
                    refine qm_Ru.go 0 (c' := (46, [.ref 0, .int s2, .int s4, .int 1, .int s163], [.int y237], (h.1, qm_up (qm_up (qm_up (qm_up h.2.1 102 (y237.toInt.toNat) s4) 105 (y237.toInt.toNat) 1) 108 (y237.toInt.toNat) s163) 99 (s2.toInt.toNat) v239, h.2.2.1, h.2.2.2))) rfl ?_
                    refine qm_Ru.rt (v := (some (.int y237))) (h' := (h.1, qm_up (qm_up (qm_up (qm_up h.2.1 102 (y237.toInt.toNat) s4) 105 (y237.toInt.toNat) 1) 108 (y237.toInt.toNat) s163) 99 (s2.toInt.toNat) v239, h.2.2.1, h.2.2.2)) rfl ?_
                    refine qm_Ru.go 6 (c' := (1823, [.retAddr 0, .ref 0, .ref 118, .int i], [.int (i + 1), .retAddr 0, .ref 118], (h.1, qm_up (qm_up (qm_up (qm_up h.2.1 102 (y237.toInt.toNat) s4) 105 (y237.toInt.toNat) 1) 108 (y237.toInt.toNat) s163) 99 (s2.toInt.toNat) v239, h.2.2.1, h.2.2.2))) rfl ?_
                    rw [q_v1]
                    refine hk_scr (v := s2) rfl (by omega) (by omega) q_s2 ?_
                    refine qm_Ru.go 4 (c' := (1828, [.retAddr 0, .ref 0, .ref 118, .int i], [.int (i + 2), .retAddr 0, .int s2, .ref 118], (h.1, qm_up (qm_up (qm_up (qm_up h.2.1 102 (y237.toInt.toNat) s4) 105 (y237.toInt.toNat) 1) 108 (y237.toInt.toNat) s163) 99 (s2.toInt.toNat) v239, h.2.2.1, h.2.2.2))) rfl ?_
                    rw [q_v3]
                    refine hk_scr (v := s4) rfl (by omega) (by omega) q_s4 ?_
                    refine qm_Ru.go 4 (c' := (1833, [.retAddr 0, .ref 0, .ref 118, .int i], [.int (i + 3), .retAddr 0, .int s4, .int s2, .ref 118], (h.1, qm_up (qm_up (qm_up (qm_up h.2.1 102 (y237.toInt.toNat) s4) 105 (y237.toInt.toNat) 1) 108 (y237.toInt.toNat) s163) 99 (s2.toInt.toNat) v239, h.2.2.1, h.2.2.2))) rfl ?_
                    rw [q_v5]
                    refine hk_scr (v := s6) rfl (by omega) (by omega) q_s6 ?_
                    refine qm_Ru.go 0 (c' := (1834, [.retAddr 0, .ref 0, .ref 118, .int i], [.int s6, .int s4, .int s2, .ref 118], (h.1, qm_up (qm_up (qm_up (qm_up h.2.1 102 (y237.toInt.toNat) s4) 105 (y237.toInt.toNat) 1) 108 (y237.toInt.toNat) s163) 99 (s2.toInt.toNat) v239, h.2.2.1, h.2.2.2))) rfl ?_
                    refine hk_zeq (ix := s6.toInt) rfl rfl (fun z243 => by exfalso; omega) (fun z243 => ?_)
                    refine qm_Ru.go 6 (c' := (1846, [.retAddr 0, .ref 0, .ref 118, .int i], [.int (i + 4), .retAddr 0, .int 1, .int s4, .int s2, .ref 118], (h.1, qm_up (qm_up (qm_up (qm_up h.2.1 102 (y237.toInt.toNat) s4) 105 (y237.toInt.toNat) 1) 108 (y237.toInt.toNat) s163) 99 (s2.toInt.toNat) v239, h.2.2.1, h.2.2.2))) rfl ?_
                    rw [q_v162]
                    refine hk_scr (v := s163) rfl (by omega) (by omega) q_s163 ?_
                    refine qm_Ru.go 0 (c' := (1847, [.retAddr 0, .ref 0, .ref 118, .int i], [.int s163, .int 1, .int s4, .int s2, .ref 118], (h.1, qm_up (qm_up (qm_up (qm_up h.2.1 102 (y237.toInt.toNat) s4) 105 (y237.toInt.toNat) 1) 108 (y237.toInt.toNat) s163) 99 (s2.toInt.toNat) v239, h.2.2.1, h.2.2.2))) rfl ?_
                    refine hk_inv (o := 118) (r := []) (as := [.ref 118, .int s2, .int s4, .int 1, .int s163]) rfl rfl (hH.1 118 (17, 105) rfl) rfl rfl rfl rfl ?_
                    refine qm_Ru.go 3 (c' := (3, [.ref 118, .int s2, .int s4, .int 1, .int s163, .float 0], [.int 1, .int 0, .int s2], (h.1, qm_up (qm_up (qm_up (qm_up h.2.1 102 (y237.toInt.toNat) s4) 105 (y237.toInt.toNat) 1) 108 (y237.toInt.toNat) s163) 99 (s2.toInt.toNat) v239, h.2.2.1, h.2.2.2))) rfl ?_
                    refine qm_Ru.call (j := 270) (as := [.int s2, .int 0, .int 1]) (c' := (6, [.ref 118, .int s2, .int s4, .int 1, .int s163, .float 0], [], (h.1, qm_up (qm_up (qm_up (qm_up h.2.1 102 (y237.toInt.toNat) s4) 105 (y237.toInt.toNat) 1) 108 (y237.toInt.toNat) s163) 99 (s2.toInt.toNat) v239, h.2.2.1, h.2.2.2))) rfl rfl rfl ?_
                    refine qm_Ru.go 2 (c' := (2, [.int s2, .int 0, .int 1], [.int 0, .int s2], (h.1, qm_up (qm_up (qm_up (qm_up h.2.1 102 (y237.toInt.toNat) s4) 105 (y237.toInt.toNat) 1) 108 (y237.toInt.toNat) s163) 99 (s2.toInt.toNat) v239, h.2.2.1, h.2.2.2))) rfl ?_
                    refine hk_clt (ix := s2.toInt) (iy := 0) rfl rfl rfl (fun z245 => by exfalso; omega) (fun z245 => ?_)
                    refine qm_Ru.go 2 (c' := (7, [.int s2, .int 0, .int 1], [.int 1, .int s2], (h.1, qm_up (qm_up (qm_up (qm_up h.2.1 102 (y237.toInt.toNat) s4) 105 (y237.toInt.toNat) 1) 108 (y237.toInt.toNat) s163) 99 (s2.toInt.toNat) v239, h.2.2.1, h.2.2.2))) rfl ?_
                    refine hk_cgt (ix := s2.toInt) (iy := 1) rfl rfl rfl (fun z246 => by exfalso; omega) (fun z246 => ?_)
                    refine qm_Ru.go 2 (c' := (15, [.int s2, .int 0, .int 1], [.int 1], (h.1, qm_up (qm_up (qm_up (qm_up h.2.1 102 (y237.toInt.toNat) s4) 105 (y237.toInt.toNat) 1) 108 (y237.toInt.toNat) s163) 99 (s2.toInt.toNat) v239, h.2.2.1, h.2.2.2))) rfl ?_
                    refine qm_Ru.rt (v := (some (.int 1))) (h' := (h.1, qm_up (qm_up (qm_up (qm_up h.2.1 102 (y237.toInt.toNat) s4) 105 (y237.toInt.toNat) 1) 108 (y237.toInt.toNat) s163) 99 (s2.toInt.toNat) v239, h.2.2.1, h.2.2.2)) rfl ?_
                    refine qm_Ru.go 2 (c' := (10, [.ref 118, .int s2, .int s4, .int 1, .int s163, .float 0], [.ref 118], (h.1, qm_up (qm_up (qm_up (qm_up h.2.1 102 (y237.toInt.toNat) s4) 105 (y237.toInt.toNat) 1) 108 (y237.toInt.toNat) s163) 99 (s2.toInt.toNat) v239, h.2.2.1, h.2.2.2))) rfl ?_
                    refine hk_getr rfl (hH.1 118 (17, 105) rfl) rfl (hH.2 118 95 (some 182) rfl) ?_
                    refine qm_Ru.go 1 (c' := (14, [.ref 118, .int s2, .int s4, .int 1, .int s163, .float 0], [.int s2, .ref 182], (h.1, qm_up (qm_up (qm_up (qm_up h.2.1 102 (y237.toInt.toNat) s4) 105 (y237.toInt.toNat) 1) 108 (y237.toInt.toNat) s163) 99 (s2.toInt.toNat) v239, h.2.2.1, h.2.2.2))) rfl ?_
                    refine hk_ial (v := y237) rfl (hH.1 182 (0, 2) rfl) (by omega) (by omega) (show (qm_up (qm_up (qm_up (qm_up h.2.1 102 (y237.toInt.toNat) s4) 105 (y237.toInt.toNat) 1) 108 (y237.toInt.toNat) s163) 99 (s2.toInt.toNat) v239) 182 (s2.toInt.toNat) = _ from ((hk_ot rfl).trans ((hk_ot rfl).trans ((hk_ot rfl).trans ((hk_ot rfl).trans ((hS.2.2.2.2.1 _).symm.trans q_y237)))))) ?_
                    refine qm_Ru.go 1 (c' := (17, [.ref 118, .int s2, .int s4, .int 1, .int s163, .float 0], [.int 30, .int y237], (h.1, qm_up (qm_up (qm_up (qm_up h.2.1 102 (y237.toInt.toNat) s4) 105 (y237.toInt.toNat) 1) 108 (y237.toInt.toNat) s163) 99 (s2.toInt.toNat) v239, h.2.2.1, h.2.2.2))) rfl ?_
                    refine hk_ceq (ix := y237.toInt) (iy := 30) rfl rfl rfl (fun z247 => by exfalso; omega) (fun z247 => ?_)
                    refine qm_Ru.go 2 (c' := (22, [.ref 118, .int s2, .int s4, .int 1, .int s163, .float 0], [.int s4, .ref 118], (h.1, qm_up (qm_up (qm_up (qm_up h.2.1 102 (y237.toInt.toNat) s4) 105 (y237.toInt.toNat) 1) 108 (y237.toInt.toNat) s163) 99 (s2.toInt.toNat) v239, h.2.2.1, h.2.2.2))) rfl ?_
                    refine hk_inv (o := 118) (r := []) (as := [.ref 118, .int s4]) rfl rfl (hH.1 118 (17, 105) rfl) rfl rfl rfl rfl ?_
                    refine qm_Ru.go 3 (c' := (3, [.ref 118, .int s4], [.ref 118, .int 0, .int s4], (h.1, qm_up (qm_up (qm_up (qm_up h.2.1 102 (y237.toInt.toNat) s4) 105 (y237.toInt.toNat) 1) 108 (y237.toInt.toNat) s163) 99 (s2.toInt.toNat) v239, h.2.2.1, h.2.2.2))) rfl ?_
                    refine hk_geti (v := c0) rfl (hH.1 118 (17, 105) rfl) rfl (show (qm_up (qm_up (qm_up (qm_up h.2.1 102 (y237.toInt.toNat) s4) 105 (y237.toInt.toNat) 1) 108 (y237.toInt.toNat) s163) 99 (s2.toInt.toNat) v239) 118 44 = _ from ((hk_ot rfl).trans ((hk_ot rfl).trans ((hk_ot rfl).trans ((hk_ot rfl).trans p_c0))))) ?_
                    refine qm_Ru.go 2 (c' := (8, [.ref 118, .int s4], [.int (c0 - 1), .int 0, .int s4], (h.1, qm_up (qm_up (qm_up (qm_up h.2.1 102 (y237.toInt.toNat) s4) 105 (y237.toInt.toNat) 1) 108 (y237.toInt.toNat) s163) 99 (s2.toInt.toNat) v239, h.2.2.1, h.2.2.2))) rfl ?_
                    obtain ⟨v248, q_v248, e_v248⟩ := hk_sub (x := c0) (y := 1) (a := c0.toInt) (b := 1) rfl rfl (by omega) (by omega)
                    rw [q_v248]
                    refine qm_Ru.call (j := 270) (as := [.int s4, .int 0, .int v248]) (c' := (11, [.ref 118, .int s4], [], (h.1, qm_up (qm_up (qm_up (qm_up h.2.1 102 (y237.toInt.toNat) s4) 105 (y237.toInt.toNat) 1) 108 (y237.toInt.toNat) s163) 99 (s2.toInt.toNat) v239, h.2.2.1, h.2.2.2))) rfl rfl rfl ?_
                    refine qm_Ru.go 2 (c' := (2, [.int s4, .int 0, .int v248], [.int 0, .int s4], (h.1, qm_up (qm_up (qm_up (qm_up h.2.1 102 (y237.toInt.toNat) s4) 105 (y237.toInt.toNat) 1) 108 (y237.toInt.toNat) s163) 99 (s2.toInt.toNat) v239, h.2.2.1, h.2.2.2))) rfl ?_
                    refine hk_clt (ix := s4.toInt) (iy := 0) rfl rfl rfl (fun z249 => by exfalso; omega) (fun z249 => ?_)
                    refine qm_Ru.go 2 (c' := (7, [.int s4, .int 0, .int v248], [.int v248, .int s4], (h.1, qm_up (qm_up (qm_up (qm_up h.2.1 102 (y237.toInt.toNat) s4) 105 (y237.toInt.toNat) 1) 108 (y237.toInt.toNat) s163) 99 (s2.toInt.toNat) v239, h.2.2.1, h.2.2.2))) rfl ?_
                    refine hk_cgt (ix := s4.toInt) (iy := v248.toInt) rfl rfl rfl (fun z250 => ?_) (fun z250 => ?_)
                    · refine qm_Ru.go 1 (c' := (15, [.int s4, .int 0, .int v248], [.int 0], (h.1, qm_up (qm_up (qm_up (qm_up h.2.1 102 (y237.toInt.toNat) s4) 105 (y237.toInt.toNat) 1) 108 (y237.toInt.toNat) s163) 99 (s2.toInt.toNat) v239, h.2.2.1, h.2.2.2))) rfl ?_
                      refine qm_Ru.rt (v := (some (.int 0))) (h' := (h.1, qm_up (qm_up (qm_up (qm_up h.2.1 102 (y237.toInt.toNat) s4) 105 (y237.toInt.toNat) 1) 108 (y237.toInt.toNat) s163) 99 (s2.toInt.toNat) v239, h.2.2.1, h.2.2.2)) rfl ?_
                      refine qm_Ru.go 0 (c' := (11, [.ref 118, .int s4], [.int 0], (h.1, qm_up (qm_up (qm_up (qm_up h.2.1 102 (y237.toInt.toNat) s4) 105 (y237.toInt.toNat) 1) 108 (y237.toInt.toNat) s163) 99 (s2.toInt.toNat) v239, h.2.2.1, h.2.2.2))) rfl ?_
                      refine qm_Ru.rt (v := (some (.int 0))) (h' := (h.1, qm_up (qm_up (qm_up (qm_up h.2.1 102 (y237.toInt.toNat) s4) 105 (y237.toInt.toNat) 1) 108 (y237.toInt.toNat) s163) 99 (s2.toInt.toNat) v239, h.2.2.1, h.2.2.2)) rfl ?_
                      refine qm_Ru.go 2 (c' := (41, [.ref 118, .int s2, .int s4, .int 1, .int s163, .float 0], [.int (-1)], (h.1, qm_up (qm_up (qm_up (qm_up h.2.1 102 (y237.toInt.toNat) s4) 105 (y237.toInt.toNat) 1) 108 (y237.toInt.toNat) s163) 99 (s2.toInt.toNat) v239, h.2.2.1, h.2.2.2))) rfl ?_
                      refine qm_Ru.rt (v := (some (.int (-1)))) (h' := (h.1, qm_up (qm_up (qm_up (qm_up h.2.1 102 (y237.toInt.toNat) s4) 105 (y237.toInt.toNat) 1) 108 (y237.toInt.toNat) s163) 99 (s2.toInt.toNat) v239, h.2.2.1, h.2.2.2)) rfl ?_
                      refine qm_Ru.go 3 (c' := (2081, [.retAddr 0, .ref 0, .ref 118, .int (i + 6)], [], (h.1, qm_up (qm_up (qm_up (qm_up h.2.1 102 (y237.toInt.toNat) s4) 105 (y237.toInt.toNat) 1) 108 (y237.toInt.toNat) s163) 99 (s2.toInt.toNat) v239, h.2.2.1, h.2.2.2))) rfl ?_
                      obtain ⟨v251, q_v251, e_v251⟩ := hk_add (x := i) (y := 6) (a := i.toInt) (b := 6) rfl rfl (by omega) (by omega)
                      rw [q_v251]
                      refine qm_Ru.go 1 (c' := (18, [.retAddr 0, .ref 0, .ref 118, .int v251], [], (h.1, qm_up (qm_up (qm_up (qm_up h.2.1 102 (y237.toInt.toNat) s4) 105 (y237.toInt.toNat) 1) 108 (y237.toInt.toNat) s163) 99 (s2.toInt.toNat) v239, h.2.2.1, h.2.2.2))) rfl ?_
                      exfalso
                      omega
                    · refine qm_Ru.go 2 (c' := (15, [.int s4, .int 0, .int v248], [.int 1], (h.1, qm_up (qm_up (qm_up (qm_up h.2.1 102 (y237.toInt.toNat) s4) 105 (y237.toInt.toNat) 1) 108 (y237.toInt.toNat) s163) 99 (s2.toInt.toNat) v239, h.2.2.1, h.2.2.2))) rfl ?_
                      refine qm_Ru.rt (v := (some (.int 1))) (h' := (h.1, qm_up (qm_up (qm_up (qm_up h.2.1 102 (y237.toInt.toNat) s4) 105 (y237.toInt.toNat) 1) 108 (y237.toInt.toNat) s163) 99 (s2.toInt.toNat) v239, h.2.2.1, h.2.2.2)) rfl ?_
                      refine qm_Ru.go 0 (c' := (11, [.ref 118, .int s4], [.int 1], (h.1, qm_up (qm_up (qm_up (qm_up h.2.1 102 (y237.toInt.toNat) s4) 105 (y237.toInt.toNat) 1) 108 (y237.toInt.toNat) s163) 99 (s2.toInt.toNat) v239, h.2.2.1, h.2.2.2))) rfl ?_
                      refine qm_Ru.rt (v := (some (.int 1))) (h' := (h.1, qm_up (qm_up (qm_up (qm_up h.2.1 102 (y237.toInt.toNat) s4) 105 (y237.toInt.toNat) 1) 108 (y237.toInt.toNat) s163) 99 (s2.toInt.toNat) v239, h.2.2.1, h.2.2.2)) rfl ?_
                      refine qm_Ru.go 4 (c' := (34, [.ref 118, .int s2, .int s4, .int 1, .int s163, .float 0], [.int 9999, .int 0, .int s163], (h.1, qm_up (qm_up (qm_up (qm_up h.2.1 102 (y237.toInt.toNat) s4) 105 (y237.toInt.toNat) 1) 108 (y237.toInt.toNat) s163) 99 (s2.toInt.toNat) v239, h.2.2.1, h.2.2.2))) rfl ?_
                      refine qm_Ru.call (j := 270) (as := [.int s163, .int 0, .int 9999]) (c' := (37, [.ref 118, .int s2, .int s4, .int 1, .int s163, .float 0], [], (h.1, qm_up (qm_up (qm_up (qm_up h.2.1 102 (y237.toInt.toNat) s4) 105 (y237.toInt.toNat) 1) 108 (y237.toInt.toNat) s163) 99 (s2.toInt.toNat) v239, h.2.2.1, h.2.2.2))) rfl rfl rfl ?_
                      refine qm_Ru.go 2 (c' := (2, [.int s163, .int 0, .int 9999], [.int 0, .int s163], (h.1, qm_up (qm_up (qm_up (qm_up h.2.1 102 (y237.toInt.toNat) s4) 105 (y237.toInt.toNat) 1) 108 (y237.toInt.toNat) s163) 99 (s2.toInt.toNat) v239, h.2.2.1, h.2.2.2))) rfl ?_
                      refine hk_clt (ix := s163.toInt) (iy := 0) rfl rfl rfl (fun z252 => by exfalso; omega) (fun z252 => ?_)
                      refine qm_Ru.go 2 (c' := (7, [.int s163, .int 0, .int 9999], [.int 9999, .int s163], (h.1, qm_up (qm_up (qm_up (qm_up h.2.1 102 (y237.toInt.toNat) s4) 105 (y237.toInt.toNat) 1) 108 (y237.toInt.toNat) s163) 99 (s2.toInt.toNat) v239, h.2.2.1, h.2.2.2))) rfl ?_
                      refine hk_cgt (ix := s163.toInt) (iy := 9999) rfl rfl rfl (fun z253 => by exfalso; omega) (fun z253 => ?_)
                      refine qm_Ru.go 2 (c' := (15, [.int s163, .int 0, .int 9999], [.int 1], (h.1, qm_up (qm_up (qm_up (qm_up h.2.1 102 (y237.toInt.toNat) s4) 105 (y237.toInt.toNat) 1) 108 (y237.toInt.toNat) s163) 99 (s2.toInt.toNat) v239, h.2.2.1, h.2.2.2))) rfl ?_
                      refine qm_Ru.rt (v := (some (.int 1))) (h' := (h.1, qm_up (qm_up (qm_up (qm_up h.2.1 102 (y237.toInt.toNat) s4) 105 (y237.toInt.toNat) 1) 108 (y237.toInt.toNat) s163) 99 (s2.toInt.toNat) v239, h.2.2.1, h.2.2.2)) rfl ?_
                      refine qm_Ru.go 4 (c' := (46, [.ref 118, .int s2, .int s4, .int 1, .int s163, .float 0], [.int (30 * s2)], (h.1, qm_up (qm_up (qm_up (qm_up h.2.1 102 (y237.toInt.toNat) s4) 105 (y237.toInt.toNat) 1) 108 (y237.toInt.toNat) s163) 99 (s2.toInt.toNat) v239, h.2.2.1, h.2.2.2))) rfl ?_
                      obtain ⟨v254, q_v254, e_v254⟩ := hk_mul (x := 30) (y := s2) (a := 30) (b := s2.toInt) rfl rfl (by omega) (by omega)
                      rw [q_v254]
                      refine qm_Ru.go 1 (c' := (47, [.ref 118, .int s2, .int s4, .int 1, .int s163, .float 0], [.ref 118, .int v254], (h.1, qm_up (qm_up (qm_up (qm_up h.2.1 102 (y237.toInt.toNat) s4) 105 (y237.toInt.toNat) 1) 108 (y237.toInt.toNat) s163) 99 (s2.toInt.toNat) v239, h.2.2.1, h.2.2.2))) rfl ?_
                      refine hk_getr rfl (hH.1 118 (17, 105) rfl) rfl (hH.2 118 95 (some 182) rfl) ?_
                      refine qm_Ru.go 1 (c' := (51, [.ref 118, .int s2, .int s4, .int 1, .int s163, .float 0], [.int s2, .ref 182, .int v254], (h.1, qm_up (qm_up (qm_up (qm_up h.2.1 102 (y237.toInt.toNat) s4) 105 (y237.toInt.toNat) 1) 108 (y237.toInt.toNat) s163) 99 (s2.toInt.toNat) v239, h.2.2.1, h.2.2.2))) rfl ?_
                      refine hk_ial (v := y237) rfl (hH.1 182 (0, 2) rfl) (by omega) (by omega) (show (qm_up (qm_up (qm_up (qm_up h.2.1 102 (y237.toInt.toNat) s4) 105 (y237.toInt.toNat) 1) 108 (y237.toInt.toNat) s163) 99 (s2.toInt.toNat) v239) 182 (s2.toInt.toNat) = _ from ((hk_ot rfl).trans ((hk_ot rfl).trans ((hk_ot rfl).trans ((hk_ot rfl).trans ((hS.2.2.2.2.1 _).symm.trans q_y237)))))) ?_
                      refine qm_Ru.go 1 (c' := (53, [.ref 118, .int s2, .int s4, .int 1, .int s163, .float 0], [.int (v254 + y237)], (h.1, qm_up (qm_up (qm_up (qm_up h.2.1 102 (y237.toInt.toNat) s4) 105 (y237.toInt.toNat) 1) 108 (y237.toInt.toNat) s163) 99 (s2.toInt.toNat) v239, h.2.2.1, h.2.2.2))) rfl ?_
                      obtain ⟨v255, q_v255, e_v255⟩ := hk_add (x := v254) (y := y237) (a := v254.toInt) (b := y237.toInt) rfl rfl (by omega) (by omega)
                      rw [q_v255]
                      refine qm_Ru.go 2 (c' := (56, [.ref 118, .int s2, .int s4, .int 1, .int s163, .int v255], [.ref 118], (h.1, qm_up (qm_up (qm_up (qm_up h.2.1 102 (y237.toInt.toNat) s4) 105 (y237.toInt.toNat) 1) 108 (y237.toInt.toNat) s163) 99 (s2.toInt.toNat) v239, h.2.2.1, h.2.2.2))) rfl ?_
                      refine hk_getr rfl (hH.1 118 (17, 105) rfl) rfl (hH.2 118 96 (some 183) rfl) ?_
                      refine qm_Ru.go 2 (c' := (62, [.ref 118, .int s2, .int s4, .int 1, .int s163, .int v255], [.int s4, .int v255, .ref 183], (h.1, qm_up (qm_up (qm_up (qm_up h.2.1 102 (y237.toInt.toNat) s4) 105 (y237.toInt.toNat) 1) 108 (y237.toInt.toNat) s163) 99 (s2.toInt.toNat) v239, h.2.2.1, h.2.2.2))) rfl ?_
                      refine hk_ias rfl (hH.1 183 (0, 60) rfl) (by omega) (by omega) ?_
                      refine qm_Ru.go 1 (c' := (64, [.ref 118, .int s2, .int s4, .int 1, .int s163, .int v255], [.ref 118], (h.1, qm_up (qm_up (qm_up (qm_up (qm_up h.2.1 102 (y237.toInt.toNat) s4) 105 (y237.toInt.toNat) 1) 108 (y237.toInt.toNat) s163) 99 (s2.toInt.toNat) v239) 183 (v255.toInt.toNat) s4, h.2.2.1, h.2.2.2))) rfl ?_
                      refine hk_getr rfl (hH.1 118 (17, 105) rfl) rfl (hH.2 118 97 (some 184) rfl) ?_
                      refine qm_Ru.go 2 (c' := (70, [.ref 118, .int s2, .int s4, .int 1, .int s163, .int v255], [.int 1, .int v255, .ref 184], (h.1, qm_up (qm_up (qm_up (qm_up (qm_up h.2.1 102 (y237.toInt.toNat) s4) 105 (y237.toInt.toNat) 1) 108 (y237.toInt.toNat) s163) 99 (s2.toInt.toNat) v239) 183 (v255.toInt.toNat) s4, h.2.2.1, h.2.2.2))) rfl ?_
                      refine hk_bas rfl (hH.1 184 (2, 60) rfl) (by omega) (by omega) rfl ?_
                      refine qm_Ru.go 1 (c' := (72, [.ref 118, .int s2, .int s4, .int 1, .int s163, .int v255], [.ref 118], (h.1, qm_up (qm_up (qm_up (qm_up (qm_up (qm_up h.2.1 102 (y237.toInt.toNat) s4) 105 (y237.toInt.toNat) 1) 108 (y237.toInt.toNat) s163) 99 (s2.toInt.toNat) v239) 183 (v255.toInt.toNat) s4) 184 (v255.toInt.toNat) 1, h.2.2.1, h.2.2.2))) rfl ?_
                      refine hk_getr rfl (hH.1 118 (17, 105) rfl) rfl (hH.2 118 98 (some 185) rfl) ?_
                      refine qm_Ru.go 2 (c' := (79, [.ref 118, .int s2, .int s4, .int 1, .int s163, .int v255], [.int s163, .int v255, .ref 185], (h.1, qm_up (qm_up (qm_up (qm_up (qm_up (qm_up h.2.1 102 (y237.toInt.toNat) s4) 105 (y237.toInt.toNat) 1) 108 (y237.toInt.toNat) s163) 99 (s2.toInt.toNat) v239) 183 (v255.toInt.toNat) s4) 184 (v255.toInt.toNat) 1, h.2.2.1, h.2.2.2))) rfl ?_
                      refine hk_ias rfl (hH.1 185 (0, 60) rfl) (by omega) (by omega) ?_
                      refine qm_Ru.go 1 (c' := (81, [.ref 118, .int s2, .int s4, .int 1, .int s163, .int v255], [.ref 118], (h.1, qm_up (qm_up (qm_up (qm_up (qm_up (qm_up (qm_up h.2.1 102 (y237.toInt.toNat) s4) 105 (y237.toInt.toNat) 1) 108 (y237.toInt.toNat) s163) 99 (s2.toInt.toNat) v239) 183 (v255.toInt.toNat) s4) 184 (v255.toInt.toNat) 1) 185 (v255.toInt.toNat) s163, h.2.2.1, h.2.2.2))) rfl ?_
                      refine hk_getr rfl (hH.1 118 (17, 105) rfl) rfl (hH.2 118 95 (some 182) rfl) ?_
                      refine qm_Ru.go 2 (c' := (86, [.ref 118, .int s2, .int s4, .int 1, .int s163, .int v255], [.int s2, .ref 182, .int s2, .ref 182], (h.1, qm_up (qm_up (qm_up (qm_up (qm_up (qm_up (qm_up h.2.1 102 (y237.toInt.toNat) s4) 105 (y237.toInt.toNat) 1) 108 (y237.toInt.toNat) s163) 99 (s2.toInt.toNat) v239) 183 (v255.toInt.toNat) s4) 184 (v255.toInt.toNat) 1) 185 (v255.toInt.toNat) s163, h.2.2.1, h.2.2.2))) rfl ?_
                      refine hk_ial (v := y237) rfl (hH.1 182 (0, 2) rfl) (by omega) (by omega) (show (qm_up (qm_up (qm_up (qm_up (qm_up (qm_up (qm_up h.2.1 102 (y237.toInt.toNat) s4) 105 (y237.toInt.toNat) 1) 108 (y237.toInt.toNat) s163) 99 (s2.toInt.toNat) v239) 183 (v255.toInt.toNat) s4) 184 (v255.toInt.toNat) 1) 185 (v255.toInt.toNat) s163) 182 (s2.toInt.toNat) = _ from ((hk_ot rfl).trans ((hk_ot rfl).trans ((hk_ot rfl).trans ((hk_ot rfl).trans ((hk_ot rfl).trans ((hk_ot rfl).trans ((hk_ot rfl).trans ((hS.2.2.2.2.1 _).symm.trans q_y237))))))))) ?_
                      refine qm_Ru.go 2 (c' := (89, [.ref 118, .int s2, .int s4, .int 1, .int s163, .int v255], [.int (y237 + 1), .int s2, .ref 182], (h.1, qm_up (qm_up (qm_up (qm_up (qm_up (qm_up (qm_up h.2.1 102 (y237.toInt.toNat) s4) 105 (y237.toInt.toNat) 1) 108 (y237.toInt.toNat) s163) 99 (s2.toInt.toNat) v239) 183 (v255.toInt.toNat) s4) 184 (v255.toInt.toNat) 1) 185 (v255.toInt.toNat) s163, h.2.2.1, h.2.2.2))) rfl ?_
                      rw [q_v239]
                      refine hk_ias rfl (hH.1 182 (0, 2) rfl) (by omega) (by omega) ?_
                      refine qm_Ru.go 1 (c' := (91, [.ref 118, .int s2, .int s4, .int 1, .int s163, .int v255], [.ref 118], (h.1, qm_up (qm_up (qm_up (qm_up (qm_up (qm_up (qm_up (qm_up h.2.1 102 (y237.toInt.toNat) s4) 105 (y237.toInt.toNat) 1) 108 (y237.toInt.toNat) s163) 99 (s2.toInt.toNat) v239) 183 (v255.toInt.toNat) s4) 184 (v255.toInt.toNat) 1) 185 (v255.toInt.toNat) s163) 182 (s2.toInt.toNat) v239, h.2.2.1, h.2.2.2))) rfl ?_
                      refine hk_getr rfl (hH.1 118 (17, 105) rfl) rfl (hH.2 118 95 (some 182) rfl) ?_
                      refine qm_Ru.go 1 (c' := (95, [.ref 118, .int s2, .int s4, .int 1, .int s163, .int v255], [.int s2, .ref 182], (h.1, qm_up (qm_up (qm_up (qm_up (qm_up (qm_up (qm_up (qm_up h.2.1 102 (y237.toInt.toNat) s4) 105 (y237.toInt.toNat) 1) 108 (y237.toInt.toNat) s163) 99 (s2.toInt.toNat) v239) 183 (v255.toInt.toNat) s4) 184 (v255.toInt.toNat) 1) 185 (v255.toInt.toNat) s163) 182 (s2.toInt.toNat) v239, h.2.2.1, h.2.2.2))) rfl ?_
                      refine hk_ial (v := v239) rfl (hH.1 182 (0, 2) rfl) (by omega) (by omega) (show (qm_up (qm_up (qm_up (qm_up (qm_up (qm_up (qm_up (qm_up h.2.1 102 (y237.toInt.toNat) s4) 105 (y237.toInt.toNat) 1) 108 (y237.toInt.toNat) s163) 99 (s2.toInt.toNat) v239) 183 (v255.toInt.toNat) s4) 184 (v255.toInt.toNat) 1) 185 (v255.toInt.toNat) s163) 182 (s2.toInt.toNat) v239) 182 (s2.toInt.toNat) = _ from (hk_same)) ?_
                      refine qm_Ru.go 2 (c' := (98, [.ref 118, .int s2, .int s4, .int 1, .int s163, .int v255], [.int (v239 - 1)], (h.1, qm_up (qm_up (qm_up (qm_up (qm_up (qm_up (qm_up (qm_up h.2.1 102 (y237.toInt.toNat) s4) 105 (y237.toInt.toNat) 1) 108 (y237.toInt.toNat) s163) 99 (s2.toInt.toNat) v239) 183 (v255.toInt.toNat) s4) 184 (v255.toInt.toNat) 1) 185 (v255.toInt.toNat) s163) 182 (s2.toInt.toNat) v239, h.2.2.1, h.2.2.2))) rfl ?_
                      obtain ⟨v257, q_v257, e_v257⟩ := hk_sub (x := v239) (y := 1) (a := v239.toInt) (b := 1) rfl rfl (by omega) (by omega)
                      rw [q_v257]
                      refine qm_Ru.rt (v := (some (.int v257))) (h' := (h.1, qm_up (qm_up (qm_up (qm_up (qm_up (qm_up (qm_up (qm_up h.2.1 102 (y237.toInt.toNat) s4) 105 (y237.toInt.toNat) 1) 108 (y237.toInt.toNat) s163) 99 (s2.toInt.toNat) v239) 183 (v255.toInt.toNat) s4) 184 (v255.toInt.toNat) 1) 185 (v255.toInt.toNat) s163) 182 (s2.toInt.toNat) v239, h.2.2.1, h.2.2.2)) rfl ?_
                      refine qm_Ru.go 3 (c' := (2081, [.retAddr 0, .ref 0, .ref 118, .int (i + 6)], [], (h.1, qm_up (qm_up (qm_up (qm_up (qm_up (qm_up (qm_up (qm_up h.2.1 102 (y237.toInt.toNat) s4) 105 (y237.toInt.toNat) 1) 108 (y237.toInt.toNat) s163) 99 (s2.toInt.toNat) v239) 183 (v255.toInt.toNat) s4) 184 (v255.toInt.toNat) 1) 185 (v255.toInt.toNat) s163) 182 (s2.toInt.toNat) v239, h.2.2.1, h.2.2.2))) rfl ?_
                      obtain ⟨v258, q_v258, e_v258⟩ := hk_add (x := i) (y := 6) (a := i.toInt) (b := 6) rfl rfl (by omega) (by omega)
                      rw [q_v258]
                      refine qm_Ru.go 1 (c' := (18, [.retAddr 0, .ref 0, .ref 118, .int v258], [], (h.1, qm_up (qm_up (qm_up (qm_up (qm_up (qm_up (qm_up (qm_up h.2.1 102 (y237.toInt.toNat) s4) 105 (y237.toInt.toNat) 1) 108 (y237.toInt.toNat) s163) 99 (s2.toInt.toNat) v239) 183 (v255.toInt.toNat) s4) 184 (v255.toInt.toNat) 1) 185 (v255.toInt.toNat) s163) 182 (s2.toInt.toNat) v239, h.2.2.1, h.2.2.2))) rfl ?_
                      have q9 : h.2.1 99 0 = y237 := by rw [← q_y237, show s2.toInt.toNat = 0 from by omega]
                      have hG : gR (qm_up (qm_up (qm_up (qm_up (qm_up (qm_up (qm_up (qm_up h.2.1 102 (y237.toInt.toNat) s4) 105 (y237.toInt.toNat) 1) 108 (y237.toInt.toNat) s163) 99 (s2.toInt.toNat) v239) 183 (v255.toInt.toNat) s4) 184 (v255.toInt.toNat) 1) 185 (v255.toInt.toNat) s163) 182 (s2.toInt.toNat) v239) := (gR_row0 (I := h.2.1) (I2 := qm_up (qm_up (qm_up (qm_up (qm_up (qm_up (qm_up (qm_up h.2.1 102 (y237.toInt.toNat) s4) 105 (y237.toInt.toNat) 1) 108 (y237.toInt.toNat) s163) 99 (s2.toInt.toNat) v239) 183 (v255.toInt.toNat) s4) 184 (v255.toInt.toNat) 1) 185 (v255.toInt.toNat) s163) 182 (s2.toInt.toNat) v239) (n := y237.toInt.toNat) hS.2 (by rw [q9]; omega) ⟨(hB 99 0).2, (hB 99 1).1⟩ (fun o ho k => ((hk_ot (n_in ho rfl)).trans ((hk_ot (n_in ho rfl)).trans ((hk_ot (n_in ho rfl)).trans ((hk_ot (n_in ho rfl)).trans ((hk_ot (n_in ho rfl)).trans ((hk_ot (n_in ho rfl)).trans ((hk_ot (n_in ho rfl)).trans ((hk_ot (n_in ho rfl)).trans rfl))))))))) (fun o ho k hk => ((hk_ot (n_in ho rfl)).trans ((hk_ot (n_in ho rfl)).trans ((hk_ot (n_in ho rfl)).trans ((hk_ot (n_in ho rfl)).trans ((hk_ot (n_in ho rfl)).trans ((hk_ni (by omega)).trans ((hk_ni (by omega)).trans ((hk_ni (by omega)).trans rfl))))))))) (fun o ho k hk => ((hk_ot (n_in ho rfl)).trans ((hk_ni (by omega)).trans ((hk_ni (by omega)).trans ((hk_ni (by omega)).trans ((hk_ot (n_in ho rfl)).trans ((hk_ot (n_in ho rfl)).trans ((hk_ot (n_in ho rfl)).trans ((hk_ot (n_in ho rfl)).trans rfl))))))))) (fun b hb => ((hk_ot rfl).trans ((hk_ot rfl).trans ((hk_ot rfl).trans ((hk_ot rfl).trans ((hk_ni (by omega)).trans ((hk_ot rfl).trans ((hk_ot rfl).trans ((hk_ot rfl).trans rfl))))))))) (fun b hb => ((hk_ni (by omega)).trans ((hk_ot rfl).trans ((hk_ot rfl).trans ((hk_ot rfl).trans ((hk_ot rfl).trans ((hk_ot rfl).trans ((hk_ot rfl).trans ((hk_ot rfl).trans rfl))))))))) (by omega) ((hk_ot rfl).trans ((hk_ot rfl).trans ((hk_ot rfl).trans ((hk_ot rfl).trans ((hk_ot rfl).trans ((hk_ot rfl).trans ((hk_ot rfl).trans ((hk_ot rfl).trans rfl)))))))) ((hk_ot rfl).trans ((hk_ot rfl).trans ((hk_ot rfl).trans ((hk_ot rfl).trans ((hk_ot rfl).trans ((hk_ot rfl).trans ((hk_ot rfl).trans ((hk_ot rfl).trans rfl)))))))) ((hk_ot rfl).trans ((hk_ot rfl).trans ((hk_ot rfl).trans ((hk_ot rfl).trans ((hk_ot rfl).trans ((hk_ot rfl).trans ((hk_ot rfl).trans ((hk_ot rfl).trans rfl)))))))) ((hk_ot rfl).trans ((hk_ot rfl).trans ((hk_ot rfl).trans ((hk_ot rfl).trans ((hk_ot rfl).trans ((hk_ot rfl).trans ((hk_ot rfl).trans ((hk_ot rfl).trans rfl)))))))) ((hk_ot rfl).trans ((hk_ot rfl).trans ((hk_ot rfl).trans ((hk_ot rfl).trans ((hk_ot rfl).trans ((hk_ot rfl).trans ((hk_ot rfl).trans ((hk_ot rfl).trans rfl)))))))) ((hk_ot rfl).trans ((hk_ot rfl).trans ((hk_ot rfl).trans ((hk_ot rfl).trans ((hk_ot rfl).trans ((hk_ot rfl).trans ((hk_ot rfl).trans ((hk_ot rfl).trans rfl)))))))) ((congrArg Int32.toInt ((hk_ot rfl).trans ((hk_ot rfl).trans ((hk_ot rfl).trans ((hk_ot rfl).trans (hk_equ (by omega))))))).trans (by omega)) (((hk_ot rfl).trans ((hk_ot rfl).trans ((hk_ot rfl).trans ((hk_ot rfl).trans (hk_equ (by omega)))))).trans (hk_equ (by omega)).symm) ⟨((hk_ot rfl).trans ((hk_ot rfl).trans ((hk_ot rfl).trans ((hk_ot rfl).trans ((hk_ot rfl).trans ((hk_ot rfl).trans ((hk_ot rfl).trans hk_same))))))).trans ((hk_ot rfl).trans ((hk_ot rfl).trans ((hk_ot rfl).trans (hk_equ (by omega))))).symm, ((hk_ot rfl).trans ((hk_ot rfl).trans ((hk_ot rfl).trans ((hk_ot rfl).trans ((hk_ot rfl).trans ((hk_ot rfl).trans hk_same)))))).trans ((hk_ot rfl).trans ((hk_ot rfl).trans (hk_equ (by omega)))).symm, ((hk_ot rfl).trans ((hk_ot rfl).trans ((hk_ot rfl).trans ((hk_ot rfl).trans ((hk_ot rfl).trans hk_same))))).trans ((hk_ot rfl).trans (hk_equ (by omega))).symm⟩)
                      have hS1 : gS (h.1, qm_up (qm_up (qm_up (qm_up (qm_up (qm_up (qm_up (qm_up h.2.1 102 (y237.toInt.toNat) s4) 105 (y237.toInt.toNat) 1) 108 (y237.toInt.toNat) s163) 99 (s2.toInt.toNat) v239) 183 (v255.toInt.toNat) s4) 184 (v255.toInt.toNat) 1) 185 (v255.toInt.toNat) s163) 182 (s2.toInt.toNat) v239, h.2.2.1, h.2.2.2) := (gS_upa (gS_upa (gS_upa (gS_upa (gS_upa (gS_upa (gS_upa (gS_upa (show gS (h.1, h.2.1, h.2.2.1, h.2.2.2) from hS.1) (by decide)) (by decide)) (by decide)) (by decide)) (by decide)) (by decide)) (by decide)) (by decide))
                      have hS2 : gS2 (h.1, qm_up (qm_up (qm_up (qm_up (qm_up (qm_up (qm_up (qm_up h.2.1 102 (y237.toInt.toNat) s4) 105 (y237.toInt.toNat) 1) 108 (y237.toInt.toNat) s163) 99 (s2.toInt.toNat) v239) 183 (v255.toInt.toNat) s4) 184 (v255.toInt.toNat) 1) 185 (v255.toInt.toNat) s163) 182 (s2.toInt.toNat) v239, h.2.2.1, h.2.2.2) := ⟨hS1, hG⟩
                      have hX3 : gX (h.1, qm_up (qm_up (qm_up (qm_up (qm_up (qm_up (qm_up (qm_up h.2.1 102 (y237.toInt.toNat) s4) 105 (y237.toInt.toNat) 1) 108 (y237.toInt.toNat) s163) 99 (s2.toInt.toNat) v239) 183 (v255.toInt.toNat) s4) 184 (v255.toInt.toNat) 1) 185 (v255.toInt.toNat) s163) 182 (s2.toInt.toNat) v239, h.2.2.1, h.2.2.2) := ⟨gP_cg hX.1 (fun o ho i => ((hk_ot (n_in ho rfl)).trans ((hk_ot (n_in ho rfl)).trans ((hk_ot (n_in ho rfl)).trans ((hk_ot (n_in ho rfl)).trans ((hk_ot (n_in ho rfl)).trans ((hk_ot (n_in ho rfl)).trans ((hk_ot (n_in ho rfl)).trans ((hk_ot (n_in ho rfl)).trans rfl))))))))) (show (qm_up (qm_up (qm_up (qm_up (qm_up (qm_up (qm_up (qm_up h.2.1 102 (y237.toInt.toNat) s4) 105 (y237.toInt.toNat) 1) 108 (y237.toInt.toNat) s163) 99 (s2.toInt.toNat) v239) 183 (v255.toInt.toNat) s4) 184 (v255.toInt.toNat) 1) 185 (v255.toInt.toNat) s163) 182 (s2.toInt.toNat) v239) 1 1 = h.2.1 1 1 from ((hk_ot rfl).trans ((hk_ot rfl).trans ((hk_ot rfl).trans ((hk_ot rfl).trans ((hk_ot rfl).trans ((hk_ot rfl).trans ((hk_ot rfl).trans ((hk_ot rfl).trans rfl))))))))) (show (qm_up (qm_up (qm_up (qm_up (qm_up (qm_up (qm_up (qm_up h.2.1 102 (y237.toInt.toNat) s4) 105 (y237.toInt.toNat) 1) 108 (y237.toInt.toNat) s163) 99 (s2.toInt.toNat) v239) 183 (v255.toInt.toNat) s4) 184 (v255.toInt.toNat) 1) 185 (v255.toInt.toNat) s163) 182 (s2.toInt.toNat) v239) 3 4 = h.2.1 3 4 from ((hk_ot rfl).trans ((hk_ot rfl).trans ((hk_ot rfl).trans ((hk_ot rfl).trans ((hk_ot rfl).trans ((hk_ot rfl).trans ((hk_ot rfl).trans ((hk_ot rfl).trans rfl))))))))) (show (qm_up (qm_up (qm_up (qm_up (qm_up (qm_up (qm_up (qm_up h.2.1 102 (y237.toInt.toNat) s4) 105 (y237.toInt.toNat) 1) 108 (y237.toInt.toNat) s163) 99 (s2.toInt.toNat) v239) 183 (v255.toInt.toNat) s4) 184 (v255.toInt.toNat) 1) 185 (v255.toInt.toNat) s163) 182 (s2.toInt.toNat) v239) 118 17 = h.2.1 118 17 from ((hk_ot rfl).trans ((hk_ot rfl).trans ((hk_ot rfl).trans ((hk_ot rfl).trans ((hk_ot rfl).trans ((hk_ot rfl).trans ((hk_ot rfl).trans ((hk_ot rfl).trans rfl))))))))), hX.2⟩
                      have hZ3 : (gZB tb) (h.1, qm_up (qm_up (qm_up (qm_up (qm_up (qm_up (qm_up (qm_up h.2.1 102 (y237.toInt.toNat) s4) 105 (y237.toInt.toNat) 1) 108 (y237.toInt.toNat) s163) 99 (s2.toInt.toNat) v239) 183 (v255.toInt.toNat) s4) 184 (v255.toInt.toNat) 1) 185 (v255.toInt.toNat) s163) 182 (s2.toInt.toNat) v239, h.2.2.1, h.2.2.2) := (gZ_cg (h2 := (h.1, qm_up (qm_up (qm_up (qm_up (qm_up (qm_up (qm_up (qm_up h.2.1 102 (y237.toInt.toNat) s4) 105 (y237.toInt.toNat) 1) 108 (y237.toInt.toNat) s163) 99 (s2.toInt.toNat) v239) 183 (v255.toInt.toNat) s4) 184 (v255.toInt.toNat) 1) 185 (v255.toInt.toNat) s163) 182 (s2.toInt.toNat) v239, h.2.2.1, h.2.2.2)) hZ (fun o ho i => ((hk_ot (n_in ho rfl)).trans ((hk_ot (n_in ho rfl)).trans ((hk_ot (n_in ho rfl)).trans ((hk_ot (n_in ho rfl)).trans ((hk_ot (n_in ho rfl)).trans ((hk_ot (n_in ho rfl)).trans ((hk_ot (n_in ho rfl)).trans ((hk_ot (n_in ho rfl)).trans rfl))))))))) (show (qm_up (qm_up (qm_up (qm_up (qm_up (qm_up (qm_up (qm_up h.2.1 102 (y237.toInt.toNat) s4) 105 (y237.toInt.toNat) 1) 108 (y237.toInt.toNat) s163) 99 (s2.toInt.toNat) v239) 183 (v255.toInt.toNat) s4) 184 (v255.toInt.toNat) 1) 185 (v255.toInt.toNat) s163) 182 (s2.toInt.toNat) v239) 6 0 = h.2.1 6 0 from ((hk_ot rfl).trans ((hk_ot rfl).trans ((hk_ot rfl).trans ((hk_ot rfl).trans ((hk_ot rfl).trans ((hk_ot rfl).trans ((hk_ot rfl).trans ((hk_ot rfl).trans rfl))))))))) (fun i _ => show (qm_up (qm_up (qm_up (qm_up (qm_up (qm_up (qm_up (qm_up h.2.1 102 (y237.toInt.toNat) s4) 105 (y237.toInt.toNat) 1) 108 (y237.toInt.toNat) s163) 99 (s2.toInt.toNat) v239) 183 (v255.toInt.toNat) s4) 184 (v255.toInt.toNat) 1) 185 (v255.toInt.toNat) s163) 182 (s2.toInt.toNat) v239) 28 i = h.2.1 28 i from ((hk_ot rfl).trans ((hk_ot rfl).trans ((hk_ot rfl).trans ((hk_ot rfl).trans ((hk_ot rfl).trans ((hk_ot rfl).trans ((hk_ot rfl).trans ((hk_ot rfl).trans rfl))))))))) (fun i _ => show (qm_up (qm_up (qm_up (qm_up (qm_up (qm_up (qm_up (qm_up h.2.1 102 (y237.toInt.toNat) s4) 105 (y237.toInt.toNat) 1) 108 (y237.toInt.toNat) s163) 99 (s2.toInt.toNat) v239) 183 (v255.toInt.toNat) s4) 184 (v255.toInt.toNat) 1) 185 (v255.toInt.toNat) s163) 182 (s2.toInt.toNat) v239) 29 i = h.2.1 29 i from ((hk_ot rfl).trans ((hk_ot rfl).trans ((hk_ot rfl).trans ((hk_ot rfl).trans ((hk_ot rfl).trans ((hk_ot rfl).trans ((hk_ot rfl).trans ((hk_ot rfl).trans rfl))))))))) (fun i _ => show (qm_up (qm_up (qm_up (qm_up (qm_up (qm_up (qm_up (qm_up h.2.1 102 (y237.toInt.toNat) s4) 105 (y237.toInt.toNat) 1) 108 (y237.toInt.toNat) s163) 99 (s2.toInt.toNat) v239) 183 (v255.toInt.toNat) s4) 184 (v255.toInt.toNat) 1) 185 (v255.toInt.toNat) s163) 182 (s2.toInt.toNat) v239) 111 i = h.2.1 111 i from ((hk_ot rfl).trans ((hk_ot rfl).trans ((hk_ot rfl).trans ((hk_ot rfl).trans ((hk_ot rfl).trans ((hk_ot rfl).trans ((hk_ot rfl).trans ((hk_ot rfl).trans rfl))))))))) (fun i _ => show (qm_up (qm_up (qm_up (qm_up (qm_up (qm_up (qm_up (qm_up h.2.1 102 (y237.toInt.toNat) s4) 105 (y237.toInt.toNat) 1) 108 (y237.toInt.toNat) s163) 99 (s2.toInt.toNat) v239) 183 (v255.toInt.toNat) s4) 184 (v255.toInt.toNat) 1) 185 (v255.toInt.toNat) s163) 182 (s2.toInt.toNat) v239) 51 i = h.2.1 51 i from ((hk_ot rfl).trans ((hk_ot rfl).trans ((hk_ot rfl).trans ((hk_ot rfl).trans ((hk_ot rfl).trans ((hk_ot rfl).trans ((hk_ot rfl).trans ((hk_ot rfl).trans rfl))))))))) (List.forall_mem_cons.mpr ⟨(show (qm_up (qm_up (qm_up (qm_up (qm_up (qm_up (qm_up (qm_up h.2.1 102 (y237.toInt.toNat) s4) 105 (y237.toInt.toNat) 1) 108 (y237.toInt.toNat) s163) 99 (s2.toInt.toNat) v239) 183 (v255.toInt.toNat) s4) 184 (v255.toInt.toNat) 1) 185 (v255.toInt.toNat) s163) 182 (s2.toInt.toNat) v239) 118 18 = h.2.1 118 18 from ((hk_ot rfl).trans ((hk_ot rfl).trans ((hk_ot rfl).trans ((hk_ot rfl).trans ((hk_ot rfl).trans ((hk_ot rfl).trans ((hk_ot rfl).trans ((hk_ot rfl).trans rfl))))))))), List.forall_mem_cons.mpr ⟨(show (qm_up (qm_up (qm_up (qm_up (qm_up (qm_up (qm_up (qm_up h.2.1 102 (y237.toInt.toNat) s4) 105 (y237.toInt.toNat) 1) 108 (y237.toInt.toNat) s163) 99 (s2.toInt.toNat) v239) 183 (v255.toInt.toNat) s4) 184 (v255.toInt.toNat) 1) 185 (v255.toInt.toNat) s163) 182 (s2.toInt.toNat) v239) 118 44 = h.2.1 118 44 from ((hk_ot rfl).trans ((hk_ot rfl).trans ((hk_ot rfl).trans ((hk_ot rfl).trans ((hk_ot rfl).trans ((hk_ot rfl).trans ((hk_ot rfl).trans ((hk_ot rfl).trans rfl))))))))), List.forall_mem_cons.mpr ⟨(show (qm_up (qm_up (qm_up (qm_up (qm_up (qm_up (qm_up (qm_up h.2.1 102 (y237.toInt.toNat) s4) 105 (y237.toInt.toNat) 1) 108 (y237.toInt.toNat) s163) 99 (s2.toInt.toNat) v239) 183 (v255.toInt.toNat) s4) 184 (v255.toInt.toNat) 1) 185 (v255.toInt.toNat) s163) 182 (s2.toInt.toNat) v239) 118 54 = h.2.1 118 54 from ((hk_ot rfl).trans ((hk_ot rfl).trans ((hk_ot rfl).trans ((hk_ot rfl).trans ((hk_ot rfl).trans ((hk_ot rfl).trans ((hk_ot rfl).trans ((hk_ot rfl).trans rfl))))))))), List.forall_mem_cons.mpr ⟨(show (qm_up (qm_up (qm_up (qm_up (qm_up (qm_up (qm_up (qm_up h.2.1 102 (y237.toInt.toNat) s4) 105 (y237.toInt.toNat) 1) 108 (y237.toInt.toNat) s163) 99 (s2.toInt.toNat) v239) 183 (v255.toInt.toNat) s4) 184 (v255.toInt.toNat) 1) 185 (v255.toInt.toNat) s163) 182 (s2.toInt.toNat) v239) 118 75 = h.2.1 118 75 from ((hk_ot rfl).trans ((hk_ot rfl).trans ((hk_ot rfl).trans ((hk_ot rfl).trans ((hk_ot rfl).trans ((hk_ot rfl).trans ((hk_ot rfl).trans ((hk_ot rfl).trans rfl))))))))), List.forall_mem_cons.mpr ⟨(show (qm_up (qm_up (qm_up (qm_up (qm_up (qm_up (qm_up (qm_up h.2.1 102 (y237.toInt.toNat) s4) 105 (y237.toInt.toNat) 1) 108 (y237.toInt.toNat) s163) 99 (s2.toInt.toNat) v239) 183 (v255.toInt.toNat) s4) 184 (v255.toInt.toNat) 1) 185 (v255.toInt.toNat) s163) 182 (s2.toInt.toNat) v239) 118 85 = h.2.1 118 85 from ((hk_ot rfl).trans ((hk_ot rfl).trans ((hk_ot rfl).trans ((hk_ot rfl).trans ((hk_ot rfl).trans ((hk_ot rfl).trans ((hk_ot rfl).trans ((hk_ot rfl).trans rfl))))))))), List.forall_mem_cons.mpr ⟨(show (qm_up (qm_up (qm_up (qm_up (qm_up (qm_up (qm_up (qm_up h.2.1 102 (y237.toInt.toNat) s4) 105 (y237.toInt.toNat) 1) 108 (y237.toInt.toNat) s163) 99 (s2.toInt.toNat) v239) 183 (v255.toInt.toNat) s4) 184 (v255.toInt.toNat) 1) 185 (v255.toInt.toNat) s163) 182 (s2.toInt.toNat) v239) 118 91 = h.2.1 118 91 from ((hk_ot rfl).trans ((hk_ot rfl).trans ((hk_ot rfl).trans ((hk_ot rfl).trans ((hk_ot rfl).trans ((hk_ot rfl).trans ((hk_ot rfl).trans ((hk_ot rfl).trans rfl))))))))), List.forall_mem_cons.mpr ⟨(show (qm_up (qm_up (qm_up (qm_up (qm_up (qm_up (qm_up (qm_up h.2.1 102 (y237.toInt.toNat) s4) 105 (y237.toInt.toNat) 1) 108 (y237.toInt.toNat) s163) 99 (s2.toInt.toNat) v239) 183 (v255.toInt.toNat) s4) 184 (v255.toInt.toNat) 1) 185 (v255.toInt.toNat) s163) 182 (s2.toInt.toNat) v239) 118 92 = h.2.1 118 92 from ((hk_ot rfl).trans ((hk_ot rfl).trans ((hk_ot rfl).trans ((hk_ot rfl).trans ((hk_ot rfl).trans ((hk_ot rfl).trans ((hk_ot rfl).trans ((hk_ot rfl).trans rfl))))))))), List.forall_mem_cons.mpr ⟨(show (qm_up (qm_up (qm_up (qm_up (qm_up (qm_up (qm_up (qm_up h.2.1 102 (y237.toInt.toNat) s4) 105 (y237.toInt.toNat) 1) 108 (y237.toInt.toNat) s163) 99 (s2.toInt.toNat) v239) 183 (v255.toInt.toNat) s4) 184 (v255.toInt.toNat) 1) 185 (v255.toInt.toNat) s163) 182 (s2.toInt.toNat) v239) 118 93 = h.2.1 118 93 from ((hk_ot rfl).trans ((hk_ot rfl).trans ((hk_ot rfl).trans ((hk_ot rfl).trans ((hk_ot rfl).trans ((hk_ot rfl).trans ((hk_ot rfl).trans ((hk_ot rfl).trans rfl))))))))), List.forall_mem_cons.mpr ⟨(show (qm_up (qm_up (qm_up (qm_up (qm_up (qm_up (qm_up (qm_up h.2.1 102 (y237.toInt.toNat) s4) 105 (y237.toInt.toNat) 1) 108 (y237.toInt.toNat) s163) 99 (s2.toInt.toNat) v239) 183 (v255.toInt.toNat) s4) 184 (v255.toInt.toNat) 1) 185 (v255.toInt.toNat) s163) 182 (s2.toInt.toNat) v239) 118 94 = h.2.1 118 94 from ((hk_ot rfl).trans ((hk_ot rfl).trans ((hk_ot rfl).trans ((hk_ot rfl).trans ((hk_ot rfl).trans ((hk_ot rfl).trans ((hk_ot rfl).trans ((hk_ot rfl).trans rfl))))))))), fun _ z => absurd z List.not_mem_nil⟩⟩⟩⟩⟩⟩⟩⟩⟩) rfl)
                      exact hE _ v258 (by omega) (qa_Inv_of0 ⟨hH.1, hH.2⟩ (hb_up (o := 182) (k := s2.toInt.toNat) (x := v239) (hb_up (o := 185) (k := v255.toInt.toNat) (x := s163) (hb_up (o := 184) (k := v255.toInt.toNat) (x := 1) (hb_up (o := 183) (k := v255.toInt.toNat) (x := s4) (hb_up (o := 99) (k := s2.toInt.toNat) (x := v239) (hb_up (o := 108) (k := y237.toInt.toNat) (x := s163) (hb_up (o := 105) (k := y237.toInt.toNat) (x := 1) (hb_up (o := 102) (k := y237.toInt.toNat) (x := s4) hB ⟨by show (0 : Int) ≤ s4.toInt; omega, by show s4.toInt ≤ (29 : Int); omega⟩) ⟨(show (0 : Int) ≤ 1 from by decide), (show (1 : Int) ≤ 1 from by decide)⟩) ⟨by show (0 : Int) ≤ s163.toInt; omega, by show s163.toInt ≤ (9999 : Int); omega⟩) (by rw [show s2.toInt.toNat = 0 from by omega]; exact ⟨by show (0 : Int) ≤ v239.toInt; omega, by show v239.toInt ≤ (30 : Int); omega⟩)) ⟨by show (0 : Int) ≤ s4.toInt; omega, by show s4.toInt ≤ (29 : Int); omega⟩) ⟨(show (0 : Int) ≤ 1 from by decide), (show (1 : Int) ≤ 1 from by decide)⟩) ⟨by show (0 : Int) ≤ s163.toInt; omega, by show s163.toInt ≤ (9999 : Int); omega⟩) (by rw [show s2.toInt.toNat = 0 from by omega]; exact ⟨by show (0 : Int) ≤ v239.toInt; omega, by show v239.toInt ≤ (30 : Int); omega⟩)) ⟨⟨⟨hS2, hX3⟩, hZ3⟩, t⟩ (gS2_ru hS2))
                  · refine qm_Ru.go 1 (c' := (16, [.ref 98, .int s2, .int s4, .int 1, .int s163, .int y237], [.int (-1)], h)) rfl ?_
                    refine qm_Ru.rt (v := (some (.int (-1)))) (h' := h) rfl ?_
                    refine qm_Ru.go 0 (c' := (46, [.ref 0, .int s2, .int s4, .int 1, .int s163], [.int (-1)], h)) rfl ?_
                    refine qm_Ru.rt (v := (some (.int (-1)))) (h' := h) rfl ?_
                    refine qm_Ru.go 6 (c' := (1823, [.retAddr 0, .ref 0, .ref 118, .int i], [.int (i + 1), .retAddr 0, .ref 118], h)) rfl ?_
                    rw [q_v1]
                    refine hk_scr (v := s2) rfl (by omega) (by omega) q_s2 ?_
                    refine qm_Ru.go 4 (c' := (1828, [.retAddr 0, .ref 0, .ref 118, .int i], [.int (i + 2), .retAddr 0, .int s2, .ref 118], h)) rfl ?_
                    rw [q_v3]
                    refine hk_scr (v := s4) rfl (by omega) (by omega) q_s4 ?_
                    refine qm_Ru.go 4 (c' := (1833, [.retAddr 0, .ref 0, .ref 118, .int i], [.int (i + 3), .retAddr 0, .int s4, .int s2, .ref 118], h)) rfl ?_
                    rw [q_v5]
                    refine hk_scr (v := s6) rfl (by omega) (by omega) q_s6 ?_
                    refine qm_Ru.go 0 (c' := (1834, [.retAddr 0, .ref 0, .ref 118, .int i], [.int s6, .int s4, .int s2, .ref 118], h)) rfl ?_
                    refine hk_zeq (ix := s6.toInt) rfl rfl (fun z262 => by exfalso; omega) (fun z262 => ?_)
                    refine qm_Ru.go 6 (c' := (1846, [.retAddr 0, .ref 0, .ref 118, .int i], [.int (i + 4), .retAddr 0, .int 1, .int s4, .int s2, .ref 118], h)) rfl ?_
                    rw [q_v162]
                    refine hk_scr (v := s163) rfl (by omega) (by omega) q_s163 ?_
                    refine qm_Ru.go 0 (c' := (1847, [.retAddr 0, .ref 0, .ref 118, .int i], [.int s163, .int 1, .int s4, .int s2, .ref 118], h)) rfl ?_
                    refine hk_inv (o := 118) (r := []) (as := [.ref 118, .int s2, .int s4, .int 1, .int s163]) rfl rfl (hH.1 118 (17, 105) rfl) rfl rfl rfl rfl ?_
                    refine qm_Ru.go 3 (c' := (3, [.ref 118, .int s2, .int s4, .int 1, .int s163, .float 0], [.int 1, .int 0, .int s2], h)) rfl ?_
                    refine qm_Ru.call (j := 270) (as := [.int s2, .int 0, .int 1]) (c' := (6, [.ref 118, .int s2, .int s4, .int 1, .int s163, .float 0], [], h)) rfl rfl rfl ?_
                    refine qm_Ru.go 2 (c' := (2, [.int s2, .int 0, .int 1], [.int 0, .int s2], h)) rfl ?_
                    refine hk_clt (ix := s2.toInt) (iy := 0) rfl rfl rfl (fun z264 => by exfalso; omega) (fun z264 => ?_)
                    refine qm_Ru.go 2 (c' := (7, [.int s2, .int 0, .int 1], [.int 1, .int s2], h)) rfl ?_
                    refine hk_cgt (ix := s2.toInt) (iy := 1) rfl rfl rfl (fun z265 => by exfalso; omega) (fun z265 => ?_)
                    refine qm_Ru.go 2 (c' := (15, [.int s2, .int 0, .int 1], [.int 1], h)) rfl ?_
                    refine qm_Ru.rt (v := (some (.int 1))) (h' := h) rfl ?_
                    refine qm_Ru.go 2 (c' := (10, [.ref 118, .int s2, .int s4, .int 1, .int s163, .float 0], [.ref 118], h)) rfl ?_
                    refine hk_getr rfl (hH.1 118 (17, 105) rfl) rfl (hH.2 118 95 (some 182) rfl) ?_
                    refine qm_Ru.go 1 (c' := (14, [.ref 118, .int s2, .int s4, .int 1, .int s163, .float 0], [.int s2, .ref 182], h)) rfl ?_
                    refine hk_ial (v := y237) rfl (hH.1 182 (0, 2) rfl) (by omega) (by omega) ((hS.2.2.2.2.1 _).symm.trans q_y237) ?_
                    refine qm_Ru.go 1 (c' := (17, [.ref 118, .int s2, .int s4, .int 1, .int s163, .float 0], [.int 30, .int y237], h)) rfl ?_
                    refine hk_ceq (ix := y237.toInt) (iy := 30) rfl rfl rfl (fun z266 => ?_) (fun z266 => by exfalso; omega)
                    refine qm_Ru.go 1 (c' := (41, [.ref 118, .int s2, .int s4, .int 1, .int s163, .float 0], [.int (-1)], h)) rfl ?_
                    refine qm_Ru.rt (v := (some (.int (-1)))) (h' := h) rfl ?_
                    refine qm_Ru.go 3 (c' := (2081, [.retAddr 0, .ref 0, .ref 118, .int (i + 6)], [], h)) rfl ?_
                    obtain ⟨v267, q_v267, e_v267⟩ := hk_add (x := i) (y := 6) (a := i.toInt) (b := 6) rfl rfl (by omega) (by omega)
                    rw [q_v267]
                    refine qm_Ru.go 1 (c' := (18, [.retAddr 0, .ref 0, .ref 118, .int v267], [], h)) rfl ?_
                    have hG : gR (h.2.1) := hS.2
                    have hS1 : gS (h.1, h.2.1, h.2.2.1, h.2.2.2) := hS.1
                    have hS2 : gS2 (h.1, h.2.1, h.2.2.1, h.2.2.2) := ⟨hS1, hG⟩
                    have hX3 : gX (h.1, h.2.1, h.2.2.1, h.2.2.2) := hX
                    have hZ3 : (gZB tb) (h.1, h.2.1, h.2.2.1, h.2.2.2) := hZ
                    exact hE _ v267 (by omega) (qa_Inv_of0 ⟨hH.1, hH.2⟩ hB ⟨⟨⟨hS2, hX3⟩, hZ3⟩, t⟩ (gS2_ru hS2))
                · obtain ⟨y268, q_y268⟩ : ∃ v, h.2.1 99 (s2.toInt.toNat) = v := ⟨_, rfl⟩
                  have b_y268 : (0 : Int) ≤ y268.toInt ∧ y268.toInt ≤ 30 := by rw [← q_y268, show s2.toInt.toNat = 1 from by omega]; exact hB 99 1
                  refine hk_inv (o := 98) (r := []) (as := [.ref 98, .int s2, .int s4, .int 1, .int s163]) rfl rfl (hH.1 98 (5, 6) rfl) rfl rfl rfl rfl ?_
                  refine qm_Ru.go 1 (c' := (1, [.ref 98, .int s2, .int s4, .int 1, .int s163, .float 0], [.ref 98], h)) rfl ?_
                  refine hk_getr rfl (hH.1 98 (5, 6) rfl) rfl (hH.2 98 0 (some 99) rfl) ?_
                  refine qm_Ru.go 1 (c' := (5, [.ref 98, .int s2, .int s4, .int 1, .int s163, .float 0], [.int s2, .ref 99], h)) rfl ?_
                  refine hk_ial (v := y268) rfl (hH.1 99 (0, 2) rfl) (by omega) (by omega) q_y268 ?_
                  refine qm_Ru.go 3 (c' := (12, [.ref 98, .int s2, .int s4, .int 1, .int s163, .int y268], [.int 30, .int y268], h)) rfl ?_
                  refine hk_clt (ix := y268.toInt) (iy := 30) rfl rfl rfl (fun z269 => ?_) (fun z269 => ?_)
                  · refine qm_Ru.go 1 (c' := (18, [.ref 98, .int s2, .int s4, .int 1, .int s163, .int y268], [.ref 98], h)) rfl ?_
                    refine hk_getr rfl (hH.1 98 (5, 6) rfl) rfl (hH.2 98 2 (some 101) rfl) ?_
                    refine qm_Ru.go 1 (c' := (22, [.ref 98, .int s2, .int s4, .int 1, .int s163, .int y268], [.int s2, .ref 101], h)) rfl ?_
                    refine hk_aal rfl (hH.1 101 (4, 2) rfl) (by omega) (by omega) (by rw [show s2.toInt.toNat = 1 from by omega]; exact (hH.2 101 1 (some 103) rfl)) ?_
                    refine qm_Ru.go 2 (c' := (26, [.ref 98, .int s2, .int s4, .int 1, .int s163, .int y268], [.int s4, .int y268, .ref 103], h)) rfl ?_
                    refine hk_ias rfl (hH.1 103 (0, 30) rfl) (by omega) (by omega) ?_
                    refine qm_Ru.go 1 (c' := (28, [.ref 98, .int s2, .int s4, .int 1, .int s163, .int y268], [.ref 98], (h.1, qm_up h.2.1 103 (y268.toInt.toNat) s4, h.2.2.1, h.2.2.2))) rfl ?_
                    refine hk_getr rfl (hH.1 98 (5, 6) rfl) rfl (hH.2 98 3 (some 104) rfl) ?_
                    refine qm_Ru.go 1 (c' := (32, [.ref 98, .int s2, .int s4, .int 1, .int s163, .int y268], [.int s2, .ref 104], (h.1, qm_up h.2.1 103 (y268.toInt.toNat) s4, h.2.2.1, h.2.2.2))) rfl ?_
                    refine hk_aal rfl (hH.1 104 (4, 2) rfl) (by omega) (by omega) (by rw [show s2.toInt.toNat = 1 from by omega]; exact (hH.2 104 1 (some 106) rfl)) ?_
                    refine qm_Ru.go 5 (c' := (44, [.ref 98, .int s2, .int s4, .int 1, .int s163, .int y268], [.int 1, .int y268, .ref 106], (h.1, qm_up h.2.1 103 (y268.toInt.toNat) s4, h.2.2.1, h.2.2.2))) rfl ?_
                    refine hk_ias rfl (hH.1 106 (0, 30) rfl) (by omega) (by omega) ?_
                    refine qm_Ru.go 1 (c' := (46, [.ref 98, .int s2, .int s4, .int 1, .int s163, .int y268], [.ref 98], (h.1, qm_up (qm_up h.2.1 103 (y268.toInt.toNat) s4) 106 (y268.toInt.toNat) 1, h.2.2.1, h.2.2.2))) rfl ?_
                    refine hk_getr rfl (hH.1 98 (5, 6) rfl) rfl (hH.2 98 4 (some 107) rfl) ?_
                    refine qm_Ru.go 1 (c' := (50, [.ref 98, .int s2, .int s4, .int 1, .int s163, .int y268], [.int s2, .ref 107], (h.1, qm_up (qm_up h.2.1 103 (y268.toInt.toNat) s4) 106 (y268.toInt.toNat) 1, h.2.2.1, h.2.2.2))) rfl ?_
                    refine hk_aal rfl (hH.1 107 (4, 2) rfl) (by omega) (by omega) (by rw [show s2.toInt.toNat = 1 from by omega]; exact (hH.2 107 1 (some 109) rfl)) ?_
                    refine qm_Ru.go 2 (c' := (55, [.ref 98, .int s2, .int s4, .int 1, .int s163, .int y268], [.int s163, .int y268, .ref 109], (h.1, qm_up (qm_up h.2.1 103 (y268.toInt.toNat) s4) 106 (y268.toInt.toNat) 1, h.2.2.1, h.2.2.2))) rfl ?_
                    refine hk_ias rfl (hH.1 109 (0, 30) rfl) (by omega) (by omega) ?_
                    refine qm_Ru.go 1 (c' := (57, [.ref 98, .int s2, .int s4, .int 1, .int s163, .int y268], [.ref 98], (h.1, qm_up (qm_up (qm_up h.2.1 103 (y268.toInt.toNat) s4) 106 (y268.toInt.toNat) 1) 109 (y268.toInt.toNat) s163, h.2.2.1, h.2.2.2))) rfl ?_
                    refine hk_getr rfl (hH.1 98 (5, 6) rfl) rfl (hH.2 98 0 (some 99) rfl) ?_
                    refine qm_Ru.go 2 (c' := (62, [.ref 98, .int s2, .int s4, .int 1, .int s163, .int y268], [.int s2, .ref 99, .int s2, .ref 99], (h.1, qm_up (qm_up (qm_up h.2.1 103 (y268.toInt.toNat) s4) 106 (y268.toInt.toNat) 1) 109 (y268.toInt.toNat) s163, h.2.2.1, h.2.2.2))) rfl ?_
                    refine hk_ial (v := y268) rfl (hH.1 99 (0, 2) rfl) (by omega) (by omega) (show (qm_up (qm_up (qm_up h.2.1 103 (y268.toInt.toNat) s4) 106 (y268.toInt.toNat) 1) 109 (y268.toInt.toNat) s163) 99 (s2.toInt.toNat) = _ from ((hk_ot rfl).trans ((hk_ot rfl).trans ((hk_ot rfl).trans q_y268)))) ?_
                    refine qm_Ru.go 2 (c' := (65, [.ref 98, .int s2, .int s4, .int 1, .int s163, .int y268], [.int (y268 + 1), .int s2, .ref 99], (h.1, qm_up (qm_up (qm_up h.2.1 103 (y268.toInt.toNat) s4) 106 (y268.toInt.toNat) 1) 109 (y268.toInt.toNat) s163, h.2.2.1, h.2.2.2))) rfl ?_
                    obtain ⟨v270, q_v270, e_v270⟩ := hk_add (x := y268) (y := 1) (a := y268.toInt) (b := 1) rfl rfl (by omega) (by omega)
                    rw [q_v270]
                    refine hk_ias rfl (hH.1 99 (0, 2) rfl) (by omega) (by omega) ?_
                    refine qm_Ru.go 1 (c' := (68, [.ref 98, .int s2, .int s4, .int 1, .int s163, .int y268], [.int y268], (h.1, qm_up (qm_up (qm_up (qm_up h.2.1 103 (y268.toInt.toNat) s4) 106 (y268.toInt.toNat) 1) 109 (y268.toInt.toNat) s163) 99 (s2.toInt.toNat) v270, h.2.2.1, h.2.2.2))) rfl ?_
                    refine qm_Ru.rt (v := (some (.int y268))) (h' := (h.1, qm_up (qm_up (qm_up (qm_up h.2.1 103 (y268.toInt.toNat) s4) 106 (y268.toInt.toNat) 1) 109 (y268.toInt.toNat) s163) 99 (s2.toInt.toNat) v270, h.2.2.1, h.2.2.2)) rfl ?_
                    refine qm_Ru.go 0 (c' := (46, [.ref 0, .int s2, .int s4, .int 1, .int s163], [.int y268], (h.1, qm_up (qm_up (qm_up (qm_up h.2.1 103 (y268.toInt.toNat) s4) 106 (y268.toInt.toNat) 1) 109 (y268.toInt.toNat) s163) 99 (s2.toInt.toNat) v270, h.2.2.1, h.2.2.2))) rfl ?_
                    refine qm_Ru.rt (v := (some (.int y268))) (h' := (h.1, qm_up (qm_up (qm_up (qm_up h.2.1 103 (y268.toInt.toNat) s4) 106 (y268.toInt.toNat) 1) 109 (y268.toInt.toNat) s163) 99 (s2.toInt.toNat) v270, h.2.2.1, h.2.2.2)) rfl ?_
                    refine qm_Ru.go 6 (c' := (1823, [.retAddr 0, .ref 0, .ref 118, .int i], [.int (i + 1), .retAddr 0, .ref 118], (h.1, qm_up (qm_up (qm_up (qm_up h.2.1 103 (y268.toInt.toNat) s4) 106 (y268.toInt.toNat) 1) 109 (y268.toInt.toNat) s163) 99 (s2.toInt.toNat) v270, h.2.2.1, h.2.2.2))) rfl ?_
                    rw [q_v1]
                    refine hk_scr (v := s2) rfl (by omega) (by omega) q_s2 ?_
                    refine qm_Ru.go 4 (c' := (1828, [.retAddr 0, .ref 0, .ref 118, .int i], [.int (i + 2), .retAddr 0, .int s2, .ref 118], (h.1, qm_up (qm_up (qm_up (qm_up h.2.1 103 (y268.toInt.toNat) s4) 106 (y268.toInt.toNat) 1) 109 (y268.toInt.toNat) s163) 99 (s2.toInt.toNat) v270, h.2.2.1, h.2.2.2))) rfl ?_
                    rw [q_v3]
                    refine hk_scr (v := s4) rfl (by omega) (by omega) q_s4 ?_
                    refine qm_Ru.go 4 (c' := (1833, [.retAddr 0, .ref 0, .ref 118, .int i], [.int (i + 3), .retAddr 0, .int s4, .int s2, .ref 118], (h.1, qm_up (qm_up (qm_up (qm_up h.2.1 103 (y268.toInt.toNat) s4) 106 (y268.toInt.toNat) 1) 109 (y268.toInt.toNat) s163) 99 (s2.toInt.toNat) v270, h.2.2.1, h.2.2.2))) rfl ?_
                    rw [q_v5]
                    refine hk_scr (v := s6) rfl (by omega) (by omega) q_s6 ?_
                    refine qm_Ru.go 0 (c' := (1834, [.retAddr 0, .ref 0, .ref 118, .int i], [.int s6, .int s4, .int s2, .ref 118], (h.1, qm_up (qm_up (qm_up (qm_up h.2.1 103 (y268.toInt.toNat) s4) 106 (y268.toInt.toNat) 1) 109 (y268.toInt.toNat) s163) 99 (s2.toInt.toNat) v270, h.2.2.1, h.2.2.2))) rfl ?_
                    refine hk_zeq (ix := s6.toInt) rfl rfl (fun z274 => by exfalso; omega) (fun z274 => ?_)
                    refine qm_Ru.go 6 (c' := (1846, [.retAddr 0, .ref 0, .ref 118, .int i], [.int (i + 4), .retAddr 0, .int 1, .int s4, .int s2, .ref 118], (h.1, qm_up (qm_up (qm_up (qm_up h.2.1 103 (y268.toInt.toNat) s4) 106 (y268.toInt.toNat) 1) 109 (y268.toInt.toNat) s163) 99 (s2.toInt.toNat) v270, h.2.2.1, h.2.2.2))) rfl ?_
                    rw [q_v162]
                    refine hk_scr (v := s163) rfl (by omega) (by omega) q_s163 ?_
                    refine qm_Ru.go 0 (c' := (1847, [.retAddr 0, .ref 0, .ref 118, .int i], [.int s163, .int 1, .int s4, .int s2, .ref 118], (h.1, qm_up (qm_up (qm_up (qm_up h.2.1 103 (y268.toInt.toNat) s4) 106 (y268.toInt.toNat) 1) 109 (y268.toInt.toNat) s163) 99 (s2.toInt.toNat) v270, h.2.2.1, h.2.2.2))) rfl ?_
                    refine hk_inv (o := 118) (r := []) (as := [.ref 118, .int s2, .int s4, .int 1, .int s163]) rfl rfl (hH.1 118 (17, 105) rfl) rfl rfl rfl rfl ?_
                    refine qm_Ru.go 3 (c' := (3, [.ref 118, .int s2, .int s4, .int 1, .int s163, .float 0], [.int 1, .int 0, .int s2], (h.1, qm_up (qm_up (qm_up (qm_up h.2.1 103 (y268.toInt.toNat) s4) 106 (y268.toInt.toNat) 1) 109 (y268.toInt.toNat) s163) 99 (s2.toInt.toNat) v270, h.2.2.1, h.2.2.2))) rfl ?_
                    refine qm_Ru.call (j := 270) (as := [.int s2, .int 0, .int 1]) (c' := (6, [.ref 118, .int s2, .int s4, .int 1, .int s163, .float 0], [], (h.1, qm_up (qm_up (qm_up (qm_up h.2.1 103 (y268.toInt.toNat) s4) 106 (y268.toInt.toNat) 1) 109 (y268.toInt.toNat) s163) 99 (s2.toInt.toNat) v270, h.2.2.1, h.2.2.2))) rfl rfl rfl ?_
                    refine qm_Ru.go 2 (c' := (2, [.int s2, .int 0, .int 1], [.int 0, .int s2], (h.1, qm_up (qm_up (qm_up (qm_up h.2.1 103 (y268.toInt.toNat) s4) 106 (y268.toInt.toNat) 1) 109 (y268.toInt.toNat) s163) 99 (s2.toInt.toNat) v270, h.2.2.1, h.2.2.2))) rfl ?_
                    refine hk_clt (ix := s2.toInt) (iy := 0) rfl rfl rfl (fun z276 => by exfalso; omega) (fun z276 => ?_)
                    refine qm_Ru.go 2 (c' := (7, [.int s2, .int 0, .int 1], [.int 1, .int s2], (h.1, qm_up (qm_up (qm_up (qm_up h.2.1 103 (y268.toInt.toNat) s4) 106 (y268.toInt.toNat) 1) 109 (y268.toInt.toNat) s163) 99 (s2.toInt.toNat) v270, h.2.2.1, h.2.2.2))) rfl ?_
                    refine hk_cgt (ix := s2.toInt) (iy := 1) rfl rfl rfl (fun z277 => by exfalso; omega) (fun z277 => ?_)
                    refine qm_Ru.go 2 (c' := (15, [.int s2, .int 0, .int 1], [.int 1], (h.1, qm_up (qm_up (qm_up (qm_up h.2.1 103 (y268.toInt.toNat) s4) 106 (y268.toInt.toNat) 1) 109 (y268.toInt.toNat) s163) 99 (s2.toInt.toNat) v270, h.2.2.1, h.2.2.2))) rfl ?_
                    refine qm_Ru.rt (v := (some (.int 1))) (h' := (h.1, qm_up (qm_up (qm_up (qm_up h.2.1 103 (y268.toInt.toNat) s4) 106 (y268.toInt.toNat) 1) 109 (y268.toInt.toNat) s163) 99 (s2.toInt.toNat) v270, h.2.2.1, h.2.2.2)) rfl ?_
                    refine qm_Ru.go 2 (c' := (10, [.ref 118, .int s2, .int s4, .int 1, .int s163, .float 0], [.ref 118], (h.1, qm_up (qm_up (qm_up (qm_up h.2.1 103 (y268.toInt.toNat) s4) 106 (y268.toInt.toNat) 1) 109 (y268.toInt.toNat) s163) 99 (s2.toInt.toNat) v270, h.2.2.1, h.2.2.2))) rfl ?_
                    refine hk_getr rfl (hH.1 118 (17, 105) rfl) rfl (hH.2 118 95 (some 182) rfl) ?_
                    refine qm_Ru.go 1 (c' := (14, [.ref 118, .int s2, .int s4, .int 1, .int s163, .float 0], [.int s2, .ref 182], (h.1, qm_up (qm_up (qm_up (qm_up h.2.1 103 (y268.toInt.toNat) s4) 106 (y268.toInt.toNat) 1) 109 (y268.toInt.toNat) s163) 99 (s2.toInt.toNat) v270, h.2.2.1, h.2.2.2))) rfl ?_
                    refine hk_ial (v := y268) rfl (hH.1 182 (0, 2) rfl) (by omega) (by omega) (show (qm_up (qm_up (qm_up (qm_up h.2.1 103 (y268.toInt.toNat) s4) 106 (y268.toInt.toNat) 1) 109 (y268.toInt.toNat) s163) 99 (s2.toInt.toNat) v270) 182 (s2.toInt.toNat) = _ from ((hk_ot rfl).trans ((hk_ot rfl).trans ((hk_ot rfl).trans ((hk_ot rfl).trans ((hS.2.2.2.2.1 _).symm.trans q_y268)))))) ?_
                    refine qm_Ru.go 1 (c' := (17, [.ref 118, .int s2, .int s4, .int 1, .int s163, .float 0], [.int 30, .int y268], (h.1, qm_up (qm_up (qm_up (qm_up h.2.1 103 (y268.toInt.toNat) s4) 106 (y268.toInt.toNat) 1) 109 (y268.toInt.toNat) s163) 99 (s2.toInt.toNat) v270, h.2.2.1, h.2.2.2))) rfl ?_
                    refine hk_ceq (ix := y268.toInt) (iy := 30) rfl rfl rfl (fun z278 => by exfalso; omega) (fun z278 => ?_)
                    refine qm_Ru.go 2 (c' := (22, [.ref 118, .int s2, .int s4, .int 1, .int s163, .float 0], [.int s4, .ref 118], (h.1, qm_up (qm_up (qm_up (qm_up h.2.1 103 (y268.toInt.toNat) s4) 106 (y268.toInt.toNat) 1) 109 (y268.toInt.toNat) s163) 99 (s2.toInt.toNat) v270, h.2.2.1, h.2.2.2))) rfl ?_
                    refine hk_inv (o := 118) (r := []) (as := [.ref 118, .int s4]) rfl rfl (hH.1 118 (17, 105) rfl) rfl rfl rfl rfl ?_
                    refine qm_Ru.go 3 (c' := (3, [.ref 118, .int s4], [.ref 118, .int 0, .int s4], (h.1, qm_up (qm_up (qm_up (qm_up h.2.1 103 (y268.toInt.toNat) s4) 106 (y268.toInt.toNat) 1) 109 (y268.toInt.toNat) s163) 99 (s2.toInt.toNat) v270, h.2.2.1, h.2.2.2))) rfl ?_
                    refine hk_geti (v := c0) rfl (hH.1 118 (17, 105) rfl) rfl (show (qm_up (qm_up (qm_up (qm_up h.2.1 103 (y268.toInt.toNat) s4) 106 (y268.toInt.toNat) 1) 109 (y268.toInt.toNat) s163) 99 (s2.toInt.toNat) v270) 118 44 = _ from ((hk_ot rfl).trans ((hk_ot rfl).trans ((hk_ot rfl).trans ((hk_ot rfl).trans p_c0))))) ?_
                    refine qm_Ru.go 2 (c' := (8, [.ref 118, .int s4], [.int (c0 - 1), .int 0, .int s4], (h.1, qm_up (qm_up (qm_up (qm_up h.2.1 103 (y268.toInt.toNat) s4) 106 (y268.toInt.toNat) 1) 109 (y268.toInt.toNat) s163) 99 (s2.toInt.toNat) v270, h.2.2.1, h.2.2.2))) rfl ?_
                    obtain ⟨v279, q_v279, e_v279⟩ := hk_sub (x := c0) (y := 1) (a := c0.toInt) (b := 1) rfl rfl (by omega) (by omega)
                    rw [q_v279]
                    refine qm_Ru.call (j := 270) (as := [.int s4, .int 0, .int v279]) (c' := (11, [.ref 118, .int s4], [], (h.1, qm_up (qm_up (qm_up (qm_up h.2.1 103 (y268.toInt.toNat) s4) 106 (y268.toInt.toNat) 1) 109 (y268.toInt.toNat) s163) 99 (s2.toInt.toNat) v270, h.2.2.1, h.2.2.2))) rfl rfl rfl ?_
                    refine qm_Ru.go 2 (c' := (2, [.int s4, .int 0, .int v279], [.int 0, .int s4], (h.1, qm_up (qm_up (qm_up (qm_up h.2.1 103 (y268.toInt.toNat) s4) 106 (y268.toInt.toNat) 1) 109 (y268.toInt.toNat) s163) 99 (s2.toInt.toNat) v270, h.2.2.1, h.2.2.2))) rfl ?_
                    refine hk_clt (ix := s4.toInt) (iy := 0) rfl rfl rfl (fun z280 => by exfalso; omega) (fun z280 => ?_)
                    refine qm_Ru.go 2 (c' := (7, [.int s4, .int 0, .int v279], [.int v279, .int s4], (h.1, qm_up (qm_up (qm_up (qm_up h.2.1 103 (y268.toInt.toNat) s4) 106 (y268.toInt.toNat) 1) 109 (y268.toInt.toNat) s163) 99 (s2.toInt.toNat) v270, h.2.2.1, h.2.2.2))) rfl ?_
                    refine hk_cgt (ix := s4.toInt) (iy := v279.toInt) rfl rfl rfl (fun z281 => ?_) (fun z281 => ?_)
                    · refine qm_Ru.go 1 (c' := (15, [.int s4, .int 0, .int v279], [.int 0], (h.1, qm_up (qm_up (qm_up (qm_up h.2.1 103 (y268.toInt.toNat) s4) 106 (y268.toInt.toNat) 1) 109 (y268.toInt.toNat) s163) 99 (s2.toInt.toNat) v270, h.2.2.1, h.2.2.2))) rfl ?_
                      refine qm_Ru.rt (v := (some (.int 0))) (h' := (h.1, qm_up (qm_up (qm_up (qm_up h.2.1 103 (y268.toInt.toNat) s4) 106 (y268.toInt.toNat) 1) 109 (y268.toInt.toNat) s163) 99 (s2.toInt.toNat) v270, h.2.2.1, h.2.2.2)) rfl ?_
                      refine qm_Ru.go 0 (c' := (11, [.ref 118, .int s4], [.int 0], (h.1, qm_up (qm_up (qm_up (qm_up h.2.1 103 (y268.toInt.toNat) s4) 106 (y268.toInt.toNat) 1) 109 (y268.toInt.toNat) s163) 99 (s2.toInt.toNat) v270, h.2.2.1, h.2.2.2))) rfl ?_
                      refine qm_Ru.rt (v := (some (.int 0))) (h' := (h.1, qm_up (qm_up (qm_up (qm_up h.2.1 103 (y268.toInt.toNat) s4) 106 (y268.toInt.toNat) 1) 109 (y268.toInt.toNat) s163) 99 (s2.toInt.toNat) v270, h.2.2.1, h.2.2.2)) rfl ?_
                      refine qm_Ru.go 2 (c' := (41, [.ref 118, .int s2, .int s4, .int 1, .int s163, .float 0], [.int (-1)], (h.1, qm_up (qm_up (qm_up (qm_up h.2.1 103 (y268.toInt.toNat) s4) 106 (y268.toInt.toNat) 1) 109 (y268.toInt.toNat) s163) 99 (s2.toInt.toNat) v270, h.2.2.1, h.2.2.2))) rfl ?_
                      refine qm_Ru.rt (v := (some (.int (-1)))) (h' := (h.1, qm_up (qm_up (qm_up (qm_up h.2.1 103 (y268.toInt.toNat) s4) 106 (y268.toInt.toNat) 1) 109 (y268.toInt.toNat) s163) 99 (s2.toInt.toNat) v270, h.2.2.1, h.2.2.2)) rfl ?_
                      refine qm_Ru.go 3 (c' := (2081, [.retAddr 0, .ref 0, .ref 118, .int (i + 6)], [], (h.1, qm_up (qm_up (qm_up (qm_up h.2.1 103 (y268.toInt.toNat) s4) 106 (y268.toInt.toNat) 1) 109 (y268.toInt.toNat) s163) 99 (s2.toInt.toNat) v270, h.2.2.1, h.2.2.2))) rfl ?_
                      obtain ⟨v282, q_v282, e_v282⟩ := hk_add (x := i) (y := 6) (a := i.toInt) (b := 6) rfl rfl (by omega) (by omega)
                      rw [q_v282]
                      refine qm_Ru.go 1 (c' := (18, [.retAddr 0, .ref 0, .ref 118, .int v282], [], (h.1, qm_up (qm_up (qm_up (qm_up h.2.1 103 (y268.toInt.toNat) s4) 106 (y268.toInt.toNat) 1) 109 (y268.toInt.toNat) s163) 99 (s2.toInt.toNat) v270, h.2.2.1, h.2.2.2))) rfl ?_
                      exfalso
                      omega
                    · refine qm_Ru.go 2 (c' := (15, [.int s4, .int 0, .int v279], [.int 1], (h.1, qm_up (qm_up (qm_up (qm_up h.2.1 103 (y268.toInt.toNat) s4) 106 (y268.toInt.toNat) 1) 109 (y268.toInt.toNat) s163) 99 (s2.toInt.toNat) v270, h.2.2.1, h.2.2.2))) rfl ?_
                      refine qm_Ru.rt (v := (some (.int 1))) (h' := (h.1, qm_up (qm_up (qm_up (qm_up h.2.1 103 (y268.toInt.toNat) s4) 106 (y268.toInt.toNat) 1) 109 (y268.toInt.toNat) s163) 99 (s2.toInt.toNat) v270, h.2.2.1, h.2.2.2)) rfl ?_
                      refine qm_Ru.go 0 (c' := (11, [.ref 118, .int s4], [.int 1], (h.1, qm_up (qm_up (qm_up (qm_up h.2.1 103 (y268.toInt.toNat) s4) 106 (y268.toInt.toNat) 1) 109 (y268.toInt.toNat) s163) 99 (s2.toInt.toNat) v270, h.2.2.1, h.2.2.2))) rfl ?_
                      refine qm_Ru.rt (v := (some (.int 1))) (h' := (h.1, qm_up (qm_up (qm_up (qm_up h.2.1 103 (y268.toInt.toNat) s4) 106 (y268.toInt.toNat) 1) 109 (y268.toInt.toNat) s163) 99 (s2.toInt.toNat) v270, h.2.2.1, h.2.2.2)) rfl ?_
                      refine qm_Ru.go 4 (c' := (34, [.ref 118, .int s2, .int s4, .int 1, .int s163, .float 0], [.int 9999, .int 0, .int s163], (h.1, qm_up (qm_up (qm_up (qm_up h.2.1 103 (y268.toInt.toNat) s4) 106 (y268.toInt.toNat) 1) 109 (y268.toInt.toNat) s163) 99 (s2.toInt.toNat) v270, h.2.2.1, h.2.2.2))) rfl ?_
                      refine qm_Ru.call (j := 270) (as := [.int s163, .int 0, .int 9999]) (c' := (37, [.ref 118, .int s2, .int s4, .int 1, .int s163, .float 0], [], (h.1, qm_up (qm_up (qm_up (qm_up h.2.1 103 (y268.toInt.toNat) s4) 106 (y268.toInt.toNat) 1) 109 (y268.toInt.toNat) s163) 99 (s2.toInt.toNat) v270, h.2.2.1, h.2.2.2))) rfl rfl rfl ?_
                      refine qm_Ru.go 2 (c' := (2, [.int s163, .int 0, .int 9999], [.int 0, .int s163], (h.1, qm_up (qm_up (qm_up (qm_up h.2.1 103 (y268.toInt.toNat) s4) 106 (y268.toInt.toNat) 1) 109 (y268.toInt.toNat) s163) 99 (s2.toInt.toNat) v270, h.2.2.1, h.2.2.2))) rfl ?_
                      refine hk_clt (ix := s163.toInt) (iy := 0) rfl rfl rfl (fun z283 => by exfalso; omega) (fun z283 => ?_)
                      refine qm_Ru.go 2 (c' := (7, [.int s163, .int 0, .int 9999], [.int 9999, .int s163], (h.1, qm_up (qm_up (qm_up (qm_up h.2.1 103 (y268.toInt.toNat) s4) 106 (y268.toInt.toNat) 1) 109 (y268.toInt.toNat) s163) 99 (s2.toInt.toNat) v270, h.2.2.1, h.2.2.2))) rfl ?_
                      refine hk_cgt (ix := s163.toInt) (iy := 9999) rfl rfl rfl (fun z284 => by exfalso; omega) (fun z284 => ?_)
                      refine qm_Ru.go 2 (c' := (15, [.int s163, .int 0, .int 9999], [.int 1], (h.1, qm_up (qm_up (qm_up (qm_up h.2.1 103 (y268.toInt.toNat) s4) 106 (y268.toInt.toNat) 1) 109 (y268.toInt.toNat) s163) 99 (s2.toInt.toNat) v270, h.2.2.1, h.2.2.2))) rfl ?_
                      refine qm_Ru.rt (v := (some (.int 1))) (h' := (h.1, qm_up (qm_up (qm_up (qm_up h.2.1 103 (y268.toInt.toNat) s4) 106 (y268.toInt.toNat) 1) 109 (y268.toInt.toNat) s163) 99 (s2.toInt.toNat) v270, h.2.2.1, h.2.2.2)) rfl ?_
                      refine qm_Ru.go 4 (c' := (46, [.ref 118, .int s2, .int s4, .int 1, .int s163, .float 0], [.int (30 * s2)], (h.1, qm_up (qm_up (qm_up (qm_up h.2.1 103 (y268.toInt.toNat) s4) 106 (y268.toInt.toNat) 1) 109 (y268.toInt.toNat) s163) 99 (s2.toInt.toNat) v270, h.2.2.1, h.2.2.2))) rfl ?_
                      obtain ⟨v285, q_v285, e_v285⟩ := hk_mul (x := 30) (y := s2) (a := 30) (b := s2.toInt) rfl rfl (by omega) (by omega)
                      rw [q_v285]
                      refine qm_Ru.go 1 (c' := (47, [.ref 118, .int s2, .int s4, .int 1, .int s163, .float 0], [.ref 118, .int v285], (h.1, qm_up (qm_up (qm_up (qm_up h.2.1 103 (y268.toInt.toNat) s4) 106 (y268.toInt.toNat) 1) 109 (y268.toInt.toNat) s163) 99 (s2.toInt.toNat) v270, h.2.2.1, h.2.2.2))) rfl ?_
                      refine hk_getr rfl (hH.1 118 (17, 105) rfl) rfl (hH.2 118 95 (some 182) rfl) ?_
                      refine qm_Ru.go 1 (c' := (51, [.ref 118, .int s2, .int s4, .int 1, .int s163, .float 0], [.int s2, .ref 182, .int v285], (h.1, qm_up (qm_up (qm_up (qm_up h.2.1 103 (y268.toInt.toNat) s4) 106 (y268.toInt.toNat) 1) 109 (y268.toInt.toNat) s163) 99 (s2.toInt.toNat) v270, h.2.2.1, h.2.2.2))) rfl ?_
                      refine hk_ial (v := y268) rfl (hH.1 182 (0, 2) rfl) (by omega) (by omega) (show (qm_up (qm_up (qm_up (qm_up h.2.1 103 (y268.toInt.toNat) s4) 106 (y268.toInt.toNat) 1) 109 (y268.toInt.toNat) s163) 99 (s2.toInt.toNat) v270) 182 (s2.toInt.toNat) = _ from ((hk_ot rfl).trans ((hk_ot rfl).trans ((hk_ot rfl).trans ((hk_ot rfl).trans ((hS.2.2.2.2.1 _).symm.trans q_y268)))))) ?_
                      refine qm_Ru.go 1 (c' := (53, [.ref 118, .int s2, .int s4, .int 1, .int s163, .float 0], [.int (v285 + y268)], (h.1, qm_up (qm_up (qm_up (qm_up h.2.1 103 (y268.toInt.toNat) s4) 106 (y268.toInt.toNat) 1) 109 (y268.toInt.toNat) s163) 99 (s2.toInt.toNat) v270, h.2.2.1, h.2.2.2))) rfl ?_
                      obtain ⟨v286, q_v286, e_v286⟩ := hk_add (x := v285) (y := y268) (a := v285.toInt) (b := y268.toInt) rfl rfl (by omega) (by omega)
                      rw [q_v286]
                      refine qm_Ru.go 2 (c' := (56, [.ref 118, .int s2, .int s4, .int 1, .int s163, .int v286], [.ref 118], (h.1, qm_up (qm_up (qm_up (qm_up h.2.1 103 (y268.toInt.toNat) s4) 106 (y268.toInt.toNat) 1) 109 (y268.toInt.toNat) s163) 99 (s2.toInt.toNat) v270, h.2.2.1, h.2.2.2))) rfl ?_
                      refine hk_getr rfl (hH.1 118 (17, 105) rfl) rfl (hH.2 118 96 (some 183) rfl) ?_
                      refine qm_Ru.go 2 (c' := (62, [.ref 118, .int s2, .int s4, .int 1, .int s163, .int v286], [.int s4, .int v286, .ref 183], (h.1, qm_up (qm_up (qm_up (qm_up h.2.1 103 (y268.toInt.toNat) s4) 106 (y268.toInt.toNat) 1) 109 (y268.toInt.toNat) s163) 99 (s2.toInt.toNat) v270, h.2.2.1, h.2.2.2))) rfl ?_
                      refine hk_ias rfl (hH.1 183 (0, 60) rfl) (by omega) (by omega) ?_
                      refine qm_Ru.go 1 (c' := (64, [.ref 118, .int s2, .int s4, .int 1, .int s163, .int v286], [.ref 118], (h.1, qm_up (qm_up (qm_up (qm_up (qm_up h.2.1 103 (y268.toInt.toNat) s4) 106 (y268.toInt.toNat) 1) 109 (y268.toInt.toNat) s163) 99 (s2.toInt.toNat) v270) 183 (v286.toInt.toNat) s4, h.2.2.1, h.2.2.2))) rfl ?_
                      refine hk_getr rfl (hH.1 118 (17, 105) rfl) rfl (hH.2 118 97 (some 184) rfl) ?_
                      refine qm_Ru.go 2 (c' := (70, [.ref 118, .int s2, .int s4, .int 1, .int s163, .int v286], [.int 1, .int v286, .ref 184], (h.1, qm_up (qm_up (qm_up (qm_up (qm_up h.2.1 103 (y268.toInt.toNat) s4) 106 (y268.toInt.toNat) 1) 109 (y268.toInt.toNat) s163) 99 (s2.toInt.toNat) v270) 183 (v286.toInt.toNat) s4, h.2.2.1, h.2.2.2))) rfl ?_
                      refine hk_bas rfl (hH.1 184 (2, 60) rfl) (by omega) (by omega) rfl ?_
                      refine qm_Ru.go 1 (c' := (72, [.ref 118, .int s2, .int s4, .int 1, .int s163, .int v286], [.ref 118], (h.1, qm_up (qm_up (qm_up (qm_up (qm_up (qm_up h.2.1 103 (y268.toInt.toNat) s4) 106 (y268.toInt.toNat) 1) 109 (y268.toInt.toNat) s163) 99 (s2.toInt.toNat) v270) 183 (v286.toInt.toNat) s4) 184 (v286.toInt.toNat) 1, h.2.2.1, h.2.2.2))) rfl ?_
                      refine hk_getr rfl (hH.1 118 (17, 105) rfl) rfl (hH.2 118 98 (some 185) rfl) ?_
                      refine qm_Ru.go 2 (c' := (79, [.ref 118, .int s2, .int s4, .int 1, .int s163, .int v286], [.int s163, .int v286, .ref 185], (h.1, qm_up (qm_up (qm_up (qm_up (qm_up (qm_up h.2.1 103 (y268.toInt.toNat) s4) 106 (y268.toInt.toNat) 1) 109 (y268.toInt.toNat) s163) 99 (s2.toInt.toNat) v270) 183 (v286.toInt.toNat) s4) 184 (v286.toInt.toNat) 1, h.2.2.1, h.2.2.2))) rfl ?_
                      refine hk_ias rfl (hH.1 185 (0, 60) rfl) (by omega) (by omega) ?_
                      refine qm_Ru.go 1 (c' := (81, [.ref 118, .int s2, .int s4, .int 1, .int s163, .int v286], [.ref 118], (h.1, qm_up (qm_up (qm_up (qm_up (qm_up (qm_up (qm_up h.2.1 103 (y268.toInt.toNat) s4) 106 (y268.toInt.toNat) 1) 109 (y268.toInt.toNat) s163) 99 (s2.toInt.toNat) v270) 183 (v286.toInt.toNat) s4) 184 (v286.toInt.toNat) 1) 185 (v286.toInt.toNat) s163, h.2.2.1, h.2.2.2))) rfl ?_
                      refine hk_getr rfl (hH.1 118 (17, 105) rfl) rfl (hH.2 118 95 (some 182) rfl) ?_
                      refine qm_Ru.go 2 (c' := (86, [.ref 118, .int s2, .int s4, .int 1, .int s163, .int v286], [.int s2, .ref 182, .int s2, .ref 182], (h.1, qm_up (qm_up (qm_up (qm_up (qm_up (qm_up (qm_up h.2.1 103 (y268.toInt.toNat) s4) 106 (y268.toInt.toNat) 1) 109 (y268.toInt.toNat) s163) 99 (s2.toInt.toNat) v270) 183 (v286.toInt.toNat) s4) 184 (v286.toInt.toNat) 1) 185 (v286.toInt.toNat) s163, h.2.2.1, h.2.2.2))) rfl ?_
                      refine hk_ial (v := y268) rfl (hH.1 182 (0, 2) rfl) (by omega) (by omega) (show (qm_up (qm_up (qm_up (qm_up (qm_up (qm_up (qm_up h.2.1 103 (y268.toInt.toNat) s4) 106 (y268.toInt.toNat) 1) 109 (y268.toInt.toNat) s163) 99 (s2.toInt.toNat) v270) 183 (v286.toInt.toNat) s4) 184 (v286.toInt.toNat) 1) 185 (v286.toInt.toNat) s163) 182 (s2.toInt.toNat) = _ from ((hk_ot rfl).trans ((hk_ot rfl).trans ((hk_ot rfl).trans ((hk_ot rfl).trans ((hk_ot rfl).trans ((hk_ot rfl).trans ((hk_ot rfl).trans ((hS.2.2.2.2.1 _).symm.trans q_y268))))))))) ?_
                      refine qm_Ru.go 2 (c' := (89, [.ref 118, .int s2, .int s4, .int 1, .int s163, .int v286], [.int (y268 + 1), .int s2, .ref 182], (h.1, qm_up (qm_up (qm_up (qm_up (qm_up (qm_up (qm_up h.2.1 103 (y268.toInt.toNat) s4) 106 (y268.toInt.toNat) 1) 109 (y268.toInt.toNat) s163) 99 (s2.toInt.toNat) v270) 183 (v286.toInt.toNat) s4) 184 (v286.toInt.toNat) 1) 185 (v286.toInt.toNat) s163, h.2.2.1, h.2.2.2))) rfl ?_
                      rw [q_v270]
                      refine hk_ias rfl (hH.1 182 (0, 2) rfl) (by omega) (by omega) ?_
                      refine qm_Ru.go 1 (c' := (91, [.ref 118, .int s2, .int s4, .int 1, .int s163, .int v286], [.ref 118], (h.1, qm_up (qm_up (qm_up (qm_up (qm_up (qm_up (qm_up (qm_up h.2.1 103 (y268.toInt.toNat) s4) 106 (y268.toInt.toNat) 1) 109 (y268.toInt.toNat) s163) 99 (s2.toInt.toNat) v270) 183 (v286.toInt.toNat) s4) 184 (v286.toInt.toNat) 1) 185 (v286.toInt.toNat) s163) 182 (s2.toInt.toNat) v270, h.2.2.1, h.2.2.2))) rfl ?_
                      refine hk_getr rfl (hH.1 118 (17, 105) rfl) rfl (hH.2 118 95 (some 182) rfl) ?_
                      refine qm_Ru.go 1 (c' := (95, [.ref 118, .int s2, .int s4, .int 1, .int s163, .int v286], [.int s2, .ref 182], (h.1, qm_up (qm_up (qm_up (qm_up (qm_up (qm_up (qm_up (qm_up h.2.1 103 (y268.toInt.toNat) s4) 106 (y268.toInt.toNat) 1) 109 (y268.toInt.toNat) s163) 99 (s2.toInt.toNat) v270) 183 (v286.toInt.toNat) s4) 184 (v286.toInt.toNat) 1) 185 (v286.toInt.toNat) s163) 182 (s2.toInt.toNat) v270, h.2.2.1, h.2.2.2))) rfl ?_
                      refine hk_ial (v := v270) rfl (hH.1 182 (0, 2) rfl) (by omega) (by omega) (show (qm_up (qm_up (qm_up (qm_up (qm_up (qm_up (qm_up (qm_up h.2.1 103 (y268.toInt.toNat) s4) 106 (y268.toInt.toNat) 1) 109 (y268.toInt.toNat) s163) 99 (s2.toInt.toNat) v270) 183 (v286.toInt.toNat) s4) 184 (v286.toInt.toNat) 1) 185 (v286.toInt.toNat) s163) 182 (s2.toInt.toNat) v270) 182 (s2.toInt.toNat) = _ from (hk_same)) ?_
                      refine qm_Ru.go 2 (c' := (98, [.ref 118, .int s2, .int s4, .int 1, .int s163, .int v286], [.int (v270 - 1)], (h.1, qm_up (qm_up (qm_up (qm_up (qm_up (qm_up (qm_up (qm_up h.2.1 103 (y268.toInt.toNat) s4) 106 (y268.toInt.toNat) 1) 109 (y268.toInt.toNat) s163) 99 (s2.toInt.toNat) v270) 183 (v286.toInt.toNat) s4) 184 (v286.toInt.toNat) 1) 185 (v286.toInt.toNat) s163) 182 (s2.toInt.toNat) v270, h.2.2.1, h.2.2.2))) rfl ?_
                      obtain ⟨v288, q_v288, e_v288⟩ := hk_sub (x := v270) (y := 1) (a := v270.toInt) (b := 1) rfl rfl (by omega) (by omega)
                      rw [q_v288]
                      refine qm_Ru.rt (v := (some (.int v288))) (h' := (h.1, qm_up (qm_up (qm_up (qm_up (qm_up (qm_up (qm_up (qm_up h.2.1 103 (y268.toInt.toNat) s4) 106 (y268.toInt.toNat) 1) 109 (y268.toInt.toNat) s163) 99 (s2.toInt.toNat) v270) 183 (v286.toInt.toNat) s4) 184 (v286.toInt.toNat) 1) 185 (v286.toInt.toNat) s163) 182 (s2.toInt.toNat) v270, h.2.2.1, h.2.2.2)) rfl ?_
                      refine qm_Ru.go 3 (c' := (2081, [.retAddr 0, .ref 0, .ref 118, .int (i + 6)], [], (h.1, qm_up (qm_up (qm_up (qm_up (qm_up (qm_up (qm_up (qm_up h.2.1 103 (y268.toInt.toNat) s4) 106 (y268.toInt.toNat) 1) 109 (y268.toInt.toNat) s163) 99 (s2.toInt.toNat) v270) 183 (v286.toInt.toNat) s4) 184 (v286.toInt.toNat) 1) 185 (v286.toInt.toNat) s163) 182 (s2.toInt.toNat) v270, h.2.2.1, h.2.2.2))) rfl ?_
                      obtain ⟨v289, q_v289, e_v289⟩ := hk_add (x := i) (y := 6) (a := i.toInt) (b := 6) rfl rfl (by omega) (by omega)
                      rw [q_v289]
                      refine qm_Ru.go 1 (c' := (18, [.retAddr 0, .ref 0, .ref 118, .int v289], [], (h.1, qm_up (qm_up (qm_up (qm_up (qm_up (qm_up (qm_up (qm_up h.2.1 103 (y268.toInt.toNat) s4) 106 (y268.toInt.toNat) 1) 109 (y268.toInt.toNat) s163) 99 (s2.toInt.toNat) v270) 183 (v286.toInt.toNat) s4) 184 (v286.toInt.toNat) 1) 185 (v286.toInt.toNat) s163) 182 (s2.toInt.toNat) v270, h.2.2.1, h.2.2.2))) rfl ?_
                      have q9 : h.2.1 99 1 = y268 := by rw [← q_y268, show s2.toInt.toNat = 1 from by omega]
                      have hG : gR (qm_up (qm_up (qm_up (qm_up (qm_up (qm_up (qm_up (qm_up h.2.1 103 (y268.toInt.toNat) s4) 106 (y268.toInt.toNat) 1) 109 (y268.toInt.toNat) s163) 99 (s2.toInt.toNat) v270) 183 (v286.toInt.toNat) s4) 184 (v286.toInt.toNat) 1) 185 (v286.toInt.toNat) s163) 182 (s2.toInt.toNat) v270) := (gR_row1 (I := h.2.1) (I2 := qm_up (qm_up (qm_up (qm_up (qm_up (qm_up (qm_up (qm_up h.2.1 103 (y268.toInt.toNat) s4) 106 (y268.toInt.toNat) 1) 109 (y268.toInt.toNat) s163) 99 (s2.toInt.toNat) v270) 183 (v286.toInt.toNat) s4) 184 (v286.toInt.toNat) 1) 185 (v286.toInt.toNat) s163) 182 (s2.toInt.toNat) v270) (n := y268.toInt.toNat) hS.2 (by rw [q9]; omega) (hB 99 0).2 (fun o ho k => ((hk_ot (n_in ho rfl)).trans ((hk_ot (n_in ho rfl)).trans ((hk_ot (n_in ho rfl)).trans ((hk_ot (n_in ho rfl)).trans ((hk_ot (n_in ho rfl)).trans ((hk_ot (n_in ho rfl)).trans ((hk_ot (n_in ho rfl)).trans ((hk_ot (n_in ho rfl)).trans rfl))))))))) (fun o ho k hk => ((hk_ot (n_in ho rfl)).trans ((hk_ot (n_in ho rfl)).trans ((hk_ot (n_in ho rfl)).trans ((hk_ot (n_in ho rfl)).trans ((hk_ot (n_in ho rfl)).trans ((hk_ni (by omega)).trans ((hk_ni (by omega)).trans ((hk_ni (by omega)).trans rfl))))))))) (fun o ho k hk => ((hk_ot (n_in ho rfl)).trans ((hk_ni (by omega)).trans ((hk_ni (by omega)).trans ((hk_ni (by omega)).trans ((hk_ot (n_in ho rfl)).trans ((hk_ot (n_in ho rfl)).trans ((hk_ot (n_in ho rfl)).trans ((hk_ot (n_in ho rfl)).trans rfl))))))))) (fun b hb => ((hk_ot rfl).trans ((hk_ot rfl).trans ((hk_ot rfl).trans ((hk_ot rfl).trans ((hk_ni (by omega)).trans ((hk_ot rfl).trans ((hk_ot rfl).trans ((hk_ot rfl).trans rfl))))))))) (fun b hb => ((hk_ni (by omega)).trans ((hk_ot rfl).trans ((hk_ot rfl).trans ((hk_ot rfl).trans ((hk_ot rfl).trans ((hk_ot rfl).trans ((hk_ot rfl).trans ((hk_ot rfl).trans rfl))))))))) ((hk_ot rfl).trans ((hk_ot rfl).trans ((hk_ot rfl).trans ((hk_ot rfl).trans ((hk_ot rfl).trans ((hk_ot rfl).trans ((hk_ot rfl).trans ((hk_ot rfl).trans rfl)))))))) ((hk_ot rfl).trans ((hk_ot rfl).trans ((hk_ot rfl).trans ((hk_ot rfl).trans ((hk_ot rfl).trans ((hk_ot rfl).trans ((hk_ot rfl).trans ((hk_ot rfl).trans rfl)))))))) ((hk_ot rfl).trans ((hk_ot rfl).trans ((hk_ot rfl).trans ((hk_ot rfl).trans ((hk_ot rfl).trans ((hk_ot rfl).trans ((hk_ot rfl).trans ((hk_ot rfl).trans rfl)))))))) ((hk_ot rfl).trans ((hk_ot rfl).trans ((hk_ot rfl).trans ((hk_ot rfl).trans ((hk_ot rfl).trans ((hk_ot rfl).trans ((hk_ot rfl).trans ((hk_ot rfl).trans rfl)))))))) ((hk_ot rfl).trans ((hk_ot rfl).trans ((hk_ot rfl).trans ((hk_ot rfl).trans ((hk_ot rfl).trans ((hk_ot rfl).trans ((hk_ot rfl).trans ((hk_ot rfl).trans rfl)))))))) ((hk_ot rfl).trans ((hk_ot rfl).trans ((hk_ot rfl).trans ((hk_ot rfl).trans ((hk_ot rfl).trans ((hk_ot rfl).trans ((hk_ot rfl).trans ((hk_ot rfl).trans rfl)))))))) ((congrArg Int32.toInt ((hk_ot rfl).trans ((hk_ot rfl).trans ((hk_ot rfl).trans ((hk_ot rfl).trans (hk_equ (by omega))))))).trans (by omega)) (((hk_ot rfl).trans ((hk_ot rfl).trans ((hk_ot rfl).trans ((hk_ot rfl).trans (hk_equ (by omega)))))).trans (hk_equ (by omega)).symm) ⟨((hk_ot rfl).trans ((hk_ot rfl).trans ((hk_ot rfl).trans ((hk_ot rfl).trans ((hk_ot rfl).trans ((hk_ot rfl).trans ((hk_ot rfl).trans hk_same))))))).trans ((hk_ot rfl).trans ((hk_ot rfl).trans ((hk_ot rfl).trans (hk_equ (by omega))))).symm, ((hk_ot rfl).trans ((hk_ot rfl).trans ((hk_ot rfl).trans ((hk_ot rfl).trans ((hk_ot rfl).trans ((hk_ot rfl).trans hk_same)))))).trans ((hk_ot rfl).trans ((hk_ot rfl).trans (hk_equ (by omega)))).symm, ((hk_ot rfl).trans ((hk_ot rfl).trans ((hk_ot rfl).trans ((hk_ot rfl).trans ((hk_ot rfl).trans hk_same))))).trans ((hk_ot rfl).trans (hk_equ (by omega))).symm⟩)
                      have hS1 : gS (h.1, qm_up (qm_up (qm_up (qm_up (qm_up (qm_up (qm_up (qm_up h.2.1 103 (y268.toInt.toNat) s4) 106 (y268.toInt.toNat) 1) 109 (y268.toInt.toNat) s163) 99 (s2.toInt.toNat) v270) 183 (v286.toInt.toNat) s4) 184 (v286.toInt.toNat) 1) 185 (v286.toInt.toNat) s163) 182 (s2.toInt.toNat) v270, h.2.2.1, h.2.2.2) := (gS_upa (gS_upa (gS_upa (gS_upa (gS_upa (gS_upa (gS_upa (gS_upa (show gS (h.1, h.2.1, h.2.2.1, h.2.2.2) from hS.1) (by decide)) (by decide)) (by decide)) (by decide)) (by decide)) (by decide)) (by decide)) (by decide))
                      have hS2 : gS2 (h.1, qm_up (qm_up (qm_up (qm_up (qm_up (qm_up (qm_up (qm_up h.2.1 103 (y268.toInt.toNat) s4) 106 (y268.toInt.toNat) 1) 109 (y268.toInt.toNat) s163) 99 (s2.toInt.toNat) v270) 183 (v286.toInt.toNat) s4) 184 (v286.toInt.toNat) 1) 185 (v286.toInt.toNat) s163) 182 (s2.toInt.toNat) v270, h.2.2.1, h.2.2.2) := ⟨hS1, hG⟩
                      have hX3 : gX (h.1, qm_up (qm_up (qm_up (qm_up (qm_up (qm_up (qm_up (qm_up h.2.1 103 (y268.toInt.toNat) s4) 106 (y268.toInt.toNat) 1) 109 (y268.toInt.toNat) s163) 99 (s2.toInt.toNat) v270) 183 (v286.toInt.toNat) s4) 184 (v286.toInt.toNat) 1) 185 (v286.toInt.toNat) s163) 182 (s2.toInt.toNat) v270, h.2.2.1, h.2.2.2) := ⟨gP_cg hX.1 (fun o ho i => ((hk_ot (n_in ho rfl)).trans ((hk_ot (n_in ho rfl)).trans ((hk_ot (n_in ho rfl)).trans ((hk_ot (n_in ho rfl)).trans ((hk_ot (n_in ho rfl)).trans ((hk_ot (n_in ho rfl)).trans ((hk_ot (n_in ho rfl)).trans ((hk_ot (n_in ho rfl)).trans rfl))))))))) (show (qm_up (qm_up (qm_up (qm_up (qm_up (qm_up (qm_up (qm_up h.2.1 103 (y268.toInt.toNat) s4) 106 (y268.toInt.toNat) 1) 109 (y268.toInt.toNat) s163) 99 (s2.toInt.toNat) v270) 183 (v286.toInt.toNat) s4) 184 (v286.toInt.toNat) 1) 185 (v286.toInt.toNat) s163) 182 (s2.toInt.toNat) v270) 1 1 = h.2.1 1 1 from ((hk_ot rfl).trans ((hk_ot rfl).trans ((hk_ot rfl).trans ((hk_ot rfl).trans ((hk_ot rfl).trans ((hk_ot rfl).trans ((hk_ot rfl).trans ((hk_ot rfl).trans rfl))))))))) (show (qm_up (qm_up (qm_up (qm_up (qm_up (qm_up (qm_up (qm_up h.2.1 103 (y268.toInt.toNat) s4) 106 (y268.toInt.toNat) 1) 109 (y268.toInt.toNat) s163) 99 (s2.toInt.toNat) v270) 183 (v286.toInt.toNat) s4) 184 (v286.toInt.toNat) 1) 185 (v286.toInt.toNat) s163) 182 (s2.toInt.toNat) v270) 3 4 = h.2.1 3 4 from ((hk_ot rfl).trans ((hk_ot rfl).trans ((hk_ot rfl).trans ((hk_ot rfl).trans ((hk_ot rfl).trans ((hk_ot rfl).trans ((hk_ot rfl).trans ((hk_ot rfl).trans rfl))))))))) (show (qm_up (qm_up (qm_up (qm_up (qm_up (qm_up (qm_up (qm_up h.2.1 103 (y268.toInt.toNat) s4) 106 (y268.toInt.toNat) 1) 109 (y268.toInt.toNat) s163) 99 (s2.toInt.toNat) v270) 183 (v286.toInt.toNat) s4) 184 (v286.toInt.toNat) 1) 185 (v286.toInt.toNat) s163) 182 (s2.toInt.toNat) v270) 118 17 = h.2.1 118 17 from ((hk_ot rfl).trans ((hk_ot rfl).trans ((hk_ot rfl).trans ((hk_ot rfl).trans ((hk_ot rfl).trans ((hk_ot rfl).trans ((hk_ot rfl).trans ((hk_ot rfl).trans rfl))))))))), hX.2⟩
                      have hZ3 : (gZB tb) (h.1, qm_up (qm_up (qm_up (qm_up (qm_up (qm_up (qm_up (qm_up h.2.1 103 (y268.toInt.toNat) s4) 106 (y268.toInt.toNat) 1) 109 (y268.toInt.toNat) s163) 99 (s2.toInt.toNat) v270) 183 (v286.toInt.toNat) s4) 184 (v286.toInt.toNat) 1) 185 (v286.toInt.toNat) s163) 182 (s2.toInt.toNat) v270, h.2.2.1, h.2.2.2) := (gZ_cg (h2 := (h.1, qm_up (qm_up (qm_up (qm_up (qm_up (qm_up (qm_up (qm_up h.2.1 103 (y268.toInt.toNat) s4) 106 (y268.toInt.toNat) 1) 109 (y268.toInt.toNat) s163) 99 (s2.toInt.toNat) v270) 183 (v286.toInt.toNat) s4) 184 (v286.toInt.toNat) 1) 185 (v286.toInt.toNat) s163) 182 (s2.toInt.toNat) v270, h.2.2.1, h.2.2.2)) hZ (fun o ho i => ((hk_ot (n_in ho rfl)).trans ((hk_ot (n_in ho rfl)).trans ((hk_ot (n_in ho rfl)).trans ((hk_ot (n_in ho rfl)).trans ((hk_ot (n_in ho rfl)).trans ((hk_ot (n_in ho rfl)).trans ((hk_ot (n_in ho rfl)).trans ((hk_ot (n_in ho rfl)).trans rfl))))))))) (show (qm_up (qm_up (qm_up (qm_up (qm_up (qm_up (qm_up (qm_up h.2.1 103 (y268.toInt.toNat) s4) 106 (y268.toInt.toNat) 1) 109 (y268.toInt.toNat) s163) 99 (s2.toInt.toNat) v270) 183 (v286.toInt.toNat) s4) 184 (v286.toInt.toNat) 1) 185 (v286.toInt.toNat) s163) 182 (s2.toInt.toNat) v270) 6 0 = h.2.1 6 0 from ((hk_ot rfl).trans ((hk_ot rfl).trans ((hk_ot rfl).trans ((hk_ot rfl).trans ((hk_ot rfl).trans ((hk_ot rfl).trans ((hk_ot rfl).trans ((hk_ot rfl).trans rfl))))))))) (fun i _ => show (qm_up (qm_up (qm_up (qm_up (qm_up (qm_up (qm_up (qm_up h.2.1 103 (y268.toInt.toNat) s4) 106 (y268.toInt.toNat) 1) 109 (y268.toInt.toNat) s163) 99 (s2.toInt.toNat) v270) 183 (v286.toInt.toNat) s4) 184 (v286.toInt.toNat) 1) 185 (v286.toInt.toNat) s163) 182 (s2.toInt.toNat) v270) 28 i = h.2.1 28 i from ((hk_ot rfl).trans ((hk_ot rfl).trans ((hk_ot rfl).trans ((hk_ot rfl).trans ((hk_ot rfl).trans ((hk_ot rfl).trans ((hk_ot rfl).trans ((hk_ot rfl).trans rfl))))))))) (fun i _ => show (qm_up (qm_up (qm_up (qm_up (qm_up (qm_up (qm_up (qm_up h.2.1 103 (y268.toInt.toNat) s4) 106 (y268.toInt.toNat) 1) 109 (y268.toInt.toNat) s163) 99 (s2.toInt.toNat) v270) 183 (v286.toInt.toNat) s4) 184 (v286.toInt.toNat) 1) 185 (v286.toInt.toNat) s163) 182 (s2.toInt.toNat) v270) 29 i = h.2.1 29 i from ((hk_ot rfl).trans ((hk_ot rfl).trans ((hk_ot rfl).trans ((hk_ot rfl).trans ((hk_ot rfl).trans ((hk_ot rfl).trans ((hk_ot rfl).trans ((hk_ot rfl).trans rfl))))))))) (fun i _ => show (qm_up (qm_up (qm_up (qm_up (qm_up (qm_up (qm_up (qm_up h.2.1 103 (y268.toInt.toNat) s4) 106 (y268.toInt.toNat) 1) 109 (y268.toInt.toNat) s163) 99 (s2.toInt.toNat) v270) 183 (v286.toInt.toNat) s4) 184 (v286.toInt.toNat) 1) 185 (v286.toInt.toNat) s163) 182 (s2.toInt.toNat) v270) 111 i = h.2.1 111 i from ((hk_ot rfl).trans ((hk_ot rfl).trans ((hk_ot rfl).trans ((hk_ot rfl).trans ((hk_ot rfl).trans ((hk_ot rfl).trans ((hk_ot rfl).trans ((hk_ot rfl).trans rfl))))))))) (fun i _ => show (qm_up (qm_up (qm_up (qm_up (qm_up (qm_up (qm_up (qm_up h.2.1 103 (y268.toInt.toNat) s4) 106 (y268.toInt.toNat) 1) 109 (y268.toInt.toNat) s163) 99 (s2.toInt.toNat) v270) 183 (v286.toInt.toNat) s4) 184 (v286.toInt.toNat) 1) 185 (v286.toInt.toNat) s163) 182 (s2.toInt.toNat) v270) 51 i = h.2.1 51 i from ((hk_ot rfl).trans ((hk_ot rfl).trans ((hk_ot rfl).trans ((hk_ot rfl).trans ((hk_ot rfl).trans ((hk_ot rfl).trans ((hk_ot rfl).trans ((hk_ot rfl).trans rfl))))))))) (List.forall_mem_cons.mpr ⟨(show (qm_up (qm_up (qm_up (qm_up (qm_up (qm_up (qm_up (qm_up h.2.1 103 (y268.toInt.toNat) s4) 106 (y268.toInt.toNat) 1) 109 (y268.toInt.toNat) s163) 99 (s2.toInt.toNat) v270) 183 (v286.toInt.toNat) s4) 184 (v286.toInt.toNat) 1) 185 (v286.toInt.toNat) s163) 182 (s2.toInt.toNat) v270) 118 18 = h.2.1 118 18 from ((hk_ot rfl).trans ((hk_ot rfl).trans ((hk_ot rfl).trans ((hk_ot rfl).trans ((hk_ot rfl).trans ((hk_ot rfl).trans ((hk_ot rfl).trans ((hk_ot rfl).trans rfl))))))))), List.forall_mem_cons.mpr ⟨(show (qm_up (qm_up (qm_up (qm_up (qm_up (qm_up (qm_up (qm_up h.2.1 103 (y268.toInt.toNat) s4) 106 (y268.toInt.toNat) 1) 109 (y268.toInt.toNat) s163) 99 (s2.toInt.toNat) v270) 183 (v286.toInt.toNat) s4) 184 (v286.toInt.toNat) 1) 185 (v286.toInt.toNat) s163) 182 (s2.toInt.toNat) v270) 118 44 = h.2.1 118 44 from ((hk_ot rfl).trans ((hk_ot rfl).trans ((hk_ot rfl).trans ((hk_ot rfl).trans ((hk_ot rfl).trans ((hk_ot rfl).trans ((hk_ot rfl).trans ((hk_ot rfl).trans rfl))))))))), List.forall_mem_cons.mpr ⟨(show (qm_up (qm_up (qm_up (qm_up (qm_up (qm_up (qm_up (qm_up h.2.1 103 (y268.toInt.toNat) s4) 106 (y268.toInt.toNat) 1) 109 (y268.toInt.toNat) s163) 99 (s2.toInt.toNat) v270) 183 (v286.toInt.toNat) s4) 184 (v286.toInt.toNat) 1) 185 (v286.toInt.toNat) s163) 182 (s2.toInt.toNat) v270) 118 54 = h.2.1 118 54 from ((hk_ot rfl).trans ((hk_ot rfl).trans ((hk_ot rfl).trans ((hk_ot rfl).trans ((hk_ot rfl).trans ((hk_ot rfl).trans ((hk_ot rfl).trans ((hk_ot rfl).trans rfl))))))))), List.forall_mem_cons.mpr ⟨(show (qm_up (qm_up (qm_up (qm_up (qm_up (qm_up (qm_up (qm_up h.2.1 103 (y268.toInt.toNat) s4) 106 (y268.toInt.toNat) 1) 109 (y268.toInt.toNat) s163) 99 (s2.toInt.toNat) v270) 183 (v286.toInt.toNat) s4) 184 (v286.toInt.toNat) 1) 185 (v286.toInt.toNat) s163) 182 (s2.toInt.toNat) v270) 118 75 = h.2.1 118 75 from ((hk_ot rfl).trans ((hk_ot rfl).trans ((hk_ot rfl).trans ((hk_ot rfl).trans ((hk_ot rfl).trans ((hk_ot rfl).trans ((hk_ot rfl).trans ((hk_ot rfl).trans rfl))))))))), List.forall_mem_cons.mpr ⟨(show (qm_up (qm_up (qm_up (qm_up (qm_up (qm_up (qm_up (qm_up h.2.1 103 (y268.toInt.toNat) s4) 106 (y268.toInt.toNat) 1) 109 (y268.toInt.toNat) s163) 99 (s2.toInt.toNat) v270) 183 (v286.toInt.toNat) s4) 184 (v286.toInt.toNat) 1) 185 (v286.toInt.toNat) s163) 182 (s2.toInt.toNat) v270) 118 85 = h.2.1 118 85 from ((hk_ot rfl).trans ((hk_ot rfl).trans ((hk_ot rfl).trans ((hk_ot rfl).trans ((hk_ot rfl).trans ((hk_ot rfl).trans ((hk_ot rfl).trans ((hk_ot rfl).trans rfl))))))))), List.forall_mem_cons.mpr ⟨(show (qm_up (qm_up (qm_up (qm_up (qm_up (qm_up (qm_up (qm_up h.2.1 103 (y268.toInt.toNat) s4) 106 (y268.toInt.toNat) 1) 109 (y268.toInt.toNat) s163) 99 (s2.toInt.toNat) v270) 183 (v286.toInt.toNat) s4) 184 (v286.toInt.toNat) 1) 185 (v286.toInt.toNat) s163) 182 (s2.toInt.toNat) v270) 118 91 = h.2.1 118 91 from ((hk_ot rfl).trans ((hk_ot rfl).trans ((hk_ot rfl).trans ((hk_ot rfl).trans ((hk_ot rfl).trans ((hk_ot rfl).trans ((hk_ot rfl).trans ((hk_ot rfl).trans rfl))))))))), List.forall_mem_cons.mpr ⟨(show (qm_up (qm_up (qm_up (qm_up (qm_up (qm_up (qm_up (qm_up h.2.1 103 (y268.toInt.toNat) s4) 106 (y268.toInt.toNat) 1) 109 (y268.toInt.toNat) s163) 99 (s2.toInt.toNat) v270) 183 (v286.toInt.toNat) s4) 184 (v286.toInt.toNat) 1) 185 (v286.toInt.toNat) s163) 182 (s2.toInt.toNat) v270) 118 92 = h.2.1 118 92 from ((hk_ot rfl).trans ((hk_ot rfl).trans ((hk_ot rfl).trans ((hk_ot rfl).trans ((hk_ot rfl).trans ((hk_ot rfl).trans ((hk_ot rfl).trans ((hk_ot rfl).trans rfl))))))))), List.forall_mem_cons.mpr ⟨(show (qm_up (qm_up (qm_up (qm_up (qm_up (qm_up (qm_up (qm_up h.2.1 103 (y268.toInt.toNat) s4) 106 (y268.toInt.toNat) 1) 109 (y268.toInt.toNat) s163) 99 (s2.toInt.toNat) v270) 183 (v286.toInt.toNat) s4) 184 (v286.toInt.toNat) 1) 185 (v286.toInt.toNat) s163) 182 (s2.toInt.toNat) v270) 118 93 = h.2.1 118 93 from ((hk_ot rfl).trans ((hk_ot rfl).trans ((hk_ot rfl).trans ((hk_ot rfl).trans ((hk_ot rfl).trans ((hk_ot rfl).trans ((hk_ot rfl).trans ((hk_ot rfl).trans rfl))))))))), List.forall_mem_cons.mpr ⟨(show (qm_up (qm_up (qm_up (qm_up (qm_up (qm_up (qm_up (qm_up h.2.1 103 (y268.toInt.toNat) s4) 106 (y268.toInt.toNat) 1) 109 (y268.toInt.toNat) s163) 99 (s2.toInt.toNat) v270) 183 (v286.toInt.toNat) s4) 184 (v286.toInt.toNat) 1) 185 (v286.toInt.toNat) s163) 182 (s2.toInt.toNat) v270) 118 94 = h.2.1 118 94 from ((hk_ot rfl).trans ((hk_ot rfl).trans ((hk_ot rfl).trans ((hk_ot rfl).trans ((hk_ot rfl).trans ((hk_ot rfl).trans ((hk_ot rfl).trans ((hk_ot rfl).trans rfl))))))))), fun _ z => absurd z List.not_mem_nil⟩⟩⟩⟩⟩⟩⟩⟩⟩) rfl)
                      exact hE _ v289 (by omega) (qa_Inv_of0 ⟨hH.1, hH.2⟩ (hb_up (o := 182) (k := s2.toInt.toNat) (x := v270) (hb_up (o := 185) (k := v286.toInt.toNat) (x := s163) (hb_up (o := 184) (k := v286.toInt.toNat) (x := 1) (hb_up (o := 183) (k := v286.toInt.toNat) (x := s4) (hb_up (o := 99) (k := s2.toInt.toNat) (x := v270) (hb_up (o := 109) (k := y268.toInt.toNat) (x := s163) (hb_up (o := 106) (k := y268.toInt.toNat) (x := 1) (hb_up (o := 103) (k := y268.toInt.toNat) (x := s4) hB ⟨by show (0 : Int) ≤ s4.toInt; omega, by show s4.toInt ≤ (29 : Int); omega⟩) ⟨(show (0 : Int) ≤ 1 from by decide), (show (1 : Int) ≤ 1 from by decide)⟩) ⟨by show (0 : Int) ≤ s163.toInt; omega, by show s163.toInt ≤ (9999 : Int); omega⟩) (by rw [show s2.toInt.toNat = 1 from by omega]; exact ⟨by show (0 : Int) ≤ v270.toInt; omega, by show v270.toInt ≤ (30 : Int); omega⟩)) ⟨by show (0 : Int) ≤ s4.toInt; omega, by show s4.toInt ≤ (29 : Int); omega⟩) ⟨(show (0 : Int) ≤ 1 from by decide), (show (1 : Int) ≤ 1 from by decide)⟩) ⟨by show (0 : Int) ≤ s163.toInt; omega, by show s163.toInt ≤ (9999 : Int); omega⟩) (by rw [show s2.toInt.toNat = 1 from by omega]; exact ⟨by show (0 : Int) ≤ v270.toInt; omega, by show v270.toInt ≤ (30 : Int); omega⟩)) ⟨⟨⟨hS2, hX3⟩, hZ3⟩, t⟩ (gS2_ru hS2))
                  · refine qm_Ru.go 1 (c' := (16, [.ref 98, .int s2, .int s4, .int 1, .int s163, .int y268], [.int (-1)], h)) rfl ?_
                    refine qm_Ru.rt (v := (some (.int (-1)))) (h' := h) rfl ?_
                    refine qm_Ru.go 0 (c' := (46, [.ref 0, .int s2, .int s4, .int 1, .int s163], [.int (-1)], h)) rfl ?_
                    refine qm_Ru.rt (v := (some (.int (-1)))) (h' := h) rfl ?_
                    refine qm_Ru.go 6 (c' := (1823, [.retAddr 0, .ref 0, .ref 118, .int i], [.int (i + 1), .retAddr 0, .ref 118], h)) rfl ?_
                    rw [q_v1]
                    refine hk_scr (v := s2) rfl (by omega) (by omega) q_s2 ?_
                    refine qm_Ru.go 4 (c' := (1828, [.retAddr 0, .ref 0, .ref 118, .int i], [.int (i + 2), .retAddr 0, .int s2, .ref 118], h)) rfl ?_
                    rw [q_v3]
                    refine hk_scr (v := s4) rfl (by omega) (by omega) q_s4 ?_
                    refine qm_Ru.go 4 (c' := (1833, [.retAddr 0, .ref 0, .ref 118, .int i], [.int (i + 3), .retAddr 0, .int s4, .int s2, .ref 118], h)) rfl ?_
                    rw [q_v5]
                    refine hk_scr (v := s6) rfl (by omega) (by omega) q_s6 ?_
                    refine qm_Ru.go 0 (c' := (1834, [.retAddr 0, .ref 0, .ref 118, .int i], [.int s6, .int s4, .int s2, .ref 118], h)) rfl ?_
                    refine hk_zeq (ix := s6.toInt) rfl rfl (fun z293 => by exfalso; omega) (fun z293 => ?_)
                    refine qm_Ru.go 6 (c' := (1846, [.retAddr 0, .ref 0, .ref 118, .int i], [.int (i + 4), .retAddr 0, .int 1, .int s4, .int s2, .ref 118], h)) rfl ?_
                    rw [q_v162]
                    refine hk_scr (v := s163) rfl (by omega) (by omega) q_s163 ?_
                    refine qm_Ru.go 0 (c' := (1847, [.retAddr 0, .ref 0, .ref 118, .int i], [.int s163, .int 1, .int s4, .int s2, .ref 118], h)) rfl ?_
                    refine hk_inv (o := 118) (r := []) (as := [.ref 118, .int s2, .int s4, .int 1, .int s163]) rfl rfl (hH.1 118 (17, 105) rfl) rfl rfl rfl rfl ?_
                    refine qm_Ru.go 3 (c' := (3, [.ref 118, .int s2, .int s4, .int 1, .int s163, .float 0], [.int 1, .int 0, .int s2], h)) rfl ?_
                    refine qm_Ru.call (j := 270) (as := [.int s2, .int 0, .int 1]) (c' := (6, [.ref 118, .int s2, .int s4, .int 1, .int s163, .float 0], [], h)) rfl rfl rfl ?_
                    refine qm_Ru.go 2 (c' := (2, [.int s2, .int 0, .int 1], [.int 0, .int s2], h)) rfl ?_
                    refine hk_clt (ix := s2.toInt) (iy := 0) rfl rfl rfl (fun z295 => by exfalso; omega) (fun z295 => ?_)
                    refine qm_Ru.go 2 (c' := (7, [.int s2, .int 0, .int 1], [.int 1, .int s2], h)) rfl ?_
                    refine hk_cgt (ix := s2.toInt) (iy := 1) rfl rfl rfl (fun z296 => by exfalso; omega) (fun z296 => ?_)
                    refine qm_Ru.go 2 (c' := (15, [.int s2, .int 0, .int 1], [.int 1], h)) rfl ?_
                    refine qm_Ru.rt (v := (some (.int 1))) (h' := h) rfl ?_
                    refine qm_Ru.go 2 (c' := (10, [.ref 118, .int s2, .int s4, .int 1, .int s163, .float 0], [.ref 118], h)) rfl ?_
                    refine hk_getr rfl (hH.1 118 (17, 105) rfl) rfl (hH.2 118 95 (some 182) rfl) ?_
                    refine qm_Ru.go 1 (c' := (14, [.ref 118, .int s2, .int s4, .int 1, .int s163, .float 0], [.int s2, .ref 182], h)) rfl ?_
                    refine hk_ial (v := y268) rfl (hH.1 182 (0, 2) rfl) (by omega) (by omega) ((hS.2.2.2.2.1 _).symm.trans q_y268) ?_
                    refine qm_Ru.go 1 (c' := (17, [.ref 118, .int s2, .int s4, .int 1, .int s163, .float 0], [.int 30, .int y268], h)) rfl ?_
                    refine hk_ceq (ix := y268.toInt) (iy := 30) rfl rfl rfl (fun z297 => ?_) (fun z297 => by exfalso; omega)
                    refine qm_Ru.go 1 (c' := (41, [.ref 118, .int s2, .int s4, .int 1, .int s163, .float 0], [.int (-1)], h)) rfl ?_
                    refine qm_Ru.rt (v := (some (.int (-1)))) (h' := h) rfl ?_
                    refine qm_Ru.go 3 (c' := (2081, [.retAddr 0, .ref 0, .ref 118, .int (i + 6)], [], h)) rfl ?_
                    obtain ⟨v298, q_v298, e_v298⟩ := hk_add (x := i) (y := 6) (a := i.toInt) (b := 6) rfl rfl (by omega) (by omega)
                    rw [q_v298]
                    refine qm_Ru.go 1 (c' := (18, [.retAddr 0, .ref 0, .ref 118, .int v298], [], h)) rfl ?_
                    have hG : gR (h.2.1) := hS.2
                    have hS1 : gS (h.1, h.2.1, h.2.2.1, h.2.2.2) := hS.1
                    have hS2 : gS2 (h.1, h.2.1, h.2.2.1, h.2.2.2) := ⟨hS1, hG⟩
                    have hX3 : gX (h.1, h.2.1, h.2.2.1, h.2.2.2) := hX
                    have hZ3 : (gZB tb) (h.1, h.2.1, h.2.2.1, h.2.2.2) := hZ
                    exact hE _ v298 (by omega) (qa_Inv_of0 ⟨hH.1, hH.2⟩ hB ⟨⟨⟨hS2, hX3⟩, hZ3⟩, t⟩ (gS2_ru hS2))
              · refine qm_Ru.go 1 (c' := (33, [.ref 0, .int s2, .int s4, .int 1, .int s163], [.int (-1)], h)) rfl ?_
                refine qm_Ru.rt (v := (some (.int (-1)))) (h' := h) rfl ?_
                refine qm_Ru.go 6 (c' := (1823, [.retAddr 0, .ref 0, .ref 118, .int i], [.int (i + 1), .retAddr 0, .ref 118], h)) rfl ?_
                rw [q_v1]
                refine hk_scr (v := s2) rfl (by omega) (by omega) q_s2 ?_
                refine qm_Ru.go 4 (c' := (1828, [.retAddr 0, .ref 0, .ref 118, .int i], [.int (i + 2), .retAddr 0, .int s2, .ref 118], h)) rfl ?_
                rw [q_v3]
                refine hk_scr (v := s4) rfl (by omega) (by omega) q_s4 ?_
                refine qm_Ru.go 4 (c' := (1833, [.retAddr 0, .ref 0, .ref 118, .int i], [.int (i + 3), .retAddr 0, .int s4, .int s2, .ref 118], h)) rfl ?_
                rw [q_v5]
                refine hk_scr (v := s6) rfl (by omega) (by omega) q_s6 ?_
                refine qm_Ru.go 0 (c' := (1834, [.retAddr 0, .ref 0, .ref 118, .int i], [.int s6, .int s4, .int s2, .ref 118], h)) rfl ?_
                refine hk_zeq (ix := s6.toInt) rfl rfl (fun z302 => by exfalso; omega) (fun z302 => ?_)
                refine qm_Ru.go 6 (c' := (1846, [.retAddr 0, .ref 0, .ref 118, .int i], [.int (i + 4), .retAddr 0, .int 1, .int s4, .int s2, .ref 118], h)) rfl ?_
                rw [q_v162]
                refine hk_scr (v := s163) rfl (by omega) (by omega) q_s163 ?_
                refine qm_Ru.go 0 (c' := (1847, [.retAddr 0, .ref 0, .ref 118, .int i], [.int s163, .int 1, .int s4, .int s2, .ref 118], h)) rfl ?_
                refine hk_inv (o := 118) (r := []) (as := [.ref 118, .int s2, .int s4, .int 1, .int s163]) rfl rfl (hH.1 118 (17, 105) rfl) rfl rfl rfl rfl ?_
                refine qm_Ru.go 3 (c' := (3, [.ref 118, .int s2, .int s4, .int 1, .int s163, .float 0], [.int 1, .int 0, .int s2], h)) rfl ?_
                refine qm_Ru.call (j := 270) (as := [.int s2, .int 0, .int 1]) (c' := (6, [.ref 118, .int s2, .int s4, .int 1, .int s163, .float 0], [], h)) rfl rfl rfl ?_
                refine qm_Ru.go 2 (c' := (2, [.int s2, .int 0, .int 1], [.int 0, .int s2], h)) rfl ?_
                refine hk_clt (ix := s2.toInt) (iy := 0) rfl rfl rfl (fun z304 => by exfalso; omega) (fun z304 => ?_)
                refine qm_Ru.go 2 (c' := (7, [.int s2, .int 0, .int 1], [.int 1, .int s2], h)) rfl ?_
                refine hk_cgt (ix := s2.toInt) (iy := 1) rfl rfl rfl (fun z305 => by exfalso; omega) (fun z305 => ?_)
                refine qm_Ru.go 2 (c' := (15, [.int s2, .int 0, .int 1], [.int 1], h)) rfl ?_
                refine qm_Ru.rt (v := (some (.int 1))) (h' := h) rfl ?_
                refine qm_Ru.go 2 (c' := (10, [.ref 118, .int s2, .int s4, .int 1, .int s163, .float 0], [.ref 118], h)) rfl ?_
                refine hk_getr rfl (hH.1 118 (17, 105) rfl) rfl (hH.2 118 95 (some 182) rfl) ?_
                refine qm_Ru.go 1 (c' := (14, [.ref 118, .int s2, .int s4, .int 1, .int s163, .float 0], [.int s2, .ref 182], h)) rfl ?_
                obtain ⟨v306, q_v306⟩ : ∃ v_, h.2.1 182 (s2.toInt.toNat) = v_ := ⟨_, rfl⟩
                refine hk_ial (v := v306) rfl (hH.1 182 (0, 2) rfl) (by omega) (by omega) q_v306 ?_
                refine qm_Ru.go 1 (c' := (17, [.ref 118, .int s2, .int s4, .int 1, .int s163, .float 0], [.int 30, .int v306], h)) rfl ?_
                refine hk_ceq (ix := v306.toInt) (iy := 30) rfl rfl rfl (fun z307 => ?_) (fun z307 => ?_)
                · refine qm_Ru.go 1 (c' := (41, [.ref 118, .int s2, .int s4, .int 1, .int s163, .float 0], [.int (-1)], h)) rfl ?_
                  refine qm_Ru.rt (v := (some (.int (-1)))) (h' := h) rfl ?_
                  refine qm_Ru.go 3 (c' := (2081, [.retAddr 0, .ref 0, .ref 118, .int (i + 6)], [], h)) rfl ?_
                  obtain ⟨v308, q_v308, e_v308⟩ := hk_add (x := i) (y := 6) (a := i.toInt) (b := 6) rfl rfl (by omega) (by omega)
                  rw [q_v308]
                  refine qm_Ru.go 1 (c' := (18, [.retAddr 0, .ref 0, .ref 118, .int v308], [], h)) rfl ?_
                  have hG : gR (h.2.1) := hS.2
                  have hS1 : gS (h.1, h.2.1, h.2.2.1, h.2.2.2) := hS.1
                  have hS2 : gS2 (h.1, h.2.1, h.2.2.1, h.2.2.2) := ⟨hS1, hG⟩
                  have hX3 : gX (h.1, h.2.1, h.2.2.1, h.2.2.2) := hX
                  have hZ3 : (gZB tb) (h.1, h.2.1, h.2.2.1, h.2.2.2) := hZ
                  exact hE _ v308 (by omega) (qa_Inv_of0 ⟨hH.1, hH.2⟩ hB ⟨⟨⟨hS2, hX3⟩, hZ3⟩, t⟩ (gS2_ru hS2))
                · refine qm_Ru.go 2 (c' := (22, [.ref 118, .int s2, .int s4, .int 1, .int s163, .float 0], [.int s4, .ref 118], h)) rfl ?_
                  refine hk_inv (o := 118) (r := []) (as := [.ref 118, .int s4]) rfl rfl (hH.1 118 (17, 105) rfl) rfl rfl rfl rfl ?_
                  refine qm_Ru.go 3 (c' := (3, [.ref 118, .int s4], [.ref 118, .int 0, .int s4], h)) rfl ?_
                  refine hk_geti (v := c0) rfl (hH.1 118 (17, 105) rfl) rfl p_c0 ?_
                  refine qm_Ru.go 2 (c' := (8, [.ref 118, .int s4], [.int (c0 - 1), .int 0, .int s4], h)) rfl ?_
                  obtain ⟨v309, q_v309, e_v309⟩ := hk_sub (x := c0) (y := 1) (a := c0.toInt) (b := 1) rfl rfl (by omega) (by omega)
                  rw [q_v309]
                  refine qm_Ru.call (j := 270) (as := [.int s4, .int 0, .int v309]) (c' := (11, [.ref 118, .int s4], [], h)) rfl rfl rfl ?_
                  refine qm_Ru.go 2 (c' := (2, [.int s4, .int 0, .int v309], [.int 0, .int s4], h)) rfl ?_
                  refine hk_clt (ix := s4.toInt) (iy := 0) rfl rfl rfl (fun z310 => by exfalso; omega) (fun z310 => ?_)
                  refine qm_Ru.go 2 (c' := (7, [.int s4, .int 0, .int v309], [.int v309, .int s4], h)) rfl ?_
                  refine hk_cgt (ix := s4.toInt) (iy := v309.toInt) rfl rfl rfl (fun z311 => ?_) (fun z311 => ?_)
                  · refine qm_Ru.go 1 (c' := (15, [.int s4, .int 0, .int v309], [.int 0], h)) rfl ?_
                    refine qm_Ru.rt (v := (some (.int 0))) (h' := h) rfl ?_
                    refine qm_Ru.go 0 (c' := (11, [.ref 118, .int s4], [.int 0], h)) rfl ?_
                    refine qm_Ru.rt (v := (some (.int 0))) (h' := h) rfl ?_
                    refine qm_Ru.go 2 (c' := (41, [.ref 118, .int s2, .int s4, .int 1, .int s163, .float 0], [.int (-1)], h)) rfl ?_
                    refine qm_Ru.rt (v := (some (.int (-1)))) (h' := h) rfl ?_
                    refine qm_Ru.go 3 (c' := (2081, [.retAddr 0, .ref 0, .ref 118, .int (i + 6)], [], h)) rfl ?_
                    obtain ⟨v312, q_v312, e_v312⟩ := hk_add (x := i) (y := 6) (a := i.toInt) (b := 6) rfl rfl (by omega) (by omega)
                    rw [q_v312]
                    refine qm_Ru.go 1 (c' := (18, [.retAddr 0, .ref 0, .ref 118, .int v312], [], h)) rfl ?_
                    have hG : gR (h.2.1) := hS.2
                    have hS1 : gS (h.1, h.2.1, h.2.2.1, h.2.2.2) := hS.1
                    have hS2 : gS2 (h.1, h.2.1, h.2.2.1, h.2.2.2) := ⟨hS1, hG⟩
                    have hX3 : gX (h.1, h.2.1, h.2.2.1, h.2.2.2) := hX
                    have hZ3 : (gZB tb) (h.1, h.2.1, h.2.2.1, h.2.2.2) := hZ
                    exact hE _ v312 (by omega) (qa_Inv_of0 ⟨hH.1, hH.2⟩ hB ⟨⟨⟨hS2, hX3⟩, hZ3⟩, t⟩ (gS2_ru hS2))
                  · refine qm_Ru.go 2 (c' := (15, [.int s4, .int 0, .int v309], [.int 1], h)) rfl ?_
                    refine qm_Ru.rt (v := (some (.int 1))) (h' := h) rfl ?_
                    refine qm_Ru.go 0 (c' := (11, [.ref 118, .int s4], [.int 1], h)) rfl ?_
                    refine qm_Ru.rt (v := (some (.int 1))) (h' := h) rfl ?_
                    refine qm_Ru.go 4 (c' := (34, [.ref 118, .int s2, .int s4, .int 1, .int s163, .float 0], [.int 9999, .int 0, .int s163], h)) rfl ?_
                    refine qm_Ru.call (j := 270) (as := [.int s163, .int 0, .int 9999]) (c' := (37, [.ref 118, .int s2, .int s4, .int 1, .int s163, .float 0], [], h)) rfl rfl rfl ?_
                    refine qm_Ru.go 2 (c' := (2, [.int s163, .int 0, .int 9999], [.int 0, .int s163], h)) rfl ?_
                    refine hk_clt (ix := s163.toInt) (iy := 0) rfl rfl rfl (fun z313 => by exfalso; omega) (fun z313 => ?_)
                    refine qm_Ru.go 2 (c' := (7, [.int s163, .int 0, .int 9999], [.int 9999, .int s163], h)) rfl ?_
                    refine hk_cgt (ix := s163.toInt) (iy := 9999) rfl rfl rfl (fun z314 => ?_) (fun z314 => by exfalso; omega)
                    refine qm_Ru.go 1 (c' := (15, [.int s163, .int 0, .int 9999], [.int 0], h)) rfl ?_
                    refine qm_Ru.rt (v := (some (.int 0))) (h' := h) rfl ?_
                    refine qm_Ru.go 2 (c' := (41, [.ref 118, .int s2, .int s4, .int 1, .int s163, .float 0], [.int (-1)], h)) rfl ?_
                    refine qm_Ru.rt (v := (some (.int (-1)))) (h' := h) rfl ?_
                    refine qm_Ru.go 3 (c' := (2081, [.retAddr 0, .ref 0, .ref 118, .int (i + 6)], [], h)) rfl ?_
                    obtain ⟨v315, q_v315, e_v315⟩ := hk_add (x := i) (y := 6) (a := i.toInt) (b := 6) rfl rfl (by omega) (by omega)
                    rw [q_v315]
                    refine qm_Ru.go 1 (c' := (18, [.retAddr 0, .ref 0, .ref 118, .int v315], [], h)) rfl ?_
                    have hG : gR (h.2.1) := hS.2
                    have hS1 : gS (h.1, h.2.1, h.2.2.1, h.2.2.2) := hS.1
                    have hS2 : gS2 (h.1, h.2.1, h.2.2.1, h.2.2.2) := ⟨hS1, hG⟩
                    have hX3 : gX (h.1, h.2.1, h.2.2.1, h.2.2.2) := hX
                    have hZ3 : (gZB tb) (h.1, h.2.1, h.2.2.1, h.2.2.2) := hZ
                    exact hE _ v315 (by omega) (qa_Inv_of0 ⟨hH.1, hH.2⟩ hB ⟨⟨⟨hS2, hX3⟩, hZ3⟩, t⟩ (gS2_ru hS2))
