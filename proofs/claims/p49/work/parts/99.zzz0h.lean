/-! ops of the law by hand: what it needs -/
theorem hk_scr {L : Nat} {xs : Nat → Int32} {d : Nat} {cd : qm_Cd} {Z : Option Value → qm_H → Prop} {pc np a b : Nat} {ls r : List Value} {h : qm_H} {i v : Int32} (hf : qm_fetch cd pc = some (pc, np, .iaload, a, b, .null)) (h0 : 0 ≤ i.toInt) (h1 : i.toInt < (L : Int)) (hv : xs i.toNatClampNeg = v) (kk : qm_Ru (some (L, xs)) d cd (np, ls, .int v :: r, h) Z) : qm_Ru (some (L, xs)) d cd (pc, ls, .int i :: .retAddr 0 :: r, h) Z := by
  refine qm_Ru.nx ?_ kk
  rw [hk_st (c := (pc, ls, .int i :: .retAddr 0 :: r, h)) hf]
  show (bif qm_in i L then qm_nx (np, ls, .int (xs i.toNatClampNeg) :: r, h) else none) = _
  rw [hk_in h0 h1, hv]
  rfl
/-- a place that nothing rests on is written -/
def qv_fr (o k : Nat) : Bool := (!qa_foot.contains o && !qa_foot.contains (1000000 + 1000 * o + k)) && (qa_Psh o).isSome
theorem gS_up {h : qm_H} {I : Nat → Nat → Int32} {J : Nat → Nat → Int64} {o k : Nat} {x : Int32} (hS : gS (h.1, I, J, h.2.2.2)) (hc : qv_fr o k = true) : gS (h.1, qm_up I o k x, J, h.2.2.2) := by
  unfold qv_fr at hc
  rw [Bool.and_eq_true, Bool.and_eq_true, Bool.not_eq_true', Bool.not_eq_true'] at hc
  obtain ⟨⟨c1, c2⟩, c3⟩ := hc
  refine gS_loc (t1 := 29) (t2 := 111) (h.1, I, J, h.2.2.2) (qm_up I o k x) J (fun o2 i2 hf => ?_) hS
  show qm_up I o k x o2 i2 = I o2 i2
  refine qa_up_ne ?_
  cases hb : Nat.beq o2 o && Nat.beq i2 k with
  | false => rfl
  | true =>
    exfalso
    rw [Bool.and_eq_true] at hb
    have e1 := Nat.eq_of_beq_eq_true hb.1
    have e2 := Nat.eq_of_beq_eq_true hb.2
    subst e1
    subst e2
    rcases hf with z | z | ⟨z, _⟩
    · have z : qa_foot.contains o2 = true := z
      rw [c1] at z
      cases z
    · have z : qa_Psh o2 = none := z
      rw [z] at c3
      cases c3
    · have z : qa_foot.contains (1000000 + 1000 * o2 + i2) = true := z
      rw [c2] at z
      cases z
theorem qv_47 {L : Nat} {xs : Nat → Int32} {Z : Option Value → qm_H → Prop} (h6 : 6 ≤ L) (hl : L ≤ 3072) : qv_P L xs Z 47 := by
  intro i h i0 i1 hI hE
  obtain ⟨j1, hB, j3, ⟨hS, t⟩, -⟩ := hI
  have hH : hk_H h := ⟨j1, j3⟩
  have b_i : 0 ≤ i.toInt ∧ i.toInt ≤ 3066 := by omega
  show qm_Ru (some (L, xs)) 300 cd_law (1719, [.retAddr 0, .ref 0, .ref 118, .int i], [], h) Z
  refine qm_Ru.go 5 (c' := (1724, [.retAddr 0, .ref 0, .ref 118, .int i], [.int (i + 1), .retAddr 0, .ref 0], h)) rfl ?_
  obtain ⟨v1, q_v1, e_v1⟩ := hk_add (x := i) (y := 1) (a := i.toInt) (b := 1) rfl rfl (by omega) (by omega)
  rw [q_v1]
  obtain ⟨s2, q_s2⟩ : ∃ v, xs (v1).toNatClampNeg = v := ⟨_, rfl⟩
  have := hk_rng s2
  refine hk_scr (v := s2) rfl (by omega) (by omega) q_s2 ?_
  refine qm_Ru.go 4 (c' := (1729, [.retAddr 0, .ref 0, .ref 118, .int i], [.int (i + 2), .retAddr 0, .int s2, .ref 0], h)) rfl ?_
  obtain ⟨v3, q_v3, e_v3⟩ := hk_add (x := i) (y := 2) (a := i.toInt) (b := 2) rfl rfl (by omega) (by omega)
  rw [q_v3]
  obtain ⟨s4, q_s4⟩ : ∃ v, xs (v3).toNatClampNeg = v := ⟨_, rfl⟩
  have := hk_rng s4
  refine hk_scr (v := s4) rfl (by omega) (by omega) q_s4 ?_
  refine qm_Ru.go 0 (c' := (1730, [.retAddr 0, .ref 0, .ref 118, .int i], [.int s4, .int s2, .ref 0], h)) rfl ?_
  refine hk_inv (o := 0) (r := []) (as := [.ref 0, .int s2, .int s4]) rfl rfl (hH.1 0 (16, 10) rfl) rfl rfl rfl rfl ?_
  refine qm_Ru.go 1 (c' := (1, [.ref 0, .int s2, .int s4], [.int s2], h)) rfl ?_
  refine hk_zlt (ix := s2.toInt) rfl rfl (fun z5 => ?_) (fun z5 => ?_)
  · refine qm_Ru.go 1 (c' := (17, [.ref 0, .int s2, .int s4], [.int 0], h)) rfl ?_
    refine qm_Ru.rt (v := (some (.int 0))) (h' := h) rfl ?_
    refine qm_Ru.go 5 (c' := (1738, [.retAddr 0, .ref 0, .ref 118, .int i], [.int (i + 1), .retAddr 0, .ref 118, .int 0], h)) rfl ?_
    rw [q_v1]
    refine hk_scr (v := s2) rfl (by omega) (by omega) q_s2 ?_
    refine qm_Ru.go 4 (c' := (1743, [.retAddr 0, .ref 0, .ref 118, .int i], [.int (i + 2), .retAddr 0, .int s2, .ref 118, .int 0], h)) rfl ?_
    rw [q_v3]
    refine hk_scr (v := s4) rfl (by omega) (by omega) q_s4 ?_
    refine qm_Ru.go 0 (c' := (1744, [.retAddr 0, .ref 0, .ref 118, .int i], [.int s4, .int s2, .ref 118, .int 0], h)) rfl ?_
    refine hk_inv (o := 118) (r := [.int 0]) (as := [.ref 118, .int s2, .int s4]) rfl rfl (hH.1 118 (17, 105) rfl) rfl rfl rfl rfl ?_
    refine qm_Ru.go 1 (c' := (1, [.ref 118, .int s2, .int s4], [.int s2], h)) rfl ?_
    refine hk_zlt (ix := s2.toInt) rfl rfl (fun z8 => ?_) (fun z8 => by exfalso; omega)
    refine qm_Ru.go 1 (c' := (17, [.ref 118, .int s2, .int s4], [.int 0], h)) rfl ?_
    refine qm_Ru.rt (v := (some (.int 0))) (h' := h) rfl ?_
    refine qm_Ru.go 2 (c' := (2081, [.retAddr 0, .ref 0, .ref 118, .int (i + 6)], [], h)) rfl ?_
    obtain ⟨v9, q_v9, e_v9⟩ := hk_add (x := i) (y := 6) (a := i.toInt) (b := 6) rfl rfl (by omega) (by omega)
    rw [q_v9]
    refine qm_Ru.go 1 (c' := (18, [.retAddr 0, .ref 0, .ref 118, .int v9], [], h)) rfl ?_
    have hS2 : gS (h.1, h.2.1, h.2.2.1, h.2.2.2) := (show gS (h.1, h.2.1, h.2.2.1, h.2.2.2) from hS)
    exact hE _ v9 (by omega) (qa_Inv_of0 ⟨hH.1, hH.2⟩ hB ⟨hS2, t⟩ (gS_ru hS2))
  · refine qm_Ru.go 2 (c' := (6, [.ref 0, .int s2, .int s4], [.int s2, .int s4], h)) rfl ?_
    refine hk_clt (ix := s4.toInt) (iy := s2.toInt) rfl rfl rfl (fun z10 => ?_) (fun z10 => ?_)
    · refine qm_Ru.go 1 (c' := (17, [.ref 0, .int s2, .int s4], [.int 0], h)) rfl ?_
      refine qm_Ru.rt (v := (some (.int 0))) (h' := h) rfl ?_
      refine qm_Ru.go 5 (c' := (1738, [.retAddr 0, .ref 0, .ref 118, .int i], [.int (i + 1), .retAddr 0, .ref 118, .int 0], h)) rfl ?_
      rw [q_v1]
      refine hk_scr (v := s2) rfl (by omega) (by omega) q_s2 ?_
      refine qm_Ru.go 4 (c' := (1743, [.retAddr 0, .ref 0, .ref 118, .int i], [.int (i + 2), .retAddr 0, .int s2, .ref 118, .int 0], h)) rfl ?_
      rw [q_v3]
      refine hk_scr (v := s4) rfl (by omega) (by omega) q_s4 ?_
      refine qm_Ru.go 0 (c' := (1744, [.retAddr 0, .ref 0, .ref 118, .int i], [.int s4, .int s2, .ref 118, .int 0], h)) rfl ?_
      refine hk_inv (o := 118) (r := [.int 0]) (as := [.ref 118, .int s2, .int s4]) rfl rfl (hH.1 118 (17, 105) rfl) rfl rfl rfl rfl ?_
      refine qm_Ru.go 1 (c' := (1, [.ref 118, .int s2, .int s4], [.int s2], h)) rfl ?_
      refine hk_zlt (ix := s2.toInt) rfl rfl (fun z13 => by exfalso; omega) (fun z13 => ?_)
      refine qm_Ru.go 2 (c' := (6, [.ref 118, .int s2, .int s4], [.int s2, .int s4], h)) rfl ?_
      refine hk_clt (ix := s4.toInt) (iy := s2.toInt) rfl rfl rfl (fun z14 => ?_) (fun z14 => by exfalso; omega)
      refine qm_Ru.go 1 (c' := (17, [.ref 118, .int s2, .int s4], [.int 0], h)) rfl ?_
      refine qm_Ru.rt (v := (some (.int 0))) (h' := h) rfl ?_
      refine qm_Ru.go 2 (c' := (2081, [.retAddr 0, .ref 0, .ref 118, .int (i + 6)], [], h)) rfl ?_
      obtain ⟨v15, q_v15, e_v15⟩ := hk_add (x := i) (y := 6) (a := i.toInt) (b := 6) rfl rfl (by omega) (by omega)
      rw [q_v15]
      refine qm_Ru.go 1 (c' := (18, [.retAddr 0, .ref 0, .ref 118, .int v15], [], h)) rfl ?_
      have hS2 : gS (h.1, h.2.1, h.2.2.1, h.2.2.2) := (show gS (h.1, h.2.1, h.2.2.1, h.2.2.2) from hS)
      exact hE _ v15 (by omega) (qa_Inv_of0 ⟨hH.1, hH.2⟩ hB ⟨hS2, t⟩ (gS_ru hS2))
    · refine qm_Ru.go 2 (c' := (13, [.ref 0, .int s2, .int s4], [.int 9999, .int s4], h)) rfl ?_
      refine hk_cle (ix := s4.toInt) (iy := 9999) rfl rfl rfl (fun z16 => ?_) (fun z16 => ?_)
      · refine qm_Ru.go 1 (c' := (19, [.ref 0, .int s2, .int s4], [.ref 0], h)) rfl ?_
        refine hk_getr rfl (hH.1 0 (16, 10) rfl) rfl (hH.2 0 7 (some 51) rfl) ?_
        refine qm_Ru.go 1 (c' := (23, [.ref 0, .int s2, .int s4], [.int s2, .ref 51], h)) rfl ?_
        refine hk_puti rfl (hH.1 51 (14, 13) rfl) rfl ?_
        refine qm_Ru.go 1 (c' := (27, [.ref 0, .int s2, .int s4], [.ref 0], (h.1, qm_up h.2.1 51 9 s2, h.2.2.1, h.2.2.2))) rfl ?_
        refine hk_getr rfl (hH.1 0 (16, 10) rfl) rfl (hH.2 0 7 (some 51) rfl) ?_
        refine qm_Ru.go 1 (c' := (31, [.ref 0, .int s2, .int s4], [.int s4, .ref 51], (h.1, qm_up h.2.1 51 9 s2, h.2.2.1, h.2.2.2))) rfl ?_
        refine hk_puti rfl (hH.1 51 (14, 13) rfl) rfl ?_
        refine qm_Ru.go 1 (c' := (35, [.ref 0, .int s2, .int s4], [.int 1], (h.1, qm_up (qm_up h.2.1 51 9 s2) 51 10 s4, h.2.2.1, h.2.2.2))) rfl ?_
        refine qm_Ru.rt (v := (some (.int 1))) (h' := (h.1, qm_up (qm_up h.2.1 51 9 s2) 51 10 s4, h.2.2.1, h.2.2.2)) rfl ?_
        refine qm_Ru.go 5 (c' := (1738, [.retAddr 0, .ref 0, .ref 118, .int i], [.int (i + 1), .retAddr 0, .ref 118, .int 1], (h.1, qm_up (qm_up h.2.1 51 9 s2) 51 10 s4, h.2.2.1, h.2.2.2))) rfl ?_
        rw [q_v1]
        refine hk_scr (v := s2) rfl (by omega) (by omega) q_s2 ?_
        refine qm_Ru.go 4 (c' := (1743, [.retAddr 0, .ref 0, .ref 118, .int i], [.int (i + 2), .retAddr 0, .int s2, .ref 118, .int 1], (h.1, qm_up (qm_up h.2.1 51 9 s2) 51 10 s4, h.2.2.1, h.2.2.2))) rfl ?_
        rw [q_v3]
        refine hk_scr (v := s4) rfl (by omega) (by omega) q_s4 ?_
        refine qm_Ru.go 0 (c' := (1744, [.retAddr 0, .ref 0, .ref 118, .int i], [.int s4, .int s2, .ref 118, .int 1], (h.1, qm_up (qm_up h.2.1 51 9 s2) 51 10 s4, h.2.2.1, h.2.2.2))) rfl ?_
        refine hk_inv (o := 118) (r := [.int 1]) (as := [.ref 118, .int s2, .int s4]) rfl rfl (hH.1 118 (17, 105) rfl) rfl rfl rfl rfl ?_
        refine qm_Ru.go 1 (c' := (1, [.ref 118, .int s2, .int s4], [.int s2], (h.1, qm_up (qm_up h.2.1 51 9 s2) 51 10 s4, h.2.2.1, h.2.2.2))) rfl ?_
        refine hk_zlt (ix := s2.toInt) rfl rfl (fun z19 => by exfalso; omega) (fun z19 => ?_)
        refine qm_Ru.go 2 (c' := (6, [.ref 118, .int s2, .int s4], [.int s2, .int s4], (h.1, qm_up (qm_up h.2.1 51 9 s2) 51 10 s4, h.2.2.1, h.2.2.2))) rfl ?_
        refine hk_clt (ix := s4.toInt) (iy := s2.toInt) rfl rfl rfl (fun z20 => by exfalso; omega) (fun z20 => ?_)
        refine qm_Ru.go 2 (c' := (13, [.ref 118, .int s2, .int s4], [.int 9999, .int s4], (h.1, qm_up (qm_up h.2.1 51 9 s2) 51 10 s4, h.2.2.1, h.2.2.2))) rfl ?_
        refine hk_cle (ix := s4.toInt) (iy := 9999) rfl rfl rfl (fun z21 => ?_) (fun z21 => by exfalso; omega)
        refine qm_Ru.go 2 (c' := (20, [.ref 118, .int s2, .int s4], [.int s2, .ref 118], (h.1, qm_up (qm_up h.2.1 51 9 s2) 51 10 s4, h.2.2.1, h.2.2.2))) rfl ?_
        refine hk_puti rfl (hH.1 118 (17, 105) rfl) rfl ?_
        refine qm_Ru.go 2 (c' := (25, [.ref 118, .int s2, .int s4], [.int s4, .ref 118], (h.1, qm_up (qm_up (qm_up h.2.1 51 9 s2) 51 10 s4) 118 91 s2, h.2.2.1, h.2.2.2))) rfl ?_
        refine hk_puti rfl (hH.1 118 (17, 105) rfl) rfl ?_
        refine qm_Ru.go 1 (c' := (29, [.ref 118, .int s2, .int s4], [.int 1], (h.1, qm_up (qm_up (qm_up (qm_up h.2.1 51 9 s2) 51 10 s4) 118 91 s2) 118 92 s4, h.2.2.1, h.2.2.2))) rfl ?_
        refine qm_Ru.rt (v := (some (.int 1))) (h' := (h.1, qm_up (qm_up (qm_up (qm_up h.2.1 51 9 s2) 51 10 s4) 118 91 s2) 118 92 s4, h.2.2.1, h.2.2.2)) rfl ?_
        refine qm_Ru.go 2 (c' := (2081, [.retAddr 0, .ref 0, .ref 118, .int (i + 6)], [], (h.1, qm_up (qm_up (qm_up (qm_up h.2.1 51 9 s2) 51 10 s4) 118 91 s2) 118 92 s4, h.2.2.1, h.2.2.2))) rfl ?_
        obtain ⟨v22, q_v22, e_v22⟩ := hk_add (x := i) (y := 6) (a := i.toInt) (b := 6) rfl rfl (by omega) (by omega)
        rw [q_v22]
        refine qm_Ru.go 1 (c' := (18, [.retAddr 0, .ref 0, .ref 118, .int v22], [], (h.1, qm_up (qm_up (qm_up (qm_up h.2.1 51 9 s2) 51 10 s4) 118 91 s2) 118 92 s4, h.2.2.1, h.2.2.2))) rfl ?_
        have hS2 : gS (h.1, qm_up (qm_up (qm_up (qm_up h.2.1 51 9 s2) 51 10 s4) 118 91 s2) 118 92 s4, h.2.2.1, h.2.2.2) := (gS_up (gS_up (gS_up (gS_up (show gS (h.1, h.2.1, h.2.2.1, h.2.2.2) from hS) (by decide)) (by decide)) (by decide)) (by decide))
        exact hE _ v22 (by omega) (qa_Inv_of0 ⟨hH.1, hH.2⟩ (hb_up (o := 118) (k := 92) (x := s4) (hb_up (o := 118) (k := 91) (x := s2) (hb_up (o := 51) (k := 10) (x := s4) (hb_up (o := 51) (k := 9) (x := s2) hB ⟨by show (0 : Int) ≤ s2.toInt; omega, by show s2.toInt ≤ (9999 : Int); omega⟩) ⟨by show (-1 : Int) ≤ s4.toInt; omega, by show s4.toInt ≤ (9999 : Int); omega⟩) ⟨by show (0 : Int) ≤ s2.toInt; omega, by show s2.toInt ≤ (9999 : Int); omega⟩) ⟨by show (-1 : Int) ≤ s4.toInt; omega, by show s4.toInt ≤ (9999 : Int); omega⟩) ⟨hS2, t⟩ (gS_ru hS2))
      · refine qm_Ru.go 1 (c' := (17, [.ref 0, .int s2, .int s4], [.int 0], h)) rfl ?_
        refine qm_Ru.rt (v := (some (.int 0))) (h' := h) rfl ?_
        refine qm_Ru.go 5 (c' := (1738, [.retAddr 0, .ref 0, .ref 118, .int i], [.int (i + 1), .retAddr 0, .ref 118, .int 0], h)) rfl ?_
        rw [q_v1]
        refine hk_scr (v := s2) rfl (by omega) (by omega) q_s2 ?_
        refine qm_Ru.go 4 (c' := (1743, [.retAddr 0, .ref 0, .ref 118, .int i], [.int (i + 2), .retAddr 0, .int s2, .ref 118, .int 0], h)) rfl ?_
        rw [q_v3]
        refine hk_scr (v := s4) rfl (by omega) (by omega) q_s4 ?_
        refine qm_Ru.go 0 (c' := (1744, [.retAddr 0, .ref 0, .ref 118, .int i], [.int s4, .int s2, .ref 118, .int 0], h)) rfl ?_
        refine hk_inv (o := 118) (r := [.int 0]) (as := [.ref 118, .int s2, .int s4]) rfl rfl (hH.1 118 (17, 105) rfl) rfl rfl rfl rfl ?_
        refine qm_Ru.go 1 (c' := (1, [.ref 118, .int s2, .int s4], [.int s2], h)) rfl ?_
        refine hk_zlt (ix := s2.toInt) rfl rfl (fun z25 => by exfalso; omega) (fun z25 => ?_)
        refine qm_Ru.go 2 (c' := (6, [.ref 118, .int s2, .int s4], [.int s2, .int s4], h)) rfl ?_
        refine hk_clt (ix := s4.toInt) (iy := s2.toInt) rfl rfl rfl (fun z26 => by exfalso; omega) (fun z26 => ?_)
        refine qm_Ru.go 2 (c' := (13, [.ref 118, .int s2, .int s4], [.int 9999, .int s4], h)) rfl ?_
        refine hk_cle (ix := s4.toInt) (iy := 9999) rfl rfl rfl (fun z27 => by exfalso; omega) (fun z27 => ?_)
        refine qm_Ru.go 1 (c' := (17, [.ref 118, .int s2, .int s4], [.int 0], h)) rfl ?_
        refine qm_Ru.rt (v := (some (.int 0))) (h' := h) rfl ?_
        refine qm_Ru.go 2 (c' := (2081, [.retAddr 0, .ref 0, .ref 118, .int (i + 6)], [], h)) rfl ?_
        obtain ⟨v28, q_v28, e_v28⟩ := hk_add (x := i) (y := 6) (a := i.toInt) (b := 6) rfl rfl (by omega) (by omega)
        rw [q_v28]
        refine qm_Ru.go 1 (c' := (18, [.retAddr 0, .ref 0, .ref 118, .int v28], [], h)) rfl ?_
        have hS2 : gS (h.1, h.2.1, h.2.2.1, h.2.2.2) := (show gS (h.1, h.2.1, h.2.2.1, h.2.2.2) from hS)
        exact hE _ v28 (by omega) (qa_Inv_of0 ⟨hH.1, hH.2⟩ hB ⟨hS2, t⟩ (gS_ru hS2))
