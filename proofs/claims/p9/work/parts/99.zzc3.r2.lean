/-! the class's tokens, in given runs -/
/-! longs of cells; bytes -/
theorem hj_same {J : Nat → Nat → Int64} {o k : Nat} {x : Int64} : qm_up J o k x o k = x := by
  unfold qm_up
  rw [Nat.beq_refl, Nat.beq_refl]
  rfl
theorem hj_ot {J : Nat → Nat → Int64} {o k o' i : Nat} {x : Int64} (h : Nat.beq o' o = false) : qm_up J o k x o' i = J o' i := by
  unfold qm_up
  rw [h]
  rfl
theorem hj_neq {J : Nat → Nat → Int64} {o k i : Nat} {x : Int64} (h : i ≠ k) : qm_up J o k x o i = J o i := by
  unfold qm_up
  rw [qm_bne h, Bool.and_false]
  rfl
theorem hj_equ {J : Nat → Nat → Int64} {o k i : Nat} {x : Int64} (h : i = k) : qm_up J o k x o i = x := by
  subst h
  exact hj_same
theorem hj_mod {J : Nat → Nat → Int64} {mod : List Nat} {o k j i : Nat} {x : Int64} (ho : mod.contains o = false) (hk : mod.contains k = true) : qm_up J k j x o i = J o i := by
  refine hj_ot ?_
  cases hb : Nat.beq o k with
  | false => rfl
  | true =>
    rw [Nat.eq_of_beq_eq_true hb, hk] at ho
    cases ho
theorem hp_255a : ∀ k : Nat, k < 256 → ((Int32.ofInt ((k : Int) - 128)) &&& 255).toInt = (if (k : Int) - 128 < 0 then (k : Int) - 128 + 256 else (k : Int) - 128) := by decide +kernel
theorem hp_255 {x : Int32} (h : -128 ≤ x.toInt ∧ x.toInt ≤ 127) : ∃ z, (x &&& 255) = z ∧ ((x.toInt < 0 → z.toInt = x.toInt + 256) ∧ (0 ≤ x.toInt → z.toInt = x.toInt)) := by
  refine ⟨_, rfl, ?_⟩
  have e : x = Int32.ofInt (((x.toInt + 128).toNat : Int) - 128) := by
    apply Int32.toInt_inj.mp
    rw [show (((x.toInt + 128).toNat : Int) - 128) = x.toInt by omega, Int32.ofInt_toInt]
  have w := hp_255a (x.toInt + 128).toNat (by omega)
  rw [← e, show (((x.toInt + 128).toNat : Int) - 128) = x.toInt by omega] at w
  rw [w]
  constructor
  · intro z
    rw [if_pos z]
  · intro z
    rw [if_neg (by omega)]
theorem hp_byta : ∀ k : Nat, k < 256 → vp_nar .byte (Int32.ofInt ((k : Int) - 128)) = Int32.ofInt ((k : Int) - 128) := by decide +kernel
theorem hp_byt {x : Int32} (h : -128 ≤ x.toInt ∧ x.toInt ≤ 127) : vp_nar .byte x = x := by
  have e : x = Int32.ofInt (((x.toInt + 128).toNat : Int) - 128) := by
    apply Int32.toInt_inj.mp
    rw [show (((x.toInt + 128).toNat : Int) - 128) = x.toInt by omega, Int32.ofInt_toInt]
  rw [e]
  exact hp_byta _ (by omega)
theorem kw_y {x w : Int64} {c : Int32} (q : lg_cmp x w = c) (h : c.toInt = 0) : x = w := by
  have h2 : lg_cmp x w = 0 := q.trans (hk_eqi.mpr h)
  rw [lg_cmp_eq] at h2
  exact h2
theorem kw_n {x w : Int64} {c : Int32} (q : lg_cmp x w = c) (h : ¬ c.toInt = 0) : x ≠ w := fun e => h (by
  have h2 : lg_cmp x w = 0 := by
    rw [lg_cmp_eq]
    exact e
  rw [← q, h2]
  rfl)
theorem kw_go {l : List Int64} {i : Int} {x k : Int64} (h : x ≠ k) : kwf (k :: l) i x = kwf l (i + 1) x := if_neg h
theorem kw_at {l : List Int64} {i : Int} {x k : Int64} (h : x = k) : kwf (k :: l) i x = i := if_pos h
theorem px_kind {X : Option (Nat × (Nat → Int32))} {Z : Option Value → qm_H → Prop} {h : qm_H} {fu : Nat} {x : Int64} (k : ∀ v : Int32, v.toInt = kw x → Z (some (.int v)) h) : qm_Rp fu X cd_382 (qm_ent 7 [.long x] h) Z := by
  refine qm_Rp.go 0 (c' := (0, [.long x, .float 0, .float 0, .float 0, .float 0, .float 0, .float 0], [], h)) rfl ?_
  have kz0 : (0 : Int32).toInt = 0 := rfl
  have kz1 : (1 : Int32).toInt = 1 := rfl
  have kz2 : (2 : Int32).toInt = 2 := rfl
  have kz3 : (3 : Int32).toInt = 3 := rfl
  have kz4 : (4 : Int32).toInt = 4 := rfl
  have kz5 : (5 : Int32).toInt = 5 := rfl
  have kz6 : (6 : Int32).toInt = 6 := rfl
  have kz7 : (7 : Int32).toInt = 7 := rfl
  have kz8 : (8 : Int32).toInt = 8 := rfl
  have kz9 : (9 : Int32).toInt = 9 := rfl
  have kzm1 : ((-1) : Int32).toInt = (-1) := rfl
  have kzm2 : ((-2) : Int32).toInt = (-2) := rfl
  have kzm3 : ((-3) : Int32).toInt = (-3) := rfl
  refine qm_Rp.go 3 (c' := (5, [.long x, .float 0, .float 0, .float 0, .float 0, .float 0, .float 0], [.int (lg_cmp x (40789 : Int64))], h)) rfl ?_
  obtain ⟨v1, q_v1⟩ : ∃ v_, (lg_cmp x (40789 : Int64)) = v_ := ⟨_, rfl⟩
  rw [q_v1]
  refine hp_zne (ix := v1.toInt) rfl rfl (fun z2 => ?_) (fun z2 => ?_)
  · refine qm_Rp.go 0 (c' := (10, [.long x, .float 0, .float 0, .float 0, .float 0, .float 0, .float 0], [], h)) rfl ?_
    have kq0 := kw_n q_v1 (by omega)
    refine qm_Rp.go 3 (c' := (15, [.long x, .float 0, .float 0, .float 0, .float 0, .float 0, .float 0], [.int (lg_cmp x (243290 : Int64))], h)) rfl ?_
    obtain ⟨v3, q_v3⟩ : ∃ v_, (lg_cmp x (243290 : Int64)) = v_ := ⟨_, rfl⟩
    rw [q_v3]
    refine hp_zne (ix := v3.toInt) rfl rfl (fun z4 => ?_) (fun z4 => ?_)
    · refine qm_Rp.go 0 (c' := (20, [.long x, .float 0, .float 0, .float 0, .float 0, .float 0, .float 0], [], h)) rfl ?_
      have kq1 := kw_n q_v3 (by omega)
      refine qm_Rp.go 3 (c' := (25, [.long x, .float 0, .float 0, .float 0, .float 0, .float 0, .float 0], [.int (lg_cmp x (407038 : Int64))], h)) rfl ?_
      obtain ⟨v5, q_v5⟩ : ∃ v_, (lg_cmp x (407038 : Int64)) = v_ := ⟨_, rfl⟩
      rw [q_v5]
      refine hp_zne (ix := v5.toInt) rfl rfl (fun z6 => ?_) (fun z6 => ?_)
      · refine qm_Rp.go 0 (c' := (30, [.long x, .float 0, .float 0, .float 0, .float 0, .float 0, .float 0], [], h)) rfl ?_
        have kq2 := kw_n q_v5 (by omega)
        refine qm_Rp.go 3 (c' := (35, [.long x, .float 0, .float 0, .float 0, .float 0, .float 0, .float 0], [.int (lg_cmp x (43393 : Int64))], h)) rfl ?_
        obtain ⟨v7, q_v7⟩ : ∃ v_, (lg_cmp x (43393 : Int64)) = v_ := ⟨_, rfl⟩
        rw [q_v7]
        refine hp_zne (ix := v7.toInt) rfl rfl (fun z8 => ?_) (fun z8 => ?_)
        · refine qm_Rp.go 0 (c' := (40, [.long x, .float 0, .float 0, .float 0, .float 0, .float 0, .float 0], [], h)) rfl ?_
          have kq3 := kw_n q_v7 (by omega)
          refine qm_Rp.go 3 (c' := (45, [.long x, .float 0, .float 0, .float 0, .float 0, .float 0, .float 0], [.int (lg_cmp x (242939 : Int64))], h)) rfl ?_
          obtain ⟨v9, q_v9⟩ : ∃ v_, (lg_cmp x (242939 : Int64)) = v_ := ⟨_, rfl⟩
          rw [q_v9]
          refine hp_zne (ix := v9.toInt) rfl rfl (fun z10 => ?_) (fun z10 => ?_)
          · refine qm_Rp.go 0 (c' := (50, [.long x, .float 0, .float 0, .float 0, .float 0, .float 0, .float 0], [], h)) rfl ?_
            have kq4 := kw_n q_v9 (by omega)
            refine qm_Rp.go 3 (c' := (55, [.long x, .float 0, .float 0, .float 0, .float 0, .float 0, .float 0], [.int (lg_cmp x (324250 : Int64))], h)) rfl ?_
            obtain ⟨v11, q_v11⟩ : ∃ v_, (lg_cmp x (324250 : Int64)) = v_ := ⟨_, rfl⟩
            rw [q_v11]
            refine hp_zne (ix := v11.toInt) rfl rfl (fun z12 => ?_) (fun z12 => ?_)
            · refine qm_Rp.go 0 (c' := (60, [.long x, .float 0, .float 0, .float 0, .float 0, .float 0, .float 0], [], h)) rfl ?_
              have kq5 := kw_n q_v11 (by omega)
              refine qm_Rp.go 3 (c' := (65, [.long x, .float 0, .float 0, .float 0, .float 0, .float 0, .float 0], [.int (lg_cmp x (315918 : Int64))], h)) rfl ?_
              obtain ⟨v13, q_v13⟩ : ∃ v_, (lg_cmp x (315918 : Int64)) = v_ := ⟨_, rfl⟩
              rw [q_v13]
              refine hp_zne (ix := v13.toInt) rfl rfl (fun z14 => ?_) (fun z14 => ?_)
              · refine qm_Rp.go 0 (c' := (70, [.long x, .float 0, .float 0, .float 0, .float 0, .float 0, .float 0], [], h)) rfl ?_
                have kq6 := kw_n q_v13 (by omega)
                refine qm_Rp.go 3 (c' := (75, [.long x, .float 0, .float 0, .float 0, .float 0, .float 0, .float 0], [.int (lg_cmp x (8740067 : Int64))], h)) rfl ?_
                obtain ⟨v15, q_v15⟩ : ∃ v_, (lg_cmp x (8740067 : Int64)) = v_ := ⟨_, rfl⟩
                rw [q_v15]
                refine hp_zne (ix := v15.toInt) rfl rfl (fun z16 => ?_) (fun z16 => ?_)
                · refine qm_Rp.go 0 (c' := (80, [.long x, .float 0, .float 0, .float 0, .float 0, .float 0, .float 0], [], h)) rfl ?_
                  have kq7 := kw_n q_v15 (by omega)
                  refine qm_Rp.go 3 (c' := (85, [.long x, .float 0, .float 0, .float 0, .float 0, .float 0, .float 0], [.int (lg_cmp x (249 : Int64))], h)) rfl ?_
                  obtain ⟨v17, q_v17⟩ : ∃ v_, (lg_cmp x (249 : Int64)) = v_ := ⟨_, rfl⟩
                  rw [q_v17]
                  refine hp_zne (ix := v17.toInt) rfl rfl (fun z18 => ?_) (fun z18 => ?_)
                  · refine qm_Rp.go 0 (c' := (90, [.long x, .float 0, .float 0, .float 0, .float 0, .float 0, .float 0], [], h)) rfl ?_
                    have kq8 := kw_n q_v17 (by omega)
                    refine qm_Rp.go 3 (c' := (95, [.long x, .float 0, .float 0, .float 0, .float 0, .float 0, .float 0], [.int (lg_cmp x (423 : Int64))], h)) rfl ?_
                    obtain ⟨v19, q_v19⟩ : ∃ v_, (lg_cmp x (423 : Int64)) = v_ := ⟨_, rfl⟩
                    rw [q_v19]
                    refine hp_zne (ix := v19.toInt) rfl rfl (fun z20 => ?_) (fun z20 => ?_)
                    · refine qm_Rp.go 0 (c' := (100, [.long x, .float 0, .float 0, .float 0, .float 0, .float 0, .float 0], [], h)) rfl ?_
                      have kq9 := kw_n q_v19 (by omega)
                      refine qm_Rp.go 3 (c' := (105, [.long x, .float 0, .float 0, .float 0, .float 0, .float 0, .float 0], [.int (lg_cmp x (1111 : Int64))], h)) rfl ?_
                      obtain ⟨v21, q_v21⟩ : ∃ v_, (lg_cmp x (1111 : Int64)) = v_ := ⟨_, rfl⟩
                      rw [q_v21]
                      refine hp_zne (ix := v21.toInt) rfl rfl (fun z22 => ?_) (fun z22 => ?_)
                      · refine qm_Rp.go 0 (c' := (110, [.long x, .float 0, .float 0, .float 0, .float 0, .float 0, .float 0], [], h)) rfl ?_
                        have kq10 := kw_n q_v21 (by omega)
                        refine qm_Rp.go 3 (c' := (115, [.long x, .float 0, .float 0, .float 0, .float 0, .float 0, .float 0], [.int (lg_cmp x (10631 : Int64))], h)) rfl ?_
                        obtain ⟨v23, q_v23⟩ : ∃ v_, (lg_cmp x (10631 : Int64)) = v_ := ⟨_, rfl⟩
                        rw [q_v23]
                        refine hp_zne (ix := v23.toInt) rfl rfl (fun z24 => ?_) (fun z24 => ?_)
                        · refine qm_Rp.go 0 (c' := (120, [.long x, .float 0, .float 0, .float 0, .float 0, .float 0, .float 0], [], h)) rfl ?_
                          have kq11 := kw_n q_v23 (by omega)
                          refine qm_Rp.go 3 (c' := (125, [.long x, .float 0, .float 0, .float 0, .float 0, .float 0, .float 0], [.int (lg_cmp x (385418 : Int64))], h)) rfl ?_
                          obtain ⟨v25, q_v25⟩ : ∃ v_, (lg_cmp x (385418 : Int64)) = v_ := ⟨_, rfl⟩
                          rw [q_v25]
                          refine hp_zne (ix := v25.toInt) rfl rfl (fun z26 => ?_) (fun z26 => ?_)
                          · refine qm_Rp.go 0 (c' := (130, [.long x, .float 0, .float 0, .float 0, .float 0, .float 0, .float 0], [], h)) rfl ?_
                            have kq12 := kw_n q_v25 (by omega)
                            refine qm_Rp.go 3 (c' := (135, [.long x, .float 0, .float 0, .float 0, .float 0, .float 0, .float 0], [.int (lg_cmp x (332864552 : Int64))], h)) rfl ?_
                            obtain ⟨v27, q_v27⟩ : ∃ v_, (lg_cmp x (332864552 : Int64)) = v_ := ⟨_, rfl⟩
                            rw [q_v27]
                            refine hp_zne (ix := v27.toInt) rfl rfl (fun z28 => ?_) (fun z28 => ?_)
                            · refine qm_Rp.go 0 (c' := (140, [.long x, .float 0, .float 0, .float 0, .float 0, .float 0, .float 0], [], h)) rfl ?_
                              have kq13 := kw_n q_v27 (by omega)
                              refine qm_Rp.go 3 (c' := (145, [.long x, .float 0, .float 0, .float 0, .float 0, .float 0, .float 0], [.int (lg_cmp x (326369 : Int64))], h)) rfl ?_
                              obtain ⟨v29, q_v29⟩ : ∃ v_, (lg_cmp x (326369 : Int64)) = v_ := ⟨_, rfl⟩
                              rw [q_v29]
                              refine hp_zne (ix := v29.toInt) rfl rfl (fun z30 => ?_) (fun z30 => ?_)
                              · refine qm_Rp.go 0 (c' := (150, [.long x, .float 0, .float 0, .float 0, .float 0, .float 0, .float 0], [], h)) rfl ?_
                                have kq14 := kw_n q_v29 (by omega)
                                refine qm_Rp.go 3 (c' := (155, [.long x, .float 0, .float 0, .float 0, .float 0, .float 0, .float 0], [.int (lg_cmp x (1510 : Int64))], h)) rfl ?_
                                obtain ⟨v31, q_v31⟩ : ∃ v_, (lg_cmp x (1510 : Int64)) = v_ := ⟨_, rfl⟩
                                rw [q_v31]
                                refine hp_zne (ix := v31.toInt) rfl rfl (fun z32 => ?_) (fun z32 => ?_)
                                · refine qm_Rp.go 0 (c' := (160, [.long x, .float 0, .float 0, .float 0, .float 0, .float 0, .float 0], [], h)) rfl ?_
                                  have kq15 := kw_n q_v31 (by omega)
                                  refine qm_Rp.go 3 (c' := (165, [.long x, .float 0, .float 0, .float 0, .float 0, .float 0, .float 0], [.int (lg_cmp x (13550 : Int64))], h)) rfl ?_
                                  obtain ⟨v33, q_v33⟩ : ∃ v_, (lg_cmp x (13550 : Int64)) = v_ := ⟨_, rfl⟩
                                  rw [q_v33]
                                  refine hp_zne (ix := v33.toInt) rfl rfl (fun z34 => ?_) (fun z34 => ?_)
                                  · refine qm_Rp.go 0 (c' := (170, [.long x, .float 0, .float 0, .float 0, .float 0, .float 0, .float 0], [], h)) rfl ?_
                                    have kq16 := kw_n q_v33 (by omega)
                                    refine qm_Rp.go 3 (c' := (175, [.long x, .float 0, .float 0, .float 0, .float 0, .float 0, .float 0], [.int (lg_cmp x (400374 : Int64))], h)) rfl ?_
                                    obtain ⟨v35, q_v35⟩ : ∃ v_, (lg_cmp x (400374 : Int64)) = v_ := ⟨_, rfl⟩
                                    rw [q_v35]
                                    refine hp_zne (ix := v35.toInt) rfl rfl (fun z36 => ?_) (fun z36 => ?_)
                                    · refine qm_Rp.go 0 (c' := (180, [.long x, .float 0, .float 0, .float 0, .float 0, .float 0, .float 0], [], h)) rfl ?_
                                      have kq17 := kw_n q_v35 (by omega)
                                      refine qm_Rp.go 3 (c' := (185, [.long x, .float 0, .float 0, .float 0, .float 0, .float 0, .float 0], [.int (lg_cmp x (6382217992 : Int64))], h)) rfl ?_
                                      obtain ⟨v37, q_v37⟩ : ∃ v_, (lg_cmp x (6382217992 : Int64)) = v_ := ⟨_, rfl⟩
                                      rw [q_v37]
                                      refine hp_zne (ix := v37.toInt) rfl rfl (fun z38 => ?_) (fun z38 => ?_)
                                      · refine qm_Rp.go 0 (c' := (190, [.long x, .float 0, .float 0, .float 0, .float 0, .float 0, .float 0], [], h)) rfl ?_
                                        have kq18 := kw_n q_v37 (by omega)
                                        refine qm_Rp.go 3 (c' := (195, [.long x, .float 0, .float 0, .float 0, .float 0, .float 0, .float 0], [.int (lg_cmp x (8357033 : Int64))], h)) rfl ?_
                                        obtain ⟨v39, q_v39⟩ : ∃ v_, (lg_cmp x (8357033 : Int64)) = v_ := ⟨_, rfl⟩
                                        rw [q_v39]
                                        refine hp_zne (ix := v39.toInt) rfl rfl (fun z40 => ?_) (fun z40 => ?_)
                                        · refine qm_Rp.go 0 (c' := (200, [.long x, .float 0, .float 0, .float 0, .float 0, .float 0, .float 0], [], h)) rfl ?_
                                          have kq19 := kw_n q_v39 (by omega)
                                          refine qm_Rp.go 3 (c' := (205, [.long x, .float 0, .float 0, .float 0, .float 0, .float 0, .float 0], [.int (lg_cmp x (6144171887 : Int64))], h)) rfl ?_
                                          obtain ⟨v41, q_v41⟩ : ∃ v_, (lg_cmp x (6144171887 : Int64)) = v_ := ⟨_, rfl⟩
                                          rw [q_v41]
                                          refine hp_zne (ix := v41.toInt) rfl rfl (fun z42 => ?_) (fun z42 => ?_)
                                          · refine qm_Rp.go 0 (c' := (210, [.long x, .float 0, .float 0, .float 0, .float 0, .float 0, .float 0], [], h)) rfl ?_
                                            have kq20 := kw_n q_v41 (by omega)
                                            refine qm_Rp.go 3 (c' := (215, [.long x, .float 0, .float 0, .float 0, .float 0, .float 0, .float 0], [.int (lg_cmp x (8297984 : Int64))], h)) rfl ?_
                                            obtain ⟨v43, q_v43⟩ : ∃ v_, (lg_cmp x (8297984 : Int64)) = v_ := ⟨_, rfl⟩
                                            rw [q_v43]
                                            refine hp_zne (ix := v43.toInt) rfl rfl (fun z44 => ?_) (fun z44 => ?_)
                                            · refine qm_Rp.go 0 (c' := (220, [.long x, .float 0, .float 0, .float 0, .float 0, .float 0, .float 0], [], h)) rfl ?_
                                              have kq21 := kw_n q_v43 (by omega)
                                              refine qm_Rp.go 3 (c' := (225, [.long x, .float 0, .float 0, .float 0, .float 0, .float 0, .float 0], [.int (lg_cmp x (296755 : Int64))], h)) rfl ?_
                                              obtain ⟨v45, q_v45⟩ : ∃ v_, (lg_cmp x (296755 : Int64)) = v_ := ⟨_, rfl⟩
                                              rw [q_v45]
                                              refine hp_zne (ix := v45.toInt) rfl rfl (fun z46 => ?_) (fun z46 => ?_)
                                              · refine qm_Rp.go 0 (c' := (230, [.long x, .float 0, .float 0, .float 0, .float 0, .float 0, .float 0], [], h)) rfl ?_
                                                have kq22 := kw_n q_v45 (by omega)
                                                refine qm_Rp.go 3 (c' := (235, [.long x, .float 0, .float 0, .float 0, .float 0, .float 0, .float 0], [.int (lg_cmp x (308795 : Int64))], h)) rfl ?_
                                                obtain ⟨v47, q_v47⟩ : ∃ v_, (lg_cmp x (308795 : Int64)) = v_ := ⟨_, rfl⟩
                                                rw [q_v47]
                                                refine hp_zne (ix := v47.toInt) rfl rfl (fun z48 => ?_) (fun z48 => ?_)
                                                · refine qm_Rp.go 0 (c' := (240, [.long x, .float 0, .float 0, .float 0, .float 0, .float 0, .float 0], [], h)) rfl ?_
                                                  have kq23 := kw_n q_v47 (by omega)
                                                  refine qm_Rp.go 3 (c' := (245, [.long x, .float 0, .float 0, .float 0, .float 0, .float 0, .float 0], [.int (lg_cmp x (8371989 : Int64))], h)) rfl ?_
                                                  obtain ⟨v49, q_v49⟩ : ∃ v_, (lg_cmp x (8371989 : Int64)) = v_ := ⟨_, rfl⟩
                                                  rw [q_v49]
                                                  refine hp_zne (ix := v49.toInt) rfl rfl (fun z50 => ?_) (fun z50 => ?_)
                                                  · refine qm_Rp.go 0 (c' := (250, [.long x, .float 0, .float 0, .float 0, .float 0, .float 0, .float 0], [], h)) rfl ?_
                                                    have kq24 := kw_n q_v49 (by omega)
                                                    refine qm_Rp.go 1 (c' := (252, [.long x, .float 0, .float 0, .float 0, .float 0, .float 0, .float 0], [.int 26], h)) rfl ?_
                                                    refine qm_Rp.rt (v := (some (.int 26))) (h' := h) rfl ?_
                                                    exact k 26 ((show kwf kwL 0 x = 26 from (kw_go kq0).trans ((kw_go kq1).trans ((kw_go kq2).trans ((kw_go kq3).trans ((kw_go kq4).trans ((kw_go kq5).trans ((kw_go kq6).trans ((kw_go kq7).trans ((kw_go kq8).trans ((kw_go kq9).trans ((kw_go kq10).trans ((kw_go kq11).trans ((kw_go kq12).trans ((kw_go kq13).trans ((kw_go kq14).trans ((kw_go kq15).trans ((kw_go kq16).trans ((kw_go kq17).trans ((kw_go kq18).trans ((kw_go kq19).trans ((kw_go kq20).trans ((kw_go kq21).trans ((kw_go kq22).trans ((kw_go kq23).trans ((kw_go kq24).trans (rfl)))))))))))))))))))))))))).symm)
                                                  · refine qm_Rp.go 0 (c' := (248, [.long x, .float 0, .float 0, .float 0, .float 0, .float 0, .float 0], [], h)) rfl ?_
                                                    have kq24 := kw_y q_v49 (by omega)
                                                    refine qm_Rp.go 1 (c' := (249, [.long x, .float 0, .float 0, .float 0, .float 0, .float 0, .float 0], [.int 24], h)) rfl ?_
                                                    refine qm_Rp.rt (v := (some (.int 24))) (h' := h) rfl ?_
                                                    exact k 24 ((show kwf kwL 0 x = 24 from (kw_go kq0).trans ((kw_go kq1).trans ((kw_go kq2).trans ((kw_go kq3).trans ((kw_go kq4).trans ((kw_go kq5).trans ((kw_go kq6).trans ((kw_go kq7).trans ((kw_go kq8).trans ((kw_go kq9).trans ((kw_go kq10).trans ((kw_go kq11).trans ((kw_go kq12).trans ((kw_go kq13).trans ((kw_go kq14).trans ((kw_go kq15).trans ((kw_go kq16).trans ((kw_go kq17).trans ((kw_go kq18).trans ((kw_go kq19).trans ((kw_go kq20).trans ((kw_go kq21).trans ((kw_go kq22).trans ((kw_go kq23).trans ((kw_at kq24).trans (show (0 + 1 + 1 + 1 + 1 + 1 + 1 + 1 + 1 + 1 + 1 + 1 + 1 + 1 + 1 + 1 + 1 + 1 + 1 + 1 + 1 + 1 + 1 + 1 + 1 : Int) = 24 from by decide)))))))))))))))))))))))))).symm)
                                                · refine qm_Rp.go 0 (c' := (238, [.long x, .float 0, .float 0, .float 0, .float 0, .float 0, .float 0], [], h)) rfl ?_
                                                  have kq23 := kw_y q_v47 (by omega)
                                                  refine qm_Rp.go 1 (c' := (239, [.long x, .float 0, .float 0, .float 0, .float 0, .float 0, .float 0], [.int 23], h)) rfl ?_
                                                  refine qm_Rp.rt (v := (some (.int 23))) (h' := h) rfl ?_
                                                  exact k 23 ((show kwf kwL 0 x = 23 from (kw_go kq0).trans ((kw_go kq1).trans ((kw_go kq2).trans ((kw_go kq3).trans ((kw_go kq4).trans ((kw_go kq5).trans ((kw_go kq6).trans ((kw_go kq7).trans ((kw_go kq8).trans ((kw_go kq9).trans ((kw_go kq10).trans ((kw_go kq11).trans ((kw_go kq12).trans ((kw_go kq13).trans ((kw_go kq14).trans ((kw_go kq15).trans ((kw_go kq16).trans ((kw_go kq17).trans ((kw_go kq18).trans ((kw_go kq19).trans ((kw_go kq20).trans ((kw_go kq21).trans ((kw_go kq22).trans ((kw_at kq23).trans (show (0 + 1 + 1 + 1 + 1 + 1 + 1 + 1 + 1 + 1 + 1 + 1 + 1 + 1 + 1 + 1 + 1 + 1 + 1 + 1 + 1 + 1 + 1 + 1 : Int) = 23 from by decide))))))))))))))))))))))))).symm)
                                              · refine qm_Rp.go 0 (c' := (228, [.long x, .float 0, .float 0, .float 0, .float 0, .float 0, .float 0], [], h)) rfl ?_
                                                have kq22 := kw_y q_v45 (by omega)
                                                refine qm_Rp.go 1 (c' := (229, [.long x, .float 0, .float 0, .float 0, .float 0, .float 0, .float 0], [.int 22], h)) rfl ?_
                                                refine qm_Rp.rt (v := (some (.int 22))) (h' := h) rfl ?_
                                                exact k 22 ((show kwf kwL 0 x = 22 from (kw_go kq0).trans ((kw_go kq1).trans ((kw_go kq2).trans ((kw_go kq3).trans ((kw_go kq4).trans ((kw_go kq5).trans ((kw_go kq6).trans ((kw_go kq7).trans ((kw_go kq8).trans ((kw_go kq9).trans ((kw_go kq10).trans ((kw_go kq11).trans ((kw_go kq12).trans ((kw_go kq13).trans ((kw_go kq14).trans ((kw_go kq15).trans ((kw_go kq16).trans ((kw_go kq17).trans ((kw_go kq18).trans ((kw_go kq19).trans ((kw_go kq20).trans ((kw_go kq21).trans ((kw_at kq22).trans (show (0 + 1 + 1 + 1 + 1 + 1 + 1 + 1 + 1 + 1 + 1 + 1 + 1 + 1 + 1 + 1 + 1 + 1 + 1 + 1 + 1 + 1 + 1 : Int) = 22 from by decide)))))))))))))))))))))))).symm)
                                            · refine qm_Rp.go 0 (c' := (218, [.long x, .float 0, .float 0, .float 0, .float 0, .float 0, .float 0], [], h)) rfl ?_
                                              have kq21 := kw_y q_v43 (by omega)
                                              refine qm_Rp.go 1 (c' := (219, [.long x, .float 0, .float 0, .float 0, .float 0, .float 0, .float 0], [.int 21], h)) rfl ?_
                                              refine qm_Rp.rt (v := (some (.int 21))) (h' := h) rfl ?_
                                              exact k 21 ((show kwf kwL 0 x = 21 from (kw_go kq0).trans ((kw_go kq1).trans ((kw_go kq2).trans ((kw_go kq3).trans ((kw_go kq4).trans ((kw_go kq5).trans ((kw_go kq6).trans ((kw_go kq7).trans ((kw_go kq8).trans ((kw_go kq9).trans ((kw_go kq10).trans ((kw_go kq11).trans ((kw_go kq12).trans ((kw_go kq13).trans ((kw_go kq14).trans ((kw_go kq15).trans ((kw_go kq16).trans ((kw_go kq17).trans ((kw_go kq18).trans ((kw_go kq19).trans ((kw_go kq20).trans ((kw_at kq21).trans (show (0 + 1 + 1 + 1 + 1 + 1 + 1 + 1 + 1 + 1 + 1 + 1 + 1 + 1 + 1 + 1 + 1 + 1 + 1 + 1 + 1 + 1 : Int) = 21 from by decide))))))))))))))))))))))).symm)
                                          · refine qm_Rp.go 0 (c' := (208, [.long x, .float 0, .float 0, .float 0, .float 0, .float 0, .float 0], [], h)) rfl ?_
                                            have kq20 := kw_y q_v41 (by omega)
                                            refine qm_Rp.go 1 (c' := (209, [.long x, .float 0, .float 0, .float 0, .float 0, .float 0, .float 0], [.int 20], h)) rfl ?_
                                            refine qm_Rp.rt (v := (some (.int 20))) (h' := h) rfl ?_
                                            exact k 20 ((show kwf kwL 0 x = 20 from (kw_go kq0).trans ((kw_go kq1).trans ((kw_go kq2).trans ((kw_go kq3).trans ((kw_go kq4).trans ((kw_go kq5).trans ((kw_go kq6).trans ((kw_go kq7).trans ((kw_go kq8).trans ((kw_go kq9).trans ((kw_go kq10).trans ((kw_go kq11).trans ((kw_go kq12).trans ((kw_go kq13).trans ((kw_go kq14).trans ((kw_go kq15).trans ((kw_go kq16).trans ((kw_go kq17).trans ((kw_go kq18).trans ((kw_go kq19).trans ((kw_at kq20).trans (show (0 + 1 + 1 + 1 + 1 + 1 + 1 + 1 + 1 + 1 + 1 + 1 + 1 + 1 + 1 + 1 + 1 + 1 + 1 + 1 + 1 : Int) = 20 from by decide)))))))))))))))))))))).symm)
                                        · refine qm_Rp.go 0 (c' := (198, [.long x, .float 0, .float 0, .float 0, .float 0, .float 0, .float 0], [], h)) rfl ?_
                                          have kq19 := kw_y q_v39 (by omega)
                                          refine qm_Rp.go 1 (c' := (199, [.long x, .float 0, .float 0, .float 0, .float 0, .float 0, .float 0], [.int 19], h)) rfl ?_
                                          refine qm_Rp.rt (v := (some (.int 19))) (h' := h) rfl ?_
                                          exact k 19 ((show kwf kwL 0 x = 19 from (kw_go kq0).trans ((kw_go kq1).trans ((kw_go kq2).trans ((kw_go kq3).trans ((kw_go kq4).trans ((kw_go kq5).trans ((kw_go kq6).trans ((kw_go kq7).trans ((kw_go kq8).trans ((kw_go kq9).trans ((kw_go kq10).trans ((kw_go kq11).trans ((kw_go kq12).trans ((kw_go kq13).trans ((kw_go kq14).trans ((kw_go kq15).trans ((kw_go kq16).trans ((kw_go kq17).trans ((kw_go kq18).trans ((kw_at kq19).trans (show (0 + 1 + 1 + 1 + 1 + 1 + 1 + 1 + 1 + 1 + 1 + 1 + 1 + 1 + 1 + 1 + 1 + 1 + 1 + 1 : Int) = 19 from by decide))))))))))))))))))))).symm)
                                      · refine qm_Rp.go 0 (c' := (188, [.long x, .float 0, .float 0, .float 0, .float 0, .float 0, .float 0], [], h)) rfl ?_
                                        have kq18 := kw_y q_v37 (by omega)
                                        refine qm_Rp.go 1 (c' := (189, [.long x, .float 0, .float 0, .float 0, .float 0, .float 0, .float 0], [.int 18], h)) rfl ?_
                                        refine qm_Rp.rt (v := (some (.int 18))) (h' := h) rfl ?_
                                        exact k 18 ((show kwf kwL 0 x = 18 from (kw_go kq0).trans ((kw_go kq1).trans ((kw_go kq2).trans ((kw_go kq3).trans ((kw_go kq4).trans ((kw_go kq5).trans ((kw_go kq6).trans ((kw_go kq7).trans ((kw_go kq8).trans ((kw_go kq9).trans ((kw_go kq10).trans ((kw_go kq11).trans ((kw_go kq12).trans ((kw_go kq13).trans ((kw_go kq14).trans ((kw_go kq15).trans ((kw_go kq16).trans ((kw_go kq17).trans ((kw_at kq18).trans (show (0 + 1 + 1 + 1 + 1 + 1 + 1 + 1 + 1 + 1 + 1 + 1 + 1 + 1 + 1 + 1 + 1 + 1 + 1 : Int) = 18 from by decide)))))))))))))))))))).symm)
                                    · refine qm_Rp.go 0 (c' := (178, [.long x, .float 0, .float 0, .float 0, .float 0, .float 0, .float 0], [], h)) rfl ?_
                                      have kq17 := kw_y q_v35 (by omega)
                                      refine qm_Rp.go 1 (c' := (179, [.long x, .float 0, .float 0, .float 0, .float 0, .float 0, .float 0], [.int 17], h)) rfl ?_
                                      refine qm_Rp.rt (v := (some (.int 17))) (h' := h) rfl ?_
                                      exact k 17 ((show kwf kwL 0 x = 17 from (kw_go kq0).trans ((kw_go kq1).trans ((kw_go kq2).trans ((kw_go kq3).trans ((kw_go kq4).trans ((kw_go kq5).trans ((kw_go kq6).trans ((kw_go kq7).trans ((kw_go kq8).trans ((kw_go kq9).trans ((kw_go kq10).trans ((kw_go kq11).trans ((kw_go kq12).trans ((kw_go kq13).trans ((kw_go kq14).trans ((kw_go kq15).trans ((kw_go kq16).trans ((kw_at kq17).trans (show (0 + 1 + 1 + 1 + 1 + 1 + 1 + 1 + 1 + 1 + 1 + 1 + 1 + 1 + 1 + 1 + 1 + 1 : Int) = 17 from by decide))))))))))))))))))).symm)
                                  · refine qm_Rp.go 0 (c' := (168, [.long x, .float 0, .float 0, .float 0, .float 0, .float 0, .float 0], [], h)) rfl ?_
                                    have kq16 := kw_y q_v33 (by omega)
                                    refine qm_Rp.go 1 (c' := (169, [.long x, .float 0, .float 0, .float 0, .float 0, .float 0, .float 0], [.int 16], h)) rfl ?_
                                    refine qm_Rp.rt (v := (some (.int 16))) (h' := h) rfl ?_
                                    exact k 16 ((show kwf kwL 0 x = 16 from (kw_go kq0).trans ((kw_go kq1).trans ((kw_go kq2).trans ((kw_go kq3).trans ((kw_go kq4).trans ((kw_go kq5).trans ((kw_go kq6).trans ((kw_go kq7).trans ((kw_go kq8).trans ((kw_go kq9).trans ((kw_go kq10).trans ((kw_go kq11).trans ((kw_go kq12).trans ((kw_go kq13).trans ((kw_go kq14).trans ((kw_go kq15).trans ((kw_at kq16).trans (show (0 + 1 + 1 + 1 + 1 + 1 + 1 + 1 + 1 + 1 + 1 + 1 + 1 + 1 + 1 + 1 + 1 : Int) = 16 from by decide)))))))))))))))))).symm)
                                · refine qm_Rp.go 0 (c' := (158, [.long x, .float 0, .float 0, .float 0, .float 0, .float 0, .float 0], [], h)) rfl ?_
                                  have kq15 := kw_y q_v31 (by omega)
                                  refine qm_Rp.go 1 (c' := (159, [.long x, .float 0, .float 0, .float 0, .float 0, .float 0, .float 0], [.int 15], h)) rfl ?_
                                  refine qm_Rp.rt (v := (some (.int 15))) (h' := h) rfl ?_
                                  exact k 15 ((show kwf kwL 0 x = 15 from (kw_go kq0).trans ((kw_go kq1).trans ((kw_go kq2).trans ((kw_go kq3).trans ((kw_go kq4).trans ((kw_go kq5).trans ((kw_go kq6).trans ((kw_go kq7).trans ((kw_go kq8).trans ((kw_go kq9).trans ((kw_go kq10).trans ((kw_go kq11).trans ((kw_go kq12).trans ((kw_go kq13).trans ((kw_go kq14).trans ((kw_at kq15).trans (show (0 + 1 + 1 + 1 + 1 + 1 + 1 + 1 + 1 + 1 + 1 + 1 + 1 + 1 + 1 + 1 : Int) = 15 from by decide))))))))))))))))).symm)
                              · refine qm_Rp.go 0 (c' := (148, [.long x, .float 0, .float 0, .float 0, .float 0, .float 0, .float 0], [], h)) rfl ?_
                                have kq14 := kw_y q_v29 (by omega)
                                refine qm_Rp.go 1 (c' := (149, [.long x, .float 0, .float 0, .float 0, .float 0, .float 0, .float 0], [.int 14], h)) rfl ?_
                                refine qm_Rp.rt (v := (some (.int 14))) (h' := h) rfl ?_
                                exact k 14 ((show kwf kwL 0 x = 14 from (kw_go kq0).trans ((kw_go kq1).trans ((kw_go kq2).trans ((kw_go kq3).trans ((kw_go kq4).trans ((kw_go kq5).trans ((kw_go kq6).trans ((kw_go kq7).trans ((kw_go kq8).trans ((kw_go kq9).trans ((kw_go kq10).trans ((kw_go kq11).trans ((kw_go kq12).trans ((kw_go kq13).trans ((kw_at kq14).trans (show (0 + 1 + 1 + 1 + 1 + 1 + 1 + 1 + 1 + 1 + 1 + 1 + 1 + 1 + 1 : Int) = 14 from by decide)))))))))))))))).symm)
                            · refine qm_Rp.go 0 (c' := (138, [.long x, .float 0, .float 0, .float 0, .float 0, .float 0, .float 0], [], h)) rfl ?_
                              have kq13 := kw_y q_v27 (by omega)
                              refine qm_Rp.go 1 (c' := (139, [.long x, .float 0, .float 0, .float 0, .float 0, .float 0, .float 0], [.int 13], h)) rfl ?_
                              refine qm_Rp.rt (v := (some (.int 13))) (h' := h) rfl ?_
                              exact k 13 ((show kwf kwL 0 x = 13 from (kw_go kq0).trans ((kw_go kq1).trans ((kw_go kq2).trans ((kw_go kq3).trans ((kw_go kq4).trans ((kw_go kq5).trans ((kw_go kq6).trans ((kw_go kq7).trans ((kw_go kq8).trans ((kw_go kq9).trans ((kw_go kq10).trans ((kw_go kq11).trans ((kw_go kq12).trans ((kw_at kq13).trans (show (0 + 1 + 1 + 1 + 1 + 1 + 1 + 1 + 1 + 1 + 1 + 1 + 1 + 1 : Int) = 13 from by decide))))))))))))))).symm)
                          · refine qm_Rp.go 0 (c' := (128, [.long x, .float 0, .float 0, .float 0, .float 0, .float 0, .float 0], [], h)) rfl ?_
                            have kq12 := kw_y q_v25 (by omega)
                            refine qm_Rp.go 1 (c' := (129, [.long x, .float 0, .float 0, .float 0, .float 0, .float 0, .float 0], [.int 12], h)) rfl ?_
                            refine qm_Rp.rt (v := (some (.int 12))) (h' := h) rfl ?_
                            exact k 12 ((show kwf kwL 0 x = 12 from (kw_go kq0).trans ((kw_go kq1).trans ((kw_go kq2).trans ((kw_go kq3).trans ((kw_go kq4).trans ((kw_go kq5).trans ((kw_go kq6).trans ((kw_go kq7).trans ((kw_go kq8).trans ((kw_go kq9).trans ((kw_go kq10).trans ((kw_go kq11).trans ((kw_at kq12).trans (show (0 + 1 + 1 + 1 + 1 + 1 + 1 + 1 + 1 + 1 + 1 + 1 + 1 : Int) = 12 from by decide)))))))))))))).symm)
                        · refine qm_Rp.go 0 (c' := (118, [.long x, .float 0, .float 0, .float 0, .float 0, .float 0, .float 0], [], h)) rfl ?_
                          have kq11 := kw_y q_v23 (by omega)
                          refine qm_Rp.go 1 (c' := (119, [.long x, .float 0, .float 0, .float 0, .float 0, .float 0, .float 0], [.int 11], h)) rfl ?_
                          refine qm_Rp.rt (v := (some (.int 11))) (h' := h) rfl ?_
                          exact k 11 ((show kwf kwL 0 x = 11 from (kw_go kq0).trans ((kw_go kq1).trans ((kw_go kq2).trans ((kw_go kq3).trans ((kw_go kq4).trans ((kw_go kq5).trans ((kw_go kq6).trans ((kw_go kq7).trans ((kw_go kq8).trans ((kw_go kq9).trans ((kw_go kq10).trans ((kw_at kq11).trans (show (0 + 1 + 1 + 1 + 1 + 1 + 1 + 1 + 1 + 1 + 1 + 1 : Int) = 11 from by decide))))))))))))).symm)
                      · refine qm_Rp.go 0 (c' := (108, [.long x, .float 0, .float 0, .float 0, .float 0, .float 0, .float 0], [], h)) rfl ?_
                        have kq10 := kw_y q_v21 (by omega)
                        refine qm_Rp.go 1 (c' := (109, [.long x, .float 0, .float 0, .float 0, .float 0, .float 0, .float 0], [.int 10], h)) rfl ?_
                        refine qm_Rp.rt (v := (some (.int 10))) (h' := h) rfl ?_
                        exact k 10 ((show kwf kwL 0 x = 10 from (kw_go kq0).trans ((kw_go kq1).trans ((kw_go kq2).trans ((kw_go kq3).trans ((kw_go kq4).trans ((kw_go kq5).trans ((kw_go kq6).trans ((kw_go kq7).trans ((kw_go kq8).trans ((kw_go kq9).trans ((kw_at kq10).trans (show (0 + 1 + 1 + 1 + 1 + 1 + 1 + 1 + 1 + 1 + 1 : Int) = 10 from by decide)))))))))))).symm)
                    · refine qm_Rp.go 0 (c' := (98, [.long x, .float 0, .float 0, .float 0, .float 0, .float 0, .float 0], [], h)) rfl ?_
                      have kq9 := kw_y q_v19 (by omega)
                      refine qm_Rp.go 1 (c' := (99, [.long x, .float 0, .float 0, .float 0, .float 0, .float 0, .float 0], [.int 9], h)) rfl ?_
                      refine qm_Rp.rt (v := (some (.int 9))) (h' := h) rfl ?_
                      exact k 9 ((show kwf kwL 0 x = 9 from (kw_go kq0).trans ((kw_go kq1).trans ((kw_go kq2).trans ((kw_go kq3).trans ((kw_go kq4).trans ((kw_go kq5).trans ((kw_go kq6).trans ((kw_go kq7).trans ((kw_go kq8).trans ((kw_at kq9).trans (show (0 + 1 + 1 + 1 + 1 + 1 + 1 + 1 + 1 + 1 : Int) = 9 from by decide))))))))))).symm)
                  · refine qm_Rp.go 0 (c' := (88, [.long x, .float 0, .float 0, .float 0, .float 0, .float 0, .float 0], [], h)) rfl ?_
                    have kq8 := kw_y q_v17 (by omega)
                    refine qm_Rp.go 1 (c' := (89, [.long x, .float 0, .float 0, .float 0, .float 0, .float 0, .float 0], [.int 8], h)) rfl ?_
                    refine qm_Rp.rt (v := (some (.int 8))) (h' := h) rfl ?_
                    exact k 8 ((show kwf kwL 0 x = 8 from (kw_go kq0).trans ((kw_go kq1).trans ((kw_go kq2).trans ((kw_go kq3).trans ((kw_go kq4).trans ((kw_go kq5).trans ((kw_go kq6).trans ((kw_go kq7).trans ((kw_at kq8).trans (show (0 + 1 + 1 + 1 + 1 + 1 + 1 + 1 + 1 : Int) = 8 from by decide)))))))))).symm)
                · refine qm_Rp.go 0 (c' := (78, [.long x, .float 0, .float 0, .float 0, .float 0, .float 0, .float 0], [], h)) rfl ?_
                  have kq7 := kw_y q_v15 (by omega)
                  refine qm_Rp.go 1 (c' := (79, [.long x, .float 0, .float 0, .float 0, .float 0, .float 0, .float 0], [.int 7], h)) rfl ?_
                  refine qm_Rp.rt (v := (some (.int 7))) (h' := h) rfl ?_
                  exact k 7 ((show kwf kwL 0 x = 7 from (kw_go kq0).trans ((kw_go kq1).trans ((kw_go kq2).trans ((kw_go kq3).trans ((kw_go kq4).trans ((kw_go kq5).trans ((kw_go kq6).trans ((kw_at kq7).trans (show (0 + 1 + 1 + 1 + 1 + 1 + 1 + 1 : Int) = 7 from by decide))))))))).symm)
              · refine qm_Rp.go 0 (c' := (68, [.long x, .float 0, .float 0, .float 0, .float 0, .float 0, .float 0], [], h)) rfl ?_
                have kq6 := kw_y q_v13 (by omega)
                refine qm_Rp.go 1 (c' := (69, [.long x, .float 0, .float 0, .float 0, .float 0, .float 0, .float 0], [.int 6], h)) rfl ?_
                refine qm_Rp.rt (v := (some (.int 6))) (h' := h) rfl ?_
                exact k 6 ((show kwf kwL 0 x = 6 from (kw_go kq0).trans ((kw_go kq1).trans ((kw_go kq2).trans ((kw_go kq3).trans ((kw_go kq4).trans ((kw_go kq5).trans ((kw_at kq6).trans (show (0 + 1 + 1 + 1 + 1 + 1 + 1 : Int) = 6 from by decide)))))))).symm)
            · refine qm_Rp.go 0 (c' := (58, [.long x, .float 0, .float 0, .float 0, .float 0, .float 0, .float 0], [], h)) rfl ?_
              have kq5 := kw_y q_v11 (by omega)
              refine qm_Rp.go 1 (c' := (59, [.long x, .float 0, .float 0, .float 0, .float 0, .float 0, .float 0], [.int 5], h)) rfl ?_
              refine qm_Rp.rt (v := (some (.int 5))) (h' := h) rfl ?_
              exact k 5 ((show kwf kwL 0 x = 5 from (kw_go kq0).trans ((kw_go kq1).trans ((kw_go kq2).trans ((kw_go kq3).trans ((kw_go kq4).trans ((kw_at kq5).trans (show (0 + 1 + 1 + 1 + 1 + 1 : Int) = 5 from by decide))))))).symm)
          · refine qm_Rp.go 0 (c' := (48, [.long x, .float 0, .float 0, .float 0, .float 0, .float 0, .float 0], [], h)) rfl ?_
            have kq4 := kw_y q_v9 (by omega)
            refine qm_Rp.go 1 (c' := (49, [.long x, .float 0, .float 0, .float 0, .float 0, .float 0, .float 0], [.int 4], h)) rfl ?_
            refine qm_Rp.rt (v := (some (.int 4))) (h' := h) rfl ?_
            exact k 4 ((show kwf kwL 0 x = 4 from (kw_go kq0).trans ((kw_go kq1).trans ((kw_go kq2).trans ((kw_go kq3).trans ((kw_at kq4).trans (show (0 + 1 + 1 + 1 + 1 : Int) = 4 from by decide)))))).symm)
        · refine qm_Rp.go 0 (c' := (38, [.long x, .float 0, .float 0, .float 0, .float 0, .float 0, .float 0], [], h)) rfl ?_
          have kq3 := kw_y q_v7 (by omega)
          refine qm_Rp.go 1 (c' := (39, [.long x, .float 0, .float 0, .float 0, .float 0, .float 0, .float 0], [.int 3], h)) rfl ?_
          refine qm_Rp.rt (v := (some (.int 3))) (h' := h) rfl ?_
          exact k 3 ((show kwf kwL 0 x = 3 from (kw_go kq0).trans ((kw_go kq1).trans ((kw_go kq2).trans ((kw_at kq3).trans (show (0 + 1 + 1 + 1 : Int) = 3 from by decide))))).symm)
      · refine qm_Rp.go 0 (c' := (28, [.long x, .float 0, .float 0, .float 0, .float 0, .float 0, .float 0], [], h)) rfl ?_
        have kq2 := kw_y q_v5 (by omega)
        refine qm_Rp.go 1 (c' := (29, [.long x, .float 0, .float 0, .float 0, .float 0, .float 0, .float 0], [.int 2], h)) rfl ?_
        refine qm_Rp.rt (v := (some (.int 2))) (h' := h) rfl ?_
        exact k 2 ((show kwf kwL 0 x = 2 from (kw_go kq0).trans ((kw_go kq1).trans ((kw_at kq2).trans (show (0 + 1 + 1 : Int) = 2 from by decide)))).symm)
    · refine qm_Rp.go 0 (c' := (18, [.long x, .float 0, .float 0, .float 0, .float 0, .float 0, .float 0], [], h)) rfl ?_
      have kq1 := kw_y q_v3 (by omega)
      refine qm_Rp.go 1 (c' := (19, [.long x, .float 0, .float 0, .float 0, .float 0, .float 0, .float 0], [.int 1], h)) rfl ?_
      refine qm_Rp.rt (v := (some (.int 1))) (h' := h) rfl ?_
      exact k 1 ((show kwf kwL 0 x = 1 from (kw_go kq0).trans ((kw_at kq1).trans (show (0 + 1 : Int) = 1 from by decide))).symm)
  · refine qm_Rp.go 0 (c' := (8, [.long x, .float 0, .float 0, .float 0, .float 0, .float 0, .float 0], [], h)) rfl ?_
    have kq0 := kw_y q_v1 (by omega)
    refine qm_Rp.go 1 (c' := (9, [.long x, .float 0, .float 0, .float 0, .float 0, .float 0, .float 0], [.int 0], h)) rfl ?_
    refine qm_Rp.rt (v := (some (.int 0))) (h' := h) rfl ?_
    exact k 0 ((show kwf kwL 0 x = 0 from (kw_at kq0).trans (show (0 : Int) = 0 from by decide)).symm)
set_option maxHeartbeats 20000000 in
theorem px_wordl {X : Option (Nat × (Nat → Int32))} {Z : Option Value → qm_H → Prop} {h : qm_H} (hH : hk_H h) {n p : Int32} {W : Nat × Int64} (q_n : h.2.1 1 1 = n) (hn : 0 ≤ n.toInt ∧ n.toInt ≤ 2000) (q_p : h.2.1 1 4 = p) (hp : 0 ≤ p.toInt) (k : ∀ (I : Nat → Nat → Int32) (J : Nat → Nat → Int64) (nx kd : Int32), (∀ o, [1].contains o = false → ∀ i, I o i = h.2.1 o i) → (∀ i, [2, 3].contains i = false → I 1 i = h.2.1 1 i) → (∀ o, [1].contains o = false → ∀ i, J o i = h.2.2.1 o i) → I 1 2 = nx → I 1 3 = kd → (p.toInt ≤ nx.toInt ∧ nx.toInt ≤ n.toInt) → nx.toInt.toNat = W.1 → J 1 6 = W.2 → kd.toInt = (if 8 < W.1 - p.toInt.toNat then 38 else kw W.2) → Z none (h.1, I, J, h.2.2.2)) : ∀ (fu : Nat) (I : Nat → Nat → Int32) (J : Nat → Nat → Int64) (c : Int32) (nm : Int64), ((∀ o, [1].contains o = false → ∀ i, I o i = h.2.1 o i)) → ((∀ i, [2].contains i = false → I 1 i = h.2.1 1 i)) → ((∀ o, [1].contains o = false → ∀ i, J o i = h.2.2.1 o i)) → (I 1 2 = c) → (J 1 6 = nm) → (p.toInt ≤ c.toInt ∧ c.toInt ≤ n.toInt) → (wlp (h.2.1 2) n.toInt.toNat c.toInt.toNat (c.toInt - p.toInt).toNat nm = W) → qm_Rp fu X cd_24 (5, [.ref 1], [], (h.1, I, J, h.2.2.2)) Z := by
  intro fu
  induction fu using Nat.strongRecOn with
  | ind fu ih =>
    intro I J c nm e e1 ej q_c q_nm hc hW
    have kz0 : (0 : Int32).toInt = 0 := rfl
    have kz1 : (1 : Int32).toInt = 1 := rfl
    have kz2 : (2 : Int32).toInt = 2 := rfl
    have kz3 : (3 : Int32).toInt = 3 := rfl
    have kz4 : (4 : Int32).toInt = 4 := rfl
    have kz5 : (5 : Int32).toInt = 5 := rfl
    have kz6 : (6 : Int32).toInt = 6 := rfl
    have kz7 : (7 : Int32).toInt = 7 := rfl
    have kz8 : (8 : Int32).toInt = 8 := rfl
    have kz9 : (9 : Int32).toInt = 9 := rfl
    have kzm1 : ((-1) : Int32).toInt = (-1) := rfl
    have kzm2 : ((-2) : Int32).toInt = (-2) := rfl
    have kzm3 : ((-3) : Int32).toInt = (-3) := rfl
    refine qm_Rp.go1 0 (c' := (6, [.ref 1], [.ref 1], (h.1, I, J, h.2.2.2))) rfl (fun g hg => ?_)
    refine hp_geti (v := c) rfl (hH.1 1 (12, 7) rfl) rfl q_c ?_
    refine qm_Rp.go 1 (c' := (10, [.ref 1], [.ref 1, .int c], (h.1, I, J, h.2.2.2))) rfl ?_
    refine hp_geti (v := n) rfl (hH.1 1 (12, 7) rfl) rfl (show (I) 1 1 = _ from ((e1 1 rfl).trans q_n)) ?_
    refine qm_Rp.go 0 (c' := (13, [.ref 1], [.int n, .int c], (h.1, I, J, h.2.2.2))) rfl ?_
    refine hp_cge (ix := c.toInt) (iy := n.toInt) rfl rfl rfl (fun z1 => ?_) (fun z1 => ?_)
    · refine qm_Rp.go 0 (c' := (78, [.ref 1], [], (h.1, I, J, h.2.2.2))) rfl ?_
      refine qm_Rp.go 2 (c' := (80, [.ref 1], [.ref 1, .ref 1], (h.1, I, J, h.2.2.2))) rfl ?_
      refine hp_geti (v := c) rfl (hH.1 1 (12, 7) rfl) rfl q_c ?_
      refine qm_Rp.go 1 (c' := (84, [.ref 1], [.ref 1, .int c, .ref 1], (h.1, I, J, h.2.2.2))) rfl ?_
      refine hp_geti (v := p) rfl (hH.1 1 (12, 7) rfl) rfl (show (I) 1 4 = _ from ((e1 4 rfl).trans q_p)) ?_
      refine qm_Rp.go 1 (c' := (88, [.ref 1], [.int (c - p), .ref 1], (h.1, I, J, h.2.2.2))) rfl ?_
      obtain ⟨v2, q_v2, e_v2⟩ := hk_sub (x := c) (y := p) (a := c.toInt) (b := p.toInt) rfl rfl (by omega) (by omega)
      rw [q_v2]
      refine qm_Rp.go 1 (c' := (90, [.ref 1], [.int 8, .int v2, .ref 1], (h.1, I, J, h.2.2.2))) rfl ?_
      refine hp_cle (ix := v2.toInt) (iy := 8) rfl rfl rfl (fun z3 => ?_) (fun z3 => ?_)
      · refine qm_Rp.go 1 (c' := (99, [.ref 1], [.ref 1, .ref 1], (h.1, I, J, h.2.2.2))) rfl ?_
        refine hp_getl (v := nm) rfl (hH.1 1 (12, 7) rfl) rfl q_nm ?_
        refine qm_Rp.go 0 (c' := (102, [.ref 1], [.long nm, .ref 1], (h.1, I, J, h.2.2.2))) rfl ?_
        refine qm_Rp.call (j := 382) (as := [.long nm]) (c' := (105, [.ref 1], [.ref 1], (h.1, I, J, h.2.2.2))) rfl rfl (px_kind (fun v4 k_v4 => ?_))
        have kb_v4 := kw_b nm
        refine qm_Rp.go 0 (c' := (105, [.ref 1], [.int v4, .ref 1], (h.1, I, J, h.2.2.2))) rfl ?_
        refine hp_puti rfl (hH.1 1 (12, 7) rfl) rfl ?_
        refine qm_Rp.go 0 (c' := (108, [.ref 1], [], (h.1, qm_up I 1 3 v4, J, h.2.2.2))) rfl ?_
        refine qm_Rp.rt (v := none) (h' := (h.1, qm_up I 1 3 v4, J, h.2.2.2)) rfl ?_
        have hw9 : W = (c.toInt.toNat, nm) := by rw [← hW]; exact wlp_e (by omega)
        exact k (qm_up I 1 3 v4) (J) c v4 (fun o ho i => ((hk_mod ho rfl).trans ((e o (hk_ms rfl ho) i).trans rfl))) (fun i hi => ((hk_neq (fun z => by subst z; cases hi)).trans ((e1 i (hk_ms rfl hi)).trans rfl))) (fun o ho i => ((ej o (hk_ms rfl ho) i).trans rfl)) (show (qm_up I 1 3 v4) 1 2 = _ from ((hk_neq (by decide)).trans q_c)) (show (qm_up I 1 3 v4) 1 3 = _ from (hk_same)) (by omega) (by rw [hw9]) (by rw [hw9]; exact q_nm) (by rw [hw9]; exact k_v4.trans (if_neg (by dsimp only; omega)).symm)
      · refine qm_Rp.go 2 (c' := (105, [.ref 1], [.int 38, .ref 1], (h.1, I, J, h.2.2.2))) rfl ?_
        refine hp_puti rfl (hH.1 1 (12, 7) rfl) rfl ?_
        refine qm_Rp.go 0 (c' := (108, [.ref 1], [], (h.1, qm_up I 1 3 38, J, h.2.2.2))) rfl ?_
        refine qm_Rp.rt (v := none) (h' := (h.1, qm_up I 1 3 38, J, h.2.2.2)) rfl ?_
        have hw9 : W = (c.toInt.toNat, nm) := by rw [← hW]; exact wlp_e (by omega)
        exact k (qm_up I 1 3 38) (J) c 38 (fun o ho i => ((hk_mod ho rfl).trans ((e o (hk_ms rfl ho) i).trans rfl))) (fun i hi => ((hk_neq (fun z => by subst z; cases hi)).trans ((e1 i (hk_ms rfl hi)).trans rfl))) (fun o ho i => ((ej o (hk_ms rfl ho) i).trans rfl)) (show (qm_up I 1 3 38) 1 2 = _ from ((hk_neq (by decide)).trans q_c)) (show (qm_up I 1 3 38) 1 3 = _ from (hk_same)) (by omega) (by rw [hw9]) (by rw [hw9]; exact q_nm) (by rw [hw9]; exact (if_pos (by dsimp only; omega)).symm)
    · refine qm_Rp.go 1 (c' := (17, [.ref 1], [.ref 1], (h.1, I, J, h.2.2.2))) rfl ?_
      refine hp_getr rfl (hH.1 1 (12, 7) rfl) rfl (hH.2 1 0 (some 2) rfl) ?_
      refine qm_Rp.go 1 (c' := (21, [.ref 1], [.ref 1, .ref 2], (h.1, I, J, h.2.2.2))) rfl ?_
      refine hp_geti (v := c) rfl (hH.1 1 (12, 7) rfl) rfl q_c ?_
      refine qm_Rp.go 0 (c' := (24, [.ref 1], [.int c, .ref 2], (h.1, I, J, h.2.2.2))) rfl ?_
      obtain ⟨v5, q_v5⟩ : ∃ v_, h.2.1 2 c.toInt.toNat = v_ := ⟨_, rfl⟩
      refine hp_bal1 (v := v5) rfl (hH.1 2 (1, 2000) rfl) (show (I) 2 c.toInt.toNat = _ from ((e 2 rfl c.toInt.toNat).trans q_v5)) (fun ia_5 ib_5 => ?_)
      refine qm_Rp.go 0 (c' := (25, [.ref 1], [.int v5], (h.1, I, J, h.2.2.2))) rfl ?_
      refine qm_Rp.call (j := 23) (as := [.int v5]) (c' := (28, [.ref 1], [], (h.1, I, J, h.2.2.2))) rfl rfl ?_
      refine qm_Rp.go 2 (c' := (3, [.int v5], [.int 97, .int v5], (h.1, I, J, h.2.2.2))) rfl ?_
      refine hp_clt (ix := v5.toInt) (iy := 97) rfl rfl rfl (fun z7 => ?_) (fun z7 => ?_)
      · refine qm_Rp.go 1 (c' := (17, [.int v5], [.int 0], (h.1, I, J, h.2.2.2))) rfl ?_
        refine qm_Rp.rt (v := (some (.int 0))) (h' := (h.1, I, J, h.2.2.2)) rfl ?_
        refine qm_Rp.go 1 (c' := (78, [.ref 1], [], (h.1, I, J, h.2.2.2))) rfl ?_
        refine qm_Rp.go 2 (c' := (80, [.ref 1], [.ref 1, .ref 1], (h.1, I, J, h.2.2.2))) rfl ?_
        refine hp_geti (v := c) rfl (hH.1 1 (12, 7) rfl) rfl q_c ?_
        refine qm_Rp.go 1 (c' := (84, [.ref 1], [.ref 1, .int c, .ref 1], (h.1, I, J, h.2.2.2))) rfl ?_
        refine hp_geti (v := p) rfl (hH.1 1 (12, 7) rfl) rfl (show (I) 1 4 = _ from ((e1 4 rfl).trans q_p)) ?_
        refine qm_Rp.go 1 (c' := (88, [.ref 1], [.int (c - p), .ref 1], (h.1, I, J, h.2.2.2))) rfl ?_
        obtain ⟨v8, q_v8, e_v8⟩ := hk_sub (x := c) (y := p) (a := c.toInt) (b := p.toInt) rfl rfl (by omega) (by omega)
        rw [q_v8]
        refine qm_Rp.go 1 (c' := (90, [.ref 1], [.int 8, .int v8, .ref 1], (h.1, I, J, h.2.2.2))) rfl ?_
        refine hp_cle (ix := v8.toInt) (iy := 8) rfl rfl rfl (fun z9 => ?_) (fun z9 => ?_)
        · refine qm_Rp.go 1 (c' := (99, [.ref 1], [.ref 1, .ref 1], (h.1, I, J, h.2.2.2))) rfl ?_
          refine hp_getl (v := nm) rfl (hH.1 1 (12, 7) rfl) rfl q_nm ?_
          refine qm_Rp.go 0 (c' := (102, [.ref 1], [.long nm, .ref 1], (h.1, I, J, h.2.2.2))) rfl ?_
          refine qm_Rp.call (j := 382) (as := [.long nm]) (c' := (105, [.ref 1], [.ref 1], (h.1, I, J, h.2.2.2))) rfl rfl (px_kind (fun v10 k_v10 => ?_))
          have kb_v10 := kw_b nm
          refine qm_Rp.go 0 (c' := (105, [.ref 1], [.int v10, .ref 1], (h.1, I, J, h.2.2.2))) rfl ?_
          refine hp_puti rfl (hH.1 1 (12, 7) rfl) rfl ?_
          refine qm_Rp.go 0 (c' := (108, [.ref 1], [], (h.1, qm_up I 1 3 v10, J, h.2.2.2))) rfl ?_
          refine qm_Rp.rt (v := none) (h' := (h.1, qm_up I 1 3 v10, J, h.2.2.2)) rfl ?_
          have hw9 : W = (c.toInt.toNat, nm) := by rw [← hW]; exact wlp_b q_v5 (by omega)
          exact k (qm_up I 1 3 v10) (J) c v10 (fun o ho i => ((hk_mod ho rfl).trans ((e o (hk_ms rfl ho) i).trans rfl))) (fun i hi => ((hk_neq (fun z => by subst z; cases hi)).trans ((e1 i (hk_ms rfl hi)).trans rfl))) (fun o ho i => ((ej o (hk_ms rfl ho) i).trans rfl)) (show (qm_up I 1 3 v10) 1 2 = _ from ((hk_neq (by decide)).trans q_c)) (show (qm_up I 1 3 v10) 1 3 = _ from (hk_same)) (by omega) (by rw [hw9]) (by rw [hw9]; exact q_nm) (by rw [hw9]; exact k_v10.trans (if_neg (by dsimp only; omega)).symm)
        · refine qm_Rp.go 2 (c' := (105, [.ref 1], [.int 38, .ref 1], (h.1, I, J, h.2.2.2))) rfl ?_
          refine hp_puti rfl (hH.1 1 (12, 7) rfl) rfl ?_
          refine qm_Rp.go 0 (c' := (108, [.ref 1], [], (h.1, qm_up I 1 3 38, J, h.2.2.2))) rfl ?_
          refine qm_Rp.rt (v := none) (h' := (h.1, qm_up I 1 3 38, J, h.2.2.2)) rfl ?_
          have hw9 : W = (c.toInt.toNat, nm) := by rw [← hW]; exact wlp_b q_v5 (by omega)
          exact k (qm_up I 1 3 38) (J) c 38 (fun o ho i => ((hk_mod ho rfl).trans ((e o (hk_ms rfl ho) i).trans rfl))) (fun i hi => ((hk_neq (fun z => by subst z; cases hi)).trans ((e1 i (hk_ms rfl hi)).trans rfl))) (fun o ho i => ((ej o (hk_ms rfl ho) i).trans rfl)) (show (qm_up I 1 3 38) 1 2 = _ from ((hk_neq (by decide)).trans q_c)) (show (qm_up I 1 3 38) 1 3 = _ from (hk_same)) (by omega) (by rw [hw9]) (by rw [hw9]; exact q_nm) (by rw [hw9]; exact (if_pos (by dsimp only; omega)).symm)
      · refine qm_Rp.go 2 (c' := (9, [.int v5], [.int 122, .int v5], (h.1, I, J, h.2.2.2))) rfl ?_
        refine hp_cgt (ix := v5.toInt) (iy := 122) rfl rfl rfl (fun z11 => ?_) (fun z11 => ?_)
        · refine qm_Rp.go 1 (c' := (17, [.int v5], [.int 0], (h.1, I, J, h.2.2.2))) rfl ?_
          refine qm_Rp.rt (v := (some (.int 0))) (h' := (h.1, I, J, h.2.2.2)) rfl ?_
          refine qm_Rp.go 1 (c' := (78, [.ref 1], [], (h.1, I, J, h.2.2.2))) rfl ?_
          refine qm_Rp.go 2 (c' := (80, [.ref 1], [.ref 1, .ref 1], (h.1, I, J, h.2.2.2))) rfl ?_
          refine hp_geti (v := c) rfl (hH.1 1 (12, 7) rfl) rfl q_c ?_
          refine qm_Rp.go 1 (c' := (84, [.ref 1], [.ref 1, .int c, .ref 1], (h.1, I, J, h.2.2.2))) rfl ?_
          refine hp_geti (v := p) rfl (hH.1 1 (12, 7) rfl) rfl (show (I) 1 4 = _ from ((e1 4 rfl).trans q_p)) ?_
          refine qm_Rp.go 1 (c' := (88, [.ref 1], [.int (c - p), .ref 1], (h.1, I, J, h.2.2.2))) rfl ?_
          obtain ⟨v12, q_v12, e_v12⟩ := hk_sub (x := c) (y := p) (a := c.toInt) (b := p.toInt) rfl rfl (by omega) (by omega)
          rw [q_v12]
          refine qm_Rp.go 1 (c' := (90, [.ref 1], [.int 8, .int v12, .ref 1], (h.1, I, J, h.2.2.2))) rfl ?_
          refine hp_cle (ix := v12.toInt) (iy := 8) rfl rfl rfl (fun z13 => ?_) (fun z13 => ?_)
          · refine qm_Rp.go 1 (c' := (99, [.ref 1], [.ref 1, .ref 1], (h.1, I, J, h.2.2.2))) rfl ?_
            refine hp_getl (v := nm) rfl (hH.1 1 (12, 7) rfl) rfl q_nm ?_
            refine qm_Rp.go 0 (c' := (102, [.ref 1], [.long nm, .ref 1], (h.1, I, J, h.2.2.2))) rfl ?_
            refine qm_Rp.call (j := 382) (as := [.long nm]) (c' := (105, [.ref 1], [.ref 1], (h.1, I, J, h.2.2.2))) rfl rfl (px_kind (fun v14 k_v14 => ?_))
            have kb_v14 := kw_b nm
            refine qm_Rp.go 0 (c' := (105, [.ref 1], [.int v14, .ref 1], (h.1, I, J, h.2.2.2))) rfl ?_
            refine hp_puti rfl (hH.1 1 (12, 7) rfl) rfl ?_
            refine qm_Rp.go 0 (c' := (108, [.ref 1], [], (h.1, qm_up I 1 3 v14, J, h.2.2.2))) rfl ?_
            refine qm_Rp.rt (v := none) (h' := (h.1, qm_up I 1 3 v14, J, h.2.2.2)) rfl ?_
            have hw9 : W = (c.toInt.toNat, nm) := by rw [← hW]; exact wlp_b q_v5 (by omega)
            exact k (qm_up I 1 3 v14) (J) c v14 (fun o ho i => ((hk_mod ho rfl).trans ((e o (hk_ms rfl ho) i).trans rfl))) (fun i hi => ((hk_neq (fun z => by subst z; cases hi)).trans ((e1 i (hk_ms rfl hi)).trans rfl))) (fun o ho i => ((ej o (hk_ms rfl ho) i).trans rfl)) (show (qm_up I 1 3 v14) 1 2 = _ from ((hk_neq (by decide)).trans q_c)) (show (qm_up I 1 3 v14) 1 3 = _ from (hk_same)) (by omega) (by rw [hw9]) (by rw [hw9]; exact q_nm) (by rw [hw9]; exact k_v14.trans (if_neg (by dsimp only; omega)).symm)
          · refine qm_Rp.go 2 (c' := (105, [.ref 1], [.int 38, .ref 1], (h.1, I, J, h.2.2.2))) rfl ?_
            refine hp_puti rfl (hH.1 1 (12, 7) rfl) rfl ?_
            refine qm_Rp.go 0 (c' := (108, [.ref 1], [], (h.1, qm_up I 1 3 38, J, h.2.2.2))) rfl ?_
            refine qm_Rp.rt (v := none) (h' := (h.1, qm_up I 1 3 38, J, h.2.2.2)) rfl ?_
            have hw9 : W = (c.toInt.toNat, nm) := by rw [← hW]; exact wlp_b q_v5 (by omega)
            exact k (qm_up I 1 3 38) (J) c 38 (fun o ho i => ((hk_mod ho rfl).trans ((e o (hk_ms rfl ho) i).trans rfl))) (fun i hi => ((hk_neq (fun z => by subst z; cases hi)).trans ((e1 i (hk_ms rfl hi)).trans rfl))) (fun o ho i => ((ej o (hk_ms rfl ho) i).trans rfl)) (show (qm_up I 1 3 38) 1 2 = _ from ((hk_neq (by decide)).trans q_c)) (show (qm_up I 1 3 38) 1 3 = _ from (hk_same)) (by omega) (by rw [hw9]) (by rw [hw9]; exact q_nm) (by rw [hw9]; exact (if_pos (by dsimp only; omega)).symm)
        · refine qm_Rp.go 2 (c' := (17, [.int v5], [.int 1], (h.1, I, J, h.2.2.2))) rfl ?_
          refine qm_Rp.rt (v := (some (.int 1))) (h' := (h.1, I, J, h.2.2.2)) rfl ?_
          refine qm_Rp.go 2 (c' := (32, [.ref 1], [.ref 1], (h.1, I, J, h.2.2.2))) rfl ?_
          refine hp_geti (v := c) rfl (hH.1 1 (12, 7) rfl) rfl q_c ?_
          refine qm_Rp.go 1 (c' := (36, [.ref 1], [.ref 1, .int c], (h.1, I, J, h.2.2.2))) rfl ?_
          refine hp_geti (v := p) rfl (hH.1 1 (12, 7) rfl) rfl (show (I) 1 4 = _ from ((e1 4 rfl).trans q_p)) ?_
          refine qm_Rp.go 1 (c' := (40, [.ref 1], [.int (c - p)], (h.1, I, J, h.2.2.2))) rfl ?_
          obtain ⟨v15, q_v15, e_v15⟩ := hk_sub (x := c) (y := p) (a := c.toInt) (b := p.toInt) rfl rfl (by omega) (by omega)
          rw [q_v15]
          refine qm_Rp.go 1 (c' := (42, [.ref 1], [.int 8, .int v15], (h.1, I, J, h.2.2.2))) rfl ?_
          refine hp_cge (ix := v15.toInt) (iy := 8) rfl rfl rfl (fun z16 => ?_) (fun z16 => ?_)
          · refine qm_Rp.go 2 (c' := (67, [.ref 1], [.ref 1, .ref 1], (h.1, I, J, h.2.2.2))) rfl ?_
            refine hp_geti (v := c) rfl (hH.1 1 (12, 7) rfl) rfl q_c ?_
            refine qm_Rp.go 2 (c' := (72, [.ref 1], [.int (c + 1), .ref 1], (h.1, I, J, h.2.2.2))) rfl ?_
            obtain ⟨v17, q_v17, e_v17⟩ := hk_add (x := c) (y := 1) (a := c.toInt) (b := 1) rfl rfl (by omega) (by omega)
            rw [q_v17]
            refine hp_puti rfl (hH.1 1 (12, 7) rfl) rfl ?_
            refine qm_Rp.go 1 (c' := (5, [.ref 1], [], (h.1, qm_up I 1 2 v17, J, h.2.2.2))) rfl ?_
            exact ih g (by omega) (qm_up I 1 2 v17) (J) v17 nm (fun o ho i => ((hk_mod ho rfl).trans ((e o (hk_ms rfl ho) i).trans rfl))) (fun i hi => ((hk_neq (fun z => by subst z; cases hi)).trans ((e1 i (hk_ms rfl hi)).trans rfl))) (fun o ho i => ((ej o (hk_ms rfl ho) i).trans rfl)) (show (qm_up I 1 2 v17) 1 2 = _ from (hk_same)) q_nm (by omega) ((wlp_z (b := v5) (by omega) q_v5 (by omega) (by omega) (by omega) (by omega)).symm.trans hW)
          · refine qm_Rp.go 2 (c' := (47, [.ref 1], [.ref 1, .ref 1], (h.1, I, J, h.2.2.2))) rfl ?_
            refine hp_getl (v := nm) rfl (hH.1 1 (12, 7) rfl) rfl q_nm ?_
            refine qm_Rp.go 1 (c' := (51, [.ref 1], [.ref 1, .long nm, .ref 1], (h.1, I, J, h.2.2.2))) rfl ?_
            refine hp_getr rfl (hH.1 1 (12, 7) rfl) rfl (hH.2 1 0 (some 2) rfl) ?_
            refine qm_Rp.go 1 (c' := (55, [.ref 1], [.ref 1, .ref 2, .long nm, .ref 1], (h.1, I, J, h.2.2.2))) rfl ?_
            refine hp_geti (v := c) rfl (hH.1 1 (12, 7) rfl) rfl q_c ?_
            refine qm_Rp.go 0 (c' := (58, [.ref 1], [.int c, .ref 2, .long nm, .ref 1], (h.1, I, J, h.2.2.2))) rfl ?_
            refine hp_bal1 (v := v5) rfl (hH.1 2 (1, 2000) rfl) (show (I) 2 c.toInt.toNat = _ from ((e 2 rfl c.toInt.toNat).trans q_v5)) (fun ia_17 ib_17 => ?_)
            refine qm_Rp.go 0 (c' := (59, [.ref 1], [.int v5, .long nm, .ref 1], (h.1, I, J, h.2.2.2))) rfl ?_
            refine qm_Rp.call (j := 25) (as := [.long nm, .int v5]) (c' := (62, [.ref 1], [.ref 1], (h.1, I, J, h.2.2.2))) rfl rfl ?_
            refine qm_Rp.go 3 (c' := (5, [.long nm, .float 0, .int v5], [.long (nm * (27 : Int64))], (h.1, I, J, h.2.2.2))) rfl ?_
            obtain ⟨w19, q_w19⟩ : ∃ v_, (nm * (27 : Int64)) = v_ := ⟨_, rfl⟩
            rw [q_w19]
            refine qm_Rp.go 3 (c' := (9, [.long nm, .float 0, .int v5], [.int (v5 - 97), .long w19], (h.1, I, J, h.2.2.2))) rfl ?_
            obtain ⟨v20, q_v20, e_v20⟩ := hk_sub (x := v5) (y := 97) (a := v5.toInt) (b := 97) rfl rfl (by omega) (by omega)
            rw [q_v20]
            refine qm_Rp.go 2 (c' := (11, [.long nm, .float 0, .int v5], [.int (v20 + 1), .long w19], (h.1, I, J, h.2.2.2))) rfl ?_
            obtain ⟨v21, q_v21, e_v21⟩ := hk_add (x := v20) (y := 1) (a := v20.toInt) (b := 1) rfl rfl (by omega) (by omega)
            rw [q_v21]
            refine qm_Rp.go 1 (c' := (12, [.long nm, .float 0, .int v5], [.long (Int32.toInt64 v21), .long w19], (h.1, I, J, h.2.2.2))) rfl ?_
            obtain ⟨w22, q_w22⟩ : ∃ v_, (Int32.toInt64 v21) = v_ := ⟨_, rfl⟩
            rw [q_w22]
            refine qm_Rp.go 1 (c' := (13, [.long nm, .float 0, .int v5], [.long (w19 + w22)], (h.1, I, J, h.2.2.2))) rfl ?_
            obtain ⟨w23, q_w23⟩ : ∃ v_, (w19 + w22) = v_ := ⟨_, rfl⟩
            rw [q_w23]
            refine qm_Rp.rt (v := (some (.long w23))) (h' := (h.1, I, J, h.2.2.2)) rfl ?_
            refine qm_Rp.go 0 (c' := (62, [.ref 1], [.long w23, .ref 1], (h.1, I, J, h.2.2.2))) rfl ?_
            refine hp_putl rfl (hH.1 1 (12, 7) rfl) rfl ?_
            refine qm_Rp.go 2 (c' := (67, [.ref 1], [.ref 1, .ref 1], (h.1, I, qm_up J 1 6 w23, h.2.2.2))) rfl ?_
            refine hp_geti (v := c) rfl (hH.1 1 (12, 7) rfl) rfl q_c ?_
            refine qm_Rp.go 2 (c' := (72, [.ref 1], [.int (c + 1), .ref 1], (h.1, I, qm_up J 1 6 w23, h.2.2.2))) rfl ?_
            obtain ⟨v24, q_v24, e_v24⟩ := hk_add (x := c) (y := 1) (a := c.toInt) (b := 1) rfl rfl (by omega) (by omega)
            rw [q_v24]
            refine hp_puti rfl (hH.1 1 (12, 7) rfl) rfl ?_
            refine qm_Rp.go 1 (c' := (5, [.ref 1], [], (h.1, qm_up I 1 2 v24, qm_up J 1 6 w23, h.2.2.2))) rfl ?_
            exact ih g (by omega) (qm_up I 1 2 v24) (qm_up J 1 6 w23) v24 w23 (fun o ho i => ((hk_mod ho rfl).trans ((e o (hk_ms rfl ho) i).trans rfl))) (fun i hi => ((hk_neq (fun z => by subst z; cases hi)).trans ((e1 i (hk_ms rfl hi)).trans rfl))) (fun o ho i => ((hj_mod ho rfl).trans ((ej o (hk_ms rfl ho) i).trans rfl))) (show (qm_up I 1 2 v24) 1 2 = _ from (hk_same)) (show (qm_up J 1 6 w23) 1 6 = _ from (hj_same)) (by omega) ((wlp_y (b := v5) (by omega) q_v5 (by omega) (by omega) (by rw [q_w19, q_v20, q_v21, q_w22, q_w23]) (by omega) (by omega)).symm.trans hW)
theorem px_word {X : Option (Nat × (Nat → Int32))} {Z : Option Value → qm_H → Prop} {h : qm_H} {fu : Nat} (hH : hk_H h) {n p : Int32} {W : Nat × Int64} (q_n : h.2.1 1 1 = n) (hn : 0 ≤ n.toInt ∧ n.toInt ≤ 2000) (q_p : h.2.1 1 4 = p) (hp : 0 ≤ p.toInt) (k : ∀ (I : Nat → Nat → Int32) (J : Nat → Nat → Int64) (nx kd : Int32), (∀ o, [1].contains o = false → ∀ i, I o i = h.2.1 o i) → (∀ i, [2, 3].contains i = false → I 1 i = h.2.1 1 i) → (∀ o, [1].contains o = false → ∀ i, J o i = h.2.2.1 o i) → I 1 2 = nx → I 1 3 = kd → (p.toInt ≤ nx.toInt ∧ nx.toInt ≤ n.toInt) → nx.toInt.toNat = W.1 → J 1 6 = W.2 → kd.toInt = (if 8 < W.1 - p.toInt.toNat then 38 else kw W.2) → Z none (h.1, I, J, h.2.2.2)) (q_c : h.2.1 1 2 = p) (hpn : p.toInt ≤ n.toInt) (hW : wlp (h.2.1 2) n.toInt.toNat p.toInt.toNat 0 0 = W) : qm_Rp fu X cd_24 (qm_ent 1 [.ref 1] h) Z := by
  refine qm_Rp.go 2 (c' := (2, [.ref 1], [.long 0, .ref 1], h)) rfl ?_
  refine hp_putl rfl (hH.1 1 (12, 7) rfl) rfl ?_
  exact px_wordl hH q_n hn q_p hp k fu h.2.1 (qm_up h.2.2.1 1 6 0) p 0 (fun _ _ _ => rfl) (fun _ _ => rfl) (fun o ho i => hj_mod ho rfl) q_c hj_same (by omega) (by rw [show (p.toInt - p.toInt).toNat = 0 by omega]; exact hW)
set_option maxHeartbeats 20000000 in
theorem px_intl {X : Option (Nat × (Nat → Int32))} {Z : Option Value → qm_H → Prop} {h : qm_H} (hH : hk_H h) {n p : Int32} {W : Nat × Int32} (q_n : h.2.1 1 1 = n) (hn : 0 ≤ n.toInt ∧ n.toInt ≤ 2000) (q_p : h.2.1 1 4 = p) (hp : 0 ≤ p.toInt) (k : ∀ (I : Nat → Nat → Int32) (J : Nat → Nat → Int64) (nx kd : Int32), (∀ o, [1].contains o = false → ∀ i, I o i = h.2.1 o i) → (∀ i, [2, 3, 5].contains i = false → I 1 i = h.2.1 1 i) → (∀ o, [].contains o = false → ∀ i, J o i = h.2.2.1 o i) → I 1 2 = nx → I 1 3 = kd → (p.toInt ≤ nx.toInt ∧ nx.toInt ≤ n.toInt) → nx.toInt.toNat = W.1 → I 1 5 = W.2 → kd.toInt = (if 4 < W.1 - p.toInt.toNat then 38 else 25) → Z none (h.1, I, J, h.2.2.2)) : ∀ (fu : Nat) (I : Nat → Nat → Int32) (J : Nat → Nat → Int64) (c v : Int32), ((∀ o, [1].contains o = false → ∀ i, I o i = h.2.1 o i)) → ((∀ i, [2, 5].contains i = false → I 1 i = h.2.1 1 i)) → ((∀ o, [].contains o = false → ∀ i, J o i = h.2.2.1 o i)) → (I 1 2 = c) → (I 1 5 = v) → (p.toInt ≤ c.toInt ∧ c.toInt ≤ n.toInt) → (dlp (h.2.1 2) n.toInt.toNat c.toInt.toNat (c.toInt - p.toInt).toNat v = W) → qm_Rp fu X cd_27 (5, [.ref 1], [], (h.1, I, J, h.2.2.2)) Z := by
  intro fu
  induction fu using Nat.strongRecOn with
  | ind fu ih =>
    intro I J c v e e1 ej q_c q_v hc hW
    have kz0 : (0 : Int32).toInt = 0 := rfl
    have kz1 : (1 : Int32).toInt = 1 := rfl
    have kz2 : (2 : Int32).toInt = 2 := rfl
    have kz3 : (3 : Int32).toInt = 3 := rfl
    have kz4 : (4 : Int32).toInt = 4 := rfl
    have kz5 : (5 : Int32).toInt = 5 := rfl
    have kz6 : (6 : Int32).toInt = 6 := rfl
    have kz7 : (7 : Int32).toInt = 7 := rfl
    have kz8 : (8 : Int32).toInt = 8 := rfl
    have kz9 : (9 : Int32).toInt = 9 := rfl
    have kzm1 : ((-1) : Int32).toInt = (-1) := rfl
    have kzm2 : ((-2) : Int32).toInt = (-2) := rfl
    have kzm3 : ((-3) : Int32).toInt = (-3) := rfl
    refine qm_Rp.go1 0 (c' := (6, [.ref 1], [.ref 1], (h.1, I, J, h.2.2.2))) rfl (fun g hg => ?_)
    refine hp_geti (v := c) rfl (hH.1 1 (12, 7) rfl) rfl q_c ?_
    refine qm_Rp.go 1 (c' := (10, [.ref 1], [.ref 1, .int c], (h.1, I, J, h.2.2.2))) rfl ?_
    refine hp_geti (v := n) rfl (hH.1 1 (12, 7) rfl) rfl (show (I) 1 1 = _ from ((e1 1 rfl).trans q_n)) ?_
    refine qm_Rp.go 0 (c' := (13, [.ref 1], [.int n, .int c], (h.1, I, J, h.2.2.2))) rfl ?_
    refine hp_cge (ix := c.toInt) (iy := n.toInt) rfl rfl rfl (fun z1 => ?_) (fun z1 => ?_)
    · refine qm_Rp.go 0 (c' := (81, [.ref 1], [], (h.1, I, J, h.2.2.2))) rfl ?_
      refine qm_Rp.go 2 (c' := (83, [.ref 1], [.ref 1, .ref 1], (h.1, I, J, h.2.2.2))) rfl ?_
      refine hp_geti (v := c) rfl (hH.1 1 (12, 7) rfl) rfl q_c ?_
      refine qm_Rp.go 1 (c' := (87, [.ref 1], [.ref 1, .int c, .ref 1], (h.1, I, J, h.2.2.2))) rfl ?_
      refine hp_geti (v := p) rfl (hH.1 1 (12, 7) rfl) rfl (show (I) 1 4 = _ from ((e1 4 rfl).trans q_p)) ?_
      refine qm_Rp.go 1 (c' := (91, [.ref 1], [.int (c - p), .ref 1], (h.1, I, J, h.2.2.2))) rfl ?_
      obtain ⟨v2, q_v2, e_v2⟩ := hk_sub (x := c) (y := p) (a := c.toInt) (b := p.toInt) rfl rfl (by omega) (by omega)
      rw [q_v2]
      refine qm_Rp.go 1 (c' := (92, [.ref 1], [.int 4, .int v2, .ref 1], (h.1, I, J, h.2.2.2))) rfl ?_
      refine hp_cle (ix := v2.toInt) (iy := 4) rfl rfl rfl (fun z3 => ?_) (fun z3 => ?_)
      · refine qm_Rp.go 1 (c' := (102, [.ref 1], [.int 25, .ref 1], (h.1, I, J, h.2.2.2))) rfl ?_
        refine hp_puti rfl (hH.1 1 (12, 7) rfl) rfl ?_
        refine qm_Rp.go 0 (c' := (105, [.ref 1], [], (h.1, qm_up I 1 3 25, J, h.2.2.2))) rfl ?_
        refine qm_Rp.rt (v := none) (h' := (h.1, qm_up I 1 3 25, J, h.2.2.2)) rfl ?_
        have hw9 : W = (c.toInt.toNat, v) := by rw [← hW]; exact dlp_e (by omega)
        exact k (qm_up I 1 3 25) (J) c 25 (fun o ho i => ((hk_mod ho rfl).trans ((e o (hk_ms rfl ho) i).trans rfl))) (fun i hi => ((hk_neq (fun z => by subst z; cases hi)).trans ((e1 i (hk_ms rfl hi)).trans rfl))) (fun o ho i => ((ej o (hk_ms rfl ho) i).trans rfl)) (show (qm_up I 1 3 25) 1 2 = _ from ((hk_neq (by decide)).trans q_c)) (show (qm_up I 1 3 25) 1 3 = _ from (hk_same)) (by omega) (by rw [hw9]) (by rw [hw9]; exact (show (qm_up I 1 3 25) 1 5 = _ from ((hk_neq (by decide)).trans q_v))) (by rw [hw9]; exact (if_neg (by dsimp only; omega)).symm)
      · refine qm_Rp.go 2 (c' := (102, [.ref 1], [.int 38, .ref 1], (h.1, I, J, h.2.2.2))) rfl ?_
        refine hp_puti rfl (hH.1 1 (12, 7) rfl) rfl ?_
        refine qm_Rp.go 0 (c' := (105, [.ref 1], [], (h.1, qm_up I 1 3 38, J, h.2.2.2))) rfl ?_
        refine qm_Rp.rt (v := none) (h' := (h.1, qm_up I 1 3 38, J, h.2.2.2)) rfl ?_
        have hw9 : W = (c.toInt.toNat, v) := by rw [← hW]; exact dlp_e (by omega)
        exact k (qm_up I 1 3 38) (J) c 38 (fun o ho i => ((hk_mod ho rfl).trans ((e o (hk_ms rfl ho) i).trans rfl))) (fun i hi => ((hk_neq (fun z => by subst z; cases hi)).trans ((e1 i (hk_ms rfl hi)).trans rfl))) (fun o ho i => ((ej o (hk_ms rfl ho) i).trans rfl)) (show (qm_up I 1 3 38) 1 2 = _ from ((hk_neq (by decide)).trans q_c)) (show (qm_up I 1 3 38) 1 3 = _ from (hk_same)) (by omega) (by rw [hw9]) (by rw [hw9]; exact (show (qm_up I 1 3 38) 1 5 = _ from ((hk_neq (by decide)).trans q_v))) (by rw [hw9]; exact (if_pos (by dsimp only; omega)).symm)
    · refine qm_Rp.go 1 (c' := (17, [.ref 1], [.ref 1], (h.1, I, J, h.2.2.2))) rfl ?_
      refine hp_getr rfl (hH.1 1 (12, 7) rfl) rfl (hH.2 1 0 (some 2) rfl) ?_
      refine qm_Rp.go 1 (c' := (21, [.ref 1], [.ref 1, .ref 2], (h.1, I, J, h.2.2.2))) rfl ?_
      refine hp_geti (v := c) rfl (hH.1 1 (12, 7) rfl) rfl q_c ?_
      refine qm_Rp.go 0 (c' := (24, [.ref 1], [.int c, .ref 2], (h.1, I, J, h.2.2.2))) rfl ?_
      obtain ⟨v4, q_v4⟩ : ∃ v_, h.2.1 2 c.toInt.toNat = v_ := ⟨_, rfl⟩
      refine hp_bal1 (v := v4) rfl (hH.1 2 (1, 2000) rfl) (show (I) 2 c.toInt.toNat = _ from ((e 2 rfl c.toInt.toNat).trans q_v4)) (fun ia_4 ib_4 => ?_)
      refine qm_Rp.go 0 (c' := (25, [.ref 1], [.int v4], (h.1, I, J, h.2.2.2))) rfl ?_
      refine qm_Rp.call (j := 26) (as := [.int v4]) (c' := (28, [.ref 1], [], (h.1, I, J, h.2.2.2))) rfl rfl ?_
      refine qm_Rp.go 2 (c' := (3, [.int v4], [.int 48, .int v4], (h.1, I, J, h.2.2.2))) rfl ?_
      refine hp_clt (ix := v4.toInt) (iy := 48) rfl rfl rfl (fun z6 => ?_) (fun z6 => ?_)
      · refine qm_Rp.go 1 (c' := (17, [.int v4], [.int 0], (h.1, I, J, h.2.2.2))) rfl ?_
        refine qm_Rp.rt (v := (some (.int 0))) (h' := (h.1, I, J, h.2.2.2)) rfl ?_
        refine qm_Rp.go 1 (c' := (81, [.ref 1], [], (h.1, I, J, h.2.2.2))) rfl ?_
        refine qm_Rp.go 2 (c' := (83, [.ref 1], [.ref 1, .ref 1], (h.1, I, J, h.2.2.2))) rfl ?_
        refine hp_geti (v := c) rfl (hH.1 1 (12, 7) rfl) rfl q_c ?_
        refine qm_Rp.go 1 (c' := (87, [.ref 1], [.ref 1, .int c, .ref 1], (h.1, I, J, h.2.2.2))) rfl ?_
        refine hp_geti (v := p) rfl (hH.1 1 (12, 7) rfl) rfl (show (I) 1 4 = _ from ((e1 4 rfl).trans q_p)) ?_
        refine qm_Rp.go 1 (c' := (91, [.ref 1], [.int (c - p), .ref 1], (h.1, I, J, h.2.2.2))) rfl ?_
        obtain ⟨v7, q_v7, e_v7⟩ := hk_sub (x := c) (y := p) (a := c.toInt) (b := p.toInt) rfl rfl (by omega) (by omega)
        rw [q_v7]
        refine qm_Rp.go 1 (c' := (92, [.ref 1], [.int 4, .int v7, .ref 1], (h.1, I, J, h.2.2.2))) rfl ?_
        refine hp_cle (ix := v7.toInt) (iy := 4) rfl rfl rfl (fun z8 => ?_) (fun z8 => ?_)
        · refine qm_Rp.go 1 (c' := (102, [.ref 1], [.int 25, .ref 1], (h.1, I, J, h.2.2.2))) rfl ?_
          refine hp_puti rfl (hH.1 1 (12, 7) rfl) rfl ?_
          refine qm_Rp.go 0 (c' := (105, [.ref 1], [], (h.1, qm_up I 1 3 25, J, h.2.2.2))) rfl ?_
          refine qm_Rp.rt (v := none) (h' := (h.1, qm_up I 1 3 25, J, h.2.2.2)) rfl ?_
          have hw9 : W = (c.toInt.toNat, v) := by rw [← hW]; exact dlp_b q_v4 (by omega)
          exact k (qm_up I 1 3 25) (J) c 25 (fun o ho i => ((hk_mod ho rfl).trans ((e o (hk_ms rfl ho) i).trans rfl))) (fun i hi => ((hk_neq (fun z => by subst z; cases hi)).trans ((e1 i (hk_ms rfl hi)).trans rfl))) (fun o ho i => ((ej o (hk_ms rfl ho) i).trans rfl)) (show (qm_up I 1 3 25) 1 2 = _ from ((hk_neq (by decide)).trans q_c)) (show (qm_up I 1 3 25) 1 3 = _ from (hk_same)) (by omega) (by rw [hw9]) (by rw [hw9]; exact (show (qm_up I 1 3 25) 1 5 = _ from ((hk_neq (by decide)).trans q_v))) (by rw [hw9]; exact (if_neg (by dsimp only; omega)).symm)
        · refine qm_Rp.go 2 (c' := (102, [.ref 1], [.int 38, .ref 1], (h.1, I, J, h.2.2.2))) rfl ?_
          refine hp_puti rfl (hH.1 1 (12, 7) rfl) rfl ?_
          refine qm_Rp.go 0 (c' := (105, [.ref 1], [], (h.1, qm_up I 1 3 38, J, h.2.2.2))) rfl ?_
          refine qm_Rp.rt (v := none) (h' := (h.1, qm_up I 1 3 38, J, h.2.2.2)) rfl ?_
          have hw9 : W = (c.toInt.toNat, v) := by rw [← hW]; exact dlp_b q_v4 (by omega)
          exact k (qm_up I 1 3 38) (J) c 38 (fun o ho i => ((hk_mod ho rfl).trans ((e o (hk_ms rfl ho) i).trans rfl))) (fun i hi => ((hk_neq (fun z => by subst z; cases hi)).trans ((e1 i (hk_ms rfl hi)).trans rfl))) (fun o ho i => ((ej o (hk_ms rfl ho) i).trans rfl)) (show (qm_up I 1 3 38) 1 2 = _ from ((hk_neq (by decide)).trans q_c)) (show (qm_up I 1 3 38) 1 3 = _ from (hk_same)) (by omega) (by rw [hw9]) (by rw [hw9]; exact (show (qm_up I 1 3 38) 1 5 = _ from ((hk_neq (by decide)).trans q_v))) (by rw [hw9]; exact (if_pos (by dsimp only; omega)).symm)
      · refine qm_Rp.go 2 (c' := (9, [.int v4], [.int 57, .int v4], (h.1, I, J, h.2.2.2))) rfl ?_
        refine hp_cgt (ix := v4.toInt) (iy := 57) rfl rfl rfl (fun z9 => ?_) (fun z9 => ?_)
        · refine qm_Rp.go 1 (c' := (17, [.int v4], [.int 0], (h.1, I, J, h.2.2.2))) rfl ?_
          refine qm_Rp.rt (v := (some (.int 0))) (h' := (h.1, I, J, h.2.2.2)) rfl ?_
          refine qm_Rp.go 1 (c' := (81, [.ref 1], [], (h.1, I, J, h.2.2.2))) rfl ?_
          refine qm_Rp.go 2 (c' := (83, [.ref 1], [.ref 1, .ref 1], (h.1, I, J, h.2.2.2))) rfl ?_
          refine hp_geti (v := c) rfl (hH.1 1 (12, 7) rfl) rfl q_c ?_
          refine qm_Rp.go 1 (c' := (87, [.ref 1], [.ref 1, .int c, .ref 1], (h.1, I, J, h.2.2.2))) rfl ?_
          refine hp_geti (v := p) rfl (hH.1 1 (12, 7) rfl) rfl (show (I) 1 4 = _ from ((e1 4 rfl).trans q_p)) ?_
          refine qm_Rp.go 1 (c' := (91, [.ref 1], [.int (c - p), .ref 1], (h.1, I, J, h.2.2.2))) rfl ?_
          obtain ⟨v10, q_v10, e_v10⟩ := hk_sub (x := c) (y := p) (a := c.toInt) (b := p.toInt) rfl rfl (by omega) (by omega)
          rw [q_v10]
          refine qm_Rp.go 1 (c' := (92, [.ref 1], [.int 4, .int v10, .ref 1], (h.1, I, J, h.2.2.2))) rfl ?_
          refine hp_cle (ix := v10.toInt) (iy := 4) rfl rfl rfl (fun z11 => ?_) (fun z11 => ?_)
          · refine qm_Rp.go 1 (c' := (102, [.ref 1], [.int 25, .ref 1], (h.1, I, J, h.2.2.2))) rfl ?_
            refine hp_puti rfl (hH.1 1 (12, 7) rfl) rfl ?_
            refine qm_Rp.go 0 (c' := (105, [.ref 1], [], (h.1, qm_up I 1 3 25, J, h.2.2.2))) rfl ?_
            refine qm_Rp.rt (v := none) (h' := (h.1, qm_up I 1 3 25, J, h.2.2.2)) rfl ?_
            have hw9 : W = (c.toInt.toNat, v) := by rw [← hW]; exact dlp_b q_v4 (by omega)
            exact k (qm_up I 1 3 25) (J) c 25 (fun o ho i => ((hk_mod ho rfl).trans ((e o (hk_ms rfl ho) i).trans rfl))) (fun i hi => ((hk_neq (fun z => by subst z; cases hi)).trans ((e1 i (hk_ms rfl hi)).trans rfl))) (fun o ho i => ((ej o (hk_ms rfl ho) i).trans rfl)) (show (qm_up I 1 3 25) 1 2 = _ from ((hk_neq (by decide)).trans q_c)) (show (qm_up I 1 3 25) 1 3 = _ from (hk_same)) (by omega) (by rw [hw9]) (by rw [hw9]; exact (show (qm_up I 1 3 25) 1 5 = _ from ((hk_neq (by decide)).trans q_v))) (by rw [hw9]; exact (if_neg (by dsimp only; omega)).symm)
          · refine qm_Rp.go 2 (c' := (102, [.ref 1], [.int 38, .ref 1], (h.1, I, J, h.2.2.2))) rfl ?_
            refine hp_puti rfl (hH.1 1 (12, 7) rfl) rfl ?_
            refine qm_Rp.go 0 (c' := (105, [.ref 1], [], (h.1, qm_up I 1 3 38, J, h.2.2.2))) rfl ?_
            refine qm_Rp.rt (v := none) (h' := (h.1, qm_up I 1 3 38, J, h.2.2.2)) rfl ?_
            have hw9 : W = (c.toInt.toNat, v) := by rw [← hW]; exact dlp_b q_v4 (by omega)
            exact k (qm_up I 1 3 38) (J) c 38 (fun o ho i => ((hk_mod ho rfl).trans ((e o (hk_ms rfl ho) i).trans rfl))) (fun i hi => ((hk_neq (fun z => by subst z; cases hi)).trans ((e1 i (hk_ms rfl hi)).trans rfl))) (fun o ho i => ((ej o (hk_ms rfl ho) i).trans rfl)) (show (qm_up I 1 3 38) 1 2 = _ from ((hk_neq (by decide)).trans q_c)) (show (qm_up I 1 3 38) 1 3 = _ from (hk_same)) (by omega) (by rw [hw9]) (by rw [hw9]; exact (show (qm_up I 1 3 38) 1 5 = _ from ((hk_neq (by decide)).trans q_v))) (by rw [hw9]; exact (if_pos (by dsimp only; omega)).symm)
        · refine qm_Rp.go 2 (c' := (17, [.int v4], [.int 1], (h.1, I, J, h.2.2.2))) rfl ?_
          refine qm_Rp.rt (v := (some (.int 1))) (h' := (h.1, I, J, h.2.2.2)) rfl ?_
          refine qm_Rp.go 2 (c' := (32, [.ref 1], [.ref 1], (h.1, I, J, h.2.2.2))) rfl ?_
          refine hp_geti (v := c) rfl (hH.1 1 (12, 7) rfl) rfl q_c ?_
          refine qm_Rp.go 1 (c' := (36, [.ref 1], [.ref 1, .int c], (h.1, I, J, h.2.2.2))) rfl ?_
          refine hp_geti (v := p) rfl (hH.1 1 (12, 7) rfl) rfl (show (I) 1 4 = _ from ((e1 4 rfl).trans q_p)) ?_
          refine qm_Rp.go 1 (c' := (40, [.ref 1], [.int (c - p)], (h.1, I, J, h.2.2.2))) rfl ?_
          obtain ⟨v12, q_v12, e_v12⟩ := hk_sub (x := c) (y := p) (a := c.toInt) (b := p.toInt) rfl rfl (by omega) (by omega)
          rw [q_v12]
          refine qm_Rp.go 1 (c' := (41, [.ref 1], [.int 4, .int v12], (h.1, I, J, h.2.2.2))) rfl ?_
          refine hp_cge (ix := v12.toInt) (iy := 4) rfl rfl rfl (fun z13 => ?_) (fun z13 => ?_)
          · refine qm_Rp.go 2 (c' := (70, [.ref 1], [.ref 1, .ref 1], (h.1, I, J, h.2.2.2))) rfl ?_
            refine hp_geti (v := c) rfl (hH.1 1 (12, 7) rfl) rfl q_c ?_
            refine qm_Rp.go 2 (c' := (75, [.ref 1], [.int (c + 1), .ref 1], (h.1, I, J, h.2.2.2))) rfl ?_
            obtain ⟨v14, q_v14, e_v14⟩ := hk_add (x := c) (y := 1) (a := c.toInt) (b := 1) rfl rfl (by omega) (by omega)
            rw [q_v14]
            refine hp_puti rfl (hH.1 1 (12, 7) rfl) rfl ?_
            refine qm_Rp.go 1 (c' := (5, [.ref 1], [], (h.1, qm_up I 1 2 v14, J, h.2.2.2))) rfl ?_
            exact ih g (by omega) (qm_up I 1 2 v14) (J) v14 v (fun o ho i => ((hk_mod ho rfl).trans ((e o (hk_ms rfl ho) i).trans rfl))) (fun i hi => ((hk_neq (fun z => by subst z; cases hi)).trans ((e1 i (hk_ms rfl hi)).trans rfl))) (fun o ho i => ((ej o (hk_ms rfl ho) i).trans rfl)) (show (qm_up I 1 2 v14) 1 2 = _ from (hk_same)) (show (qm_up I 1 2 v14) 1 5 = _ from ((hk_neq (by decide)).trans q_v)) (by omega) ((dlp_z (b := v4) (by omega) q_v4 (by omega) (by omega) (by omega) (by omega)).symm.trans hW)
          · refine qm_Rp.go 2 (c' := (46, [.ref 1], [.ref 1, .ref 1], (h.1, I, J, h.2.2.2))) rfl ?_
            refine hp_geti (v := v) rfl (hH.1 1 (12, 7) rfl) rfl q_v ?_
            refine qm_Rp.go 2 (c' := (52, [.ref 1], [.int (v * 10), .ref 1], (h.1, I, J, h.2.2.2))) rfl ?_
            obtain ⟨v15, q_v15⟩ : ∃ v_, (v * 10) = v_ := ⟨_, rfl⟩
            rw [q_v15]
            refine qm_Rp.go 1 (c' := (53, [.ref 1], [.ref 1, .int v15, .ref 1], (h.1, I, J, h.2.2.2))) rfl ?_
            refine hp_getr rfl (hH.1 1 (12, 7) rfl) rfl (hH.2 1 0 (some 2) rfl) ?_
            refine qm_Rp.go 1 (c' := (57, [.ref 1], [.ref 1, .ref 2, .int v15, .ref 1], (h.1, I, J, h.2.2.2))) rfl ?_
            refine hp_geti (v := c) rfl (hH.1 1 (12, 7) rfl) rfl q_c ?_
            refine qm_Rp.go 0 (c' := (60, [.ref 1], [.int c, .ref 2, .int v15, .ref 1], (h.1, I, J, h.2.2.2))) rfl ?_
            refine hp_bal1 (v := v4) rfl (hH.1 2 (1, 2000) rfl) (show (I) 2 c.toInt.toNat = _ from ((e 2 rfl c.toInt.toNat).trans q_v4)) (fun ia_15 ib_15 => ?_)
            refine qm_Rp.go 1 (c' := (62, [.ref 1], [.int (v15 + v4), .ref 1], (h.1, I, J, h.2.2.2))) rfl ?_
            obtain ⟨v17, q_v17⟩ : ∃ v_, (v15 + v4) = v_ := ⟨_, rfl⟩
            rw [q_v17]
            refine qm_Rp.go 2 (c' := (65, [.ref 1], [.int (v17 - 48), .ref 1], (h.1, I, J, h.2.2.2))) rfl ?_
            obtain ⟨v18, q_v18⟩ : ∃ v_, (v17 - 48) = v_ := ⟨_, rfl⟩
            rw [q_v18]
            refine hp_puti rfl (hH.1 1 (12, 7) rfl) rfl ?_
            refine qm_Rp.go 2 (c' := (70, [.ref 1], [.ref 1, .ref 1], (h.1, qm_up I 1 5 v18, J, h.2.2.2))) rfl ?_
            refine hp_geti (v := c) rfl (hH.1 1 (12, 7) rfl) rfl (show (qm_up I 1 5 v18) 1 2 = _ from ((hk_neq (by decide)).trans q_c)) ?_
            refine qm_Rp.go 2 (c' := (75, [.ref 1], [.int (c + 1), .ref 1], (h.1, qm_up I 1 5 v18, J, h.2.2.2))) rfl ?_
            obtain ⟨v19, q_v19, e_v19⟩ := hk_add (x := c) (y := 1) (a := c.toInt) (b := 1) rfl rfl (by omega) (by omega)
            rw [q_v19]
            refine hp_puti rfl (hH.1 1 (12, 7) rfl) rfl ?_
            refine qm_Rp.go 1 (c' := (5, [.ref 1], [], (h.1, qm_up (qm_up I 1 5 v18) 1 2 v19, J, h.2.2.2))) rfl ?_
            exact ih g (by omega) (qm_up (qm_up I 1 5 v18) 1 2 v19) (J) v19 v18 (fun o ho i => ((hk_mod ho rfl).trans ((hk_mod ho rfl).trans ((e o (hk_ms rfl ho) i).trans rfl)))) (fun i hi => ((hk_neq (fun z => by subst z; cases hi)).trans ((hk_neq (fun z => by subst z; cases hi)).trans ((e1 i (hk_ms rfl hi)).trans rfl)))) (fun o ho i => ((ej o (hk_ms rfl ho) i).trans rfl)) (show (qm_up (qm_up I 1 5 v18) 1 2 v19) 1 2 = _ from (hk_same)) (show (qm_up (qm_up I 1 5 v18) 1 2 v19) 1 5 = _ from ((hk_neq (by decide)).trans (hk_same))) (by omega) ((dlp_y (b := v4) (by omega) q_v4 (by omega) (by omega) (by rw [q_v15, q_v17, q_v18]) (by omega) (by omega)).symm.trans hW)
theorem px_int {X : Option (Nat × (Nat → Int32))} {Z : Option Value → qm_H → Prop} {h : qm_H} {fu : Nat} (hH : hk_H h) {n p : Int32} {W : Nat × Int32} (q_n : h.2.1 1 1 = n) (hn : 0 ≤ n.toInt ∧ n.toInt ≤ 2000) (q_p : h.2.1 1 4 = p) (hp : 0 ≤ p.toInt) (k : ∀ (I : Nat → Nat → Int32) (J : Nat → Nat → Int64) (nx kd : Int32), (∀ o, [1].contains o = false → ∀ i, I o i = h.2.1 o i) → (∀ i, [2, 3, 5].contains i = false → I 1 i = h.2.1 1 i) → (∀ o, [].contains o = false → ∀ i, J o i = h.2.2.1 o i) → I 1 2 = nx → I 1 3 = kd → (p.toInt ≤ nx.toInt ∧ nx.toInt ≤ n.toInt) → nx.toInt.toNat = W.1 → I 1 5 = W.2 → kd.toInt = (if 4 < W.1 - p.toInt.toNat then 38 else 25) → Z none (h.1, I, J, h.2.2.2)) (q_c : h.2.1 1 2 = p) (hpn : p.toInt ≤ n.toInt) (hW : dlp (h.2.1 2) n.toInt.toNat p.toInt.toNat 0 0 = W) : qm_Rp fu X cd_27 (qm_ent 1 [.ref 1] h) Z := by
  refine qm_Rp.go 2 (c' := (2, [.ref 1], [.int 0, .ref 1], h)) rfl ?_
  refine hp_puti rfl (hH.1 1 (12, 7) rfl) rfl ?_
  exact px_intl hH q_n hn q_p hp k fu (qm_up h.2.1 1 5 0) h.2.2.1 p 0 (fun o ho i => hk_mod ho rfl) (fun i hi => hk_neq (fun z => by subst z; cases hi)) (fun _ _ _ => rfl) ((hk_neq (by decide)).trans q_c) hk_same (by omega) (by rw [show (p.toInt - p.toInt).toNat = 0 by omega]; exact hW)
theorem px_sign {X : Option (Nat × (Nat → Int32))} {Z : Option Value → qm_H → Prop} {h : qm_H} {fu : Nat} (hH : hk_H h) {n p b : Int32} (q_n : h.2.1 1 1 = n) (hn : 0 ≤ n.toInt ∧ n.toInt ≤ 2000) (q_p : h.2.1 1 2 = p) (hp : 0 ≤ p.toInt ∧ p.toInt < n.toInt) (q_b : h.2.1 2 p.toInt.toNat = b) (hb : (-128 : Int) ≤ b.toInt ∧ b.toInt ≤ 127) (k : ∀ (I : Nat → Nat → Int32) (nx kd : Int32), (∀ o, [1].contains o = false → ∀ i, I o i = h.2.1 o i) → (∀ i, [2, 3].contains i = false → I 1 i = h.2.1 1 i) → I 1 2 = nx → I 1 3 = kd → (p.toInt ≤ nx.toInt ∧ nx.toInt ≤ n.toInt) → nx.toInt.toNat = p.toInt.toNat + sgN b.toInt (sgW (h.2.1 2) n.toInt.toNat p.toInt.toNat) → kd.toInt = sgK b.toInt (sgW (h.2.1 2) n.toInt.toNat p.toInt.toNat) → Z none (h.1, I, h.2.2.1, h.2.2.2)) : qm_Rp fu X cd_28 (qm_ent 2 [.ref 1] h) Z := by
  refine qm_Rp.go 0 (c' := (0, [.ref 1, .float 0], [], h)) rfl ?_
  have kz0 : (0 : Int32).toInt = 0 := rfl
  have kz1 : (1 : Int32).toInt = 1 := rfl
  have kz2 : (2 : Int32).toInt = 2 := rfl
  have kz3 : (3 : Int32).toInt = 3 := rfl
  have kz4 : (4 : Int32).toInt = 4 := rfl
  have kz5 : (5 : Int32).toInt = 5 := rfl
  have kz6 : (6 : Int32).toInt = 6 := rfl
  have kz7 : (7 : Int32).toInt = 7 := rfl
  have kz8 : (8 : Int32).toInt = 8 := rfl
  have kz9 : (9 : Int32).toInt = 9 := rfl
  have kzm1 : ((-1) : Int32).toInt = (-1) := rfl
  have kzm2 : ((-2) : Int32).toInt = (-2) := rfl
  have kzm3 : ((-3) : Int32).toInt = (-3) := rfl
  refine qm_Rp.go 1 (c' := (1, [.ref 1, .float 0], [.ref 1], h)) rfl ?_
  refine hp_getr rfl (hH.1 1 (12, 7) rfl) rfl (hH.2 1 0 (some 2) rfl) ?_
  refine qm_Rp.go 1 (c' := (5, [.ref 1, .float 0], [.ref 1, .ref 2], h)) rfl ?_
  refine hp_geti (v := p) rfl (hH.1 1 (12, 7) rfl) rfl q_p ?_
  refine qm_Rp.go 0 (c' := (8, [.ref 1, .float 0], [.int p, .ref 2], h)) rfl ?_
  refine hp_bal1 (v := b) rfl (hH.1 2 (1, 2000) rfl) q_b (fun ia_0 ib_0 => ?_)
  refine qm_Rp.go 0 (c' := (9, [.ref 1, .float 0], [.int b], h)) rfl ?_
  refine qm_Rp.go 3 (c' := (12, [.ref 1, .int b], [.ref 1, .ref 1], h)) rfl ?_
  refine hp_geti (v := p) rfl (hH.1 1 (12, 7) rfl) rfl q_p ?_
  refine qm_Rp.go 2 (c' := (17, [.ref 1, .int b], [.int (p + 1), .ref 1], h)) rfl ?_
  obtain ⟨v2, q_v2, e_v2⟩ := hk_add (x := p) (y := 1) (a := p.toInt) (b := 1) rfl rfl (by omega) (by omega)
  rw [q_v2]
  refine hp_puti rfl (hH.1 1 (12, 7) rfl) rfl ?_
  refine qm_Rp.go 1 (c' := (21, [.ref 1, .int b], [.int b], (h.1, qm_up h.2.1 1 2 v2, h.2.2.1, h.2.2.2))) rfl ?_
  rcases (show b.toInt = 33 ∨ b.toInt = 34 ∨ b.toInt = 35 ∨ b.toInt = 36 ∨ b.toInt = 37 ∨ b.toInt = 38 ∨ b.toInt = 39 ∨ b.toInt = 40 ∨ b.toInt = 41 ∨ b.toInt = 42 ∨ b.toInt = 43 ∨ b.toInt = 44 ∨ b.toInt = 45 ∨ b.toInt = 46 ∨ b.toInt = 47 ∨ b.toInt = 48 ∨ b.toInt = 49 ∨ b.toInt = 50 ∨ b.toInt = 51 ∨ b.toInt = 52 ∨ b.toInt = 53 ∨ b.toInt = 54 ∨ b.toInt = 55 ∨ b.toInt = 56 ∨ b.toInt = 57 ∨ b.toInt = 58 ∨ b.toInt = 59 ∨ b.toInt = 60 ∨ b.toInt = 61 ∨ (b.toInt < 33 ∨ 61 < b.toInt) from by omega) with zs | zs | zs | zs | zs | zs | zs | zs | zs | zs | zs | zs | zs | zs | zs | zs | zs | zs | zs | zs | zs | zs | zs | zs | zs | zs | zs | zs | zs | zs
  · obtain rfl : b = 33 := hk_eqi.mpr (zs.trans rfl)
    refine qm_Rp.go 3 (c' := (229, [.ref 1, .int 33], [.ref 1, .ref 1], (h.1, qm_up h.2.1 1 2 v2, h.2.2.1, h.2.2.2))) rfl ?_
    refine hp_inv (o := 1) (r := [.ref 1]) (as := [.ref 1]) rfl rfl (hH.1 1 (12, 7) rfl) rfl rfl rfl ?_
    refine qm_Rp.go 1 (c' := (1, [.ref 1], [.ref 1], (h.1, qm_up h.2.1 1 2 v2, h.2.2.1, h.2.2.2))) rfl ?_
    refine hp_geti (v := v2) rfl (hH.1 1 (12, 7) rfl) rfl (show (qm_up h.2.1 1 2 v2) 1 2 = _ from (hk_same)) ?_
    refine qm_Rp.go 1 (c' := (5, [.ref 1], [.ref 1, .int v2], (h.1, qm_up h.2.1 1 2 v2, h.2.2.1, h.2.2.2))) rfl ?_
    refine hp_geti (v := n) rfl (hH.1 1 (12, 7) rfl) rfl (show (qm_up h.2.1 1 2 v2) 1 1 = _ from ((hk_neq (by decide)).trans q_n)) ?_
    refine qm_Rp.go 0 (c' := (8, [.ref 1], [.int n, .int v2], (h.1, qm_up h.2.1 1 2 v2, h.2.2.1, h.2.2.2))) rfl ?_
    refine hp_cge (ix := v2.toInt) (iy := n.toInt) rfl rfl rfl (fun z3 => ?_) (fun z3 => ?_)
    · refine qm_Rp.go 0 (c' := (25, [.ref 1], [], (h.1, qm_up h.2.1 1 2 v2, h.2.2.1, h.2.2.2))) rfl ?_
      refine qm_Rp.go 1 (c' := (26, [.ref 1], [.int 0], (h.1, qm_up h.2.1 1 2 v2, h.2.2.1, h.2.2.2))) rfl ?_
      refine qm_Rp.rt (v := (some (.int 0))) (h' := (h.1, qm_up h.2.1 1 2 v2, h.2.2.1, h.2.2.2)) rfl ?_
      refine qm_Rp.go 2 (c' := (242, [.ref 1, .int 33], [.int 38, .ref 1], (h.1, qm_up h.2.1 1 2 v2, h.2.2.1, h.2.2.2))) rfl ?_
      refine hp_puti rfl (hH.1 1 (12, 7) rfl) rfl ?_
      refine qm_Rp.go 1 (c' := (275, [.ref 1, .int 33], [], (h.1, qm_up (qm_up h.2.1 1 2 v2) 1 3 38, h.2.2.1, h.2.2.2))) rfl ?_
      refine qm_Rp.rt (v := none) (h' := (h.1, qm_up (qm_up h.2.1 1 2 v2) 1 3 38, h.2.2.1, h.2.2.2)) rfl ?_
      have hw9 : sgW (h.2.1 2) n.toInt.toNat p.toInt.toNat = false := (sgW_n (by omega))
      exact k (qm_up (qm_up h.2.1 1 2 v2) 1 3 38) v2 38 (fun o ho i => ((hk_mod ho rfl).trans ((hk_mod ho rfl).trans rfl))) (fun i hi => ((hk_neq (fun z => by subst z; cases hi)).trans ((hk_neq (fun z => by subst z; cases hi)).trans rfl))) (show (qm_up (qm_up h.2.1 1 2 v2) 1 3 38) 1 2 = _ from ((hk_neq (by decide)).trans (hk_same))) (show (qm_up (qm_up h.2.1 1 2 v2) 1 3 38) 1 3 = _ from (hk_same)) (by omega) (by rw [hw9]; show v2.toInt.toNat = p.toInt.toNat + 1; omega) (by rw [hw9]; rfl)
    · refine qm_Rp.go 1 (c' := (12, [.ref 1], [.ref 1], (h.1, qm_up h.2.1 1 2 v2, h.2.2.1, h.2.2.2))) rfl ?_
      refine hp_getr rfl (hH.1 1 (12, 7) rfl) rfl (hH.2 1 0 (some 2) rfl) ?_
      refine qm_Rp.go 1 (c' := (16, [.ref 1], [.ref 1, .ref 2], (h.1, qm_up h.2.1 1 2 v2, h.2.2.1, h.2.2.2))) rfl ?_
      refine hp_geti (v := v2) rfl (hH.1 1 (12, 7) rfl) rfl (show (qm_up h.2.1 1 2 v2) 1 2 = _ from (hk_same)) ?_
      refine qm_Rp.go 0 (c' := (19, [.ref 1], [.int v2, .ref 2], (h.1, qm_up h.2.1 1 2 v2, h.2.2.1, h.2.2.2))) rfl ?_
      obtain ⟨v4, q_v4⟩ : ∃ v_, h.2.1 2 v2.toInt.toNat = v_ := ⟨_, rfl⟩
      refine hp_bal1 (v := v4) rfl (hH.1 2 (1, 2000) rfl) (show (qm_up h.2.1 1 2 v2) 2 v2.toInt.toNat = _ from ((hk_ot rfl).trans q_v4)) (fun ia_4 ib_4 => ?_)
      refine qm_Rp.go 0 (c' := (20, [.ref 1], [.int v4], (h.1, qm_up h.2.1 1 2 v2, h.2.2.1, h.2.2.2))) rfl ?_
      refine qm_Rp.go 1 (c' := (22, [.ref 1], [.int 61, .int v4], (h.1, qm_up h.2.1 1 2 v2, h.2.2.1, h.2.2.2))) rfl ?_
      refine hp_ceq (ix := v4.toInt) (iy := 61) rfl rfl rfl (fun z6 => ?_) (fun z6 => ?_)
      · refine qm_Rp.go 0 (c' := (27, [.ref 1], [], (h.1, qm_up h.2.1 1 2 v2, h.2.2.1, h.2.2.2))) rfl ?_
        refine qm_Rp.go 2 (c' := (29, [.ref 1], [.ref 1, .ref 1], (h.1, qm_up h.2.1 1 2 v2, h.2.2.1, h.2.2.2))) rfl ?_
        refine hp_geti (v := v2) rfl (hH.1 1 (12, 7) rfl) rfl (show (qm_up h.2.1 1 2 v2) 1 2 = _ from (hk_same)) ?_
        refine qm_Rp.go 2 (c' := (34, [.ref 1], [.int (v2 + 1), .ref 1], (h.1, qm_up h.2.1 1 2 v2, h.2.2.1, h.2.2.2))) rfl ?_
        obtain ⟨v7, q_v7, e_v7⟩ := hk_add (x := v2) (y := 1) (a := v2.toInt) (b := 1) rfl rfl (by omega) (by omega)
        rw [q_v7]
        refine hp_puti rfl (hH.1 1 (12, 7) rfl) rfl ?_
        refine qm_Rp.go 1 (c' := (38, [.ref 1], [.int 1], (h.1, qm_up (qm_up h.2.1 1 2 v2) 1 2 v7, h.2.2.1, h.2.2.2))) rfl ?_
        refine qm_Rp.rt (v := (some (.int 1))) (h' := (h.1, qm_up (qm_up h.2.1 1 2 v2) 1 2 v7, h.2.2.1, h.2.2.2)) rfl ?_
        refine qm_Rp.go 3 (c' := (242, [.ref 1, .int 33], [.int 32, .ref 1], (h.1, qm_up (qm_up h.2.1 1 2 v2) 1 2 v7, h.2.2.1, h.2.2.2))) rfl ?_
        refine hp_puti rfl (hH.1 1 (12, 7) rfl) rfl ?_
        refine qm_Rp.go 1 (c' := (275, [.ref 1, .int 33], [], (h.1, qm_up (qm_up (qm_up h.2.1 1 2 v2) 1 2 v7) 1 3 32, h.2.2.1, h.2.2.2))) rfl ?_
        refine qm_Rp.rt (v := none) (h' := (h.1, qm_up (qm_up (qm_up h.2.1 1 2 v2) 1 2 v7) 1 3 32, h.2.2.1, h.2.2.2)) rfl ?_
        have hw9 : sgW (h.2.1 2) n.toInt.toNat p.toInt.toNat = true := (sgW_y (b := v4) (by omega) (by omega) q_v4 (by omega))
        exact k (qm_up (qm_up (qm_up h.2.1 1 2 v2) 1 2 v7) 1 3 32) v7 32 (fun o ho i => ((hk_mod ho rfl).trans ((hk_mod ho rfl).trans ((hk_mod ho rfl).trans rfl)))) (fun i hi => ((hk_neq (fun z => by subst z; cases hi)).trans ((hk_neq (fun z => by subst z; cases hi)).trans ((hk_neq (fun z => by subst z; cases hi)).trans rfl)))) (show (qm_up (qm_up (qm_up h.2.1 1 2 v2) 1 2 v7) 1 3 32) 1 2 = _ from ((hk_neq (by decide)).trans (hk_same))) (show (qm_up (qm_up (qm_up h.2.1 1 2 v2) 1 2 v7) 1 3 32) 1 3 = _ from (hk_same)) (by omega) (by rw [hw9]; show v7.toInt.toNat = p.toInt.toNat + 2; omega) (by rw [hw9]; rfl)
      · refine qm_Rp.go 0 (c' := (25, [.ref 1], [], (h.1, qm_up h.2.1 1 2 v2, h.2.2.1, h.2.2.2))) rfl ?_
        refine qm_Rp.go 1 (c' := (26, [.ref 1], [.int 0], (h.1, qm_up h.2.1 1 2 v2, h.2.2.1, h.2.2.2))) rfl ?_
        refine qm_Rp.rt (v := (some (.int 0))) (h' := (h.1, qm_up h.2.1 1 2 v2, h.2.2.1, h.2.2.2)) rfl ?_
        refine qm_Rp.go 2 (c' := (242, [.ref 1, .int 33], [.int 38, .ref 1], (h.1, qm_up h.2.1 1 2 v2, h.2.2.1, h.2.2.2))) rfl ?_
        refine hp_puti rfl (hH.1 1 (12, 7) rfl) rfl ?_
        refine qm_Rp.go 1 (c' := (275, [.ref 1, .int 33], [], (h.1, qm_up (qm_up h.2.1 1 2 v2) 1 3 38, h.2.2.1, h.2.2.2))) rfl ?_
        refine qm_Rp.rt (v := none) (h' := (h.1, qm_up (qm_up h.2.1 1 2 v2) 1 3 38, h.2.2.1, h.2.2.2)) rfl ?_
        have hw9 : sgW (h.2.1 2) n.toInt.toNat p.toInt.toNat = false := (sgW_b (b := v4) (by omega) q_v4 (by omega))
        exact k (qm_up (qm_up h.2.1 1 2 v2) 1 3 38) v2 38 (fun o ho i => ((hk_mod ho rfl).trans ((hk_mod ho rfl).trans rfl))) (fun i hi => ((hk_neq (fun z => by subst z; cases hi)).trans ((hk_neq (fun z => by subst z; cases hi)).trans rfl))) (show (qm_up (qm_up h.2.1 1 2 v2) 1 3 38) 1 2 = _ from ((hk_neq (by decide)).trans (hk_same))) (show (qm_up (qm_up h.2.1 1 2 v2) 1 3 38) 1 3 = _ from (hk_same)) (by omega) (by rw [hw9]; show v2.toInt.toNat = p.toInt.toNat + 1; omega) (by rw [hw9]; rfl)
  · obtain rfl : b = 34 := hk_eqi.mpr (zs.trans rfl)
    refine qm_Rp.go 3 (c' := (272, [.ref 1, .int 34], [.int 38, .ref 1], (h.1, qm_up h.2.1 1 2 v2, h.2.2.1, h.2.2.2))) rfl ?_
    refine hp_puti rfl (hH.1 1 (12, 7) rfl) rfl ?_
    refine qm_Rp.go 0 (c' := (275, [.ref 1, .int 34], [], (h.1, qm_up (qm_up h.2.1 1 2 v2) 1 3 38, h.2.2.1, h.2.2.2))) rfl ?_
    refine qm_Rp.rt (v := none) (h' := (h.1, qm_up (qm_up h.2.1 1 2 v2) 1 3 38, h.2.2.1, h.2.2.2)) rfl ?_
    exact k (qm_up (qm_up h.2.1 1 2 v2) 1 3 38) v2 38 (fun o ho i => ((hk_mod ho rfl).trans ((hk_mod ho rfl).trans rfl))) (fun i hi => ((hk_neq (fun z => by subst z; cases hi)).trans ((hk_neq (fun z => by subst z; cases hi)).trans rfl))) (show (qm_up (qm_up h.2.1 1 2 v2) 1 3 38) 1 2 = _ from ((hk_neq (by decide)).trans (hk_same))) (show (qm_up (qm_up h.2.1 1 2 v2) 1 3 38) 1 3 = _ from (hk_same)) (by omega) (by rw [show sgN (34 : Int32).toInt (sgW (h.2.1 2) n.toInt.toNat p.toInt.toNat) = 1 from if_neg (fun z => absurd z.2 (by decide))]; omega) (rfl)
  · obtain rfl : b = 35 := hk_eqi.mpr (zs.trans rfl)
    refine qm_Rp.go 3 (c' := (272, [.ref 1, .int 35], [.int 38, .ref 1], (h.1, qm_up h.2.1 1 2 v2, h.2.2.1, h.2.2.2))) rfl ?_
    refine hp_puti rfl (hH.1 1 (12, 7) rfl) rfl ?_
    refine qm_Rp.go 0 (c' := (275, [.ref 1, .int 35], [], (h.1, qm_up (qm_up h.2.1 1 2 v2) 1 3 38, h.2.2.1, h.2.2.2))) rfl ?_
    refine qm_Rp.rt (v := none) (h' := (h.1, qm_up (qm_up h.2.1 1 2 v2) 1 3 38, h.2.2.1, h.2.2.2)) rfl ?_
    exact k (qm_up (qm_up h.2.1 1 2 v2) 1 3 38) v2 38 (fun o ho i => ((hk_mod ho rfl).trans ((hk_mod ho rfl).trans rfl))) (fun i hi => ((hk_neq (fun z => by subst z; cases hi)).trans ((hk_neq (fun z => by subst z; cases hi)).trans rfl))) (show (qm_up (qm_up h.2.1 1 2 v2) 1 3 38) 1 2 = _ from ((hk_neq (by decide)).trans (hk_same))) (show (qm_up (qm_up h.2.1 1 2 v2) 1 3 38) 1 3 = _ from (hk_same)) (by omega) (by rw [show sgN (35 : Int32).toInt (sgW (h.2.1 2) n.toInt.toNat p.toInt.toNat) = 1 from if_neg (fun z => absurd z.2 (by decide))]; omega) (rfl)
  · obtain rfl : b = 36 := hk_eqi.mpr (zs.trans rfl)
    refine qm_Rp.go 3 (c' := (272, [.ref 1, .int 36], [.int 38, .ref 1], (h.1, qm_up h.2.1 1 2 v2, h.2.2.1, h.2.2.2))) rfl ?_
    refine hp_puti rfl (hH.1 1 (12, 7) rfl) rfl ?_
    refine qm_Rp.go 0 (c' := (275, [.ref 1, .int 36], [], (h.1, qm_up (qm_up h.2.1 1 2 v2) 1 3 38, h.2.2.1, h.2.2.2))) rfl ?_
    refine qm_Rp.rt (v := none) (h' := (h.1, qm_up (qm_up h.2.1 1 2 v2) 1 3 38, h.2.2.1, h.2.2.2)) rfl ?_
    exact k (qm_up (qm_up h.2.1 1 2 v2) 1 3 38) v2 38 (fun o ho i => ((hk_mod ho rfl).trans ((hk_mod ho rfl).trans rfl))) (fun i hi => ((hk_neq (fun z => by subst z; cases hi)).trans ((hk_neq (fun z => by subst z; cases hi)).trans rfl))) (show (qm_up (qm_up h.2.1 1 2 v2) 1 3 38) 1 2 = _ from ((hk_neq (by decide)).trans (hk_same))) (show (qm_up (qm_up h.2.1 1 2 v2) 1 3 38) 1 3 = _ from (hk_same)) (by omega) (by rw [show sgN (36 : Int32).toInt (sgW (h.2.1 2) n.toInt.toNat p.toInt.toNat) = 1 from if_neg (fun z => absurd z.2 (by decide))]; omega) (rfl)
  · obtain rfl : b = 37 := hk_eqi.mpr (zs.trans rfl)
    refine qm_Rp.go 3 (c' := (272, [.ref 1, .int 37], [.int 38, .ref 1], (h.1, qm_up h.2.1 1 2 v2, h.2.2.1, h.2.2.2))) rfl ?_
    refine hp_puti rfl (hH.1 1 (12, 7) rfl) rfl ?_
    refine qm_Rp.go 0 (c' := (275, [.ref 1, .int 37], [], (h.1, qm_up (qm_up h.2.1 1 2 v2) 1 3 38, h.2.2.1, h.2.2.2))) rfl ?_
    refine qm_Rp.rt (v := none) (h' := (h.1, qm_up (qm_up h.2.1 1 2 v2) 1 3 38, h.2.2.1, h.2.2.2)) rfl ?_
    exact k (qm_up (qm_up h.2.1 1 2 v2) 1 3 38) v2 38 (fun o ho i => ((hk_mod ho rfl).trans ((hk_mod ho rfl).trans rfl))) (fun i hi => ((hk_neq (fun z => by subst z; cases hi)).trans ((hk_neq (fun z => by subst z; cases hi)).trans rfl))) (show (qm_up (qm_up h.2.1 1 2 v2) 1 3 38) 1 2 = _ from ((hk_neq (by decide)).trans (hk_same))) (show (qm_up (qm_up h.2.1 1 2 v2) 1 3 38) 1 3 = _ from (hk_same)) (by omega) (by rw [show sgN (37 : Int32).toInt (sgW (h.2.1 2) n.toInt.toNat p.toInt.toNat) = 1 from if_neg (fun z => absurd z.2 (by decide))]; omega) (rfl)
  · obtain rfl : b = 38 := hk_eqi.mpr (zs.trans rfl)
    refine qm_Rp.go 3 (c' := (272, [.ref 1, .int 38], [.int 38, .ref 1], (h.1, qm_up h.2.1 1 2 v2, h.2.2.1, h.2.2.2))) rfl ?_
    refine hp_puti rfl (hH.1 1 (12, 7) rfl) rfl ?_
    refine qm_Rp.go 0 (c' := (275, [.ref 1, .int 38], [], (h.1, qm_up (qm_up h.2.1 1 2 v2) 1 3 38, h.2.2.1, h.2.2.2))) rfl ?_
    refine qm_Rp.rt (v := none) (h' := (h.1, qm_up (qm_up h.2.1 1 2 v2) 1 3 38, h.2.2.1, h.2.2.2)) rfl ?_
    exact k (qm_up (qm_up h.2.1 1 2 v2) 1 3 38) v2 38 (fun o ho i => ((hk_mod ho rfl).trans ((hk_mod ho rfl).trans rfl))) (fun i hi => ((hk_neq (fun z => by subst z; cases hi)).trans ((hk_neq (fun z => by subst z; cases hi)).trans rfl))) (show (qm_up (qm_up h.2.1 1 2 v2) 1 3 38) 1 2 = _ from ((hk_neq (by decide)).trans (hk_same))) (show (qm_up (qm_up h.2.1 1 2 v2) 1 3 38) 1 3 = _ from (hk_same)) (by omega) (by rw [show sgN (38 : Int32).toInt (sgW (h.2.1 2) n.toInt.toNat p.toInt.toNat) = 1 from if_neg (fun z => absurd z.2 (by decide))]; omega) (rfl)
  · obtain rfl : b = 39 := hk_eqi.mpr (zs.trans rfl)
    refine qm_Rp.go 3 (c' := (272, [.ref 1, .int 39], [.int 38, .ref 1], (h.1, qm_up h.2.1 1 2 v2, h.2.2.1, h.2.2.2))) rfl ?_
    refine hp_puti rfl (hH.1 1 (12, 7) rfl) rfl ?_
    refine qm_Rp.go 0 (c' := (275, [.ref 1, .int 39], [], (h.1, qm_up (qm_up h.2.1 1 2 v2) 1 3 38, h.2.2.1, h.2.2.2))) rfl ?_
    refine qm_Rp.rt (v := none) (h' := (h.1, qm_up (qm_up h.2.1 1 2 v2) 1 3 38, h.2.2.1, h.2.2.2)) rfl ?_
    exact k (qm_up (qm_up h.2.1 1 2 v2) 1 3 38) v2 38 (fun o ho i => ((hk_mod ho rfl).trans ((hk_mod ho rfl).trans rfl))) (fun i hi => ((hk_neq (fun z => by subst z; cases hi)).trans ((hk_neq (fun z => by subst z; cases hi)).trans rfl))) (show (qm_up (qm_up h.2.1 1 2 v2) 1 3 38) 1 2 = _ from ((hk_neq (by decide)).trans (hk_same))) (show (qm_up (qm_up h.2.1 1 2 v2) 1 3 38) 1 3 = _ from (hk_same)) (by omega) (by rw [show sgN (39 : Int32).toInt (sgW (h.2.1 2) n.toInt.toNat p.toInt.toNat) = 1 from if_neg (fun z => absurd z.2 (by decide))]; omega) (rfl)
  · obtain rfl : b = 40 := hk_eqi.mpr (zs.trans rfl)
    refine qm_Rp.go 3 (c' := (191, [.ref 1, .int 40], [.int 35, .ref 1], (h.1, qm_up h.2.1 1 2 v2, h.2.2.1, h.2.2.2))) rfl ?_
    refine hp_puti rfl (hH.1 1 (12, 7) rfl) rfl ?_
    refine qm_Rp.go 1 (c' := (275, [.ref 1, .int 40], [], (h.1, qm_up (qm_up h.2.1 1 2 v2) 1 3 35, h.2.2.1, h.2.2.2))) rfl ?_
    refine qm_Rp.rt (v := none) (h' := (h.1, qm_up (qm_up h.2.1 1 2 v2) 1 3 35, h.2.2.1, h.2.2.2)) rfl ?_
    exact k (qm_up (qm_up h.2.1 1 2 v2) 1 3 35) v2 35 (fun o ho i => ((hk_mod ho rfl).trans ((hk_mod ho rfl).trans rfl))) (fun i hi => ((hk_neq (fun z => by subst z; cases hi)).trans ((hk_neq (fun z => by subst z; cases hi)).trans rfl))) (show (qm_up (qm_up h.2.1 1 2 v2) 1 3 35) 1 2 = _ from ((hk_neq (by decide)).trans (hk_same))) (show (qm_up (qm_up h.2.1 1 2 v2) 1 3 35) 1 3 = _ from (hk_same)) (by omega) (by rw [show sgN (40 : Int32).toInt (sgW (h.2.1 2) n.toInt.toNat p.toInt.toNat) = 1 from if_neg (fun z => absurd z.2 (by decide))]; omega) (rfl)
  · obtain rfl : b = 41 := hk_eqi.mpr (zs.trans rfl)
    refine qm_Rp.go 3 (c' := (200, [.ref 1, .int 41], [.int 36, .ref 1], (h.1, qm_up h.2.1 1 2 v2, h.2.2.1, h.2.2.2))) rfl ?_
    refine hp_puti rfl (hH.1 1 (12, 7) rfl) rfl ?_
    refine qm_Rp.go 1 (c' := (275, [.ref 1, .int 41], [], (h.1, qm_up (qm_up h.2.1 1 2 v2) 1 3 36, h.2.2.1, h.2.2.2))) rfl ?_
    refine qm_Rp.rt (v := none) (h' := (h.1, qm_up (qm_up h.2.1 1 2 v2) 1 3 36, h.2.2.1, h.2.2.2)) rfl ?_
    exact k (qm_up (qm_up h.2.1 1 2 v2) 1 3 36) v2 36 (fun o ho i => ((hk_mod ho rfl).trans ((hk_mod ho rfl).trans rfl))) (fun i hi => ((hk_neq (fun z => by subst z; cases hi)).trans ((hk_neq (fun z => by subst z; cases hi)).trans rfl))) (show (qm_up (qm_up h.2.1 1 2 v2) 1 3 36) 1 2 = _ from ((hk_neq (by decide)).trans (hk_same))) (show (qm_up (qm_up h.2.1 1 2 v2) 1 3 36) 1 3 = _ from (hk_same)) (by omega) (by rw [show sgN (41 : Int32).toInt (sgW (h.2.1 2) n.toInt.toNat p.toInt.toNat) = 1 from if_neg (fun z => absurd z.2 (by decide))]; omega) (rfl)
  · obtain rfl : b = 42 := hk_eqi.mpr (zs.trans rfl)
    refine qm_Rp.go 3 (c' := (182, [.ref 1, .int 42], [.int 30, .ref 1], (h.1, qm_up h.2.1 1 2 v2, h.2.2.1, h.2.2.2))) rfl ?_
    refine hp_puti rfl (hH.1 1 (12, 7) rfl) rfl ?_
    refine qm_Rp.go 1 (c' := (275, [.ref 1, .int 42], [], (h.1, qm_up (qm_up h.2.1 1 2 v2) 1 3 30, h.2.2.1, h.2.2.2))) rfl ?_
    refine qm_Rp.rt (v := none) (h' := (h.1, qm_up (qm_up h.2.1 1 2 v2) 1 3 30, h.2.2.1, h.2.2.2)) rfl ?_
    exact k (qm_up (qm_up h.2.1 1 2 v2) 1 3 30) v2 30 (fun o ho i => ((hk_mod ho rfl).trans ((hk_mod ho rfl).trans rfl))) (fun i hi => ((hk_neq (fun z => by subst z; cases hi)).trans ((hk_neq (fun z => by subst z; cases hi)).trans rfl))) (show (qm_up (qm_up h.2.1 1 2 v2) 1 3 30) 1 2 = _ from ((hk_neq (by decide)).trans (hk_same))) (show (qm_up (qm_up h.2.1 1 2 v2) 1 3 30) 1 3 = _ from (hk_same)) (by omega) (by rw [show sgN (42 : Int32).toInt (sgW (h.2.1 2) n.toInt.toNat p.toInt.toNat) = 1 from if_neg (fun z => absurd z.2 (by decide))]; omega) (rfl)
  · obtain rfl : b = 43 := hk_eqi.mpr (zs.trans rfl)
    refine qm_Rp.go 3 (c' := (164, [.ref 1, .int 43], [.int 28, .ref 1], (h.1, qm_up h.2.1 1 2 v2, h.2.2.1, h.2.2.2))) rfl ?_
    refine hp_puti rfl (hH.1 1 (12, 7) rfl) rfl ?_
    refine qm_Rp.go 1 (c' := (275, [.ref 1, .int 43], [], (h.1, qm_up (qm_up h.2.1 1 2 v2) 1 3 28, h.2.2.1, h.2.2.2))) rfl ?_
    refine qm_Rp.rt (v := none) (h' := (h.1, qm_up (qm_up h.2.1 1 2 v2) 1 3 28, h.2.2.1, h.2.2.2)) rfl ?_
    exact k (qm_up (qm_up h.2.1 1 2 v2) 1 3 28) v2 28 (fun o ho i => ((hk_mod ho rfl).trans ((hk_mod ho rfl).trans rfl))) (fun i hi => ((hk_neq (fun z => by subst z; cases hi)).trans ((hk_neq (fun z => by subst z; cases hi)).trans rfl))) (show (qm_up (qm_up h.2.1 1 2 v2) 1 3 28) 1 2 = _ from ((hk_neq (by decide)).trans (hk_same))) (show (qm_up (qm_up h.2.1 1 2 v2) 1 3 28) 1 3 = _ from (hk_same)) (by omega) (by rw [show sgN (43 : Int32).toInt (sgW (h.2.1 2) n.toInt.toNat p.toInt.toNat) = 1 from if_neg (fun z => absurd z.2 (by decide))]; omega) (rfl)
  · obtain rfl : b = 44 := hk_eqi.mpr (zs.trans rfl)
    refine qm_Rp.go 3 (c' := (272, [.ref 1, .int 44], [.int 38, .ref 1], (h.1, qm_up h.2.1 1 2 v2, h.2.2.1, h.2.2.2))) rfl ?_
    refine hp_puti rfl (hH.1 1 (12, 7) rfl) rfl ?_
    refine qm_Rp.go 0 (c' := (275, [.ref 1, .int 44], [], (h.1, qm_up (qm_up h.2.1 1 2 v2) 1 3 38, h.2.2.1, h.2.2.2))) rfl ?_
    refine qm_Rp.rt (v := none) (h' := (h.1, qm_up (qm_up h.2.1 1 2 v2) 1 3 38, h.2.2.1, h.2.2.2)) rfl ?_
    exact k (qm_up (qm_up h.2.1 1 2 v2) 1 3 38) v2 38 (fun o ho i => ((hk_mod ho rfl).trans ((hk_mod ho rfl).trans rfl))) (fun i hi => ((hk_neq (fun z => by subst z; cases hi)).trans ((hk_neq (fun z => by subst z; cases hi)).trans rfl))) (show (qm_up (qm_up h.2.1 1 2 v2) 1 3 38) 1 2 = _ from ((hk_neq (by decide)).trans (hk_same))) (show (qm_up (qm_up h.2.1 1 2 v2) 1 3 38) 1 3 = _ from (hk_same)) (by omega) (by rw [show sgN (44 : Int32).toInt (sgW (h.2.1 2) n.toInt.toNat p.toInt.toNat) = 1 from if_neg (fun z => absurd z.2 (by decide))]; omega) (rfl)
  · obtain rfl : b = 45 := hk_eqi.mpr (zs.trans rfl)
    refine qm_Rp.go 3 (c' := (173, [.ref 1, .int 45], [.int 29, .ref 1], (h.1, qm_up h.2.1 1 2 v2, h.2.2.1, h.2.2.2))) rfl ?_
    refine hp_puti rfl (hH.1 1 (12, 7) rfl) rfl ?_
    refine qm_Rp.go 1 (c' := (275, [.ref 1, .int 45], [], (h.1, qm_up (qm_up h.2.1 1 2 v2) 1 3 29, h.2.2.1, h.2.2.2))) rfl ?_
    refine qm_Rp.rt (v := none) (h' := (h.1, qm_up (qm_up h.2.1 1 2 v2) 1 3 29, h.2.2.1, h.2.2.2)) rfl ?_
    exact k (qm_up (qm_up h.2.1 1 2 v2) 1 3 29) v2 29 (fun o ho i => ((hk_mod ho rfl).trans ((hk_mod ho rfl).trans rfl))) (fun i hi => ((hk_neq (fun z => by subst z; cases hi)).trans ((hk_neq (fun z => by subst z; cases hi)).trans rfl))) (show (qm_up (qm_up h.2.1 1 2 v2) 1 3 29) 1 2 = _ from ((hk_neq (by decide)).trans (hk_same))) (show (qm_up (qm_up h.2.1 1 2 v2) 1 3 29) 1 3 = _ from (hk_same)) (by omega) (by rw [show sgN (45 : Int32).toInt (sgW (h.2.1 2) n.toInt.toNat p.toInt.toNat) = 1 from if_neg (fun z => absurd z.2 (by decide))]; omega) (rfl)
  · obtain rfl : b = 46 := hk_eqi.mpr (zs.trans rfl)
    refine qm_Rp.go 3 (c' := (272, [.ref 1, .int 46], [.int 38, .ref 1], (h.1, qm_up h.2.1 1 2 v2, h.2.2.1, h.2.2.2))) rfl ?_
    refine hp_puti rfl (hH.1 1 (12, 7) rfl) rfl ?_
    refine qm_Rp.go 0 (c' := (275, [.ref 1, .int 46], [], (h.1, qm_up (qm_up h.2.1 1 2 v2) 1 3 38, h.2.2.1, h.2.2.2))) rfl ?_
    refine qm_Rp.rt (v := none) (h' := (h.1, qm_up (qm_up h.2.1 1 2 v2) 1 3 38, h.2.2.1, h.2.2.2)) rfl ?_
    exact k (qm_up (qm_up h.2.1 1 2 v2) 1 3 38) v2 38 (fun o ho i => ((hk_mod ho rfl).trans ((hk_mod ho rfl).trans rfl))) (fun i hi => ((hk_neq (fun z => by subst z; cases hi)).trans ((hk_neq (fun z => by subst z; cases hi)).trans rfl))) (show (qm_up (qm_up h.2.1 1 2 v2) 1 3 38) 1 2 = _ from ((hk_neq (by decide)).trans (hk_same))) (show (qm_up (qm_up h.2.1 1 2 v2) 1 3 38) 1 3 = _ from (hk_same)) (by omega) (by rw [show sgN (46 : Int32).toInt (sgW (h.2.1 2) n.toInt.toNat p.toInt.toNat) = 1 from if_neg (fun z => absurd z.2 (by decide))]; omega) (rfl)
  · obtain rfl : b = 47 := hk_eqi.mpr (zs.trans rfl)
    refine qm_Rp.go 3 (c' := (272, [.ref 1, .int 47], [.int 38, .ref 1], (h.1, qm_up h.2.1 1 2 v2, h.2.2.1, h.2.2.2))) rfl ?_
    refine hp_puti rfl (hH.1 1 (12, 7) rfl) rfl ?_
    refine qm_Rp.go 0 (c' := (275, [.ref 1, .int 47], [], (h.1, qm_up (qm_up h.2.1 1 2 v2) 1 3 38, h.2.2.1, h.2.2.2))) rfl ?_
    refine qm_Rp.rt (v := none) (h' := (h.1, qm_up (qm_up h.2.1 1 2 v2) 1 3 38, h.2.2.1, h.2.2.2)) rfl ?_
    exact k (qm_up (qm_up h.2.1 1 2 v2) 1 3 38) v2 38 (fun o ho i => ((hk_mod ho rfl).trans ((hk_mod ho rfl).trans rfl))) (fun i hi => ((hk_neq (fun z => by subst z; cases hi)).trans ((hk_neq (fun z => by subst z; cases hi)).trans rfl))) (show (qm_up (qm_up h.2.1 1 2 v2) 1 3 38) 1 2 = _ from ((hk_neq (by decide)).trans (hk_same))) (show (qm_up (qm_up h.2.1 1 2 v2) 1 3 38) 1 3 = _ from (hk_same)) (by omega) (by rw [show sgN (47 : Int32).toInt (sgW (h.2.1 2) n.toInt.toNat p.toInt.toNat) = 1 from if_neg (fun z => absurd z.2 (by decide))]; omega) (rfl)
  · obtain rfl : b = 48 := hk_eqi.mpr (zs.trans rfl)
    refine qm_Rp.go 3 (c' := (272, [.ref 1, .int 48], [.int 38, .ref 1], (h.1, qm_up h.2.1 1 2 v2, h.2.2.1, h.2.2.2))) rfl ?_
    refine hp_puti rfl (hH.1 1 (12, 7) rfl) rfl ?_
    refine qm_Rp.go 0 (c' := (275, [.ref 1, .int 48], [], (h.1, qm_up (qm_up h.2.1 1 2 v2) 1 3 38, h.2.2.1, h.2.2.2))) rfl ?_
    refine qm_Rp.rt (v := none) (h' := (h.1, qm_up (qm_up h.2.1 1 2 v2) 1 3 38, h.2.2.1, h.2.2.2)) rfl ?_
    exact k (qm_up (qm_up h.2.1 1 2 v2) 1 3 38) v2 38 (fun o ho i => ((hk_mod ho rfl).trans ((hk_mod ho rfl).trans rfl))) (fun i hi => ((hk_neq (fun z => by subst z; cases hi)).trans ((hk_neq (fun z => by subst z; cases hi)).trans rfl))) (show (qm_up (qm_up h.2.1 1 2 v2) 1 3 38) 1 2 = _ from ((hk_neq (by decide)).trans (hk_same))) (show (qm_up (qm_up h.2.1 1 2 v2) 1 3 38) 1 3 = _ from (hk_same)) (by omega) (by rw [show sgN (48 : Int32).toInt (sgW (h.2.1 2) n.toInt.toNat p.toInt.toNat) = 1 from if_neg (fun z => absurd z.2 (by decide))]; omega) (rfl)
  · obtain rfl : b = 49 := hk_eqi.mpr (zs.trans rfl)
    refine qm_Rp.go 3 (c' := (272, [.ref 1, .int 49], [.int 38, .ref 1], (h.1, qm_up h.2.1 1 2 v2, h.2.2.1, h.2.2.2))) rfl ?_
    refine hp_puti rfl (hH.1 1 (12, 7) rfl) rfl ?_
    refine qm_Rp.go 0 (c' := (275, [.ref 1, .int 49], [], (h.1, qm_up (qm_up h.2.1 1 2 v2) 1 3 38, h.2.2.1, h.2.2.2))) rfl ?_
    refine qm_Rp.rt (v := none) (h' := (h.1, qm_up (qm_up h.2.1 1 2 v2) 1 3 38, h.2.2.1, h.2.2.2)) rfl ?_
    exact k (qm_up (qm_up h.2.1 1 2 v2) 1 3 38) v2 38 (fun o ho i => ((hk_mod ho rfl).trans ((hk_mod ho rfl).trans rfl))) (fun i hi => ((hk_neq (fun z => by subst z; cases hi)).trans ((hk_neq (fun z => by subst z; cases hi)).trans rfl))) (show (qm_up (qm_up h.2.1 1 2 v2) 1 3 38) 1 2 = _ from ((hk_neq (by decide)).trans (hk_same))) (show (qm_up (qm_up h.2.1 1 2 v2) 1 3 38) 1 3 = _ from (hk_same)) (by omega) (by rw [show sgN (49 : Int32).toInt (sgW (h.2.1 2) n.toInt.toNat p.toInt.toNat) = 1 from if_neg (fun z => absurd z.2 (by decide))]; omega) (rfl)
  · obtain rfl : b = 50 := hk_eqi.mpr (zs.trans rfl)
    refine qm_Rp.go 3 (c' := (272, [.ref 1, .int 50], [.int 38, .ref 1], (h.1, qm_up h.2.1 1 2 v2, h.2.2.1, h.2.2.2))) rfl ?_
    refine hp_puti rfl (hH.1 1 (12, 7) rfl) rfl ?_
    refine qm_Rp.go 0 (c' := (275, [.ref 1, .int 50], [], (h.1, qm_up (qm_up h.2.1 1 2 v2) 1 3 38, h.2.2.1, h.2.2.2))) rfl ?_
    refine qm_Rp.rt (v := none) (h' := (h.1, qm_up (qm_up h.2.1 1 2 v2) 1 3 38, h.2.2.1, h.2.2.2)) rfl ?_
    exact k (qm_up (qm_up h.2.1 1 2 v2) 1 3 38) v2 38 (fun o ho i => ((hk_mod ho rfl).trans ((hk_mod ho rfl).trans rfl))) (fun i hi => ((hk_neq (fun z => by subst z; cases hi)).trans ((hk_neq (fun z => by subst z; cases hi)).trans rfl))) (show (qm_up (qm_up h.2.1 1 2 v2) 1 3 38) 1 2 = _ from ((hk_neq (by decide)).trans (hk_same))) (show (qm_up (qm_up h.2.1 1 2 v2) 1 3 38) 1 3 = _ from (hk_same)) (by omega) (by rw [show sgN (50 : Int32).toInt (sgW (h.2.1 2) n.toInt.toNat p.toInt.toNat) = 1 from if_neg (fun z => absurd z.2 (by decide))]; omega) (rfl)
  · obtain rfl : b = 51 := hk_eqi.mpr (zs.trans rfl)
    refine qm_Rp.go 3 (c' := (272, [.ref 1, .int 51], [.int 38, .ref 1], (h.1, qm_up h.2.1 1 2 v2, h.2.2.1, h.2.2.2))) rfl ?_
    refine hp_puti rfl (hH.1 1 (12, 7) rfl) rfl ?_
    refine qm_Rp.go 0 (c' := (275, [.ref 1, .int 51], [], (h.1, qm_up (qm_up h.2.1 1 2 v2) 1 3 38, h.2.2.1, h.2.2.2))) rfl ?_
    refine qm_Rp.rt (v := none) (h' := (h.1, qm_up (qm_up h.2.1 1 2 v2) 1 3 38, h.2.2.1, h.2.2.2)) rfl ?_
    exact k (qm_up (qm_up h.2.1 1 2 v2) 1 3 38) v2 38 (fun o ho i => ((hk_mod ho rfl).trans ((hk_mod ho rfl).trans rfl))) (fun i hi => ((hk_neq (fun z => by subst z; cases hi)).trans ((hk_neq (fun z => by subst z; cases hi)).trans rfl))) (show (qm_up (qm_up h.2.1 1 2 v2) 1 3 38) 1 2 = _ from ((hk_neq (by decide)).trans (hk_same))) (show (qm_up (qm_up h.2.1 1 2 v2) 1 3 38) 1 3 = _ from (hk_same)) (by omega) (by rw [show sgN (51 : Int32).toInt (sgW (h.2.1 2) n.toInt.toNat p.toInt.toNat) = 1 from if_neg (fun z => absurd z.2 (by decide))]; omega) (rfl)
  · obtain rfl : b = 52 := hk_eqi.mpr (zs.trans rfl)
    refine qm_Rp.go 3 (c' := (272, [.ref 1, .int 52], [.int 38, .ref 1], (h.1, qm_up h.2.1 1 2 v2, h.2.2.1, h.2.2.2))) rfl ?_
    refine hp_puti rfl (hH.1 1 (12, 7) rfl) rfl ?_
    refine qm_Rp.go 0 (c' := (275, [.ref 1, .int 52], [], (h.1, qm_up (qm_up h.2.1 1 2 v2) 1 3 38, h.2.2.1, h.2.2.2))) rfl ?_
    refine qm_Rp.rt (v := none) (h' := (h.1, qm_up (qm_up h.2.1 1 2 v2) 1 3 38, h.2.2.1, h.2.2.2)) rfl ?_
    exact k (qm_up (qm_up h.2.1 1 2 v2) 1 3 38) v2 38 (fun o ho i => ((hk_mod ho rfl).trans ((hk_mod ho rfl).trans rfl))) (fun i hi => ((hk_neq (fun z => by subst z; cases hi)).trans ((hk_neq (fun z => by subst z; cases hi)).trans rfl))) (show (qm_up (qm_up h.2.1 1 2 v2) 1 3 38) 1 2 = _ from ((hk_neq (by decide)).trans (hk_same))) (show (qm_up (qm_up h.2.1 1 2 v2) 1 3 38) 1 3 = _ from (hk_same)) (by omega) (by rw [show sgN (52 : Int32).toInt (sgW (h.2.1 2) n.toInt.toNat p.toInt.toNat) = 1 from if_neg (fun z => absurd z.2 (by decide))]; omega) (rfl)
  · obtain rfl : b = 53 := hk_eqi.mpr (zs.trans rfl)
    refine qm_Rp.go 3 (c' := (272, [.ref 1, .int 53], [.int 38, .ref 1], (h.1, qm_up h.2.1 1 2 v2, h.2.2.1, h.2.2.2))) rfl ?_
    refine hp_puti rfl (hH.1 1 (12, 7) rfl) rfl ?_
    refine qm_Rp.go 0 (c' := (275, [.ref 1, .int 53], [], (h.1, qm_up (qm_up h.2.1 1 2 v2) 1 3 38, h.2.2.1, h.2.2.2))) rfl ?_
    refine qm_Rp.rt (v := none) (h' := (h.1, qm_up (qm_up h.2.1 1 2 v2) 1 3 38, h.2.2.1, h.2.2.2)) rfl ?_
    exact k (qm_up (qm_up h.2.1 1 2 v2) 1 3 38) v2 38 (fun o ho i => ((hk_mod ho rfl).trans ((hk_mod ho rfl).trans rfl))) (fun i hi => ((hk_neq (fun z => by subst z; cases hi)).trans ((hk_neq (fun z => by subst z; cases hi)).trans rfl))) (show (qm_up (qm_up h.2.1 1 2 v2) 1 3 38) 1 2 = _ from ((hk_neq (by decide)).trans (hk_same))) (show (qm_up (qm_up h.2.1 1 2 v2) 1 3 38) 1 3 = _ from (hk_same)) (by omega) (by rw [show sgN (53 : Int32).toInt (sgW (h.2.1 2) n.toInt.toNat p.toInt.toNat) = 1 from if_neg (fun z => absurd z.2 (by decide))]; omega) (rfl)
  · obtain rfl : b = 54 := hk_eqi.mpr (zs.trans rfl)
    refine qm_Rp.go 3 (c' := (272, [.ref 1, .int 54], [.int 38, .ref 1], (h.1, qm_up h.2.1 1 2 v2, h.2.2.1, h.2.2.2))) rfl ?_
    refine hp_puti rfl (hH.1 1 (12, 7) rfl) rfl ?_
    refine qm_Rp.go 0 (c' := (275, [.ref 1, .int 54], [], (h.1, qm_up (qm_up h.2.1 1 2 v2) 1 3 38, h.2.2.1, h.2.2.2))) rfl ?_
    refine qm_Rp.rt (v := none) (h' := (h.1, qm_up (qm_up h.2.1 1 2 v2) 1 3 38, h.2.2.1, h.2.2.2)) rfl ?_
    exact k (qm_up (qm_up h.2.1 1 2 v2) 1 3 38) v2 38 (fun o ho i => ((hk_mod ho rfl).trans ((hk_mod ho rfl).trans rfl))) (fun i hi => ((hk_neq (fun z => by subst z; cases hi)).trans ((hk_neq (fun z => by subst z; cases hi)).trans rfl))) (show (qm_up (qm_up h.2.1 1 2 v2) 1 3 38) 1 2 = _ from ((hk_neq (by decide)).trans (hk_same))) (show (qm_up (qm_up h.2.1 1 2 v2) 1 3 38) 1 3 = _ from (hk_same)) (by omega) (by rw [show sgN (54 : Int32).toInt (sgW (h.2.1 2) n.toInt.toNat p.toInt.toNat) = 1 from if_neg (fun z => absurd z.2 (by decide))]; omega) (rfl)
  · obtain rfl : b = 55 := hk_eqi.mpr (zs.trans rfl)
    refine qm_Rp.go 3 (c' := (272, [.ref 1, .int 55], [.int 38, .ref 1], (h.1, qm_up h.2.1 1 2 v2, h.2.2.1, h.2.2.2))) rfl ?_
    refine hp_puti rfl (hH.1 1 (12, 7) rfl) rfl ?_
    refine qm_Rp.go 0 (c' := (275, [.ref 1, .int 55], [], (h.1, qm_up (qm_up h.2.1 1 2 v2) 1 3 38, h.2.2.1, h.2.2.2))) rfl ?_
    refine qm_Rp.rt (v := none) (h' := (h.1, qm_up (qm_up h.2.1 1 2 v2) 1 3 38, h.2.2.1, h.2.2.2)) rfl ?_
    exact k (qm_up (qm_up h.2.1 1 2 v2) 1 3 38) v2 38 (fun o ho i => ((hk_mod ho rfl).trans ((hk_mod ho rfl).trans rfl))) (fun i hi => ((hk_neq (fun z => by subst z; cases hi)).trans ((hk_neq (fun z => by subst z; cases hi)).trans rfl))) (show (qm_up (qm_up h.2.1 1 2 v2) 1 3 38) 1 2 = _ from ((hk_neq (by decide)).trans (hk_same))) (show (qm_up (qm_up h.2.1 1 2 v2) 1 3 38) 1 3 = _ from (hk_same)) (by omega) (by rw [show sgN (55 : Int32).toInt (sgW (h.2.1 2) n.toInt.toNat p.toInt.toNat) = 1 from if_neg (fun z => absurd z.2 (by decide))]; omega) (rfl)
  · obtain rfl : b = 56 := hk_eqi.mpr (zs.trans rfl)
    refine qm_Rp.go 3 (c' := (272, [.ref 1, .int 56], [.int 38, .ref 1], (h.1, qm_up h.2.1 1 2 v2, h.2.2.1, h.2.2.2))) rfl ?_
    refine hp_puti rfl (hH.1 1 (12, 7) rfl) rfl ?_
    refine qm_Rp.go 0 (c' := (275, [.ref 1, .int 56], [], (h.1, qm_up (qm_up h.2.1 1 2 v2) 1 3 38, h.2.2.1, h.2.2.2))) rfl ?_
    refine qm_Rp.rt (v := none) (h' := (h.1, qm_up (qm_up h.2.1 1 2 v2) 1 3 38, h.2.2.1, h.2.2.2)) rfl ?_
    exact k (qm_up (qm_up h.2.1 1 2 v2) 1 3 38) v2 38 (fun o ho i => ((hk_mod ho rfl).trans ((hk_mod ho rfl).trans rfl))) (fun i hi => ((hk_neq (fun z => by subst z; cases hi)).trans ((hk_neq (fun z => by subst z; cases hi)).trans rfl))) (show (qm_up (qm_up h.2.1 1 2 v2) 1 3 38) 1 2 = _ from ((hk_neq (by decide)).trans (hk_same))) (show (qm_up (qm_up h.2.1 1 2 v2) 1 3 38) 1 3 = _ from (hk_same)) (by omega) (by rw [show sgN (56 : Int32).toInt (sgW (h.2.1 2) n.toInt.toNat p.toInt.toNat) = 1 from if_neg (fun z => absurd z.2 (by decide))]; omega) (rfl)
  · obtain rfl : b = 57 := hk_eqi.mpr (zs.trans rfl)
    refine qm_Rp.go 3 (c' := (272, [.ref 1, .int 57], [.int 38, .ref 1], (h.1, qm_up h.2.1 1 2 v2, h.2.2.1, h.2.2.2))) rfl ?_
    refine hp_puti rfl (hH.1 1 (12, 7) rfl) rfl ?_
    refine qm_Rp.go 0 (c' := (275, [.ref 1, .int 57], [], (h.1, qm_up (qm_up h.2.1 1 2 v2) 1 3 38, h.2.2.1, h.2.2.2))) rfl ?_
    refine qm_Rp.rt (v := none) (h' := (h.1, qm_up (qm_up h.2.1 1 2 v2) 1 3 38, h.2.2.1, h.2.2.2)) rfl ?_
    exact k (qm_up (qm_up h.2.1 1 2 v2) 1 3 38) v2 38 (fun o ho i => ((hk_mod ho rfl).trans ((hk_mod ho rfl).trans rfl))) (fun i hi => ((hk_neq (fun z => by subst z; cases hi)).trans ((hk_neq (fun z => by subst z; cases hi)).trans rfl))) (show (qm_up (qm_up h.2.1 1 2 v2) 1 3 38) 1 2 = _ from ((hk_neq (by decide)).trans (hk_same))) (show (qm_up (qm_up h.2.1 1 2 v2) 1 3 38) 1 3 = _ from (hk_same)) (by omega) (by rw [show sgN (57 : Int32).toInt (sgW (h.2.1 2) n.toInt.toNat p.toInt.toNat) = 1 from if_neg (fun z => absurd z.2 (by decide))]; omega) (rfl)
  · obtain rfl : b = 58 := hk_eqi.mpr (zs.trans rfl)
    refine qm_Rp.go 3 (c' := (272, [.ref 1, .int 58], [.int 38, .ref 1], (h.1, qm_up h.2.1 1 2 v2, h.2.2.1, h.2.2.2))) rfl ?_
    refine hp_puti rfl (hH.1 1 (12, 7) rfl) rfl ?_
    refine qm_Rp.go 0 (c' := (275, [.ref 1, .int 58], [], (h.1, qm_up (qm_up h.2.1 1 2 v2) 1 3 38, h.2.2.1, h.2.2.2))) rfl ?_
    refine qm_Rp.rt (v := none) (h' := (h.1, qm_up (qm_up h.2.1 1 2 v2) 1 3 38, h.2.2.1, h.2.2.2)) rfl ?_
    exact k (qm_up (qm_up h.2.1 1 2 v2) 1 3 38) v2 38 (fun o ho i => ((hk_mod ho rfl).trans ((hk_mod ho rfl).trans rfl))) (fun i hi => ((hk_neq (fun z => by subst z; cases hi)).trans ((hk_neq (fun z => by subst z; cases hi)).trans rfl))) (show (qm_up (qm_up h.2.1 1 2 v2) 1 3 38) 1 2 = _ from ((hk_neq (by decide)).trans (hk_same))) (show (qm_up (qm_up h.2.1 1 2 v2) 1 3 38) 1 3 = _ from (hk_same)) (by omega) (by rw [show sgN (58 : Int32).toInt (sgW (h.2.1 2) n.toInt.toNat p.toInt.toNat) = 1 from if_neg (fun z => absurd z.2 (by decide))]; omega) (rfl)
  · obtain rfl : b = 59 := hk_eqi.mpr (zs.trans rfl)
    refine qm_Rp.go 3 (c' := (155, [.ref 1, .int 59], [.int 27, .ref 1], (h.1, qm_up h.2.1 1 2 v2, h.2.2.1, h.2.2.2))) rfl ?_
    refine hp_puti rfl (hH.1 1 (12, 7) rfl) rfl ?_
    refine qm_Rp.go 1 (c' := (275, [.ref 1, .int 59], [], (h.1, qm_up (qm_up h.2.1 1 2 v2) 1 3 27, h.2.2.1, h.2.2.2))) rfl ?_
    refine qm_Rp.rt (v := none) (h' := (h.1, qm_up (qm_up h.2.1 1 2 v2) 1 3 27, h.2.2.1, h.2.2.2)) rfl ?_
    exact k (qm_up (qm_up h.2.1 1 2 v2) 1 3 27) v2 27 (fun o ho i => ((hk_mod ho rfl).trans ((hk_mod ho rfl).trans rfl))) (fun i hi => ((hk_neq (fun z => by subst z; cases hi)).trans ((hk_neq (fun z => by subst z; cases hi)).trans rfl))) (show (qm_up (qm_up h.2.1 1 2 v2) 1 3 27) 1 2 = _ from ((hk_neq (by decide)).trans (hk_same))) (show (qm_up (qm_up h.2.1 1 2 v2) 1 3 27) 1 3 = _ from (hk_same)) (by omega) (by rw [show sgN (59 : Int32).toInt (sgW (h.2.1 2) n.toInt.toNat p.toInt.toNat) = 1 from if_neg (fun z => absurd z.2 (by decide))]; omega) (rfl)
  · obtain rfl : b = 60 := hk_eqi.mpr (zs.trans rfl)
    refine qm_Rp.go 3 (c' := (250, [.ref 1, .int 60], [.ref 1, .ref 1], (h.1, qm_up h.2.1 1 2 v2, h.2.2.1, h.2.2.2))) rfl ?_
    refine hp_inv (o := 1) (r := [.ref 1]) (as := [.ref 1]) rfl rfl (hH.1 1 (12, 7) rfl) rfl rfl rfl ?_
    refine qm_Rp.go 1 (c' := (1, [.ref 1], [.ref 1], (h.1, qm_up h.2.1 1 2 v2, h.2.2.1, h.2.2.2))) rfl ?_
    refine hp_geti (v := v2) rfl (hH.1 1 (12, 7) rfl) rfl (show (qm_up h.2.1 1 2 v2) 1 2 = _ from (hk_same)) ?_
    refine qm_Rp.go 1 (c' := (5, [.ref 1], [.ref 1, .int v2], (h.1, qm_up h.2.1 1 2 v2, h.2.2.1, h.2.2.2))) rfl ?_
    refine hp_geti (v := n) rfl (hH.1 1 (12, 7) rfl) rfl (show (qm_up h.2.1 1 2 v2) 1 1 = _ from ((hk_neq (by decide)).trans q_n)) ?_
    refine qm_Rp.go 0 (c' := (8, [.ref 1], [.int n, .int v2], (h.1, qm_up h.2.1 1 2 v2, h.2.2.1, h.2.2.2))) rfl ?_
    refine hp_cge (ix := v2.toInt) (iy := n.toInt) rfl rfl rfl (fun z8 => ?_) (fun z8 => ?_)
    · refine qm_Rp.go 0 (c' := (25, [.ref 1], [], (h.1, qm_up h.2.1 1 2 v2, h.2.2.1, h.2.2.2))) rfl ?_
      refine qm_Rp.go 1 (c' := (26, [.ref 1], [.int 0], (h.1, qm_up h.2.1 1 2 v2, h.2.2.1, h.2.2.2))) rfl ?_
      refine qm_Rp.rt (v := (some (.int 0))) (h' := (h.1, qm_up h.2.1 1 2 v2, h.2.2.1, h.2.2.2)) rfl ?_
      refine qm_Rp.go 2 (c' := (263, [.ref 1, .int 60], [.int 33, .ref 1], (h.1, qm_up h.2.1 1 2 v2, h.2.2.1, h.2.2.2))) rfl ?_
      refine hp_puti rfl (hH.1 1 (12, 7) rfl) rfl ?_
      refine qm_Rp.go 1 (c' := (275, [.ref 1, .int 60], [], (h.1, qm_up (qm_up h.2.1 1 2 v2) 1 3 33, h.2.2.1, h.2.2.2))) rfl ?_
      refine qm_Rp.rt (v := none) (h' := (h.1, qm_up (qm_up h.2.1 1 2 v2) 1 3 33, h.2.2.1, h.2.2.2)) rfl ?_
      have hw9 : sgW (h.2.1 2) n.toInt.toNat p.toInt.toNat = false := (sgW_n (by omega))
      exact k (qm_up (qm_up h.2.1 1 2 v2) 1 3 33) v2 33 (fun o ho i => ((hk_mod ho rfl).trans ((hk_mod ho rfl).trans rfl))) (fun i hi => ((hk_neq (fun z => by subst z; cases hi)).trans ((hk_neq (fun z => by subst z; cases hi)).trans rfl))) (show (qm_up (qm_up h.2.1 1 2 v2) 1 3 33) 1 2 = _ from ((hk_neq (by decide)).trans (hk_same))) (show (qm_up (qm_up h.2.1 1 2 v2) 1 3 33) 1 3 = _ from (hk_same)) (by omega) (by rw [hw9]; show v2.toInt.toNat = p.toInt.toNat + 1; omega) (by rw [hw9]; rfl)
    · refine qm_Rp.go 1 (c' := (12, [.ref 1], [.ref 1], (h.1, qm_up h.2.1 1 2 v2, h.2.2.1, h.2.2.2))) rfl ?_
      refine hp_getr rfl (hH.1 1 (12, 7) rfl) rfl (hH.2 1 0 (some 2) rfl) ?_
      refine qm_Rp.go 1 (c' := (16, [.ref 1], [.ref 1, .ref 2], (h.1, qm_up h.2.1 1 2 v2, h.2.2.1, h.2.2.2))) rfl ?_
      refine hp_geti (v := v2) rfl (hH.1 1 (12, 7) rfl) rfl (show (qm_up h.2.1 1 2 v2) 1 2 = _ from (hk_same)) ?_
      refine qm_Rp.go 0 (c' := (19, [.ref 1], [.int v2, .ref 2], (h.1, qm_up h.2.1 1 2 v2, h.2.2.1, h.2.2.2))) rfl ?_
      obtain ⟨v9, q_v9⟩ : ∃ v_, h.2.1 2 v2.toInt.toNat = v_ := ⟨_, rfl⟩
      refine hp_bal1 (v := v9) rfl (hH.1 2 (1, 2000) rfl) (show (qm_up h.2.1 1 2 v2) 2 v2.toInt.toNat = _ from ((hk_ot rfl).trans q_v9)) (fun ia_9 ib_9 => ?_)
      refine qm_Rp.go 0 (c' := (20, [.ref 1], [.int v9], (h.1, qm_up h.2.1 1 2 v2, h.2.2.1, h.2.2.2))) rfl ?_
      refine qm_Rp.go 1 (c' := (22, [.ref 1], [.int 61, .int v9], (h.1, qm_up h.2.1 1 2 v2, h.2.2.1, h.2.2.2))) rfl ?_
      refine hp_ceq (ix := v9.toInt) (iy := 61) rfl rfl rfl (fun z11 => ?_) (fun z11 => ?_)
      · refine qm_Rp.go 0 (c' := (27, [.ref 1], [], (h.1, qm_up h.2.1 1 2 v2, h.2.2.1, h.2.2.2))) rfl ?_
        refine qm_Rp.go 2 (c' := (29, [.ref 1], [.ref 1, .ref 1], (h.1, qm_up h.2.1 1 2 v2, h.2.2.1, h.2.2.2))) rfl ?_
        refine hp_geti (v := v2) rfl (hH.1 1 (12, 7) rfl) rfl (show (qm_up h.2.1 1 2 v2) 1 2 = _ from (hk_same)) ?_
        refine qm_Rp.go 2 (c' := (34, [.ref 1], [.int (v2 + 1), .ref 1], (h.1, qm_up h.2.1 1 2 v2, h.2.2.1, h.2.2.2))) rfl ?_
        obtain ⟨v12, q_v12, e_v12⟩ := hk_add (x := v2) (y := 1) (a := v2.toInt) (b := 1) rfl rfl (by omega) (by omega)
        rw [q_v12]
        refine hp_puti rfl (hH.1 1 (12, 7) rfl) rfl ?_
        refine qm_Rp.go 1 (c' := (38, [.ref 1], [.int 1], (h.1, qm_up (qm_up h.2.1 1 2 v2) 1 2 v12, h.2.2.1, h.2.2.2))) rfl ?_
        refine qm_Rp.rt (v := (some (.int 1))) (h' := (h.1, qm_up (qm_up h.2.1 1 2 v2) 1 2 v12, h.2.2.1, h.2.2.2)) rfl ?_
        refine qm_Rp.go 3 (c' := (263, [.ref 1, .int 60], [.int 34, .ref 1], (h.1, qm_up (qm_up h.2.1 1 2 v2) 1 2 v12, h.2.2.1, h.2.2.2))) rfl ?_
        refine hp_puti rfl (hH.1 1 (12, 7) rfl) rfl ?_
        refine qm_Rp.go 1 (c' := (275, [.ref 1, .int 60], [], (h.1, qm_up (qm_up (qm_up h.2.1 1 2 v2) 1 2 v12) 1 3 34, h.2.2.1, h.2.2.2))) rfl ?_
        refine qm_Rp.rt (v := none) (h' := (h.1, qm_up (qm_up (qm_up h.2.1 1 2 v2) 1 2 v12) 1 3 34, h.2.2.1, h.2.2.2)) rfl ?_
        have hw9 : sgW (h.2.1 2) n.toInt.toNat p.toInt.toNat = true := (sgW_y (b := v9) (by omega) (by omega) q_v9 (by omega))
        exact k (qm_up (qm_up (qm_up h.2.1 1 2 v2) 1 2 v12) 1 3 34) v12 34 (fun o ho i => ((hk_mod ho rfl).trans ((hk_mod ho rfl).trans ((hk_mod ho rfl).trans rfl)))) (fun i hi => ((hk_neq (fun z => by subst z; cases hi)).trans ((hk_neq (fun z => by subst z; cases hi)).trans ((hk_neq (fun z => by subst z; cases hi)).trans rfl)))) (show (qm_up (qm_up (qm_up h.2.1 1 2 v2) 1 2 v12) 1 3 34) 1 2 = _ from ((hk_neq (by decide)).trans (hk_same))) (show (qm_up (qm_up (qm_up h.2.1 1 2 v2) 1 2 v12) 1 3 34) 1 3 = _ from (hk_same)) (by omega) (by rw [hw9]; show v12.toInt.toNat = p.toInt.toNat + 2; omega) (by rw [hw9]; rfl)
      · refine qm_Rp.go 0 (c' := (25, [.ref 1], [], (h.1, qm_up h.2.1 1 2 v2, h.2.2.1, h.2.2.2))) rfl ?_
        refine qm_Rp.go 1 (c' := (26, [.ref 1], [.int 0], (h.1, qm_up h.2.1 1 2 v2, h.2.2.1, h.2.2.2))) rfl ?_
        refine qm_Rp.rt (v := (some (.int 0))) (h' := (h.1, qm_up h.2.1 1 2 v2, h.2.2.1, h.2.2.2)) rfl ?_
        refine qm_Rp.go 2 (c' := (263, [.ref 1, .int 60], [.int 33, .ref 1], (h.1, qm_up h.2.1 1 2 v2, h.2.2.1, h.2.2.2))) rfl ?_
        refine hp_puti rfl (hH.1 1 (12, 7) rfl) rfl ?_
        refine qm_Rp.go 1 (c' := (275, [.ref 1, .int 60], [], (h.1, qm_up (qm_up h.2.1 1 2 v2) 1 3 33, h.2.2.1, h.2.2.2))) rfl ?_
        refine qm_Rp.rt (v := none) (h' := (h.1, qm_up (qm_up h.2.1 1 2 v2) 1 3 33, h.2.2.1, h.2.2.2)) rfl ?_
        have hw9 : sgW (h.2.1 2) n.toInt.toNat p.toInt.toNat = false := (sgW_b (b := v9) (by omega) q_v9 (by omega))
        exact k (qm_up (qm_up h.2.1 1 2 v2) 1 3 33) v2 33 (fun o ho i => ((hk_mod ho rfl).trans ((hk_mod ho rfl).trans rfl))) (fun i hi => ((hk_neq (fun z => by subst z; cases hi)).trans ((hk_neq (fun z => by subst z; cases hi)).trans rfl))) (show (qm_up (qm_up h.2.1 1 2 v2) 1 3 33) 1 2 = _ from ((hk_neq (by decide)).trans (hk_same))) (show (qm_up (qm_up h.2.1 1 2 v2) 1 3 33) 1 3 = _ from (hk_same)) (by omega) (by rw [hw9]; show v2.toInt.toNat = p.toInt.toNat + 1; omega) (by rw [hw9]; rfl)
  · obtain rfl : b = 61 := hk_eqi.mpr (zs.trans rfl)
    refine qm_Rp.go 3 (c' := (208, [.ref 1, .int 61], [.ref 1, .ref 1], (h.1, qm_up h.2.1 1 2 v2, h.2.2.1, h.2.2.2))) rfl ?_
    refine hp_inv (o := 1) (r := [.ref 1]) (as := [.ref 1]) rfl rfl (hH.1 1 (12, 7) rfl) rfl rfl rfl ?_
    refine qm_Rp.go 1 (c' := (1, [.ref 1], [.ref 1], (h.1, qm_up h.2.1 1 2 v2, h.2.2.1, h.2.2.2))) rfl ?_
    refine hp_geti (v := v2) rfl (hH.1 1 (12, 7) rfl) rfl (show (qm_up h.2.1 1 2 v2) 1 2 = _ from (hk_same)) ?_
    refine qm_Rp.go 1 (c' := (5, [.ref 1], [.ref 1, .int v2], (h.1, qm_up h.2.1 1 2 v2, h.2.2.1, h.2.2.2))) rfl ?_
    refine hp_geti (v := n) rfl (hH.1 1 (12, 7) rfl) rfl (show (qm_up h.2.1 1 2 v2) 1 1 = _ from ((hk_neq (by decide)).trans q_n)) ?_
    refine qm_Rp.go 0 (c' := (8, [.ref 1], [.int n, .int v2], (h.1, qm_up h.2.1 1 2 v2, h.2.2.1, h.2.2.2))) rfl ?_
    refine hp_cge (ix := v2.toInt) (iy := n.toInt) rfl rfl rfl (fun z13 => ?_) (fun z13 => ?_)
    · refine qm_Rp.go 0 (c' := (25, [.ref 1], [], (h.1, qm_up h.2.1 1 2 v2, h.2.2.1, h.2.2.2))) rfl ?_
      refine qm_Rp.go 1 (c' := (26, [.ref 1], [.int 0], (h.1, qm_up h.2.1 1 2 v2, h.2.2.1, h.2.2.2))) rfl ?_
      refine qm_Rp.rt (v := (some (.int 0))) (h' := (h.1, qm_up h.2.1 1 2 v2, h.2.2.1, h.2.2.2)) rfl ?_
      refine qm_Rp.go 2 (c' := (221, [.ref 1, .int 61], [.int 38, .ref 1], (h.1, qm_up h.2.1 1 2 v2, h.2.2.1, h.2.2.2))) rfl ?_
      refine hp_puti rfl (hH.1 1 (12, 7) rfl) rfl ?_
      refine qm_Rp.go 1 (c' := (275, [.ref 1, .int 61], [], (h.1, qm_up (qm_up h.2.1 1 2 v2) 1 3 38, h.2.2.1, h.2.2.2))) rfl ?_
      refine qm_Rp.rt (v := none) (h' := (h.1, qm_up (qm_up h.2.1 1 2 v2) 1 3 38, h.2.2.1, h.2.2.2)) rfl ?_
      have hw9 : sgW (h.2.1 2) n.toInt.toNat p.toInt.toNat = false := (sgW_n (by omega))
      exact k (qm_up (qm_up h.2.1 1 2 v2) 1 3 38) v2 38 (fun o ho i => ((hk_mod ho rfl).trans ((hk_mod ho rfl).trans rfl))) (fun i hi => ((hk_neq (fun z => by subst z; cases hi)).trans ((hk_neq (fun z => by subst z; cases hi)).trans rfl))) (show (qm_up (qm_up h.2.1 1 2 v2) 1 3 38) 1 2 = _ from ((hk_neq (by decide)).trans (hk_same))) (show (qm_up (qm_up h.2.1 1 2 v2) 1 3 38) 1 3 = _ from (hk_same)) (by omega) (by rw [hw9]; show v2.toInt.toNat = p.toInt.toNat + 1; omega) (by rw [hw9]; rfl)
    · refine qm_Rp.go 1 (c' := (12, [.ref 1], [.ref 1], (h.1, qm_up h.2.1 1 2 v2, h.2.2.1, h.2.2.2))) rfl ?_
      refine hp_getr rfl (hH.1 1 (12, 7) rfl) rfl (hH.2 1 0 (some 2) rfl) ?_
      refine qm_Rp.go 1 (c' := (16, [.ref 1], [.ref 1, .ref 2], (h.1, qm_up h.2.1 1 2 v2, h.2.2.1, h.2.2.2))) rfl ?_
      refine hp_geti (v := v2) rfl (hH.1 1 (12, 7) rfl) rfl (show (qm_up h.2.1 1 2 v2) 1 2 = _ from (hk_same)) ?_
      refine qm_Rp.go 0 (c' := (19, [.ref 1], [.int v2, .ref 2], (h.1, qm_up h.2.1 1 2 v2, h.2.2.1, h.2.2.2))) rfl ?_
      obtain ⟨v14, q_v14⟩ : ∃ v_, h.2.1 2 v2.toInt.toNat = v_ := ⟨_, rfl⟩
      refine hp_bal1 (v := v14) rfl (hH.1 2 (1, 2000) rfl) (show (qm_up h.2.1 1 2 v2) 2 v2.toInt.toNat = _ from ((hk_ot rfl).trans q_v14)) (fun ia_14 ib_14 => ?_)
      refine qm_Rp.go 0 (c' := (20, [.ref 1], [.int v14], (h.1, qm_up h.2.1 1 2 v2, h.2.2.1, h.2.2.2))) rfl ?_
      refine qm_Rp.go 1 (c' := (22, [.ref 1], [.int 61, .int v14], (h.1, qm_up h.2.1 1 2 v2, h.2.2.1, h.2.2.2))) rfl ?_
      refine hp_ceq (ix := v14.toInt) (iy := 61) rfl rfl rfl (fun z16 => ?_) (fun z16 => ?_)
      · refine qm_Rp.go 0 (c' := (27, [.ref 1], [], (h.1, qm_up h.2.1 1 2 v2, h.2.2.1, h.2.2.2))) rfl ?_
        refine qm_Rp.go 2 (c' := (29, [.ref 1], [.ref 1, .ref 1], (h.1, qm_up h.2.1 1 2 v2, h.2.2.1, h.2.2.2))) rfl ?_
        refine hp_geti (v := v2) rfl (hH.1 1 (12, 7) rfl) rfl (show (qm_up h.2.1 1 2 v2) 1 2 = _ from (hk_same)) ?_
        refine qm_Rp.go 2 (c' := (34, [.ref 1], [.int (v2 + 1), .ref 1], (h.1, qm_up h.2.1 1 2 v2, h.2.2.1, h.2.2.2))) rfl ?_
        obtain ⟨v17, q_v17, e_v17⟩ := hk_add (x := v2) (y := 1) (a := v2.toInt) (b := 1) rfl rfl (by omega) (by omega)
        rw [q_v17]
        refine hp_puti rfl (hH.1 1 (12, 7) rfl) rfl ?_
        refine qm_Rp.go 1 (c' := (38, [.ref 1], [.int 1], (h.1, qm_up (qm_up h.2.1 1 2 v2) 1 2 v17, h.2.2.1, h.2.2.2))) rfl ?_
        refine qm_Rp.rt (v := (some (.int 1))) (h' := (h.1, qm_up (qm_up h.2.1 1 2 v2) 1 2 v17, h.2.2.1, h.2.2.2)) rfl ?_
        refine qm_Rp.go 3 (c' := (221, [.ref 1, .int 61], [.int 31, .ref 1], (h.1, qm_up (qm_up h.2.1 1 2 v2) 1 2 v17, h.2.2.1, h.2.2.2))) rfl ?_
        refine hp_puti rfl (hH.1 1 (12, 7) rfl) rfl ?_
        refine qm_Rp.go 1 (c' := (275, [.ref 1, .int 61], [], (h.1, qm_up (qm_up (qm_up h.2.1 1 2 v2) 1 2 v17) 1 3 31, h.2.2.1, h.2.2.2))) rfl ?_
        refine qm_Rp.rt (v := none) (h' := (h.1, qm_up (qm_up (qm_up h.2.1 1 2 v2) 1 2 v17) 1 3 31, h.2.2.1, h.2.2.2)) rfl ?_
        have hw9 : sgW (h.2.1 2) n.toInt.toNat p.toInt.toNat = true := (sgW_y (b := v14) (by omega) (by omega) q_v14 (by omega))
        exact k (qm_up (qm_up (qm_up h.2.1 1 2 v2) 1 2 v17) 1 3 31) v17 31 (fun o ho i => ((hk_mod ho rfl).trans ((hk_mod ho rfl).trans ((hk_mod ho rfl).trans rfl)))) (fun i hi => ((hk_neq (fun z => by subst z; cases hi)).trans ((hk_neq (fun z => by subst z; cases hi)).trans ((hk_neq (fun z => by subst z; cases hi)).trans rfl)))) (show (qm_up (qm_up (qm_up h.2.1 1 2 v2) 1 2 v17) 1 3 31) 1 2 = _ from ((hk_neq (by decide)).trans (hk_same))) (show (qm_up (qm_up (qm_up h.2.1 1 2 v2) 1 2 v17) 1 3 31) 1 3 = _ from (hk_same)) (by omega) (by rw [hw9]; show v17.toInt.toNat = p.toInt.toNat + 2; omega) (by rw [hw9]; rfl)
      · refine qm_Rp.go 0 (c' := (25, [.ref 1], [], (h.1, qm_up h.2.1 1 2 v2, h.2.2.1, h.2.2.2))) rfl ?_
        refine qm_Rp.go 1 (c' := (26, [.ref 1], [.int 0], (h.1, qm_up h.2.1 1 2 v2, h.2.2.1, h.2.2.2))) rfl ?_
        refine qm_Rp.rt (v := (some (.int 0))) (h' := (h.1, qm_up h.2.1 1 2 v2, h.2.2.1, h.2.2.2)) rfl ?_
        refine qm_Rp.go 2 (c' := (221, [.ref 1, .int 61], [.int 38, .ref 1], (h.1, qm_up h.2.1 1 2 v2, h.2.2.1, h.2.2.2))) rfl ?_
        refine hp_puti rfl (hH.1 1 (12, 7) rfl) rfl ?_
        refine qm_Rp.go 1 (c' := (275, [.ref 1, .int 61], [], (h.1, qm_up (qm_up h.2.1 1 2 v2) 1 3 38, h.2.2.1, h.2.2.2))) rfl ?_
        refine qm_Rp.rt (v := none) (h' := (h.1, qm_up (qm_up h.2.1 1 2 v2) 1 3 38, h.2.2.1, h.2.2.2)) rfl ?_
        have hw9 : sgW (h.2.1 2) n.toInt.toNat p.toInt.toNat = false := (sgW_b (b := v14) (by omega) q_v14 (by omega))
        exact k (qm_up (qm_up h.2.1 1 2 v2) 1 3 38) v2 38 (fun o ho i => ((hk_mod ho rfl).trans ((hk_mod ho rfl).trans rfl))) (fun i hi => ((hk_neq (fun z => by subst z; cases hi)).trans ((hk_neq (fun z => by subst z; cases hi)).trans rfl))) (show (qm_up (qm_up h.2.1 1 2 v2) 1 3 38) 1 2 = _ from ((hk_neq (by decide)).trans (hk_same))) (show (qm_up (qm_up h.2.1 1 2 v2) 1 3 38) 1 3 = _ from (hk_same)) (by omega) (by rw [hw9]; show v2.toInt.toNat = p.toInt.toNat + 1; omega) (by rw [hw9]; rfl)
  · refine hp_tsd (tg := 269) rfl zs rfl ?_
    refine qm_Rp.go 2 (c' := (272, [.ref 1, .int b], [.int 38, .ref 1], (h.1, qm_up h.2.1 1 2 v2, h.2.2.1, h.2.2.2))) rfl ?_
    refine hp_puti rfl (hH.1 1 (12, 7) rfl) rfl ?_
    refine qm_Rp.go 0 (c' := (275, [.ref 1, .int b], [], (h.1, qm_up (qm_up h.2.1 1 2 v2) 1 3 38, h.2.2.1, h.2.2.2))) rfl ?_
    refine qm_Rp.rt (v := none) (h' := (h.1, qm_up (qm_up h.2.1 1 2 v2) 1 3 38, h.2.2.1, h.2.2.2)) rfl ?_
    exact k (qm_up (qm_up h.2.1 1 2 v2) 1 3 38) v2 38 (fun o ho i => ((hk_mod ho rfl).trans ((hk_mod ho rfl).trans rfl))) (fun i hi => ((hk_neq (fun z => by subst z; cases hi)).trans ((hk_neq (fun z => by subst z; cases hi)).trans rfl))) (show (qm_up (qm_up h.2.1 1 2 v2) 1 3 38) 1 2 = _ from ((hk_neq (by decide)).trans (hk_same))) (show (qm_up (qm_up h.2.1 1 2 v2) 1 3 38) 1 3 = _ from (hk_same)) (by omega) (by rw [show sgN b.toInt (sgW (h.2.1 2) n.toInt.toNat p.toInt.toNat) = 1 from if_neg (fun z => by omega)]; omega) (by unfold sgK; rw [if_neg (by omega), if_neg (by omega), if_neg (by omega), if_neg (by omega), if_neg (by omega), if_neg (by omega), if_neg (by omega), if_neg (by omega), if_neg (by omega)]; rfl)
theorem sgK_b (x : Int) (w : Bool) : sgK x w ≠ 25 ∧ sgK x w ≠ 26 := by
  unfold sgK
  repeat' split
  all_goals omega
set_option maxHeartbeats 20000000 in
theorem px_advl {X : Option (Nat × (Nat → Int32))} {Z : Option Value → qm_H → Prop} {h : qm_H} (hH : hk_H h) (hB : ∀ i, (-128 : Int) ≤ (h.2.1 2 i).toInt ∧ (h.2.1 2 i).toInt ≤ 127) {n : Int32} {SS : Nat} (q_n : h.2.1 1 1 = n) (hn : 0 ≤ n.toInt ∧ n.toInt ≤ 2000) (k : ∀ (I : Nat → Nat → Int32) (J : Nat → Nat → Int64) (nx kd sa : Int32), (∀ o, [1].contains o = false → ∀ i, I o i = h.2.1 o i) → (∀ i, [2, 3, 4, 5].contains i = false → I 1 i = h.2.1 1 i) → (∀ o, [1].contains o = false → ∀ i, J o i = h.2.2.1 o i) → I 1 2 = nx → I 1 3 = kd → I 1 4 = sa → (0 ≤ sa.toInt ∧ sa.toInt ≤ nx.toInt ∧ nx.toInt ≤ n.toInt) → sa.toInt.toNat = SS → (tR (h.2.1 2) n.toInt.toNat SS).1 = kd.toInt → (tR (h.2.1 2) n.toInt.toNat SS).2.1 = nx.toInt.toNat → (kd.toInt = 25 → I 1 5 = (tR (h.2.1 2) n.toInt.toNat SS).2.2.1) → (kd.toInt = 26 → J 1 6 = (tR (h.2.1 2) n.toInt.toNat SS).2.2.2) → Z none (h.1, I, J, h.2.2.2)) : ∀ (fu : Nat) (I : Nat → Nat → Int32) (c : Int32), ((∀ o, [1].contains o = false → ∀ i, I o i = h.2.1 o i)) → ((∀ i, [2].contains i = false → I 1 i = h.2.1 1 i)) → (I 1 2 = c) → (0 ≤ c.toInt ∧ c.toInt ≤ n.toInt) → (skp (h.2.1 2) n.toInt.toNat c.toInt.toNat = SS) → qm_Rp fu X cd_21 (0, [.ref 1], [], (h.1, I, h.2.2.1, h.2.2.2)) Z := by
  intro fu
  induction fu using Nat.strongRecOn with
  | ind fu ih =>
    intro I c e e1 q_c hc hS
    have kz0 : (0 : Int32).toInt = 0 := rfl
    have kz1 : (1 : Int32).toInt = 1 := rfl
    have kz2 : (2 : Int32).toInt = 2 := rfl
    have kz3 : (3 : Int32).toInt = 3 := rfl
    have kz4 : (4 : Int32).toInt = 4 := rfl
    have kz5 : (5 : Int32).toInt = 5 := rfl
    have kz6 : (6 : Int32).toInt = 6 := rfl
    have kz7 : (7 : Int32).toInt = 7 := rfl
    have kz8 : (8 : Int32).toInt = 8 := rfl
    have kz9 : (9 : Int32).toInt = 9 := rfl
    have kzm1 : ((-1) : Int32).toInt = (-1) := rfl
    have kzm2 : ((-2) : Int32).toInt = (-2) := rfl
    have kzm3 : ((-3) : Int32).toInt = (-3) := rfl
    refine qm_Rp.go1 0 (c' := (1, [.ref 1], [.ref 1], (h.1, I, h.2.2.1, h.2.2.2))) rfl (fun g hg => ?_)
    refine hp_geti (v := c) rfl (hH.1 1 (12, 7) rfl) rfl q_c ?_
    refine qm_Rp.go 1 (c' := (5, [.ref 1], [.ref 1, .int c], (h.1, I, h.2.2.1, h.2.2.2))) rfl ?_
    refine hp_geti (v := n) rfl (hH.1 1 (12, 7) rfl) rfl (show (I) 1 1 = _ from ((e1 1 rfl).trans q_n)) ?_
    refine qm_Rp.go 0 (c' := (8, [.ref 1], [.int n, .int c], (h.1, I, h.2.2.1, h.2.2.2))) rfl ?_
    refine hp_cge (ix := c.toInt) (iy := n.toInt) rfl rfl rfl (fun z1 => ?_) (fun z1 => ?_)
    · refine qm_Rp.go 0 (c' := (39, [.ref 1], [], (h.1, I, h.2.2.1, h.2.2.2))) rfl ?_
      have hs9 : SS = c.toInt.toNat := by rw [← hS]; exact skp_e (by omega)
      refine qm_Rp.go 2 (c' := (41, [.ref 1], [.ref 1, .ref 1], (h.1, I, h.2.2.1, h.2.2.2))) rfl ?_
      refine hp_geti (v := c) rfl (hH.1 1 (12, 7) rfl) rfl q_c ?_
      refine qm_Rp.go 0 (c' := (44, [.ref 1], [.int c, .ref 1], (h.1, I, h.2.2.1, h.2.2.2))) rfl ?_
      refine hp_puti rfl (hH.1 1 (12, 7) rfl) rfl ?_
      refine qm_Rp.go 1 (c' := (48, [.ref 1], [.ref 1], (h.1, qm_up I 1 4 c, h.2.2.1, h.2.2.2))) rfl ?_
      refine hp_geti (v := c) rfl (hH.1 1 (12, 7) rfl) rfl (show (qm_up I 1 4 c) 1 2 = _ from ((hk_neq (by decide)).trans q_c)) ?_
      refine qm_Rp.go 1 (c' := (52, [.ref 1], [.ref 1, .int c], (h.1, qm_up I 1 4 c, h.2.2.1, h.2.2.2))) rfl ?_
      refine hp_geti (v := n) rfl (hH.1 1 (12, 7) rfl) rfl (show (qm_up I 1 4 c) 1 1 = _ from ((hk_neq (by decide)).trans ((e1 1 rfl).trans q_n))) ?_
      refine qm_Rp.go 0 (c' := (55, [.ref 1], [.int n, .int c], (h.1, qm_up I 1 4 c, h.2.2.1, h.2.2.2))) rfl ?_
      refine hp_clt (ix := c.toInt) (iy := n.toInt) rfl rfl rfl (fun z2 => by exfalso; omega) (fun z2 => ?_)
      refine qm_Rp.go 2 (c' := (61, [.ref 1], [.int 37, .ref 1], (h.1, qm_up I 1 4 c, h.2.2.1, h.2.2.2))) rfl ?_
      refine hp_puti rfl (hH.1 1 (12, 7) rfl) rfl ?_
      refine qm_Rp.go 1 (c' := (115, [.ref 1], [], (h.1, qm_up (qm_up I 1 4 c) 1 3 37, h.2.2.1, h.2.2.2))) rfl ?_
      refine qm_Rp.rt (v := none) (h' := (h.1, qm_up (qm_up I 1 4 c) 1 3 37, h.2.2.1, h.2.2.2)) rfl ?_
      have hR : tR (h.2.1 2) n.toInt.toNat SS = (37, SS, 0, 0) := tR_end (by omega)
      exact k (qm_up (qm_up I 1 4 c) 1 3 37) (h.2.2.1) c 37 c (fun o ho i => ((hk_mod ho rfl).trans ((hk_mod ho rfl).trans ((e o (hk_ms rfl ho) i).trans rfl)))) (fun i hi => ((hk_neq (fun z => by subst z; cases hi)).trans ((hk_neq (fun z => by subst z; cases hi)).trans ((e1 i (hk_ms rfl hi)).trans rfl)))) (fun o ho i => rfl) (show (qm_up (qm_up I 1 4 c) 1 3 37) 1 2 = _ from ((hk_neq (by decide)).trans ((hk_neq (by decide)).trans q_c))) (show (qm_up (qm_up I 1 4 c) 1 3 37) 1 3 = _ from (hk_same)) (show (qm_up (qm_up I 1 4 c) 1 3 37) 1 4 = _ from ((hk_neq (by decide)).trans (hk_same))) (by omega) (by omega) (by rw [hR]; rfl) (by rw [hR]; exact hs9) (fun z => absurd z (by decide)) (fun z => absurd z (by decide))
    · refine qm_Rp.go 1 (c' := (12, [.ref 1], [.ref 1], (h.1, I, h.2.2.1, h.2.2.2))) rfl ?_
      refine hp_getr rfl (hH.1 1 (12, 7) rfl) rfl (hH.2 1 0 (some 2) rfl) ?_
      refine qm_Rp.go 1 (c' := (16, [.ref 1], [.ref 1, .ref 2], (h.1, I, h.2.2.1, h.2.2.2))) rfl ?_
      refine hp_geti (v := c) rfl (hH.1 1 (12, 7) rfl) rfl q_c ?_
      refine qm_Rp.go 0 (c' := (19, [.ref 1], [.int c, .ref 2], (h.1, I, h.2.2.1, h.2.2.2))) rfl ?_
      obtain ⟨v3, q_v3⟩ : ∃ v_, h.2.1 2 c.toInt.toNat = v_ := ⟨_, rfl⟩
      refine hp_bal1 (v := v3) rfl (hH.1 2 (1, 2000) rfl) (show (I) 2 c.toInt.toNat = _ from ((e 2 rfl c.toInt.toNat).trans q_v3)) (fun ia_3 ib_3 => ?_)
      refine qm_Rp.go 0 (c' := (20, [.ref 1], [.int v3], (h.1, I, h.2.2.1, h.2.2.2))) rfl ?_
      have hb_v3 := hB c.toInt.toNat
      rw [q_v3] at hb_v3
      refine qm_Rp.call (j := 22) (as := [.int v3]) (c' := (23, [.ref 1], [], (h.1, I, h.2.2.1, h.2.2.2))) rfl rfl ?_
      refine qm_Rp.go 2 (c' := (3, [.int v3], [.int 32, .int v3], (h.1, I, h.2.2.1, h.2.2.2))) rfl ?_
      refine hp_ceq (ix := v3.toInt) (iy := 32) rfl rfl rfl (fun z5 => ?_) (fun z5 => ?_)
      · refine qm_Rp.go 2 (c' := (29, [.int v3], [.int 1], (h.1, I, h.2.2.1, h.2.2.2))) rfl ?_
        refine qm_Rp.rt (v := (some (.int 1))) (h' := (h.1, I, h.2.2.1, h.2.2.2)) rfl ?_
        refine qm_Rp.go 3 (c' := (28, [.ref 1], [.ref 1, .ref 1], (h.1, I, h.2.2.1, h.2.2.2))) rfl ?_
        refine hp_geti (v := c) rfl (hH.1 1 (12, 7) rfl) rfl q_c ?_
        refine qm_Rp.go 2 (c' := (33, [.ref 1], [.int (c + 1), .ref 1], (h.1, I, h.2.2.1, h.2.2.2))) rfl ?_
        obtain ⟨v6, q_v6, e_v6⟩ := hk_add (x := c) (y := 1) (a := c.toInt) (b := 1) rfl rfl (by omega) (by omega)
        rw [q_v6]
        refine hp_puti rfl (hH.1 1 (12, 7) rfl) rfl ?_
        refine qm_Rp.go 1 (c' := (0, [.ref 1], [], (h.1, qm_up I 1 2 v6, h.2.2.1, h.2.2.2))) rfl ?_
        exact ih g (by omega) (qm_up I 1 2 v6) v6 (fun o ho i => ((hk_mod ho rfl).trans ((e o (hk_ms rfl ho) i).trans rfl))) (fun i hi => ((hk_neq (fun z => by subst z; cases hi)).trans ((e1 i (hk_ms rfl hi)).trans rfl))) (show (qm_up I 1 2 v6) 1 2 = _ from (hk_same)) (by omega) ((skp_y (b := v3) (by omega) q_v3 (by omega) (by omega)).symm.trans hS)
      · refine qm_Rp.go 2 (c' := (9, [.int v3], [.int 9, .int v3], (h.1, I, h.2.2.1, h.2.2.2))) rfl ?_
        refine hp_ceq (ix := v3.toInt) (iy := 9) rfl rfl rfl (fun z7 => ?_) (fun z7 => ?_)
        · refine qm_Rp.go 2 (c' := (29, [.int v3], [.int 1], (h.1, I, h.2.2.1, h.2.2.2))) rfl ?_
          refine qm_Rp.rt (v := (some (.int 1))) (h' := (h.1, I, h.2.2.1, h.2.2.2)) rfl ?_
          refine qm_Rp.go 3 (c' := (28, [.ref 1], [.ref 1, .ref 1], (h.1, I, h.2.2.1, h.2.2.2))) rfl ?_
          refine hp_geti (v := c) rfl (hH.1 1 (12, 7) rfl) rfl q_c ?_
          refine qm_Rp.go 2 (c' := (33, [.ref 1], [.int (c + 1), .ref 1], (h.1, I, h.2.2.1, h.2.2.2))) rfl ?_
          obtain ⟨v8, q_v8, e_v8⟩ := hk_add (x := c) (y := 1) (a := c.toInt) (b := 1) rfl rfl (by omega) (by omega)
          rw [q_v8]
          refine hp_puti rfl (hH.1 1 (12, 7) rfl) rfl ?_
          refine qm_Rp.go 1 (c' := (0, [.ref 1], [], (h.1, qm_up I 1 2 v8, h.2.2.1, h.2.2.2))) rfl ?_
          exact ih g (by omega) (qm_up I 1 2 v8) v8 (fun o ho i => ((hk_mod ho rfl).trans ((e o (hk_ms rfl ho) i).trans rfl))) (fun i hi => ((hk_neq (fun z => by subst z; cases hi)).trans ((e1 i (hk_ms rfl hi)).trans rfl))) (show (qm_up I 1 2 v8) 1 2 = _ from (hk_same)) (by omega) ((skp_y (b := v3) (by omega) q_v3 (by omega) (by omega)).symm.trans hS)
        · refine qm_Rp.go 2 (c' := (15, [.int v3], [.int 10, .int v3], (h.1, I, h.2.2.1, h.2.2.2))) rfl ?_
          refine hp_ceq (ix := v3.toInt) (iy := 10) rfl rfl rfl (fun z9 => ?_) (fun z9 => ?_)
          · refine qm_Rp.go 2 (c' := (29, [.int v3], [.int 1], (h.1, I, h.2.2.1, h.2.2.2))) rfl ?_
            refine qm_Rp.rt (v := (some (.int 1))) (h' := (h.1, I, h.2.2.1, h.2.2.2)) rfl ?_
            refine qm_Rp.go 3 (c' := (28, [.ref 1], [.ref 1, .ref 1], (h.1, I, h.2.2.1, h.2.2.2))) rfl ?_
            refine hp_geti (v := c) rfl (hH.1 1 (12, 7) rfl) rfl q_c ?_
            refine qm_Rp.go 2 (c' := (33, [.ref 1], [.int (c + 1), .ref 1], (h.1, I, h.2.2.1, h.2.2.2))) rfl ?_
            obtain ⟨v10, q_v10, e_v10⟩ := hk_add (x := c) (y := 1) (a := c.toInt) (b := 1) rfl rfl (by omega) (by omega)
            rw [q_v10]
            refine hp_puti rfl (hH.1 1 (12, 7) rfl) rfl ?_
            refine qm_Rp.go 1 (c' := (0, [.ref 1], [], (h.1, qm_up I 1 2 v10, h.2.2.1, h.2.2.2))) rfl ?_
            exact ih g (by omega) (qm_up I 1 2 v10) v10 (fun o ho i => ((hk_mod ho rfl).trans ((e o (hk_ms rfl ho) i).trans rfl))) (fun i hi => ((hk_neq (fun z => by subst z; cases hi)).trans ((e1 i (hk_ms rfl hi)).trans rfl))) (show (qm_up I 1 2 v10) 1 2 = _ from (hk_same)) (by omega) ((skp_y (b := v3) (by omega) q_v3 (by omega) (by omega)).symm.trans hS)
          · refine qm_Rp.go 2 (c' := (21, [.int v3], [.int 13, .int v3], (h.1, I, h.2.2.1, h.2.2.2))) rfl ?_
            refine hp_cne (ix := v3.toInt) (iy := 13) rfl rfl rfl (fun z11 => ?_) (fun z11 => ?_)
            · refine qm_Rp.go 1 (c' := (29, [.int v3], [.int 0], (h.1, I, h.2.2.1, h.2.2.2))) rfl ?_
              refine qm_Rp.rt (v := (some (.int 0))) (h' := (h.1, I, h.2.2.1, h.2.2.2)) rfl ?_
              refine qm_Rp.go 1 (c' := (39, [.ref 1], [], (h.1, I, h.2.2.1, h.2.2.2))) rfl ?_
              have hs9 : SS = c.toInt.toNat := by rw [← hS]; exact skp_b q_v3 (by omega)
              refine qm_Rp.go 2 (c' := (41, [.ref 1], [.ref 1, .ref 1], (h.1, I, h.2.2.1, h.2.2.2))) rfl ?_
              refine hp_geti (v := c) rfl (hH.1 1 (12, 7) rfl) rfl q_c ?_
              refine qm_Rp.go 0 (c' := (44, [.ref 1], [.int c, .ref 1], (h.1, I, h.2.2.1, h.2.2.2))) rfl ?_
              refine hp_puti rfl (hH.1 1 (12, 7) rfl) rfl ?_
              refine qm_Rp.go 1 (c' := (48, [.ref 1], [.ref 1], (h.1, qm_up I 1 4 c, h.2.2.1, h.2.2.2))) rfl ?_
              refine hp_geti (v := c) rfl (hH.1 1 (12, 7) rfl) rfl (show (qm_up I 1 4 c) 1 2 = _ from ((hk_neq (by decide)).trans q_c)) ?_
              refine qm_Rp.go 1 (c' := (52, [.ref 1], [.ref 1, .int c], (h.1, qm_up I 1 4 c, h.2.2.1, h.2.2.2))) rfl ?_
              refine hp_geti (v := n) rfl (hH.1 1 (12, 7) rfl) rfl (show (qm_up I 1 4 c) 1 1 = _ from ((hk_neq (by decide)).trans ((e1 1 rfl).trans q_n))) ?_
              refine qm_Rp.go 0 (c' := (55, [.ref 1], [.int n, .int c], (h.1, qm_up I 1 4 c, h.2.2.1, h.2.2.2))) rfl ?_
              refine hp_clt (ix := c.toInt) (iy := n.toInt) rfl rfl rfl (fun z12 => ?_) (fun z12 => by exfalso; omega)
              refine qm_Rp.go 1 (c' := (68, [.ref 1], [.ref 1], (h.1, qm_up I 1 4 c, h.2.2.1, h.2.2.2))) rfl ?_
              refine hp_getr rfl (hH.1 1 (12, 7) rfl) rfl (hH.2 1 0 (some 2) rfl) ?_
              refine qm_Rp.go 1 (c' := (72, [.ref 1], [.ref 1, .ref 2], (h.1, qm_up I 1 4 c, h.2.2.1, h.2.2.2))) rfl ?_
              refine hp_geti (v := c) rfl (hH.1 1 (12, 7) rfl) rfl (show (qm_up I 1 4 c) 1 2 = _ from ((hk_neq (by decide)).trans q_c)) ?_
              refine qm_Rp.go 0 (c' := (75, [.ref 1], [.int c, .ref 2], (h.1, qm_up I 1 4 c, h.2.2.1, h.2.2.2))) rfl ?_
              refine hp_bal1 (v := v3) rfl (hH.1 2 (1, 2000) rfl) (show (qm_up I 1 4 c) 2 c.toInt.toNat = _ from ((hk_ot rfl).trans ((e 2 rfl c.toInt.toNat).trans q_v3))) (fun ia_12 ib_12 => ?_)
              refine qm_Rp.go 0 (c' := (76, [.ref 1], [.int v3], (h.1, qm_up I 1 4 c, h.2.2.1, h.2.2.2))) rfl ?_
              refine qm_Rp.call (j := 23) (as := [.int v3]) (c' := (79, [.ref 1], [], (h.1, qm_up I 1 4 c, h.2.2.1, h.2.2.2))) rfl rfl ?_
              refine qm_Rp.go 2 (c' := (3, [.int v3], [.int 97, .int v3], (h.1, qm_up I 1 4 c, h.2.2.1, h.2.2.2))) rfl ?_
              refine hp_clt (ix := v3.toInt) (iy := 97) rfl rfl rfl (fun z14 => ?_) (fun z14 => ?_)
              · refine qm_Rp.go 1 (c' := (17, [.int v3], [.int 0], (h.1, qm_up I 1 4 c, h.2.2.1, h.2.2.2))) rfl ?_
                refine qm_Rp.rt (v := (some (.int 0))) (h' := (h.1, qm_up I 1 4 c, h.2.2.1, h.2.2.2)) rfl ?_
                refine qm_Rp.go 2 (c' := (90, [.ref 1], [.ref 1], (h.1, qm_up I 1 4 c, h.2.2.1, h.2.2.2))) rfl ?_
                refine hp_getr rfl (hH.1 1 (12, 7) rfl) rfl (hH.2 1 0 (some 2) rfl) ?_
                refine qm_Rp.go 1 (c' := (94, [.ref 1], [.ref 1, .ref 2], (h.1, qm_up I 1 4 c, h.2.2.1, h.2.2.2))) rfl ?_
                refine hp_geti (v := c) rfl (hH.1 1 (12, 7) rfl) rfl (show (qm_up I 1 4 c) 1 2 = _ from ((hk_neq (by decide)).trans q_c)) ?_
                refine qm_Rp.go 0 (c' := (97, [.ref 1], [.int c, .ref 2], (h.1, qm_up I 1 4 c, h.2.2.1, h.2.2.2))) rfl ?_
                refine hp_bal1 (v := v3) rfl (hH.1 2 (1, 2000) rfl) (show (qm_up I 1 4 c) 2 c.toInt.toNat = _ from ((hk_ot rfl).trans ((e 2 rfl c.toInt.toNat).trans q_v3))) (fun ia_14 ib_14 => ?_)
                refine qm_Rp.go 0 (c' := (98, [.ref 1], [.int v3], (h.1, qm_up I 1 4 c, h.2.2.1, h.2.2.2))) rfl ?_
                refine qm_Rp.call (j := 26) (as := [.int v3]) (c' := (101, [.ref 1], [], (h.1, qm_up I 1 4 c, h.2.2.1, h.2.2.2))) rfl rfl ?_
                refine qm_Rp.go 2 (c' := (3, [.int v3], [.int 48, .int v3], (h.1, qm_up I 1 4 c, h.2.2.1, h.2.2.2))) rfl ?_
                refine hp_clt (ix := v3.toInt) (iy := 48) rfl rfl rfl (fun z16 => ?_) (fun z16 => ?_)
                · refine qm_Rp.go 1 (c' := (17, [.int v3], [.int 0], (h.1, qm_up I 1 4 c, h.2.2.1, h.2.2.2))) rfl ?_
                  refine qm_Rp.rt (v := (some (.int 0))) (h' := (h.1, qm_up I 1 4 c, h.2.2.1, h.2.2.2)) rfl ?_
                  refine qm_Rp.go 2 (c' := (112, [.ref 1], [.ref 1], (h.1, qm_up I 1 4 c, h.2.2.1, h.2.2.2))) rfl ?_
                  have e20 : (h.1, qm_up I 1 4 c, h.2.2.1, h.2.2.2).2.1 2 = h.2.1 2 := show (qm_up I 1 4 c) 2 = h.2.1 2 from funext fun i => ((hk_ot rfl).trans ((e 2 rfl i).trans rfl))
                  refine hp_inv (o := 1) (r := []) (as := [.ref 1]) rfl rfl (hH.1 1 (12, 7) rfl) rfl rfl rfl (px_sign (h := (h.1, qm_up I 1 4 c, h.2.2.1, h.2.2.2)) hH (show (qm_up I 1 4 c) 1 1 = _ from ((hk_neq (by decide)).trans ((e1 1 rfl).trans q_n))) hn (show (qm_up I 1 4 c) 1 2 = _ from ((hk_neq (by decide)).trans q_c)) (by omega) (show (qm_up I 1 4 c) 2 c.toInt.toNat = v3 from (show (qm_up I 1 4 c) 2 c.toInt.toNat = _ from ((hk_ot rfl).trans ((e 2 rfl c.toInt.toNat).trans q_v3)))) (by omega) (fun I17 nx19 kd20 e_I17 e1_I17 q_nx19 q_kd20 b_I17 u_I17 k_I17 => ?_))
                  have e_I17 : (∀ o, [1].contains o = false → ∀ i, I17 o i = (qm_up I 1 4 c) o i) := e_I17
                  have e1_I17 : (∀ i, [2, 3].contains i = false → I17 1 i = (qm_up I 1 4 c) 1 i) := e1_I17
                  rw [e20] at u_I17 k_I17
                  refine qm_Rp.go 0 (c' := (115, [.ref 1], [], (h.1, I17, h.2.2.1, h.2.2.2))) rfl ?_
                  refine qm_Rp.rt (v := none) (h' := (h.1, I17, h.2.2.1, h.2.2.2)) rfl ?_
                  have hR := tR_sign (B := (h.2.1 2)) (n := n.toInt.toNat) (q := c.toInt.toNat) (b := v3) (by omega) q_v3 (by omega) (by omega)
                  have k25 := sgK_b v3.toInt (sgW (h.2.1 2) n.toInt.toNat c.toInt.toNat)
                  subst hs9
                  exact k (I17) (h.2.2.1) nx19 kd20 c (fun o ho i => ((e_I17 o (hk_ms rfl ho) i).trans ((hk_mod ho rfl).trans ((e o (hk_ms rfl ho) i).trans rfl)))) (fun i hi => ((e1_I17 i (hk_ms rfl hi)).trans ((hk_neq (fun z => by subst z; cases hi)).trans ((e1 i (hk_ms rfl hi)).trans rfl)))) (fun o ho i => rfl) q_nx19 q_kd20 (show (I17) 1 4 = _ from ((e1_I17 4 rfl).trans (hk_same))) (by omega) rfl (by rw [hR]; exact k_I17.symm) (by rw [hR]; exact u_I17.symm) (fun z => by omega) (fun z => by omega)
                · refine qm_Rp.go 2 (c' := (9, [.int v3], [.int 57, .int v3], (h.1, qm_up I 1 4 c, h.2.2.1, h.2.2.2))) rfl ?_
                  refine hp_cgt (ix := v3.toInt) (iy := 57) rfl rfl rfl (fun z21 => ?_) (fun z21 => ?_)
                  · refine qm_Rp.go 1 (c' := (17, [.int v3], [.int 0], (h.1, qm_up I 1 4 c, h.2.2.1, h.2.2.2))) rfl ?_
                    refine qm_Rp.rt (v := (some (.int 0))) (h' := (h.1, qm_up I 1 4 c, h.2.2.1, h.2.2.2)) rfl ?_
                    refine qm_Rp.go 2 (c' := (112, [.ref 1], [.ref 1], (h.1, qm_up I 1 4 c, h.2.2.1, h.2.2.2))) rfl ?_
                    have e20 : (h.1, qm_up I 1 4 c, h.2.2.1, h.2.2.2).2.1 2 = h.2.1 2 := show (qm_up I 1 4 c) 2 = h.2.1 2 from funext fun i => ((hk_ot rfl).trans ((e 2 rfl i).trans rfl))
                    refine hp_inv (o := 1) (r := []) (as := [.ref 1]) rfl rfl (hH.1 1 (12, 7) rfl) rfl rfl rfl (px_sign (h := (h.1, qm_up I 1 4 c, h.2.2.1, h.2.2.2)) hH (show (qm_up I 1 4 c) 1 1 = _ from ((hk_neq (by decide)).trans ((e1 1 rfl).trans q_n))) hn (show (qm_up I 1 4 c) 1 2 = _ from ((hk_neq (by decide)).trans q_c)) (by omega) (show (qm_up I 1 4 c) 2 c.toInt.toNat = v3 from (show (qm_up I 1 4 c) 2 c.toInt.toNat = _ from ((hk_ot rfl).trans ((e 2 rfl c.toInt.toNat).trans q_v3)))) (by omega) (fun I22 nx24 kd25 e_I22 e1_I22 q_nx24 q_kd25 b_I22 u_I22 k_I22 => ?_))
                    have e_I22 : (∀ o, [1].contains o = false → ∀ i, I22 o i = (qm_up I 1 4 c) o i) := e_I22
                    have e1_I22 : (∀ i, [2, 3].contains i = false → I22 1 i = (qm_up I 1 4 c) 1 i) := e1_I22
                    rw [e20] at u_I22 k_I22
                    refine qm_Rp.go 0 (c' := (115, [.ref 1], [], (h.1, I22, h.2.2.1, h.2.2.2))) rfl ?_
                    refine qm_Rp.rt (v := none) (h' := (h.1, I22, h.2.2.1, h.2.2.2)) rfl ?_
                    have hR := tR_sign (B := (h.2.1 2)) (n := n.toInt.toNat) (q := c.toInt.toNat) (b := v3) (by omega) q_v3 (by omega) (by omega)
                    have k25 := sgK_b v3.toInt (sgW (h.2.1 2) n.toInt.toNat c.toInt.toNat)
                    subst hs9
                    exact k (I22) (h.2.2.1) nx24 kd25 c (fun o ho i => ((e_I22 o (hk_ms rfl ho) i).trans ((hk_mod ho rfl).trans ((e o (hk_ms rfl ho) i).trans rfl)))) (fun i hi => ((e1_I22 i (hk_ms rfl hi)).trans ((hk_neq (fun z => by subst z; cases hi)).trans ((e1 i (hk_ms rfl hi)).trans rfl)))) (fun o ho i => rfl) q_nx24 q_kd25 (show (I22) 1 4 = _ from ((e1_I22 4 rfl).trans (hk_same))) (by omega) rfl (by rw [hR]; exact k_I22.symm) (by rw [hR]; exact u_I22.symm) (fun z => by omega) (fun z => by omega)
                  · refine qm_Rp.go 2 (c' := (17, [.int v3], [.int 1], (h.1, qm_up I 1 4 c, h.2.2.1, h.2.2.2))) rfl ?_
                    refine qm_Rp.rt (v := (some (.int 1))) (h' := (h.1, qm_up I 1 4 c, h.2.2.1, h.2.2.2)) rfl ?_
                    refine qm_Rp.go 2 (c' := (105, [.ref 1], [.ref 1], (h.1, qm_up I 1 4 c, h.2.2.1, h.2.2.2))) rfl ?_
                    have e20 : (h.1, qm_up I 1 4 c, h.2.2.1, h.2.2.2).2.1 2 = h.2.1 2 := show (qm_up I 1 4 c) 2 = h.2.1 2 from funext fun i => ((hk_ot rfl).trans ((e 2 rfl i).trans rfl))
                    refine hp_inv (o := 1) (r := []) (as := [.ref 1]) rfl rfl (hH.1 1 (12, 7) rfl) rfl rfl rfl (px_int (h := (h.1, qm_up I 1 4 c, h.2.2.1, h.2.2.2)) hH (show (qm_up I 1 4 c) 1 1 = _ from ((hk_neq (by decide)).trans ((e1 1 rfl).trans q_n))) hn (show (qm_up I 1 4 c) 1 4 = _ from (hk_same)) (by omega) (fun I26 J27 nx28 kd29 e_I26 e1_I26 ej_I26 q_nx28 q_kd29 b_I26 u_I26 x_I26 k_I26 => ?_) (show (qm_up I 1 4 c) 1 2 = _ from ((hk_neq (by decide)).trans q_c)) (by omega) rfl)
                    have e_I26 : (∀ o, [1].contains o = false → ∀ i, I26 o i = (qm_up I 1 4 c) o i) := e_I26
                    have e1_I26 : (∀ i, [2, 3, 5].contains i = false → I26 1 i = (qm_up I 1 4 c) 1 i) := e1_I26
                    rw [e20] at u_I26 k_I26 x_I26
                    refine qm_Rp.go 1 (c' := (115, [.ref 1], [], (h.1, I26, J27, h.2.2.2))) rfl ?_
                    refine qm_Rp.rt (v := none) (h' := (h.1, I26, J27, h.2.2.2)) rfl ?_
                    subst hs9
                    have hR := tR_i (B := (h.2.1 2)) (n := n.toInt.toNat) (q := c.toInt.toNat) (b := v3) (by omega) q_v3 (by omega)
                    exact k (I26) (J27) nx28 kd29 c (fun o ho i => ((e_I26 o (hk_ms rfl ho) i).trans ((hk_mod ho rfl).trans ((e o (hk_ms rfl ho) i).trans rfl)))) (fun i hi => ((e1_I26 i (hk_ms rfl hi)).trans ((hk_neq (fun z => by subst z; cases hi)).trans ((e1 i (hk_ms rfl hi)).trans rfl)))) (fun o ho i => ((ej_I26 o (hk_ms rfl ho) i).trans rfl)) q_nx28 q_kd29 (show (I26) 1 4 = _ from ((e1_I26 4 rfl).trans (hk_same))) (by omega) rfl (by rw [hR]; exact k_I26.symm) (by rw [hR]; exact u_I26.symm) (fun _ => by rw [hR]; exact x_I26) (fun z => by exfalso; rw [k_I26] at z; split at z <;> omega)
              · refine qm_Rp.go 2 (c' := (9, [.int v3], [.int 122, .int v3], (h.1, qm_up I 1 4 c, h.2.2.1, h.2.2.2))) rfl ?_
                refine hp_cgt (ix := v3.toInt) (iy := 122) rfl rfl rfl (fun z30 => ?_) (fun z30 => ?_)
                · refine qm_Rp.go 1 (c' := (17, [.int v3], [.int 0], (h.1, qm_up I 1 4 c, h.2.2.1, h.2.2.2))) rfl ?_
                  refine qm_Rp.rt (v := (some (.int 0))) (h' := (h.1, qm_up I 1 4 c, h.2.2.1, h.2.2.2)) rfl ?_
                  refine qm_Rp.go 2 (c' := (90, [.ref 1], [.ref 1], (h.1, qm_up I 1 4 c, h.2.2.1, h.2.2.2))) rfl ?_
                  refine hp_getr rfl (hH.1 1 (12, 7) rfl) rfl (hH.2 1 0 (some 2) rfl) ?_
                  refine qm_Rp.go 1 (c' := (94, [.ref 1], [.ref 1, .ref 2], (h.1, qm_up I 1 4 c, h.2.2.1, h.2.2.2))) rfl ?_
                  refine hp_geti (v := c) rfl (hH.1 1 (12, 7) rfl) rfl (show (qm_up I 1 4 c) 1 2 = _ from ((hk_neq (by decide)).trans q_c)) ?_
                  refine qm_Rp.go 0 (c' := (97, [.ref 1], [.int c, .ref 2], (h.1, qm_up I 1 4 c, h.2.2.1, h.2.2.2))) rfl ?_
                  refine hp_bal1 (v := v3) rfl (hH.1 2 (1, 2000) rfl) (show (qm_up I 1 4 c) 2 c.toInt.toNat = _ from ((hk_ot rfl).trans ((e 2 rfl c.toInt.toNat).trans q_v3))) (fun ia_30 ib_30 => ?_)
                  refine qm_Rp.go 0 (c' := (98, [.ref 1], [.int v3], (h.1, qm_up I 1 4 c, h.2.2.1, h.2.2.2))) rfl ?_
                  refine qm_Rp.call (j := 26) (as := [.int v3]) (c' := (101, [.ref 1], [], (h.1, qm_up I 1 4 c, h.2.2.1, h.2.2.2))) rfl rfl ?_
                  refine qm_Rp.go 2 (c' := (3, [.int v3], [.int 48, .int v3], (h.1, qm_up I 1 4 c, h.2.2.1, h.2.2.2))) rfl ?_
                  refine hp_clt (ix := v3.toInt) (iy := 48) rfl rfl rfl (fun z32 => by exfalso; omega) (fun z32 => ?_)
                  refine qm_Rp.go 2 (c' := (9, [.int v3], [.int 57, .int v3], (h.1, qm_up I 1 4 c, h.2.2.1, h.2.2.2))) rfl ?_
                  refine hp_cgt (ix := v3.toInt) (iy := 57) rfl rfl rfl (fun z33 => ?_) (fun z33 => by exfalso; omega)
                  refine qm_Rp.go 1 (c' := (17, [.int v3], [.int 0], (h.1, qm_up I 1 4 c, h.2.2.1, h.2.2.2))) rfl ?_
                  refine qm_Rp.rt (v := (some (.int 0))) (h' := (h.1, qm_up I 1 4 c, h.2.2.1, h.2.2.2)) rfl ?_
                  refine qm_Rp.go 2 (c' := (112, [.ref 1], [.ref 1], (h.1, qm_up I 1 4 c, h.2.2.1, h.2.2.2))) rfl ?_
                  have e20 : (h.1, qm_up I 1 4 c, h.2.2.1, h.2.2.2).2.1 2 = h.2.1 2 := show (qm_up I 1 4 c) 2 = h.2.1 2 from funext fun i => ((hk_ot rfl).trans ((e 2 rfl i).trans rfl))
                  refine hp_inv (o := 1) (r := []) (as := [.ref 1]) rfl rfl (hH.1 1 (12, 7) rfl) rfl rfl rfl (px_sign (h := (h.1, qm_up I 1 4 c, h.2.2.1, h.2.2.2)) hH (show (qm_up I 1 4 c) 1 1 = _ from ((hk_neq (by decide)).trans ((e1 1 rfl).trans q_n))) hn (show (qm_up I 1 4 c) 1 2 = _ from ((hk_neq (by decide)).trans q_c)) (by omega) (show (qm_up I 1 4 c) 2 c.toInt.toNat = v3 from (show (qm_up I 1 4 c) 2 c.toInt.toNat = _ from ((hk_ot rfl).trans ((e 2 rfl c.toInt.toNat).trans q_v3)))) (by omega) (fun I34 nx36 kd37 e_I34 e1_I34 q_nx36 q_kd37 b_I34 u_I34 k_I34 => ?_))
                  have e_I34 : (∀ o, [1].contains o = false → ∀ i, I34 o i = (qm_up I 1 4 c) o i) := e_I34
                  have e1_I34 : (∀ i, [2, 3].contains i = false → I34 1 i = (qm_up I 1 4 c) 1 i) := e1_I34
                  rw [e20] at u_I34 k_I34
                  refine qm_Rp.go 0 (c' := (115, [.ref 1], [], (h.1, I34, h.2.2.1, h.2.2.2))) rfl ?_
                  refine qm_Rp.rt (v := none) (h' := (h.1, I34, h.2.2.1, h.2.2.2)) rfl ?_
                  have hR := tR_sign (B := (h.2.1 2)) (n := n.toInt.toNat) (q := c.toInt.toNat) (b := v3) (by omega) q_v3 (by omega) (by omega)
                  have k25 := sgK_b v3.toInt (sgW (h.2.1 2) n.toInt.toNat c.toInt.toNat)
                  subst hs9
                  exact k (I34) (h.2.2.1) nx36 kd37 c (fun o ho i => ((e_I34 o (hk_ms rfl ho) i).trans ((hk_mod ho rfl).trans ((e o (hk_ms rfl ho) i).trans rfl)))) (fun i hi => ((e1_I34 i (hk_ms rfl hi)).trans ((hk_neq (fun z => by subst z; cases hi)).trans ((e1 i (hk_ms rfl hi)).trans rfl)))) (fun o ho i => rfl) q_nx36 q_kd37 (show (I34) 1 4 = _ from ((e1_I34 4 rfl).trans (hk_same))) (by omega) rfl (by rw [hR]; exact k_I34.symm) (by rw [hR]; exact u_I34.symm) (fun z => by omega) (fun z => by omega)
                · refine qm_Rp.go 2 (c' := (17, [.int v3], [.int 1], (h.1, qm_up I 1 4 c, h.2.2.1, h.2.2.2))) rfl ?_
                  refine qm_Rp.rt (v := (some (.int 1))) (h' := (h.1, qm_up I 1 4 c, h.2.2.1, h.2.2.2)) rfl ?_
                  refine qm_Rp.go 2 (c' := (83, [.ref 1], [.ref 1], (h.1, qm_up I 1 4 c, h.2.2.1, h.2.2.2))) rfl ?_
                  have e20 : (h.1, qm_up I 1 4 c, h.2.2.1, h.2.2.2).2.1 2 = h.2.1 2 := show (qm_up I 1 4 c) 2 = h.2.1 2 from funext fun i => ((hk_ot rfl).trans ((e 2 rfl i).trans rfl))
                  refine hp_inv (o := 1) (r := []) (as := [.ref 1]) rfl rfl (hH.1 1 (12, 7) rfl) rfl rfl rfl (px_word (h := (h.1, qm_up I 1 4 c, h.2.2.1, h.2.2.2)) hH (show (qm_up I 1 4 c) 1 1 = _ from ((hk_neq (by decide)).trans ((e1 1 rfl).trans q_n))) hn (show (qm_up I 1 4 c) 1 4 = _ from (hk_same)) (by omega) (fun I38 J39 nx40 kd41 e_I38 e1_I38 ej_I38 q_nx40 q_kd41 b_I38 u_I38 x_I38 k_I38 => ?_) (show (qm_up I 1 4 c) 1 2 = _ from ((hk_neq (by decide)).trans q_c)) (by omega) rfl)
                  have e_I38 : (∀ o, [1].contains o = false → ∀ i, I38 o i = (qm_up I 1 4 c) o i) := e_I38
                  have e1_I38 : (∀ i, [2, 3].contains i = false → I38 1 i = (qm_up I 1 4 c) 1 i) := e1_I38
                  rw [e20] at u_I38 k_I38 x_I38
                  refine qm_Rp.go 1 (c' := (115, [.ref 1], [], (h.1, I38, J39, h.2.2.2))) rfl ?_
                  refine qm_Rp.rt (v := none) (h' := (h.1, I38, J39, h.2.2.2)) rfl ?_
                  subst hs9
                  have hR := tR_w (B := (h.2.1 2)) (n := n.toInt.toNat) (q := c.toInt.toNat) (b := v3) (by omega) q_v3 (by omega)
                  have k25 := kw_b (wlp (h.2.1 2) n.toInt.toNat c.toInt.toNat 0 0).2
                  exact k (I38) (J39) nx40 kd41 c (fun o ho i => ((e_I38 o (hk_ms rfl ho) i).trans ((hk_mod ho rfl).trans ((e o (hk_ms rfl ho) i).trans rfl)))) (fun i hi => ((e1_I38 i (hk_ms rfl hi)).trans ((hk_neq (fun z => by subst z; cases hi)).trans ((e1 i (hk_ms rfl hi)).trans rfl)))) (fun o ho i => ((ej_I38 o (hk_ms rfl ho) i).trans rfl)) q_nx40 q_kd41 (show (I38) 1 4 = _ from ((e1_I38 4 rfl).trans (hk_same))) (by omega) rfl (by rw [hR]; exact k_I38.symm) (by rw [hR]; exact u_I38.symm) (fun z => by exfalso; rw [k_I38] at z; split at z <;> omega) (fun _ => by rw [hR]; exact x_I38)
            · refine qm_Rp.go 2 (c' := (29, [.int v3], [.int 1], (h.1, I, h.2.2.1, h.2.2.2))) rfl ?_
              refine qm_Rp.rt (v := (some (.int 1))) (h' := (h.1, I, h.2.2.1, h.2.2.2)) rfl ?_
              refine qm_Rp.go 3 (c' := (28, [.ref 1], [.ref 1, .ref 1], (h.1, I, h.2.2.1, h.2.2.2))) rfl ?_
              refine hp_geti (v := c) rfl (hH.1 1 (12, 7) rfl) rfl q_c ?_
              refine qm_Rp.go 2 (c' := (33, [.ref 1], [.int (c + 1), .ref 1], (h.1, I, h.2.2.1, h.2.2.2))) rfl ?_
              obtain ⟨v42, q_v42, e_v42⟩ := hk_add (x := c) (y := 1) (a := c.toInt) (b := 1) rfl rfl (by omega) (by omega)
              rw [q_v42]
              refine hp_puti rfl (hH.1 1 (12, 7) rfl) rfl ?_
              refine qm_Rp.go 1 (c' := (0, [.ref 1], [], (h.1, qm_up I 1 2 v42, h.2.2.1, h.2.2.2))) rfl ?_
              exact ih g (by omega) (qm_up I 1 2 v42) v42 (fun o ho i => ((hk_mod ho rfl).trans ((e o (hk_ms rfl ho) i).trans rfl))) (fun i hi => ((hk_neq (fun z => by subst z; cases hi)).trans ((e1 i (hk_ms rfl hi)).trans rfl))) (show (qm_up I 1 2 v42) 1 2 = _ from (hk_same)) (by omega) ((skp_y (b := v3) (by omega) q_v3 (by omega) (by omega)).symm.trans hS)
theorem px_adv {X : Option (Nat × (Nat → Int32))} {Z : Option Value → qm_H → Prop} {h : qm_H} {fu : Nat} (hH : hk_H h) (hB : ∀ i, (-128 : Int) ≤ (h.2.1 2 i).toInt ∧ (h.2.1 2 i).toInt ≤ 127) {n : Int32} {SS : Nat} (q_n : h.2.1 1 1 = n) (hn : 0 ≤ n.toInt ∧ n.toInt ≤ 2000) (k : ∀ (I : Nat → Nat → Int32) (J : Nat → Nat → Int64) (nx kd sa : Int32), (∀ o, [1].contains o = false → ∀ i, I o i = h.2.1 o i) → (∀ i, [2, 3, 4, 5].contains i = false → I 1 i = h.2.1 1 i) → (∀ o, [1].contains o = false → ∀ i, J o i = h.2.2.1 o i) → I 1 2 = nx → I 1 3 = kd → I 1 4 = sa → (0 ≤ sa.toInt ∧ sa.toInt ≤ nx.toInt ∧ nx.toInt ≤ n.toInt) → sa.toInt.toNat = SS → (tR (h.2.1 2) n.toInt.toNat SS).1 = kd.toInt → (tR (h.2.1 2) n.toInt.toNat SS).2.1 = nx.toInt.toNat → (kd.toInt = 25 → I 1 5 = (tR (h.2.1 2) n.toInt.toNat SS).2.2.1) → (kd.toInt = 26 → J 1 6 = (tR (h.2.1 2) n.toInt.toNat SS).2.2.2) → Z none (h.1, I, J, h.2.2.2)) {c : Int32} (q_c : h.2.1 1 2 = c) (hc : 0 ≤ c.toInt ∧ c.toInt ≤ n.toInt) (hS : skp (h.2.1 2) n.toInt.toNat c.toInt.toNat = SS) : qm_Rp fu X cd_21 (qm_ent 1 [.ref 1] h) Z := px_advl hH hB q_n hn k fu h.2.1 c (fun _ _ _ => rfl) (fun _ _ => rfl) q_c hc hS
