/-! the class's ship, in given runs -/
/-- trim, bend with more at a bay, as the class has it -/
noncomputable def cF (B : Int) (bw : Nat → Int) : Nat → Int := fun i => bw i * (2 * (i : Int) + 1 - B)
noncomputable def cT (B : Int) (bw : Nat → Int) (y m : Int) : Int := m * (2 * y + 1 - B) + nS (cF B bw) 5
noncomputable def cE (bw : Nat → Int) (y m : Int) : Nat → Int := fun i => bw i + (if (i : Int) = y then m else 0)
noncomputable def cD (B wt : Int) (bw : Nat → Int) (y m : Int) : Int := bnM B (wt + m) (cE bw y m) (B - 1).toNat
/-- may the ship be so, with m more at a bay and row -/
noncomputable def bo (B g0 g1 g2 ls wt : Int) (bw : Nat → Int) (y x m : Int) : Prop := ab (ls + m * (2 * x - 3)) ≤ g0 ∧ ab (cT B bw y m) ≤ g1 ∧ cD B wt bw y m ≤ g2
noncomputable def nw (B ls wt : Int) (bw : Nat → Int) (y x m : Int) : Prop := ab (ls + m * (2 * x - 3)) ≤ ab ls ∧ ab (cT B bw y m) ≤ ab (cT B bw y 0) ∧ cD B wt bw y m ≤ cD B wt bw y 0
noncomputable def mayC (B g0 g1 g2 ls wt : Int) (bw : Nat → Int) (y x m : Int) : Prop := bo B g0 g1 g2 ls wt bw y x m ∨ nw B ls wt bw y x m
theorem cF_in {B : Int} {bw : Nat → Int} (hB : 0 ≤ B ∧ B ≤ 5) (hb : ∀ c, c < 5 → 0 ≤ bw c ∧ bw c ≤ 1200) (i : Nat) (hi : i < 5) : -12000 ≤ cF B bw i ∧ cF B bw i ≤ 12000 := by
  have b := hb i hi
  have h := zm_bd (x := bw i) (y := 2 * (i : Int) + 1 - B) (u := 1200) (p := 10) (q := 10) b.1 b.2 (by omega) (by omega) (by omega) (by omega)
  unfold cF
  omega
theorem cT_in {B : Int} {bw : Nat → Int} {y m : Int} (hB : 0 ≤ B ∧ B ≤ 5) (hb : ∀ c, c < 5 → 0 ≤ bw c ∧ bw c ≤ 1200) (hy : 0 ≤ y ∧ y ≤ 4) (hm : -80 ≤ m ∧ m ≤ 80) : -61000 ≤ cT B bw y m ∧ cT B bw y m ≤ 61000 := by
  have a := zm_be (x := m) (y := 2 * y + 1 - B) (u := 80) (p := 10) hm.1 hm.2 (by omega) (by omega)
  have s := nS_in (f := cF B bw) (p := -12000) (q := 12000) (n := 5) (fun i hi => cF_in hB hb i hi)
  unfold cT
  omega
theorem cE_in {bw : Nat → Int} {y m : Int} (hb : ∀ c, c < 5 → 0 ≤ bw c ∧ bw c ≤ 1200) (hm : -80 ≤ m ∧ m ≤ 80) (i : Nat) (hi : i < 5) : -1600 ≤ cE bw y m i ∧ cE bw y m i ≤ 1600 := by
  have b := hb i hi
  unfold cE
  split <;> omega
theorem cEs_in {bw : Nat → Int} {y m : Int} (hb : ∀ c, c < 5 → 0 ≤ bw c ∧ bw c ≤ 1200) (hm : -80 ≤ m ∧ m ≤ 80) (i : Nat) (hi : i ≤ 5) : -8000 ≤ nS (cE bw y m) i ∧ nS (cE bw y m) i ≤ 8000 := by
  have s := nS_in (f := cE bw y m) (p := -1600) (q := 1600) (n := i) (fun c hc => cE_in hb hm c (by omega))
  omega
theorem cD_in {B wt : Int} {bw : Nat → Int} {y m : Int} (hB : 1 ≤ B ∧ B ≤ 5) (hw : 0 ≤ wt ∧ wt ≤ 1200) (hb : ∀ c, c < 5 → 0 ≤ bw c ∧ bw c ≤ 1200) (hm : -80 ≤ m ∧ m ≤ 80) : 0 ≤ cD B wt bw y m ∧ cD B wt bw y m ≤ 400000 := bnM_in (by omega) (by omega) (by omega) (fun i hi => cEs_in hb hm i (by omega))
set_option maxHeartbeats 20000000 in
theorem px_ctl29 {X : Option (Nat × (Nat → Int32))} {Z : Option Value → qm_H → Prop} {h : qm_H} (hH : hk_H h) (hT : h.2.2.2 28 2 = some 29) {B : Int32} (q_B : h.2.1 29 0 = B) (hB : 1 ≤ B.toInt ∧ B.toInt ≤ 5) {bw : Nat → Int} (eV : pI h.2.1 37 = bw) (hb : ∀ c, c < 5 → 0 ≤ bw c ∧ bw c ≤ 1200) {y m : Int32} (hy : 0 ≤ y.toInt ∧ y.toInt ≤ 4) (hm : -80 ≤ m.toInt ∧ m.toInt ≤ 80) (k : ∀ s : Int32, s.toInt = cT B.toInt bw y.toInt m.toInt → Z (some (.int s)) h) : ∀ (fu : Nat) (s i : Int32), (0 ≤ i.toInt ∧ i.toInt ≤ 5) → (s.toInt = m.toInt * (2 * y.toInt + 1 - B.toInt) + nS (cF B.toInt bw) i.toInt.toNat) → qm_Rp fu X cd_96 (19, [.ref 28, .int y, .int m, .int s, .int i], [], h) Z := by
  intro fu
  induction fu using Nat.strongRecOn with
  | ind fu ih =>
    intro s i hi hq
    have kz0 : (0 : Int32).toInt = 0 := rfl
    have kz1 : (1 : Int32).toInt = 1 := rfl
    have kz2 : (2 : Int32).toInt = 2 := rfl
    have kz3 : (3 : Int32).toInt = 3 := rfl
    have kz4 : (4 : Int32).toInt = 4 := rfl
    have kz5 : (5 : Int32).toInt = 5 := rfl
    have kz6 : (6 : Int32).toInt = 6 := rfl
    have kz7 : (7 : Int32).toInt = 7 := rfl
    have kz8 : (8 : Int32).toInt = 8 := rfl
    have kz9 : (9 : Int32).toInt = 9 := rfl
    have kzm1 : ((-1) : Int32).toInt = (-1) := rfl
    have kzm2 : ((-2) : Int32).toInt = (-2) := rfl
    have kzm3 : ((-3) : Int32).toInt = (-3) := rfl
    have bs := nS_in (f := cF B.toInt bw) (p := -12000) (q := 12000) (n := i.toInt.toNat) (fun c hc => cF_in (by omega) hb c (by omega))
    have bm := zm_be (x := m.toInt) (y := 2 * y.toInt + 1 - B.toInt) (u := 80) (p := 10) (by omega) (by omega) (by omega) (by omega)
    refine qm_Rp.go1 1 (c' := (22, [.ref 28, .int y, .int m, .int s, .int i], [.int 5, .int i], h)) rfl (fun g hg => ?_)
    refine hp_cge (ix := i.toInt) (iy := 5) rfl rfl rfl (fun z1 => ?_) (fun z1 => ?_)
    · refine qm_Rp.go 1 (c' := (57, [.ref 28, .int y, .int m, .int s, .int i], [.int s], h)) rfl ?_
      refine qm_Rp.rt (v := (some (.int s))) (h' := h) rfl ?_
      exact k s (by rw [hq, show i.toInt.toNat = 5 by omega]; rfl)
    · refine qm_Rp.go 2 (c' := (27, [.ref 28, .int y, .int m, .int s, .int i], [.ref 28, .int s], h)) rfl ?_
      refine hp_getr rfl (hH.1 28 (9, 8) rfl) rfl (hH.2 28 7 (some 37) rfl) ?_
      refine qm_Rp.go 1 (c' := (32, [.ref 28, .int y, .int m, .int s, .int i], [.int i, .ref 37, .int s], h)) rfl ?_
      obtain ⟨v2, q_v2⟩ : ∃ v_, h.2.1 37 i.toInt.toNat = v_ := ⟨_, rfl⟩
      refine hp_ial (v := v2) rfl (hH.1 37 (0, 5) rfl) q_v2 (fun ia_2 ib_2 => ?_)
      refine qm_Rp.go 0 (c' := (33, [.ref 28, .int y, .int m, .int s, .int i], [.int v2, .int s], h)) rfl ?_
      have c_v2 : bw i.toInt.toNat = v2.toInt := by rw [← eV]; exact congrArg Int32.toInt q_v2
      have b_v2 := hb i.toInt.toNat (by omega)
      rw [c_v2] at b_v2
      refine qm_Rp.go 3 (c' := (37, [.ref 28, .int y, .int m, .int s, .int i], [.int (2 * i), .int v2, .int s], h)) rfl ?_
      obtain ⟨v4, q_v4, e_v4⟩ := hk_mul (x := 2) (y := i) (a := 2) (b := i.toInt) rfl rfl (by omega) (by omega)
      rw [q_v4]
      refine qm_Rp.go 2 (c' := (39, [.ref 28, .int y, .int m, .int s, .int i], [.int (v4 + 1), .int v2, .int s], h)) rfl ?_
      obtain ⟨v5, q_v5, e_v5⟩ := hk_add (x := v4) (y := 1) (a := v4.toInt) (b := 1) rfl rfl (by omega) (by omega)
      rw [q_v5]
      refine qm_Rp.go 1 (c' := (40, [.ref 28, .int y, .int m, .int s, .int i], [.ref 28, .int v5, .int v2, .int s], h)) rfl ?_
      refine hp_getr rfl (hH.1 28 (9, 8) rfl) rfl hT ?_
      refine qm_Rp.go 0 (c' := (43, [.ref 28, .int y, .int m, .int s, .int i], [.ref 29, .int v5, .int v2, .int s], h)) rfl ?_
      refine hp_geti (v := B) rfl (hH.1 29 (11, 16) rfl) rfl q_B ?_
      refine qm_Rp.go 1 (c' := (47, [.ref 28, .int y, .int m, .int s, .int i], [.int (v5 - B), .int v2, .int s], h)) rfl ?_
      obtain ⟨v6, q_v6, e_v6⟩ := hk_sub (x := v5) (y := B) (a := v5.toInt) (b := B.toInt) rfl rfl (by omega) (by omega)
      rw [q_v6]
      refine qm_Rp.go 1 (c' := (48, [.ref 28, .int y, .int m, .int s, .int i], [.int (v2 * v6), .int s], h)) rfl ?_
      have m_v7 := zm_bd (x := v2.toInt) (y := v6.toInt) (u := 1200) (p := 4) (q := 8) (by omega) (by omega) (by omega) (by omega) (by omega) (by omega)
      obtain ⟨v7, q_v7, e_v7⟩ := hk_mul (x := v2) (y := v6) (a := v2.toInt) (b := v6.toInt) rfl rfl (by omega) (by omega)
      rw [q_v7]
      refine qm_Rp.go 1 (c' := (49, [.ref 28, .int y, .int m, .int s, .int i], [.int (s + v7)], h)) rfl ?_
      obtain ⟨v8, q_v8, e_v8⟩ := hk_add (x := s) (y := v7) (a := s.toInt) (b := v7.toInt) rfl rfl (by omega) (by omega)
      rw [q_v8]
      refine qm_Rp.go 2 (c' := (53, [.ref 28, .int y, .int m, .int v8, .int (i + 1)], [], h)) rfl ?_
      obtain ⟨v9, q_v9, e_v9⟩ := hk_add (x := i) (y := 1) (a := i.toInt) (b := 1) rfl rfl (by omega) (by omega)
      rw [q_v9]
      refine qm_Rp.go 1 (c' := (19, [.ref 28, .int y, .int m, .int v8, .int v9], [], h)) rfl ?_
      exact ih g hg v8 v9 (by omega) (nS_st (z := v7.toInt) hq (by show _ = bw i.toInt.toNat * (2 * ((i.toInt.toNat : Nat) : Int) + 1 - B.toInt); rw [show ((i.toInt.toNat : Nat) : Int) = i.toInt by omega, c_v2, e_v7, e_v6, e_v5, e_v4]) e_v8 (by omega) (by omega))
theorem px_ctr29 {X : Option (Nat × (Nat → Int32))} {Z : Option Value → qm_H → Prop} {h : qm_H} {fu : Nat} (hH : hk_H h) (hT : h.2.2.2 28 2 = some 29) {B : Int32} (q_B : h.2.1 29 0 = B) (hB : 1 ≤ B.toInt ∧ B.toInt ≤ 5) {bw : Nat → Int} (eV : pI h.2.1 37 = bw) (hb : ∀ c, c < 5 → 0 ≤ bw c ∧ bw c ≤ 1200) {y m : Int32} (hy : 0 ≤ y.toInt ∧ y.toInt ≤ 4) (hm : -80 ≤ m.toInt ∧ m.toInt ≤ 80) (k : ∀ s : Int32, s.toInt = cT B.toInt bw y.toInt m.toInt → Z (some (.int s)) h) : qm_Rp fu X cd_96 (qm_ent 5 [.ref 28, .int y, .int m] h) Z := by
  refine qm_Rp.go 0 (c' := (0, [.ref 28, .int y, .int m, .float 0, .float 0], [], h)) rfl ?_
  have kz0 : (0 : Int32).toInt = 0 := rfl
  have kz1 : (1 : Int32).toInt = 1 := rfl
  have kz2 : (2 : Int32).toInt = 2 := rfl
  have kz3 : (3 : Int32).toInt = 3 := rfl
  have kz4 : (4 : Int32).toInt = 4 := rfl
  have kz5 : (5 : Int32).toInt = 5 := rfl
  have kz6 : (6 : Int32).toInt = 6 := rfl
  have kz7 : (7 : Int32).toInt = 7 := rfl
  have kz8 : (8 : Int32).toInt = 8 := rfl
  have kz9 : (9 : Int32).toInt = 9 := rfl
  have kzm1 : ((-1) : Int32).toInt = (-1) := rfl
  have kzm2 : ((-2) : Int32).toInt = (-2) := rfl
  have kzm3 : ((-3) : Int32).toInt = (-3) := rfl
  refine qm_Rp.go 4 (c' := (4, [.ref 28, .int y, .int m, .float 0, .float 0], [.int (2 * y), .int m], h)) rfl ?_
  obtain ⟨v1, q_v1, e_v1⟩ := hk_mul (x := 2) (y := y) (a := 2) (b := y.toInt) rfl rfl (by omega) (by omega)
  rw [q_v1]
  refine qm_Rp.go 2 (c' := (6, [.ref 28, .int y, .int m, .float 0, .float 0], [.int (v1 + 1), .int m], h)) rfl ?_
  obtain ⟨v2, q_v2, e_v2⟩ := hk_add (x := v1) (y := 1) (a := v1.toInt) (b := 1) rfl rfl (by omega) (by omega)
  rw [q_v2]
  refine qm_Rp.go 1 (c' := (7, [.ref 28, .int y, .int m, .float 0, .float 0], [.ref 28, .int v2, .int m], h)) rfl ?_
  refine hp_getr rfl (hH.1 28 (9, 8) rfl) rfl hT ?_
  refine qm_Rp.go 0 (c' := (10, [.ref 28, .int y, .int m, .float 0, .float 0], [.ref 29, .int v2, .int m], h)) rfl ?_
  refine hp_geti (v := B) rfl (hH.1 29 (11, 16) rfl) rfl q_B ?_
  refine qm_Rp.go 1 (c' := (14, [.ref 28, .int y, .int m, .float 0, .float 0], [.int (v2 - B), .int m], h)) rfl ?_
  obtain ⟨v3, q_v3, e_v3⟩ := hk_sub (x := v2) (y := B) (a := v2.toInt) (b := B.toInt) rfl rfl (by omega) (by omega)
  rw [q_v3]
  refine qm_Rp.go 1 (c' := (15, [.ref 28, .int y, .int m, .float 0, .float 0], [.int (m * v3)], h)) rfl ?_
  have m_v4 := zm_be (x := m.toInt) (y := v3.toInt) (u := 80) (p := 8) (by omega) (by omega) (by omega) (by omega)
  obtain ⟨v4, q_v4, e_v4⟩ := hk_mul (x := m) (y := v3) (a := m.toInt) (b := v3.toInt) rfl rfl (by omega) (by omega)
  rw [q_v4]
  refine qm_Rp.go 3 (c' := (19, [.ref 28, .int y, .int m, .int v4, .int 0], [], h)) rfl ?_
  exact px_ctl29 hH hT q_B hB eV hb hy hm k _ v4 0 ⟨by decide, by decide⟩ (by show _ = _ + (0 : Int); rw [Int.add_zero, e_v4, e_v3, e_v2, e_v1])
set_option maxHeartbeats 20000000 in
theorem px_cbl29 {X : Option (Nat × (Nat → Int32))} {Z : Option Value → qm_H → Prop} {h : qm_H} (hH : hk_H h) (hT : h.2.2.2 28 2 = some 29) {B : Int32} (q_B : h.2.1 29 0 = B) (hB : 1 ≤ B.toInt ∧ B.toInt ≤ 5) {bw : Nat → Int} (eV : pI h.2.1 37 = bw) (hb : ∀ c, c < 5 → 0 ≤ bw c ∧ bw c ≤ 1200) {wt : Int32} (q_wt : h.2.1 28 6 = wt) (hw : 0 ≤ wt.toInt ∧ wt.toInt ≤ 1200) {y m : Int32} (hy : 0 ≤ y.toInt ∧ y.toInt ≤ 4) (hm : -80 ≤ m.toInt ∧ m.toInt ≤ 80) (k : ∀ s : Int32, s.toInt = cD B.toInt wt.toInt bw y.toInt m.toInt → Z (some (.int s)) h) {al : Int32} (hal : al.toInt = wt.toInt + m.toInt) : ∀ (fu : Nat) (u s q i : Int32), (0 ≤ i.toInt ∧ i.toInt + 1 ≤ B.toInt) → (u.toInt = nS (cE bw y.toInt m.toInt) i.toInt.toNat) → (s.toInt = bnS B.toInt al.toInt (cE bw y.toInt m.toInt) i.toInt.toNat) → (q.toInt = bnM B.toInt al.toInt (cE bw y.toInt m.toInt) i.toInt.toNat) → qm_Rp fu X cd_97 (19, [.ref 28, .int y, .int m, .int al, .int u, .int s, .int q, .int i], [], h) Z := by
  intro fu
  induction fu using Nat.strongRecOn with
  | ind fu ih =>
    intro u s q i hi h1 h2 h3
    have kz0 : (0 : Int32).toInt = 0 := rfl
    have kz1 : (1 : Int32).toInt = 1 := rfl
    have kz2 : (2 : Int32).toInt = 2 := rfl
    have kz3 : (3 : Int32).toInt = 3 := rfl
    have kz4 : (4 : Int32).toInt = 4 := rfl
    have kz5 : (5 : Int32).toInt = 5 := rfl
    have kz6 : (6 : Int32).toInt = 6 := rfl
    have kz7 : (7 : Int32).toInt = 7 := rfl
    have kz8 : (8 : Int32).toInt = 8 := rfl
    have kz9 : (9 : Int32).toInt = 9 := rfl
    have kzm1 : ((-1) : Int32).toInt = (-1) := rfl
    have kzm2 : ((-2) : Int32).toInt = (-2) := rfl
    have kzm3 : ((-3) : Int32).toInt = (-3) := rfl
    have hu : ∀ c, c ≤ 5 → -8000 ≤ nS (cE bw y.toInt m.toInt) c ∧ nS (cE bw y.toInt m.toInt) c ≤ 8000 := fun c hc => cEs_in hb hm c hc
    have b1 := hu i.toInt.toNat (by omega)
    rw [← h1] at b1
    have b2 := bnS_in (B := B.toInt) (al := al.toInt) (f := (cE bw y.toInt m.toInt)) (c := i.toInt.toNat) (by omega) (by omega) (by omega) (fun c hc => hu c (by omega))
    rw [← h2] at b2
    have b3 := bnM_in (B := B.toInt) (al := al.toInt) (f := (cE bw y.toInt m.toInt)) (c := i.toInt.toNat) (by omega) (by omega) (by omega) (fun c hc => hu c (by omega))
    rw [← h3] at b3
    refine qm_Rp.go1 1 (c' := (22, [.ref 28, .int y, .int m, .int al, .int u, .int s, .int q, .int i], [.ref 28, .int i], h)) rfl (fun g hg => ?_)
    refine hp_getr rfl (hH.1 28 (9, 8) rfl) rfl hT ?_
    refine qm_Rp.go 0 (c' := (25, [.ref 28, .int y, .int m, .int al, .int u, .int s, .int q, .int i], [.ref 29, .int i], h)) rfl ?_
    refine hp_geti (v := B) rfl (hH.1 29 (11, 16) rfl) rfl q_B ?_
    refine qm_Rp.go 2 (c' := (30, [.ref 28, .int y, .int m, .int al, .int u, .int s, .int q, .int i], [.int (B - 1), .int i], h)) rfl ?_
    obtain ⟨v1, q_v1, e_v1⟩ := hk_sub (x := B) (y := 1) (a := B.toInt) (b := 1) rfl rfl (by omega) (by omega)
    rw [q_v1]
    refine hp_cge (ix := i.toInt) (iy := v1.toInt) rfl rfl rfl (fun z2 => ?_) (fun z2 => ?_)
    · refine qm_Rp.go 1 (c' := (99, [.ref 28, .int y, .int m, .int al, .int u, .int s, .int q, .int i], [.int q], h)) rfl ?_
      refine qm_Rp.rt (v := (some (.int q))) (h' := h) rfl ?_
      exact k q (by rw [h3, hal, show i.toInt.toNat = (B.toInt - 1).toNat by omega]; rfl)
    · refine qm_Rp.go 2 (c' := (36, [.ref 28, .int y, .int m, .int al, .int u, .int s, .int q, .int i], [.ref 28, .int u], h)) rfl ?_
      refine hp_getr rfl (hH.1 28 (9, 8) rfl) rfl (hH.2 28 7 (some 37) rfl) ?_
      refine qm_Rp.go 1 (c' := (41, [.ref 28, .int y, .int m, .int al, .int u, .int s, .int q, .int i], [.int i, .ref 37, .int u], h)) rfl ?_
      obtain ⟨v3, q_v3⟩ : ∃ v_, h.2.1 37 i.toInt.toNat = v_ := ⟨_, rfl⟩
      refine hp_ial (v := v3) rfl (hH.1 37 (0, 5) rfl) q_v3 (fun ia_3 ib_3 => ?_)
      refine qm_Rp.go 0 (c' := (42, [.ref 28, .int y, .int m, .int al, .int u, .int s, .int q, .int i], [.int v3, .int u], h)) rfl ?_
      have c_v3 : bw i.toInt.toNat = v3.toInt := by rw [← eV]; exact congrArg Int32.toInt q_v3
      have b_v3 := hb i.toInt.toNat (by omega)
      rw [c_v3] at b_v3
      refine qm_Rp.go 2 (c' := (45, [.ref 28, .int y, .int m, .int al, .int u, .int s, .int q, .int i], [.int y, .int i, .int v3, .int u], h)) rfl ?_
      refine hp_cne (ix := i.toInt) (iy := y.toInt) rfl rfl rfl (fun z5 => ?_) (fun z5 => ?_)
      · refine qm_Rp.go 0 (c' := (52, [.ref 28, .int y, .int m, .int al, .int u, .int s, .int q, .int i], [.int v3, .int u], h)) rfl ?_
        refine qm_Rp.go 2 (c' := (54, [.ref 28, .int y, .int m, .int al, .int u, .int s, .int q, .int i], [.int (v3 + 0), .int u], h)) rfl ?_
        obtain ⟨v6, q_v6, e_v6⟩ := hk_add (x := v3) (y := 0) (a := v3.toInt) (b := 0) rfl rfl (by omega) (by omega)
        rw [q_v6]
        refine qm_Rp.go 1 (c' := (55, [.ref 28, .int y, .int m, .int al, .int u, .int s, .int q, .int i], [.int (u + v6)], h)) rfl ?_
        obtain ⟨v7, q_v7, e_v7⟩ := hk_add (x := u) (y := v6) (a := u.toInt) (b := v6.toInt) rfl rfl (by omega) (by omega)
        rw [q_v7]
        refine qm_Rp.go 3 (c' := (60, [.ref 28, .int y, .int m, .int al, .int v7, .int s, .int q, .int i], [.ref 28, .int s], h)) rfl ?_
        refine hp_getr rfl (hH.1 28 (9, 8) rfl) rfl hT ?_
        refine qm_Rp.go 0 (c' := (63, [.ref 28, .int y, .int m, .int al, .int v7, .int s, .int q, .int i], [.ref 29, .int s], h)) rfl ?_
        refine hp_geti (v := B) rfl (hH.1 29 (11, 16) rfl) rfl q_B ?_
        refine qm_Rp.go 2 (c' := (69, [.ref 28, .int y, .int m, .int al, .int v7, .int s, .int q, .int i], [.int (B * v7), .int s], h)) rfl ?_
        have m_v8 := zm_bd (x := B.toInt) (y := v7.toInt) (u := 5) (p := 8000) (q := 9200) (by omega) (by omega) (by omega) (by omega) (by omega) (by omega)
        obtain ⟨v8, q_v8, e_v8⟩ := hk_mul (x := B) (y := v7) (a := B.toInt) (b := v7.toInt) rfl rfl (by omega) (by omega)
        rw [q_v8]
        refine qm_Rp.go 3 (c' := (73, [.ref 28, .int y, .int m, .int al, .int v7, .int s, .int q, .int i], [.int (i + 1), .int v8, .int s], h)) rfl ?_
        obtain ⟨v9, q_v9, e_v9⟩ := hk_add (x := i) (y := 1) (a := i.toInt) (b := 1) rfl rfl (by omega) (by omega)
        rw [q_v9]
        refine qm_Rp.go 2 (c' := (75, [.ref 28, .int y, .int m, .int al, .int v7, .int s, .int q, .int i], [.int (v9 * al), .int v8, .int s], h)) rfl ?_
        have m_v10 := zm_bd (x := v9.toInt) (y := al.toInt) (u := 4) (p := 80) (q := 1280) (by omega) (by omega) (by omega) (by omega) (by omega) (by omega)
        obtain ⟨v10, q_v10, e_v10⟩ := hk_mul (x := v9) (y := al) (a := v9.toInt) (b := al.toInt) rfl rfl (by omega) (by omega)
        rw [q_v10]
        refine qm_Rp.go 1 (c' := (76, [.ref 28, .int y, .int m, .int al, .int v7, .int s, .int q, .int i], [.int (v8 - v10), .int s], h)) rfl ?_
        obtain ⟨v11, q_v11, e_v11⟩ := hk_sub (x := v8) (y := v10) (a := v8.toInt) (b := v10.toInt) rfl rfl (by omega) (by omega)
        rw [q_v11]
        refine qm_Rp.go 1 (c' := (77, [.ref 28, .int y, .int m, .int al, .int v7, .int s, .int q, .int i], [.int (s + v11)], h)) rfl ?_
        obtain ⟨v12, q_v12, e_v12⟩ := hk_add (x := s) (y := v11) (a := s.toInt) (b := v11.toInt) rfl rfl (by omega) (by omega)
        rw [q_v12]
        refine qm_Rp.go 3 (c' := (83, [.ref 28, .int y, .int m, .int al, .int v7, .int v12, .int q, .int i], [.int v12, .int q], h)) rfl ?_
        refine qm_Rp.go 1 (c' := (86, [.ref 28, .int y, .int m, .int al, .int v7, .int v12, .int q, .int i], [.int (if 0 ≤ v12 then v12 else 0 - v12), .int q], h)) rfl ?_
        obtain ⟨v13, q_v13⟩ : ∃ v_, (if 0 ≤ v12 then v12 else 0 - v12) = v_ := ⟨_, rfl⟩
        rw [q_v13]
        have e_v13 := m_abs q_v13 (by omega)
        have b_v13 := ab_in (z := v12.toInt) (m := 446320) (by omega) (by omega)
        rw [← e_v13] at b_v13
        refine qm_Rp.go 1 (c' := (89, [.ref 28, .int y, .int m, .int al, .int v7, .int v12, .int q, .int i], [.int (if q < v13 then v13 else q)], h)) rfl ?_
        obtain ⟨v14, q_v14⟩ : ∃ v_, (if q < v13 then v13 else q) = v_ := ⟨_, rfl⟩
        rw [q_v14]
        have e_v14 := m_max q_v14
        have b_v14 : 0 ≤ v14.toInt ∧ v14.toInt ≤ 446320 := by rw [e_v14]; split <;> omega
        refine qm_Rp.go 2 (c' := (94, [.ref 28, .int y, .int m, .int al, .int v7, .int v12, .int v14, .int (i + 1)], [], h)) rfl ?_
        rw [q_v9]
        refine qm_Rp.go 1 (c' := (19, [.ref 28, .int y, .int m, .int al, .int v7, .int v12, .int v14, .int v9], [], h)) rfl ?_
        have hz : v6.toInt = (cE bw y.toInt m.toInt) i.toInt.toNat := by show _ = bw i.toInt.toNat + (if ((i.toInt.toNat : Nat) : Int) = y.toInt then m.toInt else 0); rw [c_v3, if_neg (by omega), e_v6]
        have hu2 : v7.toInt = nS (cE bw y.toInt m.toInt) v9.toInt.toNat := nS_s0 h1 hz e_v7 (by omega) (by omega)
        have hs2 : v12.toInt = bnS B.toInt al.toInt (cE bw y.toInt m.toInt) v9.toInt.toNat := bnS_st h2 hu2 (by rw [e_v12, e_v11, e_v8, e_v10, e_v9]) (by omega) (by omega)
        exact ih g hg v7 v12 v14 v9 (by omega) hu2 hs2 (bnM_m h3 hs2 e_v13 e_v14 (by omega) (by omega))
      · refine qm_Rp.go 0 (c' := (48, [.ref 28, .int y, .int m, .int al, .int u, .int s, .int q, .int i], [.int v3, .int u], h)) rfl ?_
        refine qm_Rp.go 3 (c' := (54, [.ref 28, .int y, .int m, .int al, .int u, .int s, .int q, .int i], [.int (v3 + m), .int u], h)) rfl ?_
        obtain ⟨v15, q_v15, e_v15⟩ := hk_add (x := v3) (y := m) (a := v3.toInt) (b := m.toInt) rfl rfl (by omega) (by omega)
        rw [q_v15]
        refine qm_Rp.go 1 (c' := (55, [.ref 28, .int y, .int m, .int al, .int u, .int s, .int q, .int i], [.int (u + v15)], h)) rfl ?_
        obtain ⟨v16, q_v16, e_v16⟩ := hk_add (x := u) (y := v15) (a := u.toInt) (b := v15.toInt) rfl rfl (by omega) (by omega)
        rw [q_v16]
        refine qm_Rp.go 3 (c' := (60, [.ref 28, .int y, .int m, .int al, .int v16, .int s, .int q, .int i], [.ref 28, .int s], h)) rfl ?_
        refine hp_getr rfl (hH.1 28 (9, 8) rfl) rfl hT ?_
        refine qm_Rp.go 0 (c' := (63, [.ref 28, .int y, .int m, .int al, .int v16, .int s, .int q, .int i], [.ref 29, .int s], h)) rfl ?_
        refine hp_geti (v := B) rfl (hH.1 29 (11, 16) rfl) rfl q_B ?_
        refine qm_Rp.go 2 (c' := (69, [.ref 28, .int y, .int m, .int al, .int v16, .int s, .int q, .int i], [.int (B * v16), .int s], h)) rfl ?_
        have m_v17 := zm_bd (x := B.toInt) (y := v16.toInt) (u := 5) (p := 8080) (q := 9280) (by omega) (by omega) (by omega) (by omega) (by omega) (by omega)
        obtain ⟨v17, q_v17, e_v17⟩ := hk_mul (x := B) (y := v16) (a := B.toInt) (b := v16.toInt) rfl rfl (by omega) (by omega)
        rw [q_v17]
        refine qm_Rp.go 3 (c' := (73, [.ref 28, .int y, .int m, .int al, .int v16, .int s, .int q, .int i], [.int (i + 1), .int v17, .int s], h)) rfl ?_
        obtain ⟨v18, q_v18, e_v18⟩ := hk_add (x := i) (y := 1) (a := i.toInt) (b := 1) rfl rfl (by omega) (by omega)
        rw [q_v18]
        refine qm_Rp.go 2 (c' := (75, [.ref 28, .int y, .int m, .int al, .int v16, .int s, .int q, .int i], [.int (v18 * al), .int v17, .int s], h)) rfl ?_
        have m_v19 := zm_bd (x := v18.toInt) (y := al.toInt) (u := 4) (p := 80) (q := 1280) (by omega) (by omega) (by omega) (by omega) (by omega) (by omega)
        obtain ⟨v19, q_v19, e_v19⟩ := hk_mul (x := v18) (y := al) (a := v18.toInt) (b := al.toInt) rfl rfl (by omega) (by omega)
        rw [q_v19]
        refine qm_Rp.go 1 (c' := (76, [.ref 28, .int y, .int m, .int al, .int v16, .int s, .int q, .int i], [.int (v17 - v19), .int s], h)) rfl ?_
        obtain ⟨v20, q_v20, e_v20⟩ := hk_sub (x := v17) (y := v19) (a := v17.toInt) (b := v19.toInt) rfl rfl (by omega) (by omega)
        rw [q_v20]
        refine qm_Rp.go 1 (c' := (77, [.ref 28, .int y, .int m, .int al, .int v16, .int s, .int q, .int i], [.int (s + v20)], h)) rfl ?_
        obtain ⟨v21, q_v21, e_v21⟩ := hk_add (x := s) (y := v20) (a := s.toInt) (b := v20.toInt) rfl rfl (by omega) (by omega)
        rw [q_v21]
        refine qm_Rp.go 3 (c' := (83, [.ref 28, .int y, .int m, .int al, .int v16, .int v21, .int q, .int i], [.int v21, .int q], h)) rfl ?_
        refine qm_Rp.go 1 (c' := (86, [.ref 28, .int y, .int m, .int al, .int v16, .int v21, .int q, .int i], [.int (if 0 ≤ v21 then v21 else 0 - v21), .int q], h)) rfl ?_
        obtain ⟨v22, q_v22⟩ : ∃ v_, (if 0 ≤ v21 then v21 else 0 - v21) = v_ := ⟨_, rfl⟩
        rw [q_v22]
        have e_v22 := m_abs q_v22 (by omega)
        have b_v22 := ab_in (z := v21.toInt) (m := 446720) (by omega) (by omega)
        rw [← e_v22] at b_v22
        refine qm_Rp.go 1 (c' := (89, [.ref 28, .int y, .int m, .int al, .int v16, .int v21, .int q, .int i], [.int (if q < v22 then v22 else q)], h)) rfl ?_
        obtain ⟨v23, q_v23⟩ : ∃ v_, (if q < v22 then v22 else q) = v_ := ⟨_, rfl⟩
        rw [q_v23]
        have e_v23 := m_max q_v23
        have b_v23 : 0 ≤ v23.toInt ∧ v23.toInt ≤ 446720 := by rw [e_v23]; split <;> omega
        refine qm_Rp.go 2 (c' := (94, [.ref 28, .int y, .int m, .int al, .int v16, .int v21, .int v23, .int (i + 1)], [], h)) rfl ?_
        rw [q_v18]
        refine qm_Rp.go 1 (c' := (19, [.ref 28, .int y, .int m, .int al, .int v16, .int v21, .int v23, .int v18], [], h)) rfl ?_
        have hz : v15.toInt = (cE bw y.toInt m.toInt) i.toInt.toNat := by show _ = bw i.toInt.toNat + (if ((i.toInt.toNat : Nat) : Int) = y.toInt then m.toInt else 0); rw [c_v3, if_pos (by omega), e_v15]
        have hu2 : v16.toInt = nS (cE bw y.toInt m.toInt) v18.toInt.toNat := nS_s0 h1 hz e_v16 (by omega) (by omega)
        have hs2 : v21.toInt = bnS B.toInt al.toInt (cE bw y.toInt m.toInt) v18.toInt.toNat := bnS_st h2 hu2 (by rw [e_v21, e_v20, e_v17, e_v19, e_v18]) (by omega) (by omega)
        exact ih g hg v16 v21 v23 v18 (by omega) hu2 hs2 (bnM_m h3 hs2 e_v22 e_v23 (by omega) (by omega))
theorem px_cbd29 {X : Option (Nat × (Nat → Int32))} {Z : Option Value → qm_H → Prop} {h : qm_H} {fu : Nat} (hH : hk_H h) (hT : h.2.2.2 28 2 = some 29) {B : Int32} (q_B : h.2.1 29 0 = B) (hB : 1 ≤ B.toInt ∧ B.toInt ≤ 5) {bw : Nat → Int} (eV : pI h.2.1 37 = bw) (hb : ∀ c, c < 5 → 0 ≤ bw c ∧ bw c ≤ 1200) {wt : Int32} (q_wt : h.2.1 28 6 = wt) (hw : 0 ≤ wt.toInt ∧ wt.toInt ≤ 1200) {y m : Int32} (hy : 0 ≤ y.toInt ∧ y.toInt ≤ 4) (hm : -80 ≤ m.toInt ∧ m.toInt ≤ 80) (k : ∀ s : Int32, s.toInt = cD B.toInt wt.toInt bw y.toInt m.toInt → Z (some (.int s)) h) : qm_Rp fu X cd_97 (qm_ent 8 [.ref 28, .int y, .int m] h) Z := by
  refine qm_Rp.go 0 (c' := (0, [.ref 28, .int y, .int m, .float 0, .float 0, .float 0, .float 0, .float 0], [], h)) rfl ?_
  have kz0 : (0 : Int32).toInt = 0 := rfl
  have kz1 : (1 : Int32).toInt = 1 := rfl
  have kz2 : (2 : Int32).toInt = 2 := rfl
  have kz3 : (3 : Int32).toInt = 3 := rfl
  have kz4 : (4 : Int32).toInt = 4 := rfl
  have kz5 : (5 : Int32).toInt = 5 := rfl
  have kz6 : (6 : Int32).toInt = 6 := rfl
  have kz7 : (7 : Int32).toInt = 7 := rfl
  have kz8 : (8 : Int32).toInt = 8 := rfl
  have kz9 : (9 : Int32).toInt = 9 := rfl
  have kzm1 : ((-1) : Int32).toInt = (-1) := rfl
  have kzm2 : ((-2) : Int32).toInt = (-2) := rfl
  have kzm3 : ((-3) : Int32).toInt = (-3) := rfl
  refine qm_Rp.go 1 (c' := (1, [.ref 28, .int y, .int m, .float 0, .float 0, .float 0, .float 0, .float 0], [.ref 28], h)) rfl ?_
  refine hp_geti (v := wt) rfl (hH.1 28 (9, 8) rfl) rfl q_wt ?_
  refine qm_Rp.go 2 (c' := (6, [.ref 28, .int y, .int m, .float 0, .float 0, .float 0, .float 0, .float 0], [.int (wt + m)], h)) rfl ?_
  obtain ⟨v1, q_v1, e_v1⟩ := hk_add (x := wt) (y := m) (a := wt.toInt) (b := m.toInt) rfl rfl (by omega) (by omega)
  rw [q_v1]
  refine qm_Rp.go 9 (c' := (19, [.ref 28, .int y, .int m, .int v1, .int 0, .int 0, .int 0, .int 0], [], h)) rfl ?_
  exact px_cbl29 hH hT q_B hB eV hb q_wt hw hy hm k e_v1 _ 0 0 0 0 ⟨by decide, by omega⟩ rfl rfl rfl
theorem px_cbo29 {X : Option (Nat × (Nat → Int32))} {Z : Option Value → qm_H → Prop} {h : qm_H} {fu : Nat} (hH : hk_H h) (hT : h.2.2.2 28 2 = some 29) {B : Int32} (q_B : h.2.1 29 0 = B) (hB : 1 ≤ B.toInt ∧ B.toInt ≤ 5) {bw : Nat → Int} (eV : pI h.2.1 37 = bw) (hb : ∀ c, c < 5 → 0 ≤ bw c ∧ bw c ≤ 1200) {ls wt : Int32} (q_ls : h.2.1 28 5 = ls) (hls : -3600 ≤ ls.toInt ∧ ls.toInt ≤ 3600) (q_wt : h.2.1 28 6 = wt) (hw : 0 ≤ wt.toInt ∧ wt.toInt ≤ 1200) {y x m : Int32} (hy : 0 ≤ y.toInt ∧ y.toInt ≤ 4) (hx : 0 ≤ x.toInt ∧ x.toInt ≤ 3) (hm : -80 ≤ m.toInt ∧ m.toInt ≤ 80) {g0 g1 g2 : Int32} (q_g0 : h.2.1 29 1 = g0) (q_g1 : h.2.1 29 2 = g1) (q_g2 : h.2.1 29 3 = g2) (k : ∀ r : Int32, (r.toInt = 1 ∧ bo B.toInt g0.toInt g1.toInt g2.toInt ls.toInt wt.toInt bw y.toInt x.toInt m.toInt ∨ r.toInt = 0 ∧ ¬ bo B.toInt g0.toInt g1.toInt g2.toInt ls.toInt wt.toInt bw y.toInt x.toInt m.toInt) → Z (some (.int r)) h) : qm_Rp fu X cd_93 (qm_ent 4 [.ref 28, .int y, .int x, .int m] h) Z := by
  refine qm_Rp.go 0 (c' := (0, [.ref 28, .int y, .int x, .int m], [], h)) rfl ?_
  have kz0 : (0 : Int32).toInt = 0 := rfl
  have kz1 : (1 : Int32).toInt = 1 := rfl
  have kz2 : (2 : Int32).toInt = 2 := rfl
  have kz3 : (3 : Int32).toInt = 3 := rfl
  have kz4 : (4 : Int32).toInt = 4 := rfl
  have kz5 : (5 : Int32).toInt = 5 := rfl
  have kz6 : (6 : Int32).toInt = 6 := rfl
  have kz7 : (7 : Int32).toInt = 7 := rfl
  have kz8 : (8 : Int32).toInt = 8 := rfl
  have kz9 : (9 : Int32).toInt = 9 := rfl
  have kzm1 : ((-1) : Int32).toInt = (-1) := rfl
  have kzm2 : ((-2) : Int32).toInt = (-2) := rfl
  have kzm3 : ((-3) : Int32).toInt = (-3) := rfl
  refine qm_Rp.go 3 (c' := (3, [.ref 28, .int y, .int x, .int m], [.int m, .int x, .ref 28], h)) rfl ?_
  refine hp_inv (o := 28) (r := []) (as := [.ref 28, .int x, .int m]) rfl rfl (hH.1 28 (9, 8) rfl) rfl rfl rfl ?_
  refine qm_Rp.go 1 (c' := (1, [.ref 28, .int x, .int m], [.ref 28], h)) rfl ?_
  refine hp_geti (v := ls) rfl (hH.1 28 (9, 8) rfl) rfl q_ls ?_
  refine qm_Rp.go 2 (c' := (6, [.ref 28, .int x, .int m], [.int x, .int m, .int ls], h)) rfl ?_
  refine qm_Rp.call (j := 95) (as := [.int x]) (c' := (9, [.ref 28, .int x, .int m], [.int m, .int ls], h)) rfl rfl ?_
  refine qm_Rp.go 3 (c' := (3, [.int x], [.int (2 * x)], h)) rfl ?_
  obtain ⟨v1, q_v1, e_v1⟩ := hk_mul (x := 2) (y := x) (a := 2) (b := x.toInt) rfl rfl (by omega) (by omega)
  rw [q_v1]
  refine qm_Rp.go 2 (c' := (5, [.int x], [.int (v1 - 3)], h)) rfl ?_
  obtain ⟨v2, q_v2, e_v2⟩ := hk_sub (x := v1) (y := 3) (a := v1.toInt) (b := 3) rfl rfl (by omega) (by omega)
  rw [q_v2]
  refine qm_Rp.rt (v := (some (.int v2))) (h' := h) rfl ?_
  refine qm_Rp.go 1 (c' := (10, [.ref 28, .int x, .int m], [.int (m * v2), .int ls], h)) rfl ?_
  have m_v3 := zm_be (x := m.toInt) (y := v2.toInt) (u := 80) (p := 3) (by omega) (by omega) (by omega) (by omega)
  obtain ⟨v3, q_v3, e_v3⟩ := hk_mul (x := m) (y := v2) (a := m.toInt) (b := v2.toInt) rfl rfl (by omega) (by omega)
  rw [q_v3]
  refine qm_Rp.go 1 (c' := (11, [.ref 28, .int x, .int m], [.int (ls + v3)], h)) rfl ?_
  obtain ⟨v4, q_v4, e_v4⟩ := hk_add (x := ls) (y := v3) (a := ls.toInt) (b := v3.toInt) rfl rfl (by omega) (by omega)
  rw [q_v4]
  refine qm_Rp.rt (v := (some (.int v4))) (h' := h) rfl ?_
  refine qm_Rp.go 0 (c' := (6, [.ref 28, .int y, .int x, .int m], [.int v4], h)) rfl ?_
  refine qm_Rp.go 1 (c' := (9, [.ref 28, .int y, .int x, .int m], [.int (if 0 ≤ v4 then v4 else 0 - v4)], h)) rfl ?_
  obtain ⟨v5, q_v5⟩ : ∃ v_, (if 0 ≤ v4 then v4 else 0 - v4) = v_ := ⟨_, rfl⟩
  rw [q_v5]
  have e_v5 := m_abs q_v5 (by omega)
  have b_v5 := ab_in (z := v4.toInt) (m := 3840) (by omega) (by omega)
  rw [← e_v5] at b_v5
  refine qm_Rp.go 1 (c' := (10, [.ref 28, .int y, .int x, .int m], [.ref 28, .int v5], h)) rfl ?_
  refine hp_getr rfl (hH.1 28 (9, 8) rfl) rfl hT ?_
  refine qm_Rp.go 0 (c' := (13, [.ref 28, .int y, .int x, .int m], [.ref 29, .int v5], h)) rfl ?_
  refine hp_geti (v := g0) rfl (hH.1 29 (11, 16) rfl) rfl q_g0 ?_
  refine qm_Rp.go 0 (c' := (16, [.ref 28, .int y, .int x, .int m], [.int g0, .int v5], h)) rfl ?_
  refine hp_cgt (ix := v5.toInt) (iy := g0.toInt) rfl rfl rfl (fun z6 => ?_) (fun z6 => ?_)
  · refine qm_Rp.go 1 (c' := (59, [.ref 28, .int y, .int x, .int m], [.int 0], h)) rfl ?_
    refine qm_Rp.rt (v := (some (.int 0))) (h' := h) rfl ?_
    rw [e_v4, e_v3, e_v2, e_v1] at e_v5
    exact k 0 (Or.inr ⟨rfl, by unfold bo; omega⟩)
  · refine qm_Rp.go 3 (c' := (22, [.ref 28, .int y, .int x, .int m], [.int m, .int y, .ref 28], h)) rfl ?_
    refine hp_inv (o := 28) (r := []) (as := [.ref 28, .int y, .int m]) rfl rfl (hH.1 28 (9, 8) rfl) rfl rfl rfl (px_ctr29 (m := m) hH hT q_B hB eV hb hy (hm) (fun r7 e_r7 => ?_))
    have b_r7 := cT_in (B := B.toInt) (y := y.toInt) (m := m.toInt) (by omega) hb hy (by omega)
    rw [← e_r7] at b_r7
    refine qm_Rp.go 0 (c' := (25, [.ref 28, .int y, .int x, .int m], [.int r7], h)) rfl ?_
    refine qm_Rp.go 1 (c' := (28, [.ref 28, .int y, .int x, .int m], [.int (if 0 ≤ r7 then r7 else 0 - r7)], h)) rfl ?_
    obtain ⟨v8, q_v8⟩ : ∃ v_, (if 0 ≤ r7 then r7 else 0 - r7) = v_ := ⟨_, rfl⟩
    rw [q_v8]
    have e_v8 := m_abs q_v8 (by omega)
    have b_v8 := ab_in (z := r7.toInt) (m := 61000) (by omega) (by omega)
    rw [← e_v8] at b_v8
    refine qm_Rp.go 1 (c' := (29, [.ref 28, .int y, .int x, .int m], [.ref 28, .int v8], h)) rfl ?_
    refine hp_getr rfl (hH.1 28 (9, 8) rfl) rfl hT ?_
    refine qm_Rp.go 0 (c' := (32, [.ref 28, .int y, .int x, .int m], [.ref 29, .int v8], h)) rfl ?_
    refine hp_geti (v := g1) rfl (hH.1 29 (11, 16) rfl) rfl q_g1 ?_
    refine qm_Rp.go 0 (c' := (35, [.ref 28, .int y, .int x, .int m], [.int g1, .int v8], h)) rfl ?_
    refine hp_cgt (ix := v8.toInt) (iy := g1.toInt) rfl rfl rfl (fun z9 => ?_) (fun z9 => ?_)
    · refine qm_Rp.go 1 (c' := (59, [.ref 28, .int y, .int x, .int m], [.int 0], h)) rfl ?_
      refine qm_Rp.rt (v := (some (.int 0))) (h' := h) rfl ?_
      rw [e_v4, e_v3, e_v2, e_v1] at e_v5
      rw [e_r7] at e_v8
      exact k 0 (Or.inr ⟨rfl, by unfold bo; omega⟩)
    · refine qm_Rp.go 3 (c' := (41, [.ref 28, .int y, .int x, .int m], [.int m, .int y, .ref 28], h)) rfl ?_
      refine hp_inv (o := 28) (r := []) (as := [.ref 28, .int y, .int m]) rfl rfl (hH.1 28 (9, 8) rfl) rfl rfl rfl (px_cbd29 (m := m) hH hT q_B hB eV hb q_wt hw hy (hm) (fun r10 e_r10 => ?_))
      have b_r10 := cD_in (B := B.toInt) (y := y.toInt) (m := m.toInt) hB hw hb (by omega)
      rw [← e_r10] at b_r10
      refine qm_Rp.go 1 (c' := (45, [.ref 28, .int y, .int x, .int m], [.ref 28, .int r10], h)) rfl ?_
      refine hp_getr rfl (hH.1 28 (9, 8) rfl) rfl hT ?_
      refine qm_Rp.go 0 (c' := (48, [.ref 28, .int y, .int x, .int m], [.ref 29, .int r10], h)) rfl ?_
      refine hp_geti (v := g2) rfl (hH.1 29 (11, 16) rfl) rfl q_g2 ?_
      refine qm_Rp.go 0 (c' := (51, [.ref 28, .int y, .int x, .int m], [.int g2, .int r10], h)) rfl ?_
      refine hp_cgt (ix := r10.toInt) (iy := g2.toInt) rfl rfl rfl (fun z11 => ?_) (fun z11 => ?_)
      · refine qm_Rp.go 1 (c' := (59, [.ref 28, .int y, .int x, .int m], [.int 0], h)) rfl ?_
        refine qm_Rp.rt (v := (some (.int 0))) (h' := h) rfl ?_
        rw [e_v4, e_v3, e_v2, e_v1] at e_v5
        rw [e_r7] at e_v8
        exact k 0 (Or.inr ⟨rfl, by unfold bo; omega⟩)
      · refine qm_Rp.go 2 (c' := (59, [.ref 28, .int y, .int x, .int m], [.int 1], h)) rfl ?_
        refine qm_Rp.rt (v := (some (.int 1))) (h' := h) rfl ?_
        rw [e_v4, e_v3, e_v2, e_v1] at e_v5
        rw [e_r7] at e_v8
        exact k 1 (Or.inl ⟨rfl, by unfold bo; omega⟩)
theorem px_cnw29 {X : Option (Nat × (Nat → Int32))} {Z : Option Value → qm_H → Prop} {h : qm_H} {fu : Nat} (hH : hk_H h) (hT : h.2.2.2 28 2 = some 29) {B : Int32} (q_B : h.2.1 29 0 = B) (hB : 1 ≤ B.toInt ∧ B.toInt ≤ 5) {bw : Nat → Int} (eV : pI h.2.1 37 = bw) (hb : ∀ c, c < 5 → 0 ≤ bw c ∧ bw c ≤ 1200) {ls wt : Int32} (q_ls : h.2.1 28 5 = ls) (hls : -3600 ≤ ls.toInt ∧ ls.toInt ≤ 3600) (q_wt : h.2.1 28 6 = wt) (hw : 0 ≤ wt.toInt ∧ wt.toInt ≤ 1200) {y x m : Int32} (hy : 0 ≤ y.toInt ∧ y.toInt ≤ 4) (hx : 0 ≤ x.toInt ∧ x.toInt ≤ 3) (hm : -80 ≤ m.toInt ∧ m.toInt ≤ 80) (k : ∀ r : Int32, (r.toInt = 1 ∧ nw B.toInt ls.toInt wt.toInt bw y.toInt x.toInt m.toInt ∨ r.toInt = 0 ∧ ¬ nw B.toInt ls.toInt wt.toInt bw y.toInt x.toInt m.toInt) → Z (some (.int r)) h) : qm_Rp fu X cd_98 (qm_ent 4 [.ref 28, .int y, .int x, .int m] h) Z := by
  refine qm_Rp.go 0 (c' := (0, [.ref 28, .int y, .int x, .int m], [], h)) rfl ?_
  have kz0 : (0 : Int32).toInt = 0 := rfl
  have kz1 : (1 : Int32).toInt = 1 := rfl
  have kz2 : (2 : Int32).toInt = 2 := rfl
  have kz3 : (3 : Int32).toInt = 3 := rfl
  have kz4 : (4 : Int32).toInt = 4 := rfl
  have kz5 : (5 : Int32).toInt = 5 := rfl
  have kz6 : (6 : Int32).toInt = 6 := rfl
  have kz7 : (7 : Int32).toInt = 7 := rfl
  have kz8 : (8 : Int32).toInt = 8 := rfl
  have kz9 : (9 : Int32).toInt = 9 := rfl
  have kzm1 : ((-1) : Int32).toInt = (-1) := rfl
  have kzm2 : ((-2) : Int32).toInt = (-2) := rfl
  have kzm3 : ((-3) : Int32).toInt = (-3) := rfl
  refine qm_Rp.go 3 (c' := (3, [.ref 28, .int y, .int x, .int m], [.int m, .int x, .ref 28], h)) rfl ?_
  refine hp_inv (o := 28) (r := []) (as := [.ref 28, .int x, .int m]) rfl rfl (hH.1 28 (9, 8) rfl) rfl rfl rfl ?_
  refine qm_Rp.go 1 (c' := (1, [.ref 28, .int x, .int m], [.ref 28], h)) rfl ?_
  refine hp_geti (v := ls) rfl (hH.1 28 (9, 8) rfl) rfl q_ls ?_
  refine qm_Rp.go 2 (c' := (6, [.ref 28, .int x, .int m], [.int x, .int m, .int ls], h)) rfl ?_
  refine qm_Rp.call (j := 95) (as := [.int x]) (c' := (9, [.ref 28, .int x, .int m], [.int m, .int ls], h)) rfl rfl ?_
  refine qm_Rp.go 3 (c' := (3, [.int x], [.int (2 * x)], h)) rfl ?_
  obtain ⟨v1, q_v1, e_v1⟩ := hk_mul (x := 2) (y := x) (a := 2) (b := x.toInt) rfl rfl (by omega) (by omega)
  rw [q_v1]
  refine qm_Rp.go 2 (c' := (5, [.int x], [.int (v1 - 3)], h)) rfl ?_
  obtain ⟨v2, q_v2, e_v2⟩ := hk_sub (x := v1) (y := 3) (a := v1.toInt) (b := 3) rfl rfl (by omega) (by omega)
  rw [q_v2]
  refine qm_Rp.rt (v := (some (.int v2))) (h' := h) rfl ?_
  refine qm_Rp.go 1 (c' := (10, [.ref 28, .int x, .int m], [.int (m * v2), .int ls], h)) rfl ?_
  have m_v3 := zm_be (x := m.toInt) (y := v2.toInt) (u := 80) (p := 3) (by omega) (by omega) (by omega) (by omega)
  obtain ⟨v3, q_v3, e_v3⟩ := hk_mul (x := m) (y := v2) (a := m.toInt) (b := v2.toInt) rfl rfl (by omega) (by omega)
  rw [q_v3]
  refine qm_Rp.go 1 (c' := (11, [.ref 28, .int x, .int m], [.int (ls + v3)], h)) rfl ?_
  obtain ⟨v4, q_v4, e_v4⟩ := hk_add (x := ls) (y := v3) (a := ls.toInt) (b := v3.toInt) rfl rfl (by omega) (by omega)
  rw [q_v4]
  refine qm_Rp.rt (v := (some (.int v4))) (h' := h) rfl ?_
  refine qm_Rp.go 0 (c' := (6, [.ref 28, .int y, .int x, .int m], [.int v4], h)) rfl ?_
  refine qm_Rp.go 1 (c' := (9, [.ref 28, .int y, .int x, .int m], [.int (if 0 ≤ v4 then v4 else 0 - v4)], h)) rfl ?_
  obtain ⟨v5, q_v5⟩ : ∃ v_, (if 0 ≤ v4 then v4 else 0 - v4) = v_ := ⟨_, rfl⟩
  rw [q_v5]
  have e_v5 := m_abs q_v5 (by omega)
  have b_v5 := ab_in (z := v4.toInt) (m := 3840) (by omega) (by omega)
  rw [← e_v5] at b_v5
  refine qm_Rp.go 1 (c' := (10, [.ref 28, .int y, .int x, .int m], [.ref 28, .int v5], h)) rfl ?_
  refine hp_geti (v := ls) rfl (hH.1 28 (9, 8) rfl) rfl q_ls ?_
  refine qm_Rp.go 0 (c' := (13, [.ref 28, .int y, .int x, .int m], [.int ls, .int v5], h)) rfl ?_
  refine qm_Rp.go 1 (c' := (16, [.ref 28, .int y, .int x, .int m], [.int (if 0 ≤ ls then ls else 0 - ls), .int v5], h)) rfl ?_
  obtain ⟨v6, q_v6⟩ : ∃ v_, (if 0 ≤ ls then ls else 0 - ls) = v_ := ⟨_, rfl⟩
  rw [q_v6]
  have e_v6 := m_abs q_v6 (by omega)
  have b_v6 := ab_in (z := ls.toInt) (m := 3600) (by omega) (by omega)
  rw [← e_v6] at b_v6
  refine hp_cgt (ix := v5.toInt) (iy := v6.toInt) rfl rfl rfl (fun z7 => ?_) (fun z7 => ?_)
  · refine qm_Rp.go 1 (c' := (60, [.ref 28, .int y, .int x, .int m], [.int 0], h)) rfl ?_
    refine qm_Rp.rt (v := (some (.int 0))) (h' := h) rfl ?_
    rw [e_v4, e_v3, e_v2, e_v1] at e_v5
    exact k 0 (Or.inr ⟨rfl, by unfold nw; omega⟩)
  · refine qm_Rp.go 3 (c' := (22, [.ref 28, .int y, .int x, .int m], [.int m, .int y, .ref 28], h)) rfl ?_
    refine hp_inv (o := 28) (r := []) (as := [.ref 28, .int y, .int m]) rfl rfl (hH.1 28 (9, 8) rfl) rfl rfl rfl (px_ctr29 (m := m) hH hT q_B hB eV hb hy (hm) (fun r8 e_r8 => ?_))
    have b_r8 := cT_in (B := B.toInt) (y := y.toInt) (m := m.toInt) (by omega) hb hy (by omega)
    rw [← e_r8] at b_r8
    refine qm_Rp.go 0 (c' := (25, [.ref 28, .int y, .int x, .int m], [.int r8], h)) rfl ?_
    refine qm_Rp.go 1 (c' := (28, [.ref 28, .int y, .int x, .int m], [.int (if 0 ≤ r8 then r8 else 0 - r8)], h)) rfl ?_
    obtain ⟨v9, q_v9⟩ : ∃ v_, (if 0 ≤ r8 then r8 else 0 - r8) = v_ := ⟨_, rfl⟩
    rw [q_v9]
    have e_v9 := m_abs q_v9 (by omega)
    have b_v9 := ab_in (z := r8.toInt) (m := 61000) (by omega) (by omega)
    rw [← e_v9] at b_v9
    refine qm_Rp.go 3 (c' := (31, [.ref 28, .int y, .int x, .int m], [.int 0, .int y, .ref 28, .int v9], h)) rfl ?_
    refine hp_inv (o := 28) (r := [.int v9]) (as := [.ref 28, .int y, .int 0]) rfl rfl (hH.1 28 (9, 8) rfl) rfl rfl rfl (px_ctr29 (m := 0) hH hT q_B hB eV hb hy (⟨by decide, by decide⟩) (fun r10 e_r10 => ?_))
    rw [show (0 : Int32).toInt = 0 from rfl] at e_r10
    have b_r10 := cT_in (B := B.toInt) (y := y.toInt) (m := 0) (by omega) hb hy (by omega)
    rw [← e_r10] at b_r10
    refine qm_Rp.go 0 (c' := (34, [.ref 28, .int y, .int x, .int m], [.int r10, .int v9], h)) rfl ?_
    refine qm_Rp.go 1 (c' := (37, [.ref 28, .int y, .int x, .int m], [.int (if 0 ≤ r10 then r10 else 0 - r10), .int v9], h)) rfl ?_
    obtain ⟨v11, q_v11⟩ : ∃ v_, (if 0 ≤ r10 then r10 else 0 - r10) = v_ := ⟨_, rfl⟩
    rw [q_v11]
    have e_v11 := m_abs q_v11 (by omega)
    have b_v11 := ab_in (z := r10.toInt) (m := 61000) (by omega) (by omega)
    rw [← e_v11] at b_v11
    refine hp_cgt (ix := v9.toInt) (iy := v11.toInt) rfl rfl rfl (fun z12 => ?_) (fun z12 => ?_)
    · refine qm_Rp.go 1 (c' := (60, [.ref 28, .int y, .int x, .int m], [.int 0], h)) rfl ?_
      refine qm_Rp.rt (v := (some (.int 0))) (h' := h) rfl ?_
      rw [e_v4, e_v3, e_v2, e_v1] at e_v5
      rw [e_r8] at e_v9
      rw [e_r10] at e_v11
      exact k 0 (Or.inr ⟨rfl, by unfold nw; omega⟩)
    · refine qm_Rp.go 3 (c' := (43, [.ref 28, .int y, .int x, .int m], [.int m, .int y, .ref 28], h)) rfl ?_
      refine hp_inv (o := 28) (r := []) (as := [.ref 28, .int y, .int m]) rfl rfl (hH.1 28 (9, 8) rfl) rfl rfl rfl (px_cbd29 (m := m) hH hT q_B hB eV hb q_wt hw hy (hm) (fun r13 e_r13 => ?_))
      have b_r13 := cD_in (B := B.toInt) (y := y.toInt) (m := m.toInt) hB hw hb (by omega)
      rw [← e_r13] at b_r13
      refine qm_Rp.go 3 (c' := (49, [.ref 28, .int y, .int x, .int m], [.int 0, .int y, .ref 28, .int r13], h)) rfl ?_
      refine hp_inv (o := 28) (r := [.int r13]) (as := [.ref 28, .int y, .int 0]) rfl rfl (hH.1 28 (9, 8) rfl) rfl rfl rfl (px_cbd29 (m := 0) hH hT q_B hB eV hb q_wt hw hy (⟨by decide, by decide⟩) (fun r14 e_r14 => ?_))
      rw [show (0 : Int32).toInt = 0 from rfl] at e_r14
      have b_r14 := cD_in (B := B.toInt) (y := y.toInt) (m := 0) hB hw hb (by omega)
      rw [← e_r14] at b_r14
      refine qm_Rp.go 0 (c' := (52, [.ref 28, .int y, .int x, .int m], [.int r14, .int r13], h)) rfl ?_
      refine hp_cgt (ix := r13.toInt) (iy := r14.toInt) rfl rfl rfl (fun z15 => ?_) (fun z15 => ?_)
      · refine qm_Rp.go 1 (c' := (60, [.ref 28, .int y, .int x, .int m], [.int 0], h)) rfl ?_
        refine qm_Rp.rt (v := (some (.int 0))) (h' := h) rfl ?_
        rw [e_v4, e_v3, e_v2, e_v1] at e_v5
        rw [e_r8] at e_v9
        rw [e_r10] at e_v11
        exact k 0 (Or.inr ⟨rfl, by unfold nw; omega⟩)
      · refine qm_Rp.go 2 (c' := (60, [.ref 28, .int y, .int x, .int m], [.int 1], h)) rfl ?_
        refine qm_Rp.rt (v := (some (.int 1))) (h' := h) rfl ?_
        rw [e_v4, e_v3, e_v2, e_v1] at e_v5
        rw [e_r8] at e_v9
        rw [e_r10] at e_v11
        exact k 1 (Or.inl ⟨rfl, by unfold nw; omega⟩)
set_option maxHeartbeats 20000000 in
theorem px_ctl111 {X : Option (Nat × (Nat → Int32))} {Z : Option Value → qm_H → Prop} {h : qm_H} (hH : hk_H h) (hT : h.2.2.2 28 2 = some 111) {B : Int32} (q_B : h.2.1 111 0 = B) (hB : 1 ≤ B.toInt ∧ B.toInt ≤ 5) {bw : Nat → Int} (eV : pI h.2.1 37 = bw) (hb : ∀ c, c < 5 → 0 ≤ bw c ∧ bw c ≤ 1200) {y m : Int32} (hy : 0 ≤ y.toInt ∧ y.toInt ≤ 4) (hm : -80 ≤ m.toInt ∧ m.toInt ≤ 80) (k : ∀ s : Int32, s.toInt = cT B.toInt bw y.toInt m.toInt → Z (some (.int s)) h) : ∀ (fu : Nat) (s i : Int32), (0 ≤ i.toInt ∧ i.toInt ≤ 5) → (s.toInt = m.toInt * (2 * y.toInt + 1 - B.toInt) + nS (cF B.toInt bw) i.toInt.toNat) → qm_Rp fu X cd_96 (19, [.ref 28, .int y, .int m, .int s, .int i], [], h) Z := by
  intro fu
  induction fu using Nat.strongRecOn with
  | ind fu ih =>
    intro s i hi hq
    have kz0 : (0 : Int32).toInt = 0 := rfl
    have kz1 : (1 : Int32).toInt = 1 := rfl
    have kz2 : (2 : Int32).toInt = 2 := rfl
    have kz3 : (3 : Int32).toInt = 3 := rfl
    have kz4 : (4 : Int32).toInt = 4 := rfl
    have kz5 : (5 : Int32).toInt = 5 := rfl
    have kz6 : (6 : Int32).toInt = 6 := rfl
    have kz7 : (7 : Int32).toInt = 7 := rfl
    have kz8 : (8 : Int32).toInt = 8 := rfl
    have kz9 : (9 : Int32).toInt = 9 := rfl
    have kzm1 : ((-1) : Int32).toInt = (-1) := rfl
    have kzm2 : ((-2) : Int32).toInt = (-2) := rfl
    have kzm3 : ((-3) : Int32).toInt = (-3) := rfl
    have bs := nS_in (f := cF B.toInt bw) (p := -12000) (q := 12000) (n := i.toInt.toNat) (fun c hc => cF_in (by omega) hb c (by omega))
    have bm := zm_be (x := m.toInt) (y := 2 * y.toInt + 1 - B.toInt) (u := 80) (p := 10) (by omega) (by omega) (by omega) (by omega)
    refine qm_Rp.go1 1 (c' := (22, [.ref 28, .int y, .int m, .int s, .int i], [.int 5, .int i], h)) rfl (fun g hg => ?_)
    refine hp_cge (ix := i.toInt) (iy := 5) rfl rfl rfl (fun z1 => ?_) (fun z1 => ?_)
    · refine qm_Rp.go 1 (c' := (57, [.ref 28, .int y, .int m, .int s, .int i], [.int s], h)) rfl ?_
      refine qm_Rp.rt (v := (some (.int s))) (h' := h) rfl ?_
      exact k s (by rw [hq, show i.toInt.toNat = 5 by omega]; rfl)
    · refine qm_Rp.go 2 (c' := (27, [.ref 28, .int y, .int m, .int s, .int i], [.ref 28, .int s], h)) rfl ?_
      refine hp_getr rfl (hH.1 28 (9, 8) rfl) rfl (hH.2 28 7 (some 37) rfl) ?_
      refine qm_Rp.go 1 (c' := (32, [.ref 28, .int y, .int m, .int s, .int i], [.int i, .ref 37, .int s], h)) rfl ?_
      obtain ⟨v2, q_v2⟩ : ∃ v_, h.2.1 37 i.toInt.toNat = v_ := ⟨_, rfl⟩
      refine hp_ial (v := v2) rfl (hH.1 37 (0, 5) rfl) q_v2 (fun ia_2 ib_2 => ?_)
      refine qm_Rp.go 0 (c' := (33, [.ref 28, .int y, .int m, .int s, .int i], [.int v2, .int s], h)) rfl ?_
      have c_v2 : bw i.toInt.toNat = v2.toInt := by rw [← eV]; exact congrArg Int32.toInt q_v2
      have b_v2 := hb i.toInt.toNat (by omega)
      rw [c_v2] at b_v2
      refine qm_Rp.go 3 (c' := (37, [.ref 28, .int y, .int m, .int s, .int i], [.int (2 * i), .int v2, .int s], h)) rfl ?_
      obtain ⟨v4, q_v4, e_v4⟩ := hk_mul (x := 2) (y := i) (a := 2) (b := i.toInt) rfl rfl (by omega) (by omega)
      rw [q_v4]
      refine qm_Rp.go 2 (c' := (39, [.ref 28, .int y, .int m, .int s, .int i], [.int (v4 + 1), .int v2, .int s], h)) rfl ?_
      obtain ⟨v5, q_v5, e_v5⟩ := hk_add (x := v4) (y := 1) (a := v4.toInt) (b := 1) rfl rfl (by omega) (by omega)
      rw [q_v5]
      refine qm_Rp.go 1 (c' := (40, [.ref 28, .int y, .int m, .int s, .int i], [.ref 28, .int v5, .int v2, .int s], h)) rfl ?_
      refine hp_getr rfl (hH.1 28 (9, 8) rfl) rfl hT ?_
      refine qm_Rp.go 0 (c' := (43, [.ref 28, .int y, .int m, .int s, .int i], [.ref 111, .int v5, .int v2, .int s], h)) rfl ?_
      refine hp_geti (v := B) rfl (hH.1 111 (11, 16) rfl) rfl q_B ?_
      refine qm_Rp.go 1 (c' := (47, [.ref 28, .int y, .int m, .int s, .int i], [.int (v5 - B), .int v2, .int s], h)) rfl ?_
      obtain ⟨v6, q_v6, e_v6⟩ := hk_sub (x := v5) (y := B) (a := v5.toInt) (b := B.toInt) rfl rfl (by omega) (by omega)
      rw [q_v6]
      refine qm_Rp.go 1 (c' := (48, [.ref 28, .int y, .int m, .int s, .int i], [.int (v2 * v6), .int s], h)) rfl ?_
      have m_v7 := zm_bd (x := v2.toInt) (y := v6.toInt) (u := 1200) (p := 4) (q := 8) (by omega) (by omega) (by omega) (by omega) (by omega) (by omega)
      obtain ⟨v7, q_v7, e_v7⟩ := hk_mul (x := v2) (y := v6) (a := v2.toInt) (b := v6.toInt) rfl rfl (by omega) (by omega)
      rw [q_v7]
      refine qm_Rp.go 1 (c' := (49, [.ref 28, .int y, .int m, .int s, .int i], [.int (s + v7)], h)) rfl ?_
      obtain ⟨v8, q_v8, e_v8⟩ := hk_add (x := s) (y := v7) (a := s.toInt) (b := v7.toInt) rfl rfl (by omega) (by omega)
      rw [q_v8]
      refine qm_Rp.go 2 (c' := (53, [.ref 28, .int y, .int m, .int v8, .int (i + 1)], [], h)) rfl ?_
      obtain ⟨v9, q_v9, e_v9⟩ := hk_add (x := i) (y := 1) (a := i.toInt) (b := 1) rfl rfl (by omega) (by omega)
      rw [q_v9]
      refine qm_Rp.go 1 (c' := (19, [.ref 28, .int y, .int m, .int v8, .int v9], [], h)) rfl ?_
      exact ih g hg v8 v9 (by omega) (nS_st (z := v7.toInt) hq (by show _ = bw i.toInt.toNat * (2 * ((i.toInt.toNat : Nat) : Int) + 1 - B.toInt); rw [show ((i.toInt.toNat : Nat) : Int) = i.toInt by omega, c_v2, e_v7, e_v6, e_v5, e_v4]) e_v8 (by omega) (by omega))
theorem px_ctr111 {X : Option (Nat × (Nat → Int32))} {Z : Option Value → qm_H → Prop} {h : qm_H} {fu : Nat} (hH : hk_H h) (hT : h.2.2.2 28 2 = some 111) {B : Int32} (q_B : h.2.1 111 0 = B) (hB : 1 ≤ B.toInt ∧ B.toInt ≤ 5) {bw : Nat → Int} (eV : pI h.2.1 37 = bw) (hb : ∀ c, c < 5 → 0 ≤ bw c ∧ bw c ≤ 1200) {y m : Int32} (hy : 0 ≤ y.toInt ∧ y.toInt ≤ 4) (hm : -80 ≤ m.toInt ∧ m.toInt ≤ 80) (k : ∀ s : Int32, s.toInt = cT B.toInt bw y.toInt m.toInt → Z (some (.int s)) h) : qm_Rp fu X cd_96 (qm_ent 5 [.ref 28, .int y, .int m] h) Z := by
  refine qm_Rp.go 0 (c' := (0, [.ref 28, .int y, .int m, .float 0, .float 0], [], h)) rfl ?_
  have kz0 : (0 : Int32).toInt = 0 := rfl
  have kz1 : (1 : Int32).toInt = 1 := rfl
  have kz2 : (2 : Int32).toInt = 2 := rfl
  have kz3 : (3 : Int32).toInt = 3 := rfl
  have kz4 : (4 : Int32).toInt = 4 := rfl
  have kz5 : (5 : Int32).toInt = 5 := rfl
  have kz6 : (6 : Int32).toInt = 6 := rfl
  have kz7 : (7 : Int32).toInt = 7 := rfl
  have kz8 : (8 : Int32).toInt = 8 := rfl
  have kz9 : (9 : Int32).toInt = 9 := rfl
  have kzm1 : ((-1) : Int32).toInt = (-1) := rfl
  have kzm2 : ((-2) : Int32).toInt = (-2) := rfl
  have kzm3 : ((-3) : Int32).toInt = (-3) := rfl
  refine qm_Rp.go 4 (c' := (4, [.ref 28, .int y, .int m, .float 0, .float 0], [.int (2 * y), .int m], h)) rfl ?_
  obtain ⟨v1, q_v1, e_v1⟩ := hk_mul (x := 2) (y := y) (a := 2) (b := y.toInt) rfl rfl (by omega) (by omega)
  rw [q_v1]
  refine qm_Rp.go 2 (c' := (6, [.ref 28, .int y, .int m, .float 0, .float 0], [.int (v1 + 1), .int m], h)) rfl ?_
  obtain ⟨v2, q_v2, e_v2⟩ := hk_add (x := v1) (y := 1) (a := v1.toInt) (b := 1) rfl rfl (by omega) (by omega)
  rw [q_v2]
  refine qm_Rp.go 1 (c' := (7, [.ref 28, .int y, .int m, .float 0, .float 0], [.ref 28, .int v2, .int m], h)) rfl ?_
  refine hp_getr rfl (hH.1 28 (9, 8) rfl) rfl hT ?_
  refine qm_Rp.go 0 (c' := (10, [.ref 28, .int y, .int m, .float 0, .float 0], [.ref 111, .int v2, .int m], h)) rfl ?_
  refine hp_geti (v := B) rfl (hH.1 111 (11, 16) rfl) rfl q_B ?_
  refine qm_Rp.go 1 (c' := (14, [.ref 28, .int y, .int m, .float 0, .float 0], [.int (v2 - B), .int m], h)) rfl ?_
  obtain ⟨v3, q_v3, e_v3⟩ := hk_sub (x := v2) (y := B) (a := v2.toInt) (b := B.toInt) rfl rfl (by omega) (by omega)
  rw [q_v3]
  refine qm_Rp.go 1 (c' := (15, [.ref 28, .int y, .int m, .float 0, .float 0], [.int (m * v3)], h)) rfl ?_
  have m_v4 := zm_be (x := m.toInt) (y := v3.toInt) (u := 80) (p := 8) (by omega) (by omega) (by omega) (by omega)
  obtain ⟨v4, q_v4, e_v4⟩ := hk_mul (x := m) (y := v3) (a := m.toInt) (b := v3.toInt) rfl rfl (by omega) (by omega)
  rw [q_v4]
  refine qm_Rp.go 3 (c' := (19, [.ref 28, .int y, .int m, .int v4, .int 0], [], h)) rfl ?_
  exact px_ctl111 hH hT q_B hB eV hb hy hm k _ v4 0 ⟨by decide, by decide⟩ (by show _ = _ + (0 : Int); rw [Int.add_zero, e_v4, e_v3, e_v2, e_v1])
set_option maxHeartbeats 20000000 in
theorem px_cbl111 {X : Option (Nat × (Nat → Int32))} {Z : Option Value → qm_H → Prop} {h : qm_H} (hH : hk_H h) (hT : h.2.2.2 28 2 = some 111) {B : Int32} (q_B : h.2.1 111 0 = B) (hB : 1 ≤ B.toInt ∧ B.toInt ≤ 5) {bw : Nat → Int} (eV : pI h.2.1 37 = bw) (hb : ∀ c, c < 5 → 0 ≤ bw c ∧ bw c ≤ 1200) {wt : Int32} (q_wt : h.2.1 28 6 = wt) (hw : 0 ≤ wt.toInt ∧ wt.toInt ≤ 1200) {y m : Int32} (hy : 0 ≤ y.toInt ∧ y.toInt ≤ 4) (hm : -80 ≤ m.toInt ∧ m.toInt ≤ 80) (k : ∀ s : Int32, s.toInt = cD B.toInt wt.toInt bw y.toInt m.toInt → Z (some (.int s)) h) {al : Int32} (hal : al.toInt = wt.toInt + m.toInt) : ∀ (fu : Nat) (u s q i : Int32), (0 ≤ i.toInt ∧ i.toInt + 1 ≤ B.toInt) → (u.toInt = nS (cE bw y.toInt m.toInt) i.toInt.toNat) → (s.toInt = bnS B.toInt al.toInt (cE bw y.toInt m.toInt) i.toInt.toNat) → (q.toInt = bnM B.toInt al.toInt (cE bw y.toInt m.toInt) i.toInt.toNat) → qm_Rp fu X cd_97 (19, [.ref 28, .int y, .int m, .int al, .int u, .int s, .int q, .int i], [], h) Z := by
  intro fu
  induction fu using Nat.strongRecOn with
  | ind fu ih =>
    intro u s q i hi h1 h2 h3
    have kz0 : (0 : Int32).toInt = 0 := rfl
    have kz1 : (1 : Int32).toInt = 1 := rfl
    have kz2 : (2 : Int32).toInt = 2 := rfl
    have kz3 : (3 : Int32).toInt = 3 := rfl
    have kz4 : (4 : Int32).toInt = 4 := rfl
    have kz5 : (5 : Int32).toInt = 5 := rfl
    have kz6 : (6 : Int32).toInt = 6 := rfl
    have kz7 : (7 : Int32).toInt = 7 := rfl
    have kz8 : (8 : Int32).toInt = 8 := rfl
    have kz9 : (9 : Int32).toInt = 9 := rfl
    have kzm1 : ((-1) : Int32).toInt = (-1) := rfl
    have kzm2 : ((-2) : Int32).toInt = (-2) := rfl
    have kzm3 : ((-3) : Int32).toInt = (-3) := rfl
    have hu : ∀ c, c ≤ 5 → -8000 ≤ nS (cE bw y.toInt m.toInt) c ∧ nS (cE bw y.toInt m.toInt) c ≤ 8000 := fun c hc => cEs_in hb hm c hc
    have b1 := hu i.toInt.toNat (by omega)
    rw [← h1] at b1
    have b2 := bnS_in (B := B.toInt) (al := al.toInt) (f := (cE bw y.toInt m.toInt)) (c := i.toInt.toNat) (by omega) (by omega) (by omega) (fun c hc => hu c (by omega))
    rw [← h2] at b2
    have b3 := bnM_in (B := B.toInt) (al := al.toInt) (f := (cE bw y.toInt m.toInt)) (c := i.toInt.toNat) (by omega) (by omega) (by omega) (fun c hc => hu c (by omega))
    rw [← h3] at b3
    refine qm_Rp.go1 1 (c' := (22, [.ref 28, .int y, .int m, .int al, .int u, .int s, .int q, .int i], [.ref 28, .int i], h)) rfl (fun g hg => ?_)
    refine hp_getr rfl (hH.1 28 (9, 8) rfl) rfl hT ?_
    refine qm_Rp.go 0 (c' := (25, [.ref 28, .int y, .int m, .int al, .int u, .int s, .int q, .int i], [.ref 111, .int i], h)) rfl ?_
    refine hp_geti (v := B) rfl (hH.1 111 (11, 16) rfl) rfl q_B ?_
    refine qm_Rp.go 2 (c' := (30, [.ref 28, .int y, .int m, .int al, .int u, .int s, .int q, .int i], [.int (B - 1), .int i], h)) rfl ?_
    obtain ⟨v1, q_v1, e_v1⟩ := hk_sub (x := B) (y := 1) (a := B.toInt) (b := 1) rfl rfl (by omega) (by omega)
    rw [q_v1]
    refine hp_cge (ix := i.toInt) (iy := v1.toInt) rfl rfl rfl (fun z2 => ?_) (fun z2 => ?_)
    · refine qm_Rp.go 1 (c' := (99, [.ref 28, .int y, .int m, .int al, .int u, .int s, .int q, .int i], [.int q], h)) rfl ?_
      refine qm_Rp.rt (v := (some (.int q))) (h' := h) rfl ?_
      exact k q (by rw [h3, hal, show i.toInt.toNat = (B.toInt - 1).toNat by omega]; rfl)
    · refine qm_Rp.go 2 (c' := (36, [.ref 28, .int y, .int m, .int al, .int u, .int s, .int q, .int i], [.ref 28, .int u], h)) rfl ?_
      refine hp_getr rfl (hH.1 28 (9, 8) rfl) rfl (hH.2 28 7 (some 37) rfl) ?_
      refine qm_Rp.go 1 (c' := (41, [.ref 28, .int y, .int m, .int al, .int u, .int s, .int q, .int i], [.int i, .ref 37, .int u], h)) rfl ?_
      obtain ⟨v3, q_v3⟩ : ∃ v_, h.2.1 37 i.toInt.toNat = v_ := ⟨_, rfl⟩
      refine hp_ial (v := v3) rfl (hH.1 37 (0, 5) rfl) q_v3 (fun ia_3 ib_3 => ?_)
      refine qm_Rp.go 0 (c' := (42, [.ref 28, .int y, .int m, .int al, .int u, .int s, .int q, .int i], [.int v3, .int u], h)) rfl ?_
      have c_v3 : bw i.toInt.toNat = v3.toInt := by rw [← eV]; exact congrArg Int32.toInt q_v3
      have b_v3 := hb i.toInt.toNat (by omega)
      rw [c_v3] at b_v3
      refine qm_Rp.go 2 (c' := (45, [.ref 28, .int y, .int m, .int al, .int u, .int s, .int q, .int i], [.int y, .int i, .int v3, .int u], h)) rfl ?_
      refine hp_cne (ix := i.toInt) (iy := y.toInt) rfl rfl rfl (fun z5 => ?_) (fun z5 => ?_)
      · refine qm_Rp.go 0 (c' := (52, [.ref 28, .int y, .int m, .int al, .int u, .int s, .int q, .int i], [.int v3, .int u], h)) rfl ?_
        refine qm_Rp.go 2 (c' := (54, [.ref 28, .int y, .int m, .int al, .int u, .int s, .int q, .int i], [.int (v3 + 0), .int u], h)) rfl ?_
        obtain ⟨v6, q_v6, e_v6⟩ := hk_add (x := v3) (y := 0) (a := v3.toInt) (b := 0) rfl rfl (by omega) (by omega)
        rw [q_v6]
        refine qm_Rp.go 1 (c' := (55, [.ref 28, .int y, .int m, .int al, .int u, .int s, .int q, .int i], [.int (u + v6)], h)) rfl ?_
        obtain ⟨v7, q_v7, e_v7⟩ := hk_add (x := u) (y := v6) (a := u.toInt) (b := v6.toInt) rfl rfl (by omega) (by omega)
        rw [q_v7]
        refine qm_Rp.go 3 (c' := (60, [.ref 28, .int y, .int m, .int al, .int v7, .int s, .int q, .int i], [.ref 28, .int s], h)) rfl ?_
        refine hp_getr rfl (hH.1 28 (9, 8) rfl) rfl hT ?_
        refine qm_Rp.go 0 (c' := (63, [.ref 28, .int y, .int m, .int al, .int v7, .int s, .int q, .int i], [.ref 111, .int s], h)) rfl ?_
        refine hp_geti (v := B) rfl (hH.1 111 (11, 16) rfl) rfl q_B ?_
        refine qm_Rp.go 2 (c' := (69, [.ref 28, .int y, .int m, .int al, .int v7, .int s, .int q, .int i], [.int (B * v7), .int s], h)) rfl ?_
        have m_v8 := zm_bd (x := B.toInt) (y := v7.toInt) (u := 5) (p := 8000) (q := 9200) (by omega) (by omega) (by omega) (by omega) (by omega) (by omega)
        obtain ⟨v8, q_v8, e_v8⟩ := hk_mul (x := B) (y := v7) (a := B.toInt) (b := v7.toInt) rfl rfl (by omega) (by omega)
        rw [q_v8]
        refine qm_Rp.go 3 (c' := (73, [.ref 28, .int y, .int m, .int al, .int v7, .int s, .int q, .int i], [.int (i + 1), .int v8, .int s], h)) rfl ?_
        obtain ⟨v9, q_v9, e_v9⟩ := hk_add (x := i) (y := 1) (a := i.toInt) (b := 1) rfl rfl (by omega) (by omega)
        rw [q_v9]
        refine qm_Rp.go 2 (c' := (75, [.ref 28, .int y, .int m, .int al, .int v7, .int s, .int q, .int i], [.int (v9 * al), .int v8, .int s], h)) rfl ?_
        have m_v10 := zm_bd (x := v9.toInt) (y := al.toInt) (u := 4) (p := 80) (q := 1280) (by omega) (by omega) (by omega) (by omega) (by omega) (by omega)
        obtain ⟨v10, q_v10, e_v10⟩ := hk_mul (x := v9) (y := al) (a := v9.toInt) (b := al.toInt) rfl rfl (by omega) (by omega)
        rw [q_v10]
        refine qm_Rp.go 1 (c' := (76, [.ref 28, .int y, .int m, .int al, .int v7, .int s, .int q, .int i], [.int (v8 - v10), .int s], h)) rfl ?_
        obtain ⟨v11, q_v11, e_v11⟩ := hk_sub (x := v8) (y := v10) (a := v8.toInt) (b := v10.toInt) rfl rfl (by omega) (by omega)
        rw [q_v11]
        refine qm_Rp.go 1 (c' := (77, [.ref 28, .int y, .int m, .int al, .int v7, .int s, .int q, .int i], [.int (s + v11)], h)) rfl ?_
        obtain ⟨v12, q_v12, e_v12⟩ := hk_add (x := s) (y := v11) (a := s.toInt) (b := v11.toInt) rfl rfl (by omega) (by omega)
        rw [q_v12]
        refine qm_Rp.go 3 (c' := (83, [.ref 28, .int y, .int m, .int al, .int v7, .int v12, .int q, .int i], [.int v12, .int q], h)) rfl ?_
        refine qm_Rp.go 1 (c' := (86, [.ref 28, .int y, .int m, .int al, .int v7, .int v12, .int q, .int i], [.int (if 0 ≤ v12 then v12 else 0 - v12), .int q], h)) rfl ?_
        obtain ⟨v13, q_v13⟩ : ∃ v_, (if 0 ≤ v12 then v12 else 0 - v12) = v_ := ⟨_, rfl⟩
        rw [q_v13]
        have e_v13 := m_abs q_v13 (by omega)
        have b_v13 := ab_in (z := v12.toInt) (m := 446320) (by omega) (by omega)
        rw [← e_v13] at b_v13
        refine qm_Rp.go 1 (c' := (89, [.ref 28, .int y, .int m, .int al, .int v7, .int v12, .int q, .int i], [.int (if q < v13 then v13 else q)], h)) rfl ?_
        obtain ⟨v14, q_v14⟩ : ∃ v_, (if q < v13 then v13 else q) = v_ := ⟨_, rfl⟩
        rw [q_v14]
        have e_v14 := m_max q_v14
        have b_v14 : 0 ≤ v14.toInt ∧ v14.toInt ≤ 446320 := by rw [e_v14]; split <;> omega
        refine qm_Rp.go 2 (c' := (94, [.ref 28, .int y, .int m, .int al, .int v7, .int v12, .int v14, .int (i + 1)], [], h)) rfl ?_
        rw [q_v9]
        refine qm_Rp.go 1 (c' := (19, [.ref 28, .int y, .int m, .int al, .int v7, .int v12, .int v14, .int v9], [], h)) rfl ?_
        have hz : v6.toInt = (cE bw y.toInt m.toInt) i.toInt.toNat := by show _ = bw i.toInt.toNat + (if ((i.toInt.toNat : Nat) : Int) = y.toInt then m.toInt else 0); rw [c_v3, if_neg (by omega), e_v6]
        have hu2 : v7.toInt = nS (cE bw y.toInt m.toInt) v9.toInt.toNat := nS_s0 h1 hz e_v7 (by omega) (by omega)
        have hs2 : v12.toInt = bnS B.toInt al.toInt (cE bw y.toInt m.toInt) v9.toInt.toNat := bnS_st h2 hu2 (by rw [e_v12, e_v11, e_v8, e_v10, e_v9]) (by omega) (by omega)
        exact ih g hg v7 v12 v14 v9 (by omega) hu2 hs2 (bnM_m h3 hs2 e_v13 e_v14 (by omega) (by omega))
      · refine qm_Rp.go 0 (c' := (48, [.ref 28, .int y, .int m, .int al, .int u, .int s, .int q, .int i], [.int v3, .int u], h)) rfl ?_
        refine qm_Rp.go 3 (c' := (54, [.ref 28, .int y, .int m, .int al, .int u, .int s, .int q, .int i], [.int (v3 + m), .int u], h)) rfl ?_
        obtain ⟨v15, q_v15, e_v15⟩ := hk_add (x := v3) (y := m) (a := v3.toInt) (b := m.toInt) rfl rfl (by omega) (by omega)
        rw [q_v15]
        refine qm_Rp.go 1 (c' := (55, [.ref 28, .int y, .int m, .int al, .int u, .int s, .int q, .int i], [.int (u + v15)], h)) rfl ?_
        obtain ⟨v16, q_v16, e_v16⟩ := hk_add (x := u) (y := v15) (a := u.toInt) (b := v15.toInt) rfl rfl (by omega) (by omega)
        rw [q_v16]
        refine qm_Rp.go 3 (c' := (60, [.ref 28, .int y, .int m, .int al, .int v16, .int s, .int q, .int i], [.ref 28, .int s], h)) rfl ?_
        refine hp_getr rfl (hH.1 28 (9, 8) rfl) rfl hT ?_
        refine qm_Rp.go 0 (c' := (63, [.ref 28, .int y, .int m, .int al, .int v16, .int s, .int q, .int i], [.ref 111, .int s], h)) rfl ?_
        refine hp_geti (v := B) rfl (hH.1 111 (11, 16) rfl) rfl q_B ?_
        refine qm_Rp.go 2 (c' := (69, [.ref 28, .int y, .int m, .int al, .int v16, .int s, .int q, .int i], [.int (B * v16), .int s], h)) rfl ?_
        have m_v17 := zm_bd (x := B.toInt) (y := v16.toInt) (u := 5) (p := 8080) (q := 9280) (by omega) (by omega) (by omega) (by omega) (by omega) (by omega)
        obtain ⟨v17, q_v17, e_v17⟩ := hk_mul (x := B) (y := v16) (a := B.toInt) (b := v16.toInt) rfl rfl (by omega) (by omega)
        rw [q_v17]
        refine qm_Rp.go 3 (c' := (73, [.ref 28, .int y, .int m, .int al, .int v16, .int s, .int q, .int i], [.int (i + 1), .int v17, .int s], h)) rfl ?_
        obtain ⟨v18, q_v18, e_v18⟩ := hk_add (x := i) (y := 1) (a := i.toInt) (b := 1) rfl rfl (by omega) (by omega)
        rw [q_v18]
        refine qm_Rp.go 2 (c' := (75, [.ref 28, .int y, .int m, .int al, .int v16, .int s, .int q, .int i], [.int (v18 * al), .int v17, .int s], h)) rfl ?_
        have m_v19 := zm_bd (x := v18.toInt) (y := al.toInt) (u := 4) (p := 80) (q := 1280) (by omega) (by omega) (by omega) (by omega) (by omega) (by omega)
        obtain ⟨v19, q_v19, e_v19⟩ := hk_mul (x := v18) (y := al) (a := v18.toInt) (b := al.toInt) rfl rfl (by omega) (by omega)
        rw [q_v19]
        refine qm_Rp.go 1 (c' := (76, [.ref 28, .int y, .int m, .int al, .int v16, .int s, .int q, .int i], [.int (v17 - v19), .int s], h)) rfl ?_
        obtain ⟨v20, q_v20, e_v20⟩ := hk_sub (x := v17) (y := v19) (a := v17.toInt) (b := v19.toInt) rfl rfl (by omega) (by omega)
        rw [q_v20]
        refine qm_Rp.go 1 (c' := (77, [.ref 28, .int y, .int m, .int al, .int v16, .int s, .int q, .int i], [.int (s + v20)], h)) rfl ?_
        obtain ⟨v21, q_v21, e_v21⟩ := hk_add (x := s) (y := v20) (a := s.toInt) (b := v20.toInt) rfl rfl (by omega) (by omega)
        rw [q_v21]
        refine qm_Rp.go 3 (c' := (83, [.ref 28, .int y, .int m, .int al, .int v16, .int v21, .int q, .int i], [.int v21, .int q], h)) rfl ?_
        refine qm_Rp.go 1 (c' := (86, [.ref 28, .int y, .int m, .int al, .int v16, .int v21, .int q, .int i], [.int (if 0 ≤ v21 then v21 else 0 - v21), .int q], h)) rfl ?_
        obtain ⟨v22, q_v22⟩ : ∃ v_, (if 0 ≤ v21 then v21 else 0 - v21) = v_ := ⟨_, rfl⟩
        rw [q_v22]
        have e_v22 := m_abs q_v22 (by omega)
        have b_v22 := ab_in (z := v21.toInt) (m := 446720) (by omega) (by omega)
        rw [← e_v22] at b_v22
        refine qm_Rp.go 1 (c' := (89, [.ref 28, .int y, .int m, .int al, .int v16, .int v21, .int q, .int i], [.int (if q < v22 then v22 else q)], h)) rfl ?_
        obtain ⟨v23, q_v23⟩ : ∃ v_, (if q < v22 then v22 else q) = v_ := ⟨_, rfl⟩
        rw [q_v23]
        have e_v23 := m_max q_v23
        have b_v23 : 0 ≤ v23.toInt ∧ v23.toInt ≤ 446720 := by rw [e_v23]; split <;> omega
        refine qm_Rp.go 2 (c' := (94, [.ref 28, .int y, .int m, .int al, .int v16, .int v21, .int v23, .int (i + 1)], [], h)) rfl ?_
        rw [q_v18]
        refine qm_Rp.go 1 (c' := (19, [.ref 28, .int y, .int m, .int al, .int v16, .int v21, .int v23, .int v18], [], h)) rfl ?_
        have hz : v15.toInt = (cE bw y.toInt m.toInt) i.toInt.toNat := by show _ = bw i.toInt.toNat + (if ((i.toInt.toNat : Nat) : Int) = y.toInt then m.toInt else 0); rw [c_v3, if_pos (by omega), e_v15]
        have hu2 : v16.toInt = nS (cE bw y.toInt m.toInt) v18.toInt.toNat := nS_s0 h1 hz e_v16 (by omega) (by omega)
        have hs2 : v21.toInt = bnS B.toInt al.toInt (cE bw y.toInt m.toInt) v18.toInt.toNat := bnS_st h2 hu2 (by rw [e_v21, e_v20, e_v17, e_v19, e_v18]) (by omega) (by omega)
        exact ih g hg v16 v21 v23 v18 (by omega) hu2 hs2 (bnM_m h3 hs2 e_v22 e_v23 (by omega) (by omega))
theorem px_cbd111 {X : Option (Nat × (Nat → Int32))} {Z : Option Value → qm_H → Prop} {h : qm_H} {fu : Nat} (hH : hk_H h) (hT : h.2.2.2 28 2 = some 111) {B : Int32} (q_B : h.2.1 111 0 = B) (hB : 1 ≤ B.toInt ∧ B.toInt ≤ 5) {bw : Nat → Int} (eV : pI h.2.1 37 = bw) (hb : ∀ c, c < 5 → 0 ≤ bw c ∧ bw c ≤ 1200) {wt : Int32} (q_wt : h.2.1 28 6 = wt) (hw : 0 ≤ wt.toInt ∧ wt.toInt ≤ 1200) {y m : Int32} (hy : 0 ≤ y.toInt ∧ y.toInt ≤ 4) (hm : -80 ≤ m.toInt ∧ m.toInt ≤ 80) (k : ∀ s : Int32, s.toInt = cD B.toInt wt.toInt bw y.toInt m.toInt → Z (some (.int s)) h) : qm_Rp fu X cd_97 (qm_ent 8 [.ref 28, .int y, .int m] h) Z := by
  refine qm_Rp.go 0 (c' := (0, [.ref 28, .int y, .int m, .float 0, .float 0, .float 0, .float 0, .float 0], [], h)) rfl ?_
  have kz0 : (0 : Int32).toInt = 0 := rfl
  have kz1 : (1 : Int32).toInt = 1 := rfl
  have kz2 : (2 : Int32).toInt = 2 := rfl
  have kz3 : (3 : Int32).toInt = 3 := rfl
  have kz4 : (4 : Int32).toInt = 4 := rfl
  have kz5 : (5 : Int32).toInt = 5 := rfl
  have kz6 : (6 : Int32).toInt = 6 := rfl
  have kz7 : (7 : Int32).toInt = 7 := rfl
  have kz8 : (8 : Int32).toInt = 8 := rfl
  have kz9 : (9 : Int32).toInt = 9 := rfl
  have kzm1 : ((-1) : Int32).toInt = (-1) := rfl
  have kzm2 : ((-2) : Int32).toInt = (-2) := rfl
  have kzm3 : ((-3) : Int32).toInt = (-3) := rfl
  refine qm_Rp.go 1 (c' := (1, [.ref 28, .int y, .int m, .float 0, .float 0, .float 0, .float 0, .float 0], [.ref 28], h)) rfl ?_
  refine hp_geti (v := wt) rfl (hH.1 28 (9, 8) rfl) rfl q_wt ?_
  refine qm_Rp.go 2 (c' := (6, [.ref 28, .int y, .int m, .float 0, .float 0, .float 0, .float 0, .float 0], [.int (wt + m)], h)) rfl ?_
  obtain ⟨v1, q_v1, e_v1⟩ := hk_add (x := wt) (y := m) (a := wt.toInt) (b := m.toInt) rfl rfl (by omega) (by omega)
  rw [q_v1]
  refine qm_Rp.go 9 (c' := (19, [.ref 28, .int y, .int m, .int v1, .int 0, .int 0, .int 0, .int 0], [], h)) rfl ?_
  exact px_cbl111 hH hT q_B hB eV hb q_wt hw hy hm k e_v1 _ 0 0 0 0 ⟨by decide, by omega⟩ rfl rfl rfl
theorem px_cbo111 {X : Option (Nat × (Nat → Int32))} {Z : Option Value → qm_H → Prop} {h : qm_H} {fu : Nat} (hH : hk_H h) (hT : h.2.2.2 28 2 = some 111) {B : Int32} (q_B : h.2.1 111 0 = B) (hB : 1 ≤ B.toInt ∧ B.toInt ≤ 5) {bw : Nat → Int} (eV : pI h.2.1 37 = bw) (hb : ∀ c, c < 5 → 0 ≤ bw c ∧ bw c ≤ 1200) {ls wt : Int32} (q_ls : h.2.1 28 5 = ls) (hls : -3600 ≤ ls.toInt ∧ ls.toInt ≤ 3600) (q_wt : h.2.1 28 6 = wt) (hw : 0 ≤ wt.toInt ∧ wt.toInt ≤ 1200) {y x m : Int32} (hy : 0 ≤ y.toInt ∧ y.toInt ≤ 4) (hx : 0 ≤ x.toInt ∧ x.toInt ≤ 3) (hm : -80 ≤ m.toInt ∧ m.toInt ≤ 80) {g0 g1 g2 : Int32} (q_g0 : h.2.1 111 1 = g0) (q_g1 : h.2.1 111 2 = g1) (q_g2 : h.2.1 111 3 = g2) (k : ∀ r : Int32, (r.toInt = 1 ∧ bo B.toInt g0.toInt g1.toInt g2.toInt ls.toInt wt.toInt bw y.toInt x.toInt m.toInt ∨ r.toInt = 0 ∧ ¬ bo B.toInt g0.toInt g1.toInt g2.toInt ls.toInt wt.toInt bw y.toInt x.toInt m.toInt) → Z (some (.int r)) h) : qm_Rp fu X cd_93 (qm_ent 4 [.ref 28, .int y, .int x, .int m] h) Z := by
  refine qm_Rp.go 0 (c' := (0, [.ref 28, .int y, .int x, .int m], [], h)) rfl ?_
  have kz0 : (0 : Int32).toInt = 0 := rfl
  have kz1 : (1 : Int32).toInt = 1 := rfl
  have kz2 : (2 : Int32).toInt = 2 := rfl
  have kz3 : (3 : Int32).toInt = 3 := rfl
  have kz4 : (4 : Int32).toInt = 4 := rfl
  have kz5 : (5 : Int32).toInt = 5 := rfl
  have kz6 : (6 : Int32).toInt = 6 := rfl
  have kz7 : (7 : Int32).toInt = 7 := rfl
  have kz8 : (8 : Int32).toInt = 8 := rfl
  have kz9 : (9 : Int32).toInt = 9 := rfl
  have kzm1 : ((-1) : Int32).toInt = (-1) := rfl
  have kzm2 : ((-2) : Int32).toInt = (-2) := rfl
  have kzm3 : ((-3) : Int32).toInt = (-3) := rfl
  refine qm_Rp.go 3 (c' := (3, [.ref 28, .int y, .int x, .int m], [.int m, .int x, .ref 28], h)) rfl ?_
  refine hp_inv (o := 28) (r := []) (as := [.ref 28, .int x, .int m]) rfl rfl (hH.1 28 (9, 8) rfl) rfl rfl rfl ?_
  refine qm_Rp.go 1 (c' := (1, [.ref 28, .int x, .int m], [.ref 28], h)) rfl ?_
  refine hp_geti (v := ls) rfl (hH.1 28 (9, 8) rfl) rfl q_ls ?_
  refine qm_Rp.go 2 (c' := (6, [.ref 28, .int x, .int m], [.int x, .int m, .int ls], h)) rfl ?_
  refine qm_Rp.call (j := 95) (as := [.int x]) (c' := (9, [.ref 28, .int x, .int m], [.int m, .int ls], h)) rfl rfl ?_
  refine qm_Rp.go 3 (c' := (3, [.int x], [.int (2 * x)], h)) rfl ?_
  obtain ⟨v1, q_v1, e_v1⟩ := hk_mul (x := 2) (y := x) (a := 2) (b := x.toInt) rfl rfl (by omega) (by omega)
  rw [q_v1]
  refine qm_Rp.go 2 (c' := (5, [.int x], [.int (v1 - 3)], h)) rfl ?_
  obtain ⟨v2, q_v2, e_v2⟩ := hk_sub (x := v1) (y := 3) (a := v1.toInt) (b := 3) rfl rfl (by omega) (by omega)
  rw [q_v2]
  refine qm_Rp.rt (v := (some (.int v2))) (h' := h) rfl ?_
  refine qm_Rp.go 1 (c' := (10, [.ref 28, .int x, .int m], [.int (m * v2), .int ls], h)) rfl ?_
  have m_v3 := zm_be (x := m.toInt) (y := v2.toInt) (u := 80) (p := 3) (by omega) (by omega) (by omega) (by omega)
  obtain ⟨v3, q_v3, e_v3⟩ := hk_mul (x := m) (y := v2) (a := m.toInt) (b := v2.toInt) rfl rfl (by omega) (by omega)
  rw [q_v3]
  refine qm_Rp.go 1 (c' := (11, [.ref 28, .int x, .int m], [.int (ls + v3)], h)) rfl ?_
  obtain ⟨v4, q_v4, e_v4⟩ := hk_add (x := ls) (y := v3) (a := ls.toInt) (b := v3.toInt) rfl rfl (by omega) (by omega)
  rw [q_v4]
  refine qm_Rp.rt (v := (some (.int v4))) (h' := h) rfl ?_
  refine qm_Rp.go 0 (c' := (6, [.ref 28, .int y, .int x, .int m], [.int v4], h)) rfl ?_
  refine qm_Rp.go 1 (c' := (9, [.ref 28, .int y, .int x, .int m], [.int (if 0 ≤ v4 then v4 else 0 - v4)], h)) rfl ?_
  obtain ⟨v5, q_v5⟩ : ∃ v_, (if 0 ≤ v4 then v4 else 0 - v4) = v_ := ⟨_, rfl⟩
  rw [q_v5]
  have e_v5 := m_abs q_v5 (by omega)
  have b_v5 := ab_in (z := v4.toInt) (m := 3840) (by omega) (by omega)
  rw [← e_v5] at b_v5
  refine qm_Rp.go 1 (c' := (10, [.ref 28, .int y, .int x, .int m], [.ref 28, .int v5], h)) rfl ?_
  refine hp_getr rfl (hH.1 28 (9, 8) rfl) rfl hT ?_
  refine qm_Rp.go 0 (c' := (13, [.ref 28, .int y, .int x, .int m], [.ref 111, .int v5], h)) rfl ?_
  refine hp_geti (v := g0) rfl (hH.1 111 (11, 16) rfl) rfl q_g0 ?_
  refine qm_Rp.go 0 (c' := (16, [.ref 28, .int y, .int x, .int m], [.int g0, .int v5], h)) rfl ?_
  refine hp_cgt (ix := v5.toInt) (iy := g0.toInt) rfl rfl rfl (fun z6 => ?_) (fun z6 => ?_)
  · refine qm_Rp.go 1 (c' := (59, [.ref 28, .int y, .int x, .int m], [.int 0], h)) rfl ?_
    refine qm_Rp.rt (v := (some (.int 0))) (h' := h) rfl ?_
    rw [e_v4, e_v3, e_v2, e_v1] at e_v5
    exact k 0 (Or.inr ⟨rfl, by unfold bo; omega⟩)
  · refine qm_Rp.go 3 (c' := (22, [.ref 28, .int y, .int x, .int m], [.int m, .int y, .ref 28], h)) rfl ?_
    refine hp_inv (o := 28) (r := []) (as := [.ref 28, .int y, .int m]) rfl rfl (hH.1 28 (9, 8) rfl) rfl rfl rfl (px_ctr111 (m := m) hH hT q_B hB eV hb hy (hm) (fun r7 e_r7 => ?_))
    have b_r7 := cT_in (B := B.toInt) (y := y.toInt) (m := m.toInt) (by omega) hb hy (by omega)
    rw [← e_r7] at b_r7
    refine qm_Rp.go 0 (c' := (25, [.ref 28, .int y, .int x, .int m], [.int r7], h)) rfl ?_
    refine qm_Rp.go 1 (c' := (28, [.ref 28, .int y, .int x, .int m], [.int (if 0 ≤ r7 then r7 else 0 - r7)], h)) rfl ?_
    obtain ⟨v8, q_v8⟩ : ∃ v_, (if 0 ≤ r7 then r7 else 0 - r7) = v_ := ⟨_, rfl⟩
    rw [q_v8]
    have e_v8 := m_abs q_v8 (by omega)
    have b_v8 := ab_in (z := r7.toInt) (m := 61000) (by omega) (by omega)
    rw [← e_v8] at b_v8
    refine qm_Rp.go 1 (c' := (29, [.ref 28, .int y, .int x, .int m], [.ref 28, .int v8], h)) rfl ?_
    refine hp_getr rfl (hH.1 28 (9, 8) rfl) rfl hT ?_
    refine qm_Rp.go 0 (c' := (32, [.ref 28, .int y, .int x, .int m], [.ref 111, .int v8], h)) rfl ?_
    refine hp_geti (v := g1) rfl (hH.1 111 (11, 16) rfl) rfl q_g1 ?_
    refine qm_Rp.go 0 (c' := (35, [.ref 28, .int y, .int x, .int m], [.int g1, .int v8], h)) rfl ?_
    refine hp_cgt (ix := v8.toInt) (iy := g1.toInt) rfl rfl rfl (fun z9 => ?_) (fun z9 => ?_)
    · refine qm_Rp.go 1 (c' := (59, [.ref 28, .int y, .int x, .int m], [.int 0], h)) rfl ?_
      refine qm_Rp.rt (v := (some (.int 0))) (h' := h) rfl ?_
      rw [e_v4, e_v3, e_v2, e_v1] at e_v5
      rw [e_r7] at e_v8
      exact k 0 (Or.inr ⟨rfl, by unfold bo; omega⟩)
    · refine qm_Rp.go 3 (c' := (41, [.ref 28, .int y, .int x, .int m], [.int m, .int y, .ref 28], h)) rfl ?_
      refine hp_inv (o := 28) (r := []) (as := [.ref 28, .int y, .int m]) rfl rfl (hH.1 28 (9, 8) rfl) rfl rfl rfl (px_cbd111 (m := m) hH hT q_B hB eV hb q_wt hw hy (hm) (fun r10 e_r10 => ?_))
      have b_r10 := cD_in (B := B.toInt) (y := y.toInt) (m := m.toInt) hB hw hb (by omega)
      rw [← e_r10] at b_r10
      refine qm_Rp.go 1 (c' := (45, [.ref 28, .int y, .int x, .int m], [.ref 28, .int r10], h)) rfl ?_
      refine hp_getr rfl (hH.1 28 (9, 8) rfl) rfl hT ?_
      refine qm_Rp.go 0 (c' := (48, [.ref 28, .int y, .int x, .int m], [.ref 111, .int r10], h)) rfl ?_
      refine hp_geti (v := g2) rfl (hH.1 111 (11, 16) rfl) rfl q_g2 ?_
      refine qm_Rp.go 0 (c' := (51, [.ref 28, .int y, .int x, .int m], [.int g2, .int r10], h)) rfl ?_
      refine hp_cgt (ix := r10.toInt) (iy := g2.toInt) rfl rfl rfl (fun z11 => ?_) (fun z11 => ?_)
      · refine qm_Rp.go 1 (c' := (59, [.ref 28, .int y, .int x, .int m], [.int 0], h)) rfl ?_
        refine qm_Rp.rt (v := (some (.int 0))) (h' := h) rfl ?_
        rw [e_v4, e_v3, e_v2, e_v1] at e_v5
        rw [e_r7] at e_v8
        exact k 0 (Or.inr ⟨rfl, by unfold bo; omega⟩)
      · refine qm_Rp.go 2 (c' := (59, [.ref 28, .int y, .int x, .int m], [.int 1], h)) rfl ?_
        refine qm_Rp.rt (v := (some (.int 1))) (h' := h) rfl ?_
        rw [e_v4, e_v3, e_v2, e_v1] at e_v5
        rw [e_r7] at e_v8
        exact k 1 (Or.inl ⟨rfl, by unfold bo; omega⟩)
theorem px_cnw111 {X : Option (Nat × (Nat → Int32))} {Z : Option Value → qm_H → Prop} {h : qm_H} {fu : Nat} (hH : hk_H h) (hT : h.2.2.2 28 2 = some 111) {B : Int32} (q_B : h.2.1 111 0 = B) (hB : 1 ≤ B.toInt ∧ B.toInt ≤ 5) {bw : Nat → Int} (eV : pI h.2.1 37 = bw) (hb : ∀ c, c < 5 → 0 ≤ bw c ∧ bw c ≤ 1200) {ls wt : Int32} (q_ls : h.2.1 28 5 = ls) (hls : -3600 ≤ ls.toInt ∧ ls.toInt ≤ 3600) (q_wt : h.2.1 28 6 = wt) (hw : 0 ≤ wt.toInt ∧ wt.toInt ≤ 1200) {y x m : Int32} (hy : 0 ≤ y.toInt ∧ y.toInt ≤ 4) (hx : 0 ≤ x.toInt ∧ x.toInt ≤ 3) (hm : -80 ≤ m.toInt ∧ m.toInt ≤ 80) (k : ∀ r : Int32, (r.toInt = 1 ∧ nw B.toInt ls.toInt wt.toInt bw y.toInt x.toInt m.toInt ∨ r.toInt = 0 ∧ ¬ nw B.toInt ls.toInt wt.toInt bw y.toInt x.toInt m.toInt) → Z (some (.int r)) h) : qm_Rp fu X cd_98 (qm_ent 4 [.ref 28, .int y, .int x, .int m] h) Z := by
  refine qm_Rp.go 0 (c' := (0, [.ref 28, .int y, .int x, .int m], [], h)) rfl ?_
  have kz0 : (0 : Int32).toInt = 0 := rfl
  have kz1 : (1 : Int32).toInt = 1 := rfl
  have kz2 : (2 : Int32).toInt = 2 := rfl
  have kz3 : (3 : Int32).toInt = 3 := rfl
  have kz4 : (4 : Int32).toInt = 4 := rfl
  have kz5 : (5 : Int32).toInt = 5 := rfl
  have kz6 : (6 : Int32).toInt = 6 := rfl
  have kz7 : (7 : Int32).toInt = 7 := rfl
  have kz8 : (8 : Int32).toInt = 8 := rfl
  have kz9 : (9 : Int32).toInt = 9 := rfl
  have kzm1 : ((-1) : Int32).toInt = (-1) := rfl
  have kzm2 : ((-2) : Int32).toInt = (-2) := rfl
  have kzm3 : ((-3) : Int32).toInt = (-3) := rfl
  refine qm_Rp.go 3 (c' := (3, [.ref 28, .int y, .int x, .int m], [.int m, .int x, .ref 28], h)) rfl ?_
  refine hp_inv (o := 28) (r := []) (as := [.ref 28, .int x, .int m]) rfl rfl (hH.1 28 (9, 8) rfl) rfl rfl rfl ?_
  refine qm_Rp.go 1 (c' := (1, [.ref 28, .int x, .int m], [.ref 28], h)) rfl ?_
  refine hp_geti (v := ls) rfl (hH.1 28 (9, 8) rfl) rfl q_ls ?_
  refine qm_Rp.go 2 (c' := (6, [.ref 28, .int x, .int m], [.int x, .int m, .int ls], h)) rfl ?_
  refine qm_Rp.call (j := 95) (as := [.int x]) (c' := (9, [.ref 28, .int x, .int m], [.int m, .int ls], h)) rfl rfl ?_
  refine qm_Rp.go 3 (c' := (3, [.int x], [.int (2 * x)], h)) rfl ?_
  obtain ⟨v1, q_v1, e_v1⟩ := hk_mul (x := 2) (y := x) (a := 2) (b := x.toInt) rfl rfl (by omega) (by omega)
  rw [q_v1]
  refine qm_Rp.go 2 (c' := (5, [.int x], [.int (v1 - 3)], h)) rfl ?_
  obtain ⟨v2, q_v2, e_v2⟩ := hk_sub (x := v1) (y := 3) (a := v1.toInt) (b := 3) rfl rfl (by omega) (by omega)
  rw [q_v2]
  refine qm_Rp.rt (v := (some (.int v2))) (h' := h) rfl ?_
  refine qm_Rp.go 1 (c' := (10, [.ref 28, .int x, .int m], [.int (m * v2), .int ls], h)) rfl ?_
  have m_v3 := zm_be (x := m.toInt) (y := v2.toInt) (u := 80) (p := 3) (by omega) (by omega) (by omega) (by omega)
  obtain ⟨v3, q_v3, e_v3⟩ := hk_mul (x := m) (y := v2) (a := m.toInt) (b := v2.toInt) rfl rfl (by omega) (by omega)
  rw [q_v3]
  refine qm_Rp.go 1 (c' := (11, [.ref 28, .int x, .int m], [.int (ls + v3)], h)) rfl ?_
  obtain ⟨v4, q_v4, e_v4⟩ := hk_add (x := ls) (y := v3) (a := ls.toInt) (b := v3.toInt) rfl rfl (by omega) (by omega)
  rw [q_v4]
  refine qm_Rp.rt (v := (some (.int v4))) (h' := h) rfl ?_
  refine qm_Rp.go 0 (c' := (6, [.ref 28, .int y, .int x, .int m], [.int v4], h)) rfl ?_
  refine qm_Rp.go 1 (c' := (9, [.ref 28, .int y, .int x, .int m], [.int (if 0 ≤ v4 then v4 else 0 - v4)], h)) rfl ?_
  obtain ⟨v5, q_v5⟩ : ∃ v_, (if 0 ≤ v4 then v4 else 0 - v4) = v_ := ⟨_, rfl⟩
  rw [q_v5]
  have e_v5 := m_abs q_v5 (by omega)
  have b_v5 := ab_in (z := v4.toInt) (m := 3840) (by omega) (by omega)
  rw [← e_v5] at b_v5
  refine qm_Rp.go 1 (c' := (10, [.ref 28, .int y, .int x, .int m], [.ref 28, .int v5], h)) rfl ?_
  refine hp_geti (v := ls) rfl (hH.1 28 (9, 8) rfl) rfl q_ls ?_
  refine qm_Rp.go 0 (c' := (13, [.ref 28, .int y, .int x, .int m], [.int ls, .int v5], h)) rfl ?_
  refine qm_Rp.go 1 (c' := (16, [.ref 28, .int y, .int x, .int m], [.int (if 0 ≤ ls then ls else 0 - ls), .int v5], h)) rfl ?_
  obtain ⟨v6, q_v6⟩ : ∃ v_, (if 0 ≤ ls then ls else 0 - ls) = v_ := ⟨_, rfl⟩
  rw [q_v6]
  have e_v6 := m_abs q_v6 (by omega)
  have b_v6 := ab_in (z := ls.toInt) (m := 3600) (by omega) (by omega)
  rw [← e_v6] at b_v6
  refine hp_cgt (ix := v5.toInt) (iy := v6.toInt) rfl rfl rfl (fun z7 => ?_) (fun z7 => ?_)
  · refine qm_Rp.go 1 (c' := (60, [.ref 28, .int y, .int x, .int m], [.int 0], h)) rfl ?_
    refine qm_Rp.rt (v := (some (.int 0))) (h' := h) rfl ?_
    rw [e_v4, e_v3, e_v2, e_v1] at e_v5
    exact k 0 (Or.inr ⟨rfl, by unfold nw; omega⟩)
  · refine qm_Rp.go 3 (c' := (22, [.ref 28, .int y, .int x, .int m], [.int m, .int y, .ref 28], h)) rfl ?_
    refine hp_inv (o := 28) (r := []) (as := [.ref 28, .int y, .int m]) rfl rfl (hH.1 28 (9, 8) rfl) rfl rfl rfl (px_ctr111 (m := m) hH hT q_B hB eV hb hy (hm) (fun r8 e_r8 => ?_))
    have b_r8 := cT_in (B := B.toInt) (y := y.toInt) (m := m.toInt) (by omega) hb hy (by omega)
    rw [← e_r8] at b_r8
    refine qm_Rp.go 0 (c' := (25, [.ref 28, .int y, .int x, .int m], [.int r8], h)) rfl ?_
    refine qm_Rp.go 1 (c' := (28, [.ref 28, .int y, .int x, .int m], [.int (if 0 ≤ r8 then r8 else 0 - r8)], h)) rfl ?_
    obtain ⟨v9, q_v9⟩ : ∃ v_, (if 0 ≤ r8 then r8 else 0 - r8) = v_ := ⟨_, rfl⟩
    rw [q_v9]
    have e_v9 := m_abs q_v9 (by omega)
    have b_v9 := ab_in (z := r8.toInt) (m := 61000) (by omega) (by omega)
    rw [← e_v9] at b_v9
    refine qm_Rp.go 3 (c' := (31, [.ref 28, .int y, .int x, .int m], [.int 0, .int y, .ref 28, .int v9], h)) rfl ?_
    refine hp_inv (o := 28) (r := [.int v9]) (as := [.ref 28, .int y, .int 0]) rfl rfl (hH.1 28 (9, 8) rfl) rfl rfl rfl (px_ctr111 (m := 0) hH hT q_B hB eV hb hy (⟨by decide, by decide⟩) (fun r10 e_r10 => ?_))
    rw [show (0 : Int32).toInt = 0 from rfl] at e_r10
    have b_r10 := cT_in (B := B.toInt) (y := y.toInt) (m := 0) (by omega) hb hy (by omega)
    rw [← e_r10] at b_r10
    refine qm_Rp.go 0 (c' := (34, [.ref 28, .int y, .int x, .int m], [.int r10, .int v9], h)) rfl ?_
    refine qm_Rp.go 1 (c' := (37, [.ref 28, .int y, .int x, .int m], [.int (if 0 ≤ r10 then r10 else 0 - r10), .int v9], h)) rfl ?_
    obtain ⟨v11, q_v11⟩ : ∃ v_, (if 0 ≤ r10 then r10 else 0 - r10) = v_ := ⟨_, rfl⟩
    rw [q_v11]
    have e_v11 := m_abs q_v11 (by omega)
    have b_v11 := ab_in (z := r10.toInt) (m := 61000) (by omega) (by omega)
    rw [← e_v11] at b_v11
    refine hp_cgt (ix := v9.toInt) (iy := v11.toInt) rfl rfl rfl (fun z12 => ?_) (fun z12 => ?_)
    · refine qm_Rp.go 1 (c' := (60, [.ref 28, .int y, .int x, .int m], [.int 0], h)) rfl ?_
      refine qm_Rp.rt (v := (some (.int 0))) (h' := h) rfl ?_
      rw [e_v4, e_v3, e_v2, e_v1] at e_v5
      rw [e_r8] at e_v9
      rw [e_r10] at e_v11
      exact k 0 (Or.inr ⟨rfl, by unfold nw; omega⟩)
    · refine qm_Rp.go 3 (c' := (43, [.ref 28, .int y, .int x, .int m], [.int m, .int y, .ref 28], h)) rfl ?_
      refine hp_inv (o := 28) (r := []) (as := [.ref 28, .int y, .int m]) rfl rfl (hH.1 28 (9, 8) rfl) rfl rfl rfl (px_cbd111 (m := m) hH hT q_B hB eV hb q_wt hw hy (hm) (fun r13 e_r13 => ?_))
      have b_r13 := cD_in (B := B.toInt) (y := y.toInt) (m := m.toInt) hB hw hb (by omega)
      rw [← e_r13] at b_r13
      refine qm_Rp.go 3 (c' := (49, [.ref 28, .int y, .int x, .int m], [.int 0, .int y, .ref 28, .int r13], h)) rfl ?_
      refine hp_inv (o := 28) (r := [.int r13]) (as := [.ref 28, .int y, .int 0]) rfl rfl (hH.1 28 (9, 8) rfl) rfl rfl rfl (px_cbd111 (m := 0) hH hT q_B hB eV hb q_wt hw hy (⟨by decide, by decide⟩) (fun r14 e_r14 => ?_))
      rw [show (0 : Int32).toInt = 0 from rfl] at e_r14
      have b_r14 := cD_in (B := B.toInt) (y := y.toInt) (m := 0) hB hw hb (by omega)
      rw [← e_r14] at b_r14
      refine qm_Rp.go 0 (c' := (52, [.ref 28, .int y, .int x, .int m], [.int r14, .int r13], h)) rfl ?_
      refine hp_cgt (ix := r13.toInt) (iy := r14.toInt) rfl rfl rfl (fun z15 => ?_) (fun z15 => ?_)
      · refine qm_Rp.go 1 (c' := (60, [.ref 28, .int y, .int x, .int m], [.int 0], h)) rfl ?_
        refine qm_Rp.rt (v := (some (.int 0))) (h' := h) rfl ?_
        rw [e_v4, e_v3, e_v2, e_v1] at e_v5
        rw [e_r8] at e_v9
        rw [e_r10] at e_v11
        exact k 0 (Or.inr ⟨rfl, by unfold nw; omega⟩)
      · refine qm_Rp.go 2 (c' := (60, [.ref 28, .int y, .int x, .int m], [.int 1], h)) rfl ?_
        refine qm_Rp.rt (v := (some (.int 1))) (h' := h) rfl ?_
        rw [e_v4, e_v3, e_v2, e_v1] at e_v5
        rw [e_r8] at e_v9
        rw [e_r10] at e_v11
        exact k 1 (Or.inl ⟨rfl, by unfold nw; omega⟩)
theorem fr_in {cv y : Int32} {x : Int} {c : Nat → Int} (hy : 0 ≤ y.toInt ∧ y.toInt ≤ 4) (hx : 0 ≤ x ∧ x ≤ 3) (h : ¬ frV cv y x c = -1) : 16 * y.toInt + 4 * x ≤ frV cv y x c ∧ frV cv y x c ≤ 16 * y.toInt + 4 * x + 3 ∧ c (frV cv y x c).toNat = -1 := by
  have hl : 16 * y.toInt + 4 * x ≤ lowV cv y x ∧ lowV cv y x ≤ 16 * y.toInt + 4 * x + 2 := by
    unfold lowV
    split <;> omega
  by_cases c1 : c (lowV cv y x).toNat = -1
  · rw [fr_1 rfl c1]
    exact ⟨by omega, by omega, c1⟩
  · by_cases c2 : c (lowV cv y x + 1).toNat = -1
    · rw [fr_2 rfl c1 c2]
      exact ⟨by omega, by omega, c2⟩
    · exact absurd (fr_3 rfl c1 c2) h
theorem pz_in5 {I : Nat → Nat → Int32} {o : Nat} {F : Nat → Int} {a b : Int} (p : pI I o = F) (h : ∀ c, c < 5 → a ≤ F c ∧ F c ≤ b) : ∀ c, c < 5 → a ≤ pI I o c ∧ pI I o c ≤ b := by
  intro c hc
  rw [p]
  exact h c hc
theorem pz_w {I : Nat → Nat → Int32} {o x : Nat} {F : Nat → Int} {a b : Int} (p : pI I o = F) (h : a ≤ F x ∧ F x ≤ b) : a ≤ pI I o x ∧ pI I o x ≤ b := by
  rw [p]
  exact h
theorem fu_cm {f : Nat → Int} {p q : Nat} {a b : Int} (hne : q ≠ p) : fu_up (fu_up f q b) p a = fu_up (fu_up f p a) q b := funext fun i => by
  by_cases e : i = p
  · subst e
    rw [fu_eq, fu_ne (fun z => hne z.symm), fu_eq]
  · rw [fu_ne e]
    by_cases e2 : i = q
    · subst e2
      rw [fu_eq, fu_eq]
    · rw [fu_ne e2, fu_ne e2, fu_ne e]
theorem px_cft {X : Option (Nat × (Nat → Int32))} {Z : Option Value → qm_H → Prop} {h : qm_H} {fu : Nat} (hH : hk_H h) {y x cv : Int32} (hy : 0 ≤ y.toInt ∧ y.toInt ≤ 4) (hx : 0 ≤ x.toInt ∧ x.toInt ≤ 3) (q_cv : h.2.1 28 4 = cv) (k : ∀ r : Int32, ((r.toInt = -1 ∧ frV cv y x.toInt (pI h.2.1 36) = -1) ∨ (0 ≤ r.toInt ∧ r.toInt ≤ 3 ∧ frV cv y x.toInt (pI h.2.1 36) = 16 * y.toInt + 4 * x.toInt + r.toInt)) → Z (some (.int r)) h) : qm_Rp fu X cd_91 (qm_ent 4 [.ref 28, .int y, .int x] h) Z := by
  refine qm_Rp.go 0 (c' := (0, [.ref 28, .int y, .int x, .float 0], [], h)) rfl ?_
  have kz0 : (0 : Int32).toInt = 0 := rfl
  have kz1 : (1 : Int32).toInt = 1 := rfl
  have kz2 : (2 : Int32).toInt = 2 := rfl
  have kz3 : (3 : Int32).toInt = 3 := rfl
  have kz4 : (4 : Int32).toInt = 4 := rfl
  have kz5 : (5 : Int32).toInt = 5 := rfl
  have kz6 : (6 : Int32).toInt = 6 := rfl
  have kz7 : (7 : Int32).toInt = 7 := rfl
  have kz8 : (8 : Int32).toInt = 8 := rfl
  have kz9 : (9 : Int32).toInt = 9 := rfl
  have kzm1 : ((-1) : Int32).toInt = (-1) := rfl
  have kzm2 : ((-2) : Int32).toInt = (-2) := rfl
  have kzm3 : ((-3) : Int32).toInt = (-3) := rfl
  refine qm_Rp.go 2 (c' := (2, [.ref 28, .int y, .int x, .float 0], [.int y, .ref 28], h)) rfl ?_
  refine hp_inv (o := 28) (r := []) (as := [.ref 28, .int y]) rfl rfl (hH.1 28 (9, 8) rfl) rfl rfl rfl ?_
  refine qm_Rp.go 2 (c' := (2, [.ref 28, .int y], [.int y, .ref 28], h)) rfl ?_
  refine hp_inv (o := 28) (r := []) (as := [.ref 28, .int y]) rfl rfl (hH.1 28 (9, 8) rfl) rfl rfl rfl ?_
  refine qm_Rp.go 1 (c' := (1, [.ref 28, .int y], [.ref 28], h)) rfl ?_
  refine hp_geti (v := cv) rfl (hH.1 28 (9, 8) rfl) rfl q_cv ?_
  refine qm_Rp.go 2 (c' := (6, [.ref 28, .int y], [.int (cv >>> (y &&& 31))], h)) rfl ?_
  obtain ⟨v1, q_v1⟩ : ∃ v_, (cv >>> (y &&& 31)) = v_ := ⟨_, rfl⟩
  rw [q_v1]
  refine qm_Rp.go 2 (c' := (8, [.ref 28, .int y], [.int (v1 &&& 1)], h)) rfl ?_
  obtain ⟨v2, q_v2⟩ : ∃ v_, (v1 &&& 1) = v_ := ⟨_, rfl⟩
  rw [q_v2]
  refine qm_Rp.go 1 (c' := (9, [.ref 28, .int y], [.int 1, .int v2], h)) rfl ?_
  refine hp_cne (ix := v2.toInt) (iy := 1) rfl rfl rfl (fun z3 => ?_) (fun z3 => ?_)
  · refine qm_Rp.go 1 (c' := (17, [.ref 28, .int y], [.int 0], h)) rfl ?_
    refine qm_Rp.rt (v := (some (.int 0))) (h' := h) rfl ?_
    refine qm_Rp.go 2 (c' := (13, [.ref 28, .int y], [.int 0], h)) rfl ?_
    refine qm_Rp.rt (v := (some (.int 0))) (h' := h) rfl ?_
    refine qm_Rp.go 0 (c' := (5, [.ref 28, .int y, .int x, .float 0], [.int 0], h)) rfl ?_
    have el : lowV cv y x.toInt = 16 * y.toInt + 4 * x.toInt + 0 := low_0 (cv := cv) (bay := y) (x := x.toInt) q_v1 q_v2 (by omega) (by omega)
    refine qm_Rp.go 2 (c' := (7, [.ref 28, .int y, .int x, .int 0], [.ref 28], h)) rfl ?_
    refine hp_getr rfl (hH.1 28 (9, 8) rfl) rfl (hH.2 28 3 (some 36) rfl) ?_
    refine qm_Rp.go 3 (c' := (13, [.ref 28, .int y, .int x, .int 0], [.int 0, .int x, .int y, .ref 36], h)) rfl ?_
    refine qm_Rp.call (j := 75) (as := [.int y, .int x, .int 0]) (c' := (16, [.ref 28, .int y, .int x, .int 0], [.ref 36], h)) rfl rfl ?_
    refine qm_Rp.go 3 (c' := (3, [.int y, .int x, .int 0], [.int (y * 4)], h)) rfl ?_
    obtain ⟨v4, q_v4, e_v4⟩ := hk_mul (x := y) (y := 4) (a := y.toInt) (b := 4) rfl rfl (by omega) (by omega)
    rw [q_v4]
    refine qm_Rp.go 2 (c' := (5, [.int y, .int x, .int 0], [.int (v4 + x)], h)) rfl ?_
    obtain ⟨v5, q_v5, e_v5⟩ := hk_add (x := v4) (y := x) (a := v4.toInt) (b := x.toInt) rfl rfl (by omega) (by omega)
    rw [q_v5]
    refine qm_Rp.go 2 (c' := (7, [.int y, .int x, .int 0], [.int (v5 * 4)], h)) rfl ?_
    obtain ⟨v6, q_v6, e_v6⟩ := hk_mul (x := v5) (y := 4) (a := v5.toInt) (b := 4) rfl rfl (by omega) (by omega)
    rw [q_v6]
    refine qm_Rp.go 2 (c' := (9, [.int y, .int x, .int 0], [.int (v6 + 0)], h)) rfl ?_
    obtain ⟨v7, q_v7, e_v7⟩ := hk_add (x := v6) (y := 0) (a := v6.toInt) (b := 0) rfl rfl (by omega) (by omega)
    rw [q_v7]
    refine qm_Rp.rt (v := (some (.int v7))) (h' := h) rfl ?_
    refine qm_Rp.go 0 (c' := (16, [.ref 28, .int y, .int x, .int 0], [.int v7, .ref 36], h)) rfl ?_
    obtain ⟨v8, q_v8⟩ : ∃ v_, h.2.1 36 v7.toInt.toNat = v_ := ⟨_, rfl⟩
    refine hp_ial (v := v8) rfl (hH.1 36 (0, 80) rfl) q_v8 (fun ia_8 ib_8 => ?_)
    refine qm_Rp.go 0 (c' := (17, [.ref 28, .int y, .int x, .int 0], [.int v8], h)) rfl ?_
    have w1 : pI h.2.1 36 (16 * y.toInt + 4 * x.toInt + 0).toNat = v8.toInt := by rw [show (16 * y.toInt + 4 * x.toInt + 0).toNat = v7.toInt.toNat by omega]; exact congrArg Int32.toInt q_v8
    refine qm_Rp.go 1 (c' := (18, [.ref 28, .int y, .int x, .int 0], [.int (-1), .int v8], h)) rfl ?_
    refine hp_cne (ix := v8.toInt) (iy := (-1)) rfl rfl rfl (fun z10 => ?_) (fun z10 => ?_)
    · refine qm_Rp.go 1 (c' := (24, [.ref 28, .int y, .int x, .int 0], [.ref 28], h)) rfl ?_
      refine hp_getr rfl (hH.1 28 (9, 8) rfl) rfl (hH.2 28 3 (some 36) rfl) ?_
      refine qm_Rp.go 5 (c' := (32, [.ref 28, .int y, .int x, .int 0], [.int 1, .int x, .int y, .ref 36], h)) rfl ?_
      refine qm_Rp.call (j := 75) (as := [.int y, .int x, .int 1]) (c' := (35, [.ref 28, .int y, .int x, .int 0], [.ref 36], h)) rfl rfl ?_
      refine qm_Rp.go 3 (c' := (3, [.int y, .int x, .int 1], [.int (y * 4)], h)) rfl ?_
      rw [q_v4]
      refine qm_Rp.go 2 (c' := (5, [.int y, .int x, .int 1], [.int (v4 + x)], h)) rfl ?_
      rw [q_v5]
      refine qm_Rp.go 2 (c' := (7, [.int y, .int x, .int 1], [.int (v5 * 4)], h)) rfl ?_
      rw [q_v6]
      refine qm_Rp.go 2 (c' := (9, [.int y, .int x, .int 1], [.int (v6 + 1)], h)) rfl ?_
      obtain ⟨v11, q_v11, e_v11⟩ := hk_add (x := v6) (y := 1) (a := v6.toInt) (b := 1) rfl rfl (by omega) (by omega)
      rw [q_v11]
      refine qm_Rp.rt (v := (some (.int v11))) (h' := h) rfl ?_
      refine qm_Rp.go 0 (c' := (35, [.ref 28, .int y, .int x, .int 0], [.int v11, .ref 36], h)) rfl ?_
      obtain ⟨v12, q_v12⟩ : ∃ v_, h.2.1 36 v11.toInt.toNat = v_ := ⟨_, rfl⟩
      refine hp_ial (v := v12) rfl (hH.1 36 (0, 80) rfl) q_v12 (fun ia_12 ib_12 => ?_)
      refine qm_Rp.go 0 (c' := (36, [.ref 28, .int y, .int x, .int 0], [.int v12], h)) rfl ?_
      have w2 : pI h.2.1 36 (16 * y.toInt + 4 * x.toInt + 1).toNat = v12.toInt := by rw [show (16 * y.toInt + 4 * x.toInt + 1).toNat = v11.toInt.toNat by omega]; exact congrArg Int32.toInt q_v12
      refine qm_Rp.go 1 (c' := (37, [.ref 28, .int y, .int x, .int 0], [.int (-1), .int v12], h)) rfl ?_
      refine hp_cne (ix := v12.toInt) (iy := (-1)) rfl rfl rfl (fun z14 => ?_) (fun z14 => ?_)
      · refine qm_Rp.go 1 (c' := (47, [.ref 28, .int y, .int x, .int 0], [.int (-1)], h)) rfl ?_
        refine qm_Rp.rt (v := (some (.int (-1)))) (h' := h) rfl ?_
        exact k (-1) (Or.inl ⟨rfl, fr_3 el (by rw [w1]; omega) (by rw [show ((16 * y.toInt + 4 * x.toInt + 0) + 1) = (16 * y.toInt + 4 * x.toInt + 1) by omega, w2]; omega)⟩)
      · refine qm_Rp.go 4 (c' := (47, [.ref 28, .int y, .int x, .int 0], [.int 1], h)) rfl ?_
        refine qm_Rp.rt (v := (some (.int 1))) (h' := h) rfl ?_
        exact k 1 (Or.inr ⟨by decide, by decide, (fr_2 el (by rw [w1]; omega) (by rw [show ((16 * y.toInt + 4 * x.toInt + 0) + 1) = (16 * y.toInt + 4 * x.toInt + 1) by omega, w2]; omega)).trans (by rw [show ((1 : Int32)).toInt = 1 from rfl]; omega)⟩)
    · refine qm_Rp.go 1 (c' := (22, [.ref 28, .int y, .int x, .int 0], [.int 0], h)) rfl ?_
      refine qm_Rp.rt (v := (some (.int 0))) (h' := h) rfl ?_
      exact k 0 (Or.inr ⟨by decide, by decide, (fr_1 el (by rw [w1]; omega)).trans (by show _ = _; rw [show ((0 : Int32)).toInt = 0 from rfl])⟩)
  · refine qm_Rp.go 2 (c' := (17, [.ref 28, .int y], [.int 1], h)) rfl ?_
    refine qm_Rp.rt (v := (some (.int 1))) (h' := h) rfl ?_
    refine qm_Rp.go 3 (c' := (13, [.ref 28, .int y], [.int 2], h)) rfl ?_
    refine qm_Rp.rt (v := (some (.int 2))) (h' := h) rfl ?_
    refine qm_Rp.go 0 (c' := (5, [.ref 28, .int y, .int x, .float 0], [.int 2], h)) rfl ?_
    have el : lowV cv y x.toInt = 16 * y.toInt + 4 * x.toInt + 2 := low_1 (cv := cv) (bay := y) (x := x.toInt) q_v1 q_v2 (by omega) (by omega)
    refine qm_Rp.go 2 (c' := (7, [.ref 28, .int y, .int x, .int 2], [.ref 28], h)) rfl ?_
    refine hp_getr rfl (hH.1 28 (9, 8) rfl) rfl (hH.2 28 3 (some 36) rfl) ?_
    refine qm_Rp.go 3 (c' := (13, [.ref 28, .int y, .int x, .int 2], [.int 2, .int x, .int y, .ref 36], h)) rfl ?_
    refine qm_Rp.call (j := 75) (as := [.int y, .int x, .int 2]) (c' := (16, [.ref 28, .int y, .int x, .int 2], [.ref 36], h)) rfl rfl ?_
    refine qm_Rp.go 3 (c' := (3, [.int y, .int x, .int 2], [.int (y * 4)], h)) rfl ?_
    obtain ⟨v15, q_v15, e_v15⟩ := hk_mul (x := y) (y := 4) (a := y.toInt) (b := 4) rfl rfl (by omega) (by omega)
    rw [q_v15]
    refine qm_Rp.go 2 (c' := (5, [.int y, .int x, .int 2], [.int (v15 + x)], h)) rfl ?_
    obtain ⟨v16, q_v16, e_v16⟩ := hk_add (x := v15) (y := x) (a := v15.toInt) (b := x.toInt) rfl rfl (by omega) (by omega)
    rw [q_v16]
    refine qm_Rp.go 2 (c' := (7, [.int y, .int x, .int 2], [.int (v16 * 4)], h)) rfl ?_
    obtain ⟨v17, q_v17, e_v17⟩ := hk_mul (x := v16) (y := 4) (a := v16.toInt) (b := 4) rfl rfl (by omega) (by omega)
    rw [q_v17]
    refine qm_Rp.go 2 (c' := (9, [.int y, .int x, .int 2], [.int (v17 + 2)], h)) rfl ?_
    obtain ⟨v18, q_v18, e_v18⟩ := hk_add (x := v17) (y := 2) (a := v17.toInt) (b := 2) rfl rfl (by omega) (by omega)
    rw [q_v18]
    refine qm_Rp.rt (v := (some (.int v18))) (h' := h) rfl ?_
    refine qm_Rp.go 0 (c' := (16, [.ref 28, .int y, .int x, .int 2], [.int v18, .ref 36], h)) rfl ?_
    obtain ⟨v19, q_v19⟩ : ∃ v_, h.2.1 36 v18.toInt.toNat = v_ := ⟨_, rfl⟩
    refine hp_ial (v := v19) rfl (hH.1 36 (0, 80) rfl) q_v19 (fun ia_19 ib_19 => ?_)
    refine qm_Rp.go 0 (c' := (17, [.ref 28, .int y, .int x, .int 2], [.int v19], h)) rfl ?_
    have w1 : pI h.2.1 36 (16 * y.toInt + 4 * x.toInt + 2).toNat = v19.toInt := by rw [show (16 * y.toInt + 4 * x.toInt + 2).toNat = v18.toInt.toNat by omega]; exact congrArg Int32.toInt q_v19
    refine qm_Rp.go 1 (c' := (18, [.ref 28, .int y, .int x, .int 2], [.int (-1), .int v19], h)) rfl ?_
    refine hp_cne (ix := v19.toInt) (iy := (-1)) rfl rfl rfl (fun z21 => ?_) (fun z21 => ?_)
    · refine qm_Rp.go 1 (c' := (24, [.ref 28, .int y, .int x, .int 2], [.ref 28], h)) rfl ?_
      refine hp_getr rfl (hH.1 28 (9, 8) rfl) rfl (hH.2 28 3 (some 36) rfl) ?_
      refine qm_Rp.go 5 (c' := (32, [.ref 28, .int y, .int x, .int 2], [.int 3, .int x, .int y, .ref 36], h)) rfl ?_
      refine qm_Rp.call (j := 75) (as := [.int y, .int x, .int 3]) (c' := (35, [.ref 28, .int y, .int x, .int 2], [.ref 36], h)) rfl rfl ?_
      refine qm_Rp.go 3 (c' := (3, [.int y, .int x, .int 3], [.int (y * 4)], h)) rfl ?_
      rw [q_v15]
      refine qm_Rp.go 2 (c' := (5, [.int y, .int x, .int 3], [.int (v15 + x)], h)) rfl ?_
      rw [q_v16]
      refine qm_Rp.go 2 (c' := (7, [.int y, .int x, .int 3], [.int (v16 * 4)], h)) rfl ?_
      rw [q_v17]
      refine qm_Rp.go 2 (c' := (9, [.int y, .int x, .int 3], [.int (v17 + 3)], h)) rfl ?_
      obtain ⟨v22, q_v22, e_v22⟩ := hk_add (x := v17) (y := 3) (a := v17.toInt) (b := 3) rfl rfl (by omega) (by omega)
      rw [q_v22]
      refine qm_Rp.rt (v := (some (.int v22))) (h' := h) rfl ?_
      refine qm_Rp.go 0 (c' := (35, [.ref 28, .int y, .int x, .int 2], [.int v22, .ref 36], h)) rfl ?_
      obtain ⟨v23, q_v23⟩ : ∃ v_, h.2.1 36 v22.toInt.toNat = v_ := ⟨_, rfl⟩
      refine hp_ial (v := v23) rfl (hH.1 36 (0, 80) rfl) q_v23 (fun ia_23 ib_23 => ?_)
      refine qm_Rp.go 0 (c' := (36, [.ref 28, .int y, .int x, .int 2], [.int v23], h)) rfl ?_
      have w2 : pI h.2.1 36 (16 * y.toInt + 4 * x.toInt + 3).toNat = v23.toInt := by rw [show (16 * y.toInt + 4 * x.toInt + 3).toNat = v22.toInt.toNat by omega]; exact congrArg Int32.toInt q_v23
      refine qm_Rp.go 1 (c' := (37, [.ref 28, .int y, .int x, .int 2], [.int (-1), .int v23], h)) rfl ?_
      refine hp_cne (ix := v23.toInt) (iy := (-1)) rfl rfl rfl (fun z25 => ?_) (fun z25 => ?_)
      · refine qm_Rp.go 1 (c' := (47, [.ref 28, .int y, .int x, .int 2], [.int (-1)], h)) rfl ?_
        refine qm_Rp.rt (v := (some (.int (-1)))) (h' := h) rfl ?_
        exact k (-1) (Or.inl ⟨rfl, fr_3 el (by rw [w1]; omega) (by rw [show ((16 * y.toInt + 4 * x.toInt + 2) + 1) = (16 * y.toInt + 4 * x.toInt + 3) by omega, w2]; omega)⟩)
      · refine qm_Rp.go 4 (c' := (47, [.ref 28, .int y, .int x, .int 2], [.int 3], h)) rfl ?_
        refine qm_Rp.rt (v := (some (.int 3))) (h' := h) rfl ?_
        exact k 3 (Or.inr ⟨by decide, by decide, (fr_2 el (by rw [w1]; omega) (by rw [show ((16 * y.toInt + 4 * x.toInt + 2) + 1) = (16 * y.toInt + 4 * x.toInt + 3) by omega, w2]; omega)).trans (by rw [show ((3 : Int32)).toInt = 3 from rfl]; omega)⟩)
    · refine qm_Rp.go 1 (c' := (22, [.ref 28, .int y, .int x, .int 2], [.int 2], h)) rfl ?_
      refine qm_Rp.rt (v := (some (.int 2))) (h' := h) rfl ?_
      exact k 2 (Or.inr ⟨by decide, by decide, (fr_1 el (by rw [w1]; omega)).trans (by show _ = _; rw [show ((2 : Int32)).toInt = 2 from rfl])⟩)
