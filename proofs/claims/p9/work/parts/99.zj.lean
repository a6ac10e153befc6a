/-! contracts of the reference by hand -/
theorem hl_soon_22 {L : Nat} {xs : Nat → Int32} {d : Nat} {Z : Option Value → qm_H → Prop} {h : qm_H} (h6 : 6 ≤ L) (hH : hk_H h) (hB : hk_B h.2.1) (ht : tw (pI h.2.1 22)) {s : Int32} (b_s : (0 : Int) ≤ s.toInt ∧ s.toInt ≤ 3) {hh : Int32} (b_hh : (0 : Int) ≤ hh.toInt ∧ hh.toInt ≤ 4) (ehh : (pI h.2.1 22) (16 + s.toInt.toNat) = hh.toInt) (k : ∀ (v : Int32) (I : Nat → Nat → Int32) (J : Nat → Nat → Int64), (0 : Int) ≤ v.toInt ∧ v.toInt ≤ 13 → (v.toInt ≤ 11 → con (pI h.2.1 22) s.toInt.toNat v.toInt) → hk_B I → (∀ o, [].contains o = false → ∀ i, I o i = h.2.1 o i) → Z (some (.int v)) (h.1, I, J, h.2.2.2)) : ∀ (m : Nat) (I : Nat → Nat → Int32) (J : Nat → Nat → Int64) (le : Int32) (i : Int32), hk_B I → (∀ o, [].contains o = false → ∀ i, I o i = h.2.1 o i) → ((0 : Int) ≤ i.toInt ∧ i.toInt ≤ hh.toInt) → ((0 : Int) ≤ le.toInt ∧ le.toInt ≤ 13) → (le.toInt ≤ 11 → ∃ n : Nat, n < i.toInt.toNat ∧ (pI h.2.1 22) (4 * s.toInt.toNat + n) = le.toInt) → (4 - i.toInt).toNat = m → qm_Ru (some (L, xs)) (d + 20) cd_163 (22, [.ref 22, .int s, .int hh, .int le, .int i], [], (h.1, I, J, h.2.2.2)) Z := by
  intro m
  induction m using Nat.strongRecOn with
  | ind m ih =>
    intro I J le i hBI e h_i h_le hc hm
    refine qm_Ru.go 2 (c' := (25, [.ref 22, .int s, .int hh, .int le, .int i], [.int hh, .int i], (h.1, I, J, h.2.2.2))) rfl ?_
    refine hk_cge (ix := i.toInt) (iy := hh.toInt) rfl rfl rfl (fun z1 => ?_) (fun z1 => ?_)
    · refine qm_Ru.go 1 (c' := (48, [.ref 22, .int s, .int hh, .int le, .int i], [.int le], (h.1, I, J, h.2.2.2))) rfl ?_
      refine qm_Ru.rt (v := (some (.int le))) (h' := (h.1, I, J, h.2.2.2)) rfl ?_
      exact k le (I) (J) (by omega) (fun c => (hc c).elim fun n g => ⟨n, by omega, by rw [ehh]; omega, g.2⟩) hBI (fun o ho i => (e o ho i))
    · refine qm_Ru.go 5 (c' := (33, [.ref 22, .int s, .int hh, .int le, .int i], [.int (s * 4), .ref 22, .int le], (h.1, I, J, h.2.2.2))) rfl ?_
      obtain ⟨v2, q_v2, e_v2⟩ := hk_mul (x := s) (y := 4) (a := s.toInt) (b := 4) rfl rfl (by omega) (by omega)
      rw [q_v2]
      refine qm_Ru.go 2 (c' := (36, [.ref 22, .int s, .int hh, .int le, .int i], [.int (v2 + i), .ref 22, .int le], (h.1, I, J, h.2.2.2))) rfl ?_
      obtain ⟨v3, q_v3, e_v3⟩ := hk_add (x := v2) (y := i) (a := v2.toInt) (b := i.toInt) rfl rfl (by omega) (by omega)
      rw [q_v3]
      obtain ⟨v4, q_v4⟩ : ∃ v, h.2.1 22 (v3.toInt.toNat) = v := ⟨_, rfl⟩
      have b_v4 : (0 : Int) ≤ v4.toInt ∧ v4.toInt ≤ 12 := by rw [← q_v4]; exact hB 22 (v3.toInt.toNat)
      refine hk_ial (v := v4) rfl (hH.1 22 (0, 21) rfl) (by omega) (by omega) (show (I) 22 (v3.toInt.toNat) = _ from ((e 22 rfl (v3.toInt.toNat)).trans q_v4)) ?_
      refine qm_Ru.go 0 (c' := (37, [.ref 22, .int s, .int hh, .int le, .int i], [.int v4, .int le], (h.1, I, J, h.2.2.2))) rfl ?_
      have l_v4 : (pI h.2.1 22) (4 * s.toInt.toNat + i.toInt.toNat) = v4.toInt := (congrArg (pI h.2.1 22) (show 4 * s.toInt.toNat + i.toInt.toNat = v3.toInt.toNat from by omega)).trans (congrArg Int32.toInt q_v4)
      refine qm_Ru.go 1 (c' := (40, [.ref 22, .int s, .int hh, .int le, .int i], [.int (if v4 < le then v4 else le)], (h.1, I, J, h.2.2.2))) rfl ?_
      obtain ⟨v5, q_v5⟩ : ∃ v, (if v4 < le then v4 else le) = v := ⟨_, rfl⟩
      rw [q_v5]
      refine qm_Ru.go 2 (c' := (44, [.ref 22, .int s, .int hh, .int v5, .int (i + 1)], [], (h.1, I, J, h.2.2.2))) rfl ?_
      obtain ⟨v6, q_v6, e_v6⟩ := hk_add (x := i) (y := 1) (a := i.toInt) (b := 1) rfl rfl (by omega) (by omega)
      rw [q_v6]
      refine qm_Ru.go 1 (c' := (22, [.ref 22, .int s, .int hh, .int v5, .int v6], [], (h.1, I, J, h.2.2.2))) rfl ?_
      have z_v5 : v5 = v4 ∨ v5 = le := by rw [← q_v5]; exact if c : v4 < le then Or.inl (if_pos c) else Or.inr (if_neg c)
      exact ih _ (by omega) (I) (J) v5 v6 hBI (fun o ho i => (e o ho i)) (by omega) (by rcases z_v5 with c | c <;> rw [c] <;> omega) (by exact z_v5.elim (fun c => by rw [c]; exact fun _ => ⟨i.toInt.toNat, by omega, l_v4⟩) (fun c => by rw [c]; exact fun c2 => (hc c2).elim fun n g => ⟨n, by omega, g.2⟩)) rfl
theorem hs_soon_22 {L : Nat} {xs : Nat → Int32} {d : Nat} {Z : Option Value → qm_H → Prop} {h : qm_H} (h6 : 6 ≤ L) (hH : hk_H h) (hB : hk_B h.2.1) (ht : tw (pI h.2.1 22)) {s : Int32} (b_s : (0 : Int) ≤ s.toInt ∧ s.toInt ≤ 3) (k : ∀ (v : Int32) (I : Nat → Nat → Int32) (J : Nat → Nat → Int64), (0 : Int) ≤ v.toInt ∧ v.toInt ≤ 13 → (v.toInt ≤ 11 → con (pI h.2.1 22) s.toInt.toNat v.toInt) → hk_B I → (∀ o, [].contains o = false → ∀ i, I o i = h.2.1 o i) → Z (some (.int v)) (h.1, I, J, h.2.2.2)) : qm_Ru (some (L, xs)) (d + 20) cd_163 (qm_ent 5 [.ref 22, .int s] h) Z := by
  refine qm_Ru.go 4 (c' := (5, [.ref 22, .int s, .float 0, .float 0, .float 0], [.int (16 + s), .ref 22], h)) rfl ?_
  obtain ⟨v1, q_v1, e_v1⟩ := hk_add (x := 16) (y := s) (a := 16) (b := s.toInt) rfl rfl (by omega) (by omega)
  rw [q_v1]
  obtain ⟨v2, q_v2⟩ : ∃ v, h.2.1 22 (v1.toInt.toNat) = v := ⟨_, rfl⟩
  have b_v2 : (0 : Int) ≤ v2.toInt ∧ v2.toInt ≤ 12 := by rw [← q_v2]; exact hB 22 (v1.toInt.toNat)
  refine hk_ial (v := v2) rfl (hH.1 22 (0, 21) rfl) (by omega) (by omega) q_v2 ?_
  refine qm_Ru.go 0 (c' := (6, [.ref 22, .int s, .float 0, .float 0, .float 0], [.int v2], h)) rfl ?_
  have r_v2 : (0 : Int) ≤ v2.toInt ∧ v2.toInt ≤ 4 := by rw [← q_v2, show v1.toInt.toNat = 16 + s.toInt.toNat from by omega]; exact ht _ (by omega)
  have l_v2 : (pI h.2.1 22) (16 + s.toInt.toNat) = v2.toInt := (congrArg (pI h.2.1 22) (show 16 + s.toInt.toNat = v1.toInt.toNat from by omega)).trans (congrArg Int32.toInt q_v2)
  refine qm_Ru.go 2 (c' := (8, [.ref 22, .int s, .int v2, .float 0, .float 0], [.int v2], h)) rfl ?_
  refine hk_zne (ix := v2.toInt) rfl rfl (fun z3 => ?_) (fun z3 => ?_)
  · refine qm_Ru.go 4 (c' := (22, [.ref 22, .int s, .int v2, .int 12, .int 0], [], h)) rfl ?_
    exact hl_soon_22 h6 hH hB ht b_s (hh := v2) (by omega) l_v2 k _ h.2.1 h.2.2.1 12 0 hB (fun _ _ _ => rfl) (by show (0 : Int) ≤ 0 ∧ (0 : Int) ≤ v2.toInt; omega) (by decide) (fun c => absurd c (by decide)) rfl
  · refine qm_Ru.go 5 (c' := (22, [.ref 22, .int s, .int v2, .int 13, .int 0], [], h)) rfl ?_
    exact hl_soon_22 h6 hH hB ht b_s (hh := v2) (by omega) l_v2 k _ h.2.1 h.2.2.1 13 0 hB (fun _ _ _ => rfl) (by show (0 : Int) ≤ 0 ∧ (0 : Int) ≤ v2.toInt; omega) (by decide) (fun c => absurd c (by decide)) rfl
theorem hl_stk_22 {L : Nat} {xs : Nat → Int32} {d : Nat} {Z : Option Value → qm_H → Prop} {h : qm_H} (h6 : 6 ≤ L) (hH : hk_H h) (hB : hk_B h.2.1) (ht : tw (pI h.2.1 22)) {x : Int32} (k : ∀ (v : Int32) (I : Nat → Nat → Int32) (J : Nat → Nat → Int64), (v.toInt = -1 ∨ (((0 : Int) ≤ v.toInt ∧ v.toInt ≤ 3) ∧ (x.toInt ≤ 11 → con (pI h.2.1 22) v.toInt.toNat x.toInt))) → hk_B I → (∀ o, [].contains o = false → ∀ i, I o i = h.2.1 o i) → Z (some (.int v)) (h.1, I, J, h.2.2.2)) : ∀ (m : Nat) (I : Nat → Nat → Int32) (J : Nat → Nat → Int64) (s : Int32), hk_B I → (∀ o, [].contains o = false → ∀ i, I o i = h.2.1 o i) → ((0 : Int) ≤ s.toInt ∧ s.toInt ≤ 4) → (4 - s.toInt).toNat = m → qm_Ru (some (L, xs)) (d + 40) cd_162 (2, [.ref 22, .int x, .int s], [], (h.1, I, J, h.2.2.2)) Z := by
  intro m
  induction m using Nat.strongRecOn with
  | ind m ih =>
    intro I J s hBI e b_s hm
    refine qm_Ru.go 2 (c' := (4, [.ref 22, .int x, .int s], [.int 4, .int s], (h.1, I, J, h.2.2.2))) rfl ?_
    refine hk_cge (ix := s.toInt) (iy := 4) rfl rfl rfl (fun z1 => ?_) (fun z1 => ?_)
    · refine qm_Ru.go 1 (c' := (25, [.ref 22, .int x, .int s], [.int (-1)], (h.1, I, J, h.2.2.2))) rfl ?_
      refine qm_Ru.rt (v := (some (.int (-1)))) (h' := (h.1, I, J, h.2.2.2)) rfl ?_
      exact k ((-1)) (I) (J) (Or.inl rfl) hBI (fun o ho i => (e o ho i))
    · refine qm_Ru.go 2 (c' := (9, [.ref 22, .int x, .int s], [.int s, .ref 22], (h.1, I, J, h.2.2.2))) rfl ?_
      refine qm_Ru.call (j := 163) (as := [.ref 22, .int s]) (c' := (12, [.ref 22, .int x, .int s], [], (h.1, I, J, h.2.2.2))) rfl rfl rfl (hs_soon_22 (h := (h.1, I, J, h.2.2.2)) h6 hH hBI (by show tw (pI I 22); rw [(show pI I 22 = pI h.2.1 22 from funext fun i => congrArg Int32.toInt (e 22 rfl i))]; exact ht) (s := s) (by omega) (fun v4 I2 J3 b_v4 k_v4 _ e_I2 => ?_))
      have e_I2 : I = I2 := funext fun o => funext fun i => (e_I2 o rfl i).symm
      subst e_I2
      refine qm_Ru.go 1 (c' := (13, [.ref 22, .int x, .int s], [.int x, .int v4], (h.1, I, J3, h.2.2.2))) rfl ?_
      refine hk_cne (ix := v4.toInt) (iy := x.toInt) rfl rfl rfl (fun z5 => ?_) (fun z5 => ?_)
      · refine qm_Ru.go 1 (c' := (21, [.ref 22, .int x, .int (s + 1)], [], (h.1, I, J3, h.2.2.2))) rfl ?_
        obtain ⟨v6, q_v6, e_v6⟩ := hk_add (x := s) (y := 1) (a := s.toInt) (b := 1) rfl rfl (by omega) (by omega)
        rw [q_v6]
        refine qm_Ru.go 1 (c' := (2, [.ref 22, .int x, .int v6], [], (h.1, I, J3, h.2.2.2))) rfl ?_
        exact ih _ (by omega) (I) (J3) v6 hBI (fun o ho i => (e o ho i)) (by omega) rfl
      · refine qm_Ru.go 1 (c' := (17, [.ref 22, .int x, .int s], [.int s], (h.1, I, J3, h.2.2.2))) rfl ?_
        refine qm_Ru.rt (v := (some (.int s))) (h' := (h.1, I, J3, h.2.2.2)) rfl ?_
        exact k s (I) (J3) (Or.inr ⟨by omega, fun c => by have g := k_v4 (by omega); rw [show v4.toInt = x.toInt from by omega] at g; rw [← (show pI I 22 = pI h.2.1 22 from funext fun i => congrArg Int32.toInt (e 22 rfl i))]; exact g⟩) hBI (fun o ho i => (e o ho i))
theorem hs_stk_22 {L : Nat} {xs : Nat → Int32} {d : Nat} {Z : Option Value → qm_H → Prop} {h : qm_H} (h6 : 6 ≤ L) (hH : hk_H h) (hB : hk_B h.2.1) (ht : tw (pI h.2.1 22)) {x : Int32} (k : ∀ (v : Int32) (I : Nat → Nat → Int32) (J : Nat → Nat → Int64), (v.toInt = -1 ∨ (((0 : Int) ≤ v.toInt ∧ v.toInt ≤ 3) ∧ (x.toInt ≤ 11 → con (pI h.2.1 22) v.toInt.toNat x.toInt))) → hk_B I → (∀ o, [].contains o = false → ∀ i, I o i = h.2.1 o i) → Z (some (.int v)) (h.1, I, J, h.2.2.2)) : qm_Ru (some (L, xs)) (d + 40) cd_162 (qm_ent 3 [.ref 22, .int x] h) Z := by
  refine qm_Ru.go 2 (c' := (2, [.ref 22, .int x, .int 0], [], h)) rfl ?_
  exact hl_stk_22 h6 hH hB ht k _ h.2.1 h.2.2.1 0 hB (fun _ _ _ => rfl) (by decide) rfl
theorem hl_srv_22 {L : Nat} {xs : Nat → Int32} {d : Nat} {Z : Option Value → qm_H → Prop} {h : qm_H} (h6 : 6 ≤ L) (hH : hk_H h) (hB : hk_B h.2.1) {al : Int32} (b_al : (0 : Int) ≤ al.toInt ∧ al.toInt ≤ 12) (k : ∀ (I : Nat → Nat → Int32) (J : Nat → Nat → Int64), hk_B I → (∀ o, [22].contains o = false → ∀ i, I o i = h.2.1 o i) → tw (pI I 22) → Z none (h.1, I, J, h.2.2.2)) : ∀ (m : Nat) (I : Nat → Nat → Int32) (J : Nat → Nat → Int64) (i : Int32) (l3 : Value), hk_B I → (∀ o, [22].contains o = false → ∀ i, I o i = h.2.1 o i) → ((0 : Int) ≤ i.toInt ∧ i.toInt ≤ 16) → (tw (pI I 22)) → (16 - i.toInt).toNat = m → qm_Ru (some (L, xs)) (d + 60) cd_171 (2, [.ref 22, .int al, .int i, l3], [], (h.1, I, J, h.2.2.2)) Z := by
  intro m
  induction m using Nat.strongRecOn with
  | ind m ih =>
    intro I J i l3 hBI e h_i htw hm
    refine qm_Ru.go 2 (c' := (5, [.ref 22, .int al, .int i, l3], [.int 16, .int i], (h.1, I, J, h.2.2.2))) rfl ?_
    refine hk_cge (ix := i.toInt) (iy := 16) rfl rfl rfl (fun z1 => ?_) (fun z1 => ?_)
    · refine qm_Ru.go 0 (c' := (67, [.ref 22, .int al, .int i, l3], [], (h.1, I, J, h.2.2.2))) rfl ?_
      refine qm_Ru.rt (v := none) (h' := (h.1, I, J, h.2.2.2)) rfl ?_
      exact k (I) (J) hBI (fun o ho i => (e o ho i)) htw
    · refine qm_Ru.go 2 (c' := (11, [.ref 22, .int al, .int i, l3], [.int 20, .ref 22], (h.1, I, J, h.2.2.2))) rfl ?_
      obtain ⟨v2, q_v2⟩ : ∃ v, I 22 20 = v := ⟨_, rfl⟩
      have b_v2 : (0 : Int) ≤ v2.toInt ∧ v2.toInt ≤ 12 := by rw [← q_v2]; exact hBI 22 20
      refine hk_ial (v := v2) rfl (hH.1 22 (0, 21) rfl) (by decide) (by decide) q_v2 ?_
      refine qm_Ru.go 1 (c' := (13, [.ref 22, .int al, .int i, l3], [.int al, .int v2], (h.1, I, J, h.2.2.2))) rfl ?_
      refine hk_cge (ix := v2.toInt) (iy := al.toInt) rfl rfl rfl (fun z3 => ?_) (fun z3 => ?_)
      · refine qm_Ru.go 0 (c' := (67, [.ref 22, .int al, .int i, l3], [], (h.1, I, J, h.2.2.2))) rfl ?_
        refine qm_Ru.rt (v := none) (h' := (h.1, I, J, h.2.2.2)) rfl ?_
        exact k (I) (J) hBI (fun o ho i => (e o ho i)) htw
      · refine qm_Ru.go 3 (c' := (20, [.ref 22, .int al, .int i, l3], [.int 20, .ref 22, .ref 22], (h.1, I, J, h.2.2.2))) rfl ?_
        refine hk_ial (v := v2) rfl (hH.1 22 (0, 21) rfl) (by decide) (by decide) q_v2 ?_
        refine qm_Ru.go 0 (c' := (21, [.ref 22, .int al, .int i, l3], [.int v2, .ref 22], (h.1, I, J, h.2.2.2))) rfl ?_
        refine qm_Ru.call (j := 162) (as := [.ref 22, .int v2]) (c' := (24, [.ref 22, .int al, .int i, l3], [], (h.1, I, J, h.2.2.2))) rfl rfl rfl (hs_stk_22 (h := (h.1, I, J, h.2.2.2)) h6 hH hBI htw (x := v2) (fun v6 I4 J5 k_v6 _ e_I4 => ?_))
        have e_I4 : I = I4 := funext fun o => funext fun i => (e_I4 o rfl i).symm
        subst e_I4
        have b_v6 : (-1 : Int) ≤ v6.toInt ∧ v6.toInt ≤ 3 := by rcases k_v6 with c | ⟨c, _⟩ <;> omega
        refine qm_Ru.go 3 (c' := (27, [.ref 22, .int al, .int i, .int v6], [.int (-1), .int v6], (h.1, I, J5, h.2.2.2))) rfl ?_
        refine hk_ceq (ix := v6.toInt) (iy := (-1)) rfl rfl rfl (fun z7 => ?_) (fun z7 => ?_)
        · refine qm_Ru.go 0 (c' := (42, [.ref 22, .int al, .int i, .int v6], [], (h.1, I, J5, h.2.2.2))) rfl ?_
          refine qm_Ru.rt (v := none) (h' := (h.1, I, J5, h.2.2.2)) rfl ?_
          exact k (I) (J5) hBI (fun o ho i => (e o ho i)) htw
        · refine qm_Ru.go 2 (c' := (32, [.ref 22, .int al, .int i, .int v6], [.int v6, .ref 22], (h.1, I, J5, h.2.2.2))) rfl ?_
          refine qm_Ru.call (j := 164) (as := [.ref 22, .int v6]) (c' := (35, [.ref 22, .int al, .int i, .int v6], [], (h.1, I, J5, h.2.2.2))) rfl rfl rfl ?_
          refine qm_Ru.go 4 (c' := (5, [.ref 22, .int v6, .float 0], [.int (16 + v6), .ref 22], (h.1, I, J5, h.2.2.2))) rfl ?_
          obtain ⟨v8, q_v8, e_v8⟩ := hk_add (x := 16) (y := v6) (a := 16) (b := v6.toInt) rfl rfl (by omega) (by omega)
          rw [q_v8]
          obtain ⟨v9, q_v9⟩ : ∃ v, I 22 (v8.toInt.toNat) = v := ⟨_, rfl⟩
          have b_v9 : (0 : Int) ≤ v9.toInt ∧ v9.toInt ≤ 12 := by rw [← q_v9]; exact hBI 22 (v8.toInt.toNat)
          refine hk_ial (v := v9) rfl (hH.1 22 (0, 21) rfl) (by omega) (by omega) q_v9 ?_
          refine qm_Ru.go 0 (c' := (6, [.ref 22, .int v6, .float 0], [.int v9], (h.1, I, J5, h.2.2.2))) rfl ?_
          have r_v9 : (0 : Int) ≤ v9.toInt ∧ v9.toInt ≤ 4 := by rw [← q_v9, show v8.toInt.toNat = 16 + v6.toInt.toNat from by omega]; exact htw _ (by omega)
          refine qm_Ru.go 2 (c' := (8, [.ref 22, .int v6, .int v9], [.int v9], (h.1, I, J5, h.2.2.2))) rfl ?_
          refine hk_zne (ix := v9.toInt) rfl rfl (fun z10 => ?_) (fun z10 => ?_)
          · refine qm_Ru.go 4 (c' := (20, [.ref 22, .int v6, .int v9], [.int (v6 * 4), .ref 22], (h.1, I, J5, h.2.2.2))) rfl ?_
            obtain ⟨v11, q_v11, e_v11⟩ := hk_mul (x := v6) (y := 4) (a := v6.toInt) (b := 4) rfl rfl (by omega) (by omega)
            rw [q_v11]
            refine qm_Ru.go 2 (c' := (22, [.ref 22, .int v6, .int v9], [.int (v11 + v9), .ref 22], (h.1, I, J5, h.2.2.2))) rfl ?_
            obtain ⟨v12, q_v12, e_v12⟩ := hk_add (x := v11) (y := v9) (a := v11.toInt) (b := v9.toInt) rfl rfl (by omega) (by omega)
            rw [q_v12]
            refine qm_Ru.go 2 (c' := (24, [.ref 22, .int v6, .int v9], [.int (v12 - 1), .ref 22], (h.1, I, J5, h.2.2.2))) rfl ?_
            obtain ⟨v13, q_v13, e_v13⟩ := hk_sub (x := v12) (y := 1) (a := v12.toInt) (b := 1) rfl rfl (by omega) (by omega)
            rw [q_v13]
            obtain ⟨v14, q_v14⟩ : ∃ v, I 22 (v13.toInt.toNat) = v := ⟨_, rfl⟩
            have b_v14 : (0 : Int) ≤ v14.toInt ∧ v14.toInt ≤ 12 := by rw [← q_v14]; exact hBI 22 (v13.toInt.toNat)
            refine hk_ial (v := v14) rfl (hH.1 22 (0, 21) rfl) (by omega) (by omega) q_v14 ?_
            refine qm_Ru.go 0 (c' := (25, [.ref 22, .int v6, .int v9], [.int v14], (h.1, I, J5, h.2.2.2))) rfl ?_
            refine qm_Ru.rt (v := (some (.int v14))) (h' := (h.1, I, J5, h.2.2.2)) rfl ?_
            refine qm_Ru.go 2 (c' := (38, [.ref 22, .int al, .int i, .int v6], [.int 20, .ref 22, .int v14], (h.1, I, J5, h.2.2.2))) rfl ?_
            refine hk_ial (v := v2) rfl (hH.1 22 (0, 21) rfl) (by decide) (by decide) q_v2 ?_
            refine qm_Ru.go 0 (c' := (39, [.ref 22, .int al, .int i, .int v6], [.int v2, .int v14], (h.1, I, J5, h.2.2.2))) rfl ?_
            refine hk_ceq (ix := v14.toInt) (iy := v2.toInt) rfl rfl rfl (fun z15 => ?_) (fun z15 => ?_)
            · refine qm_Ru.go 4 (c' := (48, [.ref 22, .int al, .int i, .int v6], [.int (16 + v6), .ref 22], (h.1, I, J5, h.2.2.2))) rfl ?_
              rw [q_v8]
              refine qm_Ru.go 1 (c' := (49, [.ref 22, .int al, .int i, .int v6], [.int v8, .ref 22, .int v8, .ref 22], (h.1, I, J5, h.2.2.2))) rfl ?_
              refine hk_ial (v := v9) rfl (hH.1 22 (0, 21) rfl) (by omega) (by omega) q_v9 ?_
              refine qm_Ru.go 2 (c' := (52, [.ref 22, .int al, .int i, .int v6], [.int (v9 - 1), .int v8, .ref 22], (h.1, I, J5, h.2.2.2))) rfl ?_
              obtain ⟨v17, q_v17, e_v17⟩ := hk_sub (x := v9) (y := 1) (a := v9.toInt) (b := 1) rfl rfl (by omega) (by omega)
              rw [q_v17]
              refine hk_ias rfl (hH.1 22 (0, 21) rfl) (by omega) (by omega) ?_
              refine qm_Ru.go 3 (c' := (57, [.ref 22, .int al, .int i, .int v6], [.int 20, .ref 22, .int 20, .ref 22], (h.1, qm_up I 22 (v8.toInt.toNat) v17, J5, h.2.2.2))) rfl ?_
              refine hk_ial (v := v2) rfl (hH.1 22 (0, 21) rfl) (by decide) (by decide) (show (qm_up I 22 (v8.toInt.toNat) v17) 22 20 = _ from ((hk_neq (by omega)).trans q_v2)) ?_
              refine qm_Ru.go 2 (c' := (60, [.ref 22, .int al, .int i, .int v6], [.int (v2 + 1), .int 20, .ref 22], (h.1, qm_up I 22 (v8.toInt.toNat) v17, J5, h.2.2.2))) rfl ?_
              obtain ⟨v18, q_v18, e_v18⟩ := hk_add (x := v2) (y := 1) (a := v2.toInt) (b := 1) rfl rfl (by omega) (by omega)
              rw [q_v18]
              refine hk_ias rfl (hH.1 22 (0, 21) rfl) (by decide) (by decide) ?_
              refine qm_Ru.go 1 (c' := (64, [.ref 22, .int al, .int (i + 1), .int v6], [], (h.1, qm_up (qm_up I 22 (v8.toInt.toNat) v17) 22 20 v18, J5, h.2.2.2))) rfl ?_
              obtain ⟨v19, q_v19, e_v19⟩ := hk_add (x := i) (y := 1) (a := i.toInt) (b := 1) rfl rfl (by omega) (by omega)
              rw [q_v19]
              refine qm_Ru.go 1 (c' := (2, [.ref 22, .int al, .int v19, .int v6], [], (h.1, qm_up (qm_up I 22 (v8.toInt.toNat) v17) 22 20 v18, J5, h.2.2.2))) rfl ?_
              exact ih _ (by omega) (qm_up (qm_up I 22 (v8.toInt.toNat) v17) 22 20 v18) (J5) v19 (.int v6) (hb_up (o := 22) (k := 20) (x := v18) (hb_up (o := 22) (k := v8.toInt.toNat) (x := v17) hBI ⟨by show (0 : Int) ≤ v17.toInt; omega, by show v17.toInt ≤ (12 : Int); omega⟩) ⟨by show (0 : Int) ≤ v18.toInt; omega, by show v18.toInt ≤ (12 : Int); omega⟩) (fun o ho i => ((hk_mod ho rfl).trans ((hk_mod ho rfl).trans (e o ho i)))) (by omega) (fun s hs => by show 0 ≤ ((qm_up (qm_up I 22 (v8.toInt.toNat) v17) 22 20 v18) 22 (16 + s)).toInt ∧ ((qm_up (qm_up I 22 (v8.toInt.toNat) v17) 22 20 v18) 22 (16 + s)).toInt ≤ 4; rw [hk_neq (by omega)]; exact if c : s = v6.toInt.toNat then (by subst c; rw [hk_equ (by omega)]; omega) else (by rw [hk_neq (by omega)]; exact htw s hs)) rfl
            · refine qm_Ru.go 0 (c' := (42, [.ref 22, .int al, .int i, .int v6], [], (h.1, I, J5, h.2.2.2))) rfl ?_
              refine qm_Ru.rt (v := none) (h' := (h.1, I, J5, h.2.2.2)) rfl ?_
              exact k (I) (J5) hBI (fun o ho i => (e o ho i)) htw
          · refine qm_Ru.go 2 (c' := (25, [.ref 22, .int v6, .int v9], [.int 13], (h.1, I, J5, h.2.2.2))) rfl ?_
            refine qm_Ru.rt (v := (some (.int 13))) (h' := (h.1, I, J5, h.2.2.2)) rfl ?_
            refine qm_Ru.go 2 (c' := (38, [.ref 22, .int al, .int i, .int v6], [.int 20, .ref 22, .int 13], (h.1, I, J5, h.2.2.2))) rfl ?_
            refine hk_ial (v := v2) rfl (hH.1 22 (0, 21) rfl) (by decide) (by decide) q_v2 ?_
            refine qm_Ru.go 0 (c' := (39, [.ref 22, .int al, .int i, .int v6], [.int v2, .int 13], (h.1, I, J5, h.2.2.2))) rfl ?_
            refine hk_ceq (ix := 13) (iy := v2.toInt) rfl rfl rfl (fun z20 => by exfalso; omega) (fun z20 => ?_)
            refine qm_Ru.go 0 (c' := (42, [.ref 22, .int al, .int i, .int v6], [], (h.1, I, J5, h.2.2.2))) rfl ?_
            refine qm_Ru.rt (v := none) (h' := (h.1, I, J5, h.2.2.2)) rfl ?_
            exact k (I) (J5) hBI (fun o ho i => (e o ho i)) htw
theorem hs_srv_22 {L : Nat} {xs : Nat → Int32} {d : Nat} {Z : Option Value → qm_H → Prop} {h : qm_H} (h6 : 6 ≤ L) (hH : hk_H h) (hB : hk_B h.2.1) {al : Int32} (b_al : (0 : Int) ≤ al.toInt ∧ al.toInt ≤ 12) (ht : tw (pI h.2.1 22)) (k : ∀ (I : Nat → Nat → Int32) (J : Nat → Nat → Int64), hk_B I → (∀ o, [22].contains o = false → ∀ i, I o i = h.2.1 o i) → tw (pI I 22) → Z none (h.1, I, J, h.2.2.2)) : qm_Ru (some (L, xs)) (d + 60) cd_171 (qm_ent 4 [.ref 22, .int al] h) Z := by
  refine qm_Ru.go 2 (c' := (2, [.ref 22, .int al, .int 0, .float 0], [], h)) rfl ?_
  exact hl_srv_22 h6 hH hB b_al k _ h.2.1 h.2.2.1 0 _ hB (fun _ _ _ => rfl) (by decide) ht rfl
theorem hl_soon_23 {L : Nat} {xs : Nat → Int32} {d : Nat} {Z : Option Value → qm_H → Prop} {h : qm_H} (h6 : 6 ≤ L) (hH : hk_H h) (hB : hk_B h.2.1) (ht : tw (pI h.2.1 23)) {s : Int32} (b_s : (0 : Int) ≤ s.toInt ∧ s.toInt ≤ 3) {hh : Int32} (b_hh : (0 : Int) ≤ hh.toInt ∧ hh.toInt ≤ 4) (ehh : (pI h.2.1 23) (16 + s.toInt.toNat) = hh.toInt) (k : ∀ (v : Int32) (I : Nat → Nat → Int32) (J : Nat → Nat → Int64), (0 : Int) ≤ v.toInt ∧ v.toInt ≤ 13 → (v.toInt ≤ 11 → con (pI h.2.1 23) s.toInt.toNat v.toInt) → hk_B I → (∀ o, [].contains o = false → ∀ i, I o i = h.2.1 o i) → Z (some (.int v)) (h.1, I, J, h.2.2.2)) : ∀ (m : Nat) (I : Nat → Nat → Int32) (J : Nat → Nat → Int64) (le : Int32) (i : Int32), hk_B I → (∀ o, [].contains o = false → ∀ i, I o i = h.2.1 o i) → ((0 : Int) ≤ i.toInt ∧ i.toInt ≤ hh.toInt) → ((0 : Int) ≤ le.toInt ∧ le.toInt ≤ 13) → (le.toInt ≤ 11 → ∃ n : Nat, n < i.toInt.toNat ∧ (pI h.2.1 23) (4 * s.toInt.toNat + n) = le.toInt) → (4 - i.toInt).toNat = m → qm_Ru (some (L, xs)) (d + 20) cd_163 (22, [.ref 23, .int s, .int hh, .int le, .int i], [], (h.1, I, J, h.2.2.2)) Z := by
  intro m
  induction m using Nat.strongRecOn with
  | ind m ih =>
    intro I J le i hBI e h_i h_le hc hm
    refine qm_Ru.go 2 (c' := (25, [.ref 23, .int s, .int hh, .int le, .int i], [.int hh, .int i], (h.1, I, J, h.2.2.2))) rfl ?_
    refine hk_cge (ix := i.toInt) (iy := hh.toInt) rfl rfl rfl (fun z1 => ?_) (fun z1 => ?_)
    · refine qm_Ru.go 1 (c' := (48, [.ref 23, .int s, .int hh, .int le, .int i], [.int le], (h.1, I, J, h.2.2.2))) rfl ?_
      refine qm_Ru.rt (v := (some (.int le))) (h' := (h.1, I, J, h.2.2.2)) rfl ?_
      exact k le (I) (J) (by omega) (fun c => (hc c).elim fun n g => ⟨n, by omega, by rw [ehh]; omega, g.2⟩) hBI (fun o ho i => (e o ho i))
    · refine qm_Ru.go 5 (c' := (33, [.ref 23, .int s, .int hh, .int le, .int i], [.int (s * 4), .ref 23, .int le], (h.1, I, J, h.2.2.2))) rfl ?_
      obtain ⟨v2, q_v2, e_v2⟩ := hk_mul (x := s) (y := 4) (a := s.toInt) (b := 4) rfl rfl (by omega) (by omega)
      rw [q_v2]
      refine qm_Ru.go 2 (c' := (36, [.ref 23, .int s, .int hh, .int le, .int i], [.int (v2 + i), .ref 23, .int le], (h.1, I, J, h.2.2.2))) rfl ?_
      obtain ⟨v3, q_v3, e_v3⟩ := hk_add (x := v2) (y := i) (a := v2.toInt) (b := i.toInt) rfl rfl (by omega) (by omega)
      rw [q_v3]
      obtain ⟨v4, q_v4⟩ : ∃ v, h.2.1 23 (v3.toInt.toNat) = v := ⟨_, rfl⟩
      have b_v4 : (0 : Int) ≤ v4.toInt ∧ v4.toInt ≤ 12 := by rw [← q_v4]; exact hB 23 (v3.toInt.toNat)
      refine hk_ial (v := v4) rfl (hH.1 23 (0, 21) rfl) (by omega) (by omega) (show (I) 23 (v3.toInt.toNat) = _ from ((e 23 rfl (v3.toInt.toNat)).trans q_v4)) ?_
      refine qm_Ru.go 0 (c' := (37, [.ref 23, .int s, .int hh, .int le, .int i], [.int v4, .int le], (h.1, I, J, h.2.2.2))) rfl ?_
      have l_v4 : (pI h.2.1 23) (4 * s.toInt.toNat + i.toInt.toNat) = v4.toInt := (congrArg (pI h.2.1 23) (show 4 * s.toInt.toNat + i.toInt.toNat = v3.toInt.toNat from by omega)).trans (congrArg Int32.toInt q_v4)
      refine qm_Ru.go 1 (c' := (40, [.ref 23, .int s, .int hh, .int le, .int i], [.int (if v4 < le then v4 else le)], (h.1, I, J, h.2.2.2))) rfl ?_
      obtain ⟨v5, q_v5⟩ : ∃ v, (if v4 < le then v4 else le) = v := ⟨_, rfl⟩
      rw [q_v5]
      refine qm_Ru.go 2 (c' := (44, [.ref 23, .int s, .int hh, .int v5, .int (i + 1)], [], (h.1, I, J, h.2.2.2))) rfl ?_
      obtain ⟨v6, q_v6, e_v6⟩ := hk_add (x := i) (y := 1) (a := i.toInt) (b := 1) rfl rfl (by omega) (by omega)
      rw [q_v6]
      refine qm_Ru.go 1 (c' := (22, [.ref 23, .int s, .int hh, .int v5, .int v6], [], (h.1, I, J, h.2.2.2))) rfl ?_
      have z_v5 : v5 = v4 ∨ v5 = le := by rw [← q_v5]; exact if c : v4 < le then Or.inl (if_pos c) else Or.inr (if_neg c)
      exact ih _ (by omega) (I) (J) v5 v6 hBI (fun o ho i => (e o ho i)) (by omega) (by rcases z_v5 with c | c <;> rw [c] <;> omega) (by exact z_v5.elim (fun c => by rw [c]; exact fun _ => ⟨i.toInt.toNat, by omega, l_v4⟩) (fun c => by rw [c]; exact fun c2 => (hc c2).elim fun n g => ⟨n, by omega, g.2⟩)) rfl
theorem hs_soon_23 {L : Nat} {xs : Nat → Int32} {d : Nat} {Z : Option Value → qm_H → Prop} {h : qm_H} (h6 : 6 ≤ L) (hH : hk_H h) (hB : hk_B h.2.1) (ht : tw (pI h.2.1 23)) {s : Int32} (b_s : (0 : Int) ≤ s.toInt ∧ s.toInt ≤ 3) (k : ∀ (v : Int32) (I : Nat → Nat → Int32) (J : Nat → Nat → Int64), (0 : Int) ≤ v.toInt ∧ v.toInt ≤ 13 → (v.toInt ≤ 11 → con (pI h.2.1 23) s.toInt.toNat v.toInt) → hk_B I → (∀ o, [].contains o = false → ∀ i, I o i = h.2.1 o i) → Z (some (.int v)) (h.1, I, J, h.2.2.2)) : qm_Ru (some (L, xs)) (d + 20) cd_163 (qm_ent 5 [.ref 23, .int s] h) Z := by
  refine qm_Ru.go 4 (c' := (5, [.ref 23, .int s, .float 0, .float 0, .float 0], [.int (16 + s), .ref 23], h)) rfl ?_
  obtain ⟨v1, q_v1, e_v1⟩ := hk_add (x := 16) (y := s) (a := 16) (b := s.toInt) rfl rfl (by omega) (by omega)
  rw [q_v1]
  obtain ⟨v2, q_v2⟩ : ∃ v, h.2.1 23 (v1.toInt.toNat) = v := ⟨_, rfl⟩
  have b_v2 : (0 : Int) ≤ v2.toInt ∧ v2.toInt ≤ 12 := by rw [← q_v2]; exact hB 23 (v1.toInt.toNat)
  refine hk_ial (v := v2) rfl (hH.1 23 (0, 21) rfl) (by omega) (by omega) q_v2 ?_
  refine qm_Ru.go 0 (c' := (6, [.ref 23, .int s, .float 0, .float 0, .float 0], [.int v2], h)) rfl ?_
  have r_v2 : (0 : Int) ≤ v2.toInt ∧ v2.toInt ≤ 4 := by rw [← q_v2, show v1.toInt.toNat = 16 + s.toInt.toNat from by omega]; exact ht _ (by omega)
  have l_v2 : (pI h.2.1 23) (16 + s.toInt.toNat) = v2.toInt := (congrArg (pI h.2.1 23) (show 16 + s.toInt.toNat = v1.toInt.toNat from by omega)).trans (congrArg Int32.toInt q_v2)
  refine qm_Ru.go 2 (c' := (8, [.ref 23, .int s, .int v2, .float 0, .float 0], [.int v2], h)) rfl ?_
  refine hk_zne (ix := v2.toInt) rfl rfl (fun z3 => ?_) (fun z3 => ?_)
  · refine qm_Ru.go 4 (c' := (22, [.ref 23, .int s, .int v2, .int 12, .int 0], [], h)) rfl ?_
    exact hl_soon_23 h6 hH hB ht b_s (hh := v2) (by omega) l_v2 k _ h.2.1 h.2.2.1 12 0 hB (fun _ _ _ => rfl) (by show (0 : Int) ≤ 0 ∧ (0 : Int) ≤ v2.toInt; omega) (by decide) (fun c => absurd c (by decide)) rfl
  · refine qm_Ru.go 5 (c' := (22, [.ref 23, .int s, .int v2, .int 13, .int 0], [], h)) rfl ?_
    exact hl_soon_23 h6 hH hB ht b_s (hh := v2) (by omega) l_v2 k _ h.2.1 h.2.2.1 13 0 hB (fun _ _ _ => rfl) (by show (0 : Int) ≤ 0 ∧ (0 : Int) ≤ v2.toInt; omega) (by decide) (fun c => absurd c (by decide)) rfl
theorem hl_stk_23 {L : Nat} {xs : Nat → Int32} {d : Nat} {Z : Option Value → qm_H → Prop} {h : qm_H} (h6 : 6 ≤ L) (hH : hk_H h) (hB : hk_B h.2.1) (ht : tw (pI h.2.1 23)) {x : Int32} (k : ∀ (v : Int32) (I : Nat → Nat → Int32) (J : Nat → Nat → Int64), (v.toInt = -1 ∨ (((0 : Int) ≤ v.toInt ∧ v.toInt ≤ 3) ∧ (x.toInt ≤ 11 → con (pI h.2.1 23) v.toInt.toNat x.toInt))) → hk_B I → (∀ o, [].contains o = false → ∀ i, I o i = h.2.1 o i) → Z (some (.int v)) (h.1, I, J, h.2.2.2)) : ∀ (m : Nat) (I : Nat → Nat → Int32) (J : Nat → Nat → Int64) (s : Int32), hk_B I → (∀ o, [].contains o = false → ∀ i, I o i = h.2.1 o i) → ((0 : Int) ≤ s.toInt ∧ s.toInt ≤ 4) → (4 - s.toInt).toNat = m → qm_Ru (some (L, xs)) (d + 40) cd_162 (2, [.ref 23, .int x, .int s], [], (h.1, I, J, h.2.2.2)) Z := by
  intro m
  induction m using Nat.strongRecOn with
  | ind m ih =>
    intro I J s hBI e b_s hm
    refine qm_Ru.go 2 (c' := (4, [.ref 23, .int x, .int s], [.int 4, .int s], (h.1, I, J, h.2.2.2))) rfl ?_
    refine hk_cge (ix := s.toInt) (iy := 4) rfl rfl rfl (fun z1 => ?_) (fun z1 => ?_)
    · refine qm_Ru.go 1 (c' := (25, [.ref 23, .int x, .int s], [.int (-1)], (h.1, I, J, h.2.2.2))) rfl ?_
      refine qm_Ru.rt (v := (some (.int (-1)))) (h' := (h.1, I, J, h.2.2.2)) rfl ?_
      exact k ((-1)) (I) (J) (Or.inl rfl) hBI (fun o ho i => (e o ho i))
    · refine qm_Ru.go 2 (c' := (9, [.ref 23, .int x, .int s], [.int s, .ref 23], (h.1, I, J, h.2.2.2))) rfl ?_
      refine qm_Ru.call (j := 163) (as := [.ref 23, .int s]) (c' := (12, [.ref 23, .int x, .int s], [], (h.1, I, J, h.2.2.2))) rfl rfl rfl (hs_soon_23 (h := (h.1, I, J, h.2.2.2)) h6 hH hBI (by show tw (pI I 23); rw [(show pI I 23 = pI h.2.1 23 from funext fun i => congrArg Int32.toInt (e 23 rfl i))]; exact ht) (s := s) (by omega) (fun v4 I2 J3 b_v4 k_v4 _ e_I2 => ?_))
      have e_I2 : I = I2 := funext fun o => funext fun i => (e_I2 o rfl i).symm
      subst e_I2
      refine qm_Ru.go 1 (c' := (13, [.ref 23, .int x, .int s], [.int x, .int v4], (h.1, I, J3, h.2.2.2))) rfl ?_
      refine hk_cne (ix := v4.toInt) (iy := x.toInt) rfl rfl rfl (fun z5 => ?_) (fun z5 => ?_)
      · refine qm_Ru.go 1 (c' := (21, [.ref 23, .int x, .int (s + 1)], [], (h.1, I, J3, h.2.2.2))) rfl ?_
        obtain ⟨v6, q_v6, e_v6⟩ := hk_add (x := s) (y := 1) (a := s.toInt) (b := 1) rfl rfl (by omega) (by omega)
        rw [q_v6]
        refine qm_Ru.go 1 (c' := (2, [.ref 23, .int x, .int v6], [], (h.1, I, J3, h.2.2.2))) rfl ?_
        exact ih _ (by omega) (I) (J3) v6 hBI (fun o ho i => (e o ho i)) (by omega) rfl
      · refine qm_Ru.go 1 (c' := (17, [.ref 23, .int x, .int s], [.int s], (h.1, I, J3, h.2.2.2))) rfl ?_
        refine qm_Ru.rt (v := (some (.int s))) (h' := (h.1, I, J3, h.2.2.2)) rfl ?_
        exact k s (I) (J3) (Or.inr ⟨by omega, fun c => by have g := k_v4 (by omega); rw [show v4.toInt = x.toInt from by omega] at g; rw [← (show pI I 23 = pI h.2.1 23 from funext fun i => congrArg Int32.toInt (e 23 rfl i))]; exact g⟩) hBI (fun o ho i => (e o ho i))
theorem hs_stk_23 {L : Nat} {xs : Nat → Int32} {d : Nat} {Z : Option Value → qm_H → Prop} {h : qm_H} (h6 : 6 ≤ L) (hH : hk_H h) (hB : hk_B h.2.1) (ht : tw (pI h.2.1 23)) {x : Int32} (k : ∀ (v : Int32) (I : Nat → Nat → Int32) (J : Nat → Nat → Int64), (v.toInt = -1 ∨ (((0 : Int) ≤ v.toInt ∧ v.toInt ≤ 3) ∧ (x.toInt ≤ 11 → con (pI h.2.1 23) v.toInt.toNat x.toInt))) → hk_B I → (∀ o, [].contains o = false → ∀ i, I o i = h.2.1 o i) → Z (some (.int v)) (h.1, I, J, h.2.2.2)) : qm_Ru (some (L, xs)) (d + 40) cd_162 (qm_ent 3 [.ref 23, .int x] h) Z := by
  refine qm_Ru.go 2 (c' := (2, [.ref 23, .int x, .int 0], [], h)) rfl ?_
  exact hl_stk_23 h6 hH hB ht k _ h.2.1 h.2.2.1 0 hB (fun _ _ _ => rfl) (by decide) rfl
theorem hl_srv_23 {L : Nat} {xs : Nat → Int32} {d : Nat} {Z : Option Value → qm_H → Prop} {h : qm_H} (h6 : 6 ≤ L) (hH : hk_H h) (hB : hk_B h.2.1) {al : Int32} (b_al : (0 : Int) ≤ al.toInt ∧ al.toInt ≤ 12) (k : ∀ (I : Nat → Nat → Int32) (J : Nat → Nat → Int64), hk_B I → (∀ o, [23].contains o = false → ∀ i, I o i = h.2.1 o i) → tw (pI I 23) → Z none (h.1, I, J, h.2.2.2)) : ∀ (m : Nat) (I : Nat → Nat → Int32) (J : Nat → Nat → Int64) (i : Int32) (l3 : Value), hk_B I → (∀ o, [23].contains o = false → ∀ i, I o i = h.2.1 o i) → ((0 : Int) ≤ i.toInt ∧ i.toInt ≤ 16) → (tw (pI I 23)) → (16 - i.toInt).toNat = m → qm_Ru (some (L, xs)) (d + 60) cd_171 (2, [.ref 23, .int al, .int i, l3], [], (h.1, I, J, h.2.2.2)) Z := by
  intro m
  induction m using Nat.strongRecOn with
  | ind m ih =>
    intro I J i l3 hBI e h_i htw hm
    refine qm_Ru.go 2 (c' := (5, [.ref 23, .int al, .int i, l3], [.int 16, .int i], (h.1, I, J, h.2.2.2))) rfl ?_
    refine hk_cge (ix := i.toInt) (iy := 16) rfl rfl rfl (fun z1 => ?_) (fun z1 => ?_)
    · refine qm_Ru.go 0 (c' := (67, [.ref 23, .int al, .int i, l3], [], (h.1, I, J, h.2.2.2))) rfl ?_
      refine qm_Ru.rt (v := none) (h' := (h.1, I, J, h.2.2.2)) rfl ?_
      exact k (I) (J) hBI (fun o ho i => (e o ho i)) htw
    · refine qm_Ru.go 2 (c' := (11, [.ref 23, .int al, .int i, l3], [.int 20, .ref 23], (h.1, I, J, h.2.2.2))) rfl ?_
      obtain ⟨v2, q_v2⟩ : ∃ v, I 23 20 = v := ⟨_, rfl⟩
      have b_v2 : (0 : Int) ≤ v2.toInt ∧ v2.toInt ≤ 12 := by rw [← q_v2]; exact hBI 23 20
      refine hk_ial (v := v2) rfl (hH.1 23 (0, 21) rfl) (by decide) (by decide) q_v2 ?_
      refine qm_Ru.go 1 (c' := (13, [.ref 23, .int al, .int i, l3], [.int al, .int v2], (h.1, I, J, h.2.2.2))) rfl ?_
      refine hk_cge (ix := v2.toInt) (iy := al.toInt) rfl rfl rfl (fun z3 => ?_) (fun z3 => ?_)
      · refine qm_Ru.go 0 (c' := (67, [.ref 23, .int al, .int i, l3], [], (h.1, I, J, h.2.2.2))) rfl ?_
        refine qm_Ru.rt (v := none) (h' := (h.1, I, J, h.2.2.2)) rfl ?_
        exact k (I) (J) hBI (fun o ho i => (e o ho i)) htw
      · refine qm_Ru.go 3 (c' := (20, [.ref 23, .int al, .int i, l3], [.int 20, .ref 23, .ref 23], (h.1, I, J, h.2.2.2))) rfl ?_
        refine hk_ial (v := v2) rfl (hH.1 23 (0, 21) rfl) (by decide) (by decide) q_v2 ?_
        refine qm_Ru.go 0 (c' := (21, [.ref 23, .int al, .int i, l3], [.int v2, .ref 23], (h.1, I, J, h.2.2.2))) rfl ?_
        refine qm_Ru.call (j := 162) (as := [.ref 23, .int v2]) (c' := (24, [.ref 23, .int al, .int i, l3], [], (h.1, I, J, h.2.2.2))) rfl rfl rfl (hs_stk_23 (h := (h.1, I, J, h.2.2.2)) h6 hH hBI htw (x := v2) (fun v6 I4 J5 k_v6 _ e_I4 => ?_))
        have e_I4 : I = I4 := funext fun o => funext fun i => (e_I4 o rfl i).symm
        subst e_I4
        have b_v6 : (-1 : Int) ≤ v6.toInt ∧ v6.toInt ≤ 3 := by rcases k_v6 with c | ⟨c, _⟩ <;> omega
        refine qm_Ru.go 3 (c' := (27, [.ref 23, .int al, .int i, .int v6], [.int (-1), .int v6], (h.1, I, J5, h.2.2.2))) rfl ?_
        refine hk_ceq (ix := v6.toInt) (iy := (-1)) rfl rfl rfl (fun z7 => ?_) (fun z7 => ?_)
        · refine qm_Ru.go 0 (c' := (42, [.ref 23, .int al, .int i, .int v6], [], (h.1, I, J5, h.2.2.2))) rfl ?_
          refine qm_Ru.rt (v := none) (h' := (h.1, I, J5, h.2.2.2)) rfl ?_
          exact k (I) (J5) hBI (fun o ho i => (e o ho i)) htw
        · refine qm_Ru.go 2 (c' := (32, [.ref 23, .int al, .int i, .int v6], [.int v6, .ref 23], (h.1, I, J5, h.2.2.2))) rfl ?_
          refine qm_Ru.call (j := 164) (as := [.ref 23, .int v6]) (c' := (35, [.ref 23, .int al, .int i, .int v6], [], (h.1, I, J5, h.2.2.2))) rfl rfl rfl ?_
          refine qm_Ru.go 4 (c' := (5, [.ref 23, .int v6, .float 0], [.int (16 + v6), .ref 23], (h.1, I, J5, h.2.2.2))) rfl ?_
          obtain ⟨v8, q_v8, e_v8⟩ := hk_add (x := 16) (y := v6) (a := 16) (b := v6.toInt) rfl rfl (by omega) (by omega)
          rw [q_v8]
          obtain ⟨v9, q_v9⟩ : ∃ v, I 23 (v8.toInt.toNat) = v := ⟨_, rfl⟩
          have b_v9 : (0 : Int) ≤ v9.toInt ∧ v9.toInt ≤ 12 := by rw [← q_v9]; exact hBI 23 (v8.toInt.toNat)
          refine hk_ial (v := v9) rfl (hH.1 23 (0, 21) rfl) (by omega) (by omega) q_v9 ?_
          refine qm_Ru.go 0 (c' := (6, [.ref 23, .int v6, .float 0], [.int v9], (h.1, I, J5, h.2.2.2))) rfl ?_
          have r_v9 : (0 : Int) ≤ v9.toInt ∧ v9.toInt ≤ 4 := by rw [← q_v9, show v8.toInt.toNat = 16 + v6.toInt.toNat from by omega]; exact htw _ (by omega)
          refine qm_Ru.go 2 (c' := (8, [.ref 23, .int v6, .int v9], [.int v9], (h.1, I, J5, h.2.2.2))) rfl ?_
          refine hk_zne (ix := v9.toInt) rfl rfl (fun z10 => ?_) (fun z10 => ?_)
          · refine qm_Ru.go 4 (c' := (20, [.ref 23, .int v6, .int v9], [.int (v6 * 4), .ref 23], (h.1, I, J5, h.2.2.2))) rfl ?_
            obtain ⟨v11, q_v11, e_v11⟩ := hk_mul (x := v6) (y := 4) (a := v6.toInt) (b := 4) rfl rfl (by omega) (by omega)
            rw [q_v11]
            refine qm_Ru.go 2 (c' := (22, [.ref 23, .int v6, .int v9], [.int (v11 + v9), .ref 23], (h.1, I, J5, h.2.2.2))) rfl ?_
            obtain ⟨v12, q_v12, e_v12⟩ := hk_add (x := v11) (y := v9) (a := v11.toInt) (b := v9.toInt) rfl rfl (by omega) (by omega)
            rw [q_v12]
            refine qm_Ru.go 2 (c' := (24, [.ref 23, .int v6, .int v9], [.int (v12 - 1), .ref 23], (h.1, I, J5, h.2.2.2))) rfl ?_
            obtain ⟨v13, q_v13, e_v13⟩ := hk_sub (x := v12) (y := 1) (a := v12.toInt) (b := 1) rfl rfl (by omega) (by omega)
            rw [q_v13]
            obtain ⟨v14, q_v14⟩ : ∃ v, I 23 (v13.toInt.toNat) = v := ⟨_, rfl⟩
            have b_v14 : (0 : Int) ≤ v14.toInt ∧ v14.toInt ≤ 12 := by rw [← q_v14]; exact hBI 23 (v13.toInt.toNat)
            refine hk_ial (v := v14) rfl (hH.1 23 (0, 21) rfl) (by omega) (by omega) q_v14 ?_
            refine qm_Ru.go 0 (c' := (25, [.ref 23, .int v6, .int v9], [.int v14], (h.1, I, J5, h.2.2.2))) rfl ?_
            refine qm_Ru.rt (v := (some (.int v14))) (h' := (h.1, I, J5, h.2.2.2)) rfl ?_
            refine qm_Ru.go 2 (c' := (38, [.ref 23, .int al, .int i, .int v6], [.int 20, .ref 23, .int v14], (h.1, I, J5, h.2.2.2))) rfl ?_
            refine hk_ial (v := v2) rfl (hH.1 23 (0, 21) rfl) (by decide) (by decide) q_v2 ?_
            refine qm_Ru.go 0 (c' := (39, [.ref 23, .int al, .int i, .int v6], [.int v2, .int v14], (h.1, I, J5, h.2.2.2))) rfl ?_
            refine hk_ceq (ix := v14.toInt) (iy := v2.toInt) rfl rfl rfl (fun z15 => ?_) (fun z15 => ?_)
            · refine qm_Ru.go 4 (c' := (48, [.ref 23, .int al, .int i, .int v6], [.int (16 + v6), .ref 23], (h.1, I, J5, h.2.2.2))) rfl ?_
              rw [q_v8]
              refine qm_Ru.go 1 (c' := (49, [.ref 23, .int al, .int i, .int v6], [.int v8, .ref 23, .int v8, .ref 23], (h.1, I, J5, h.2.2.2))) rfl ?_
              refine hk_ial (v := v9) rfl (hH.1 23 (0, 21) rfl) (by omega) (by omega) q_v9 ?_
              refine qm_Ru.go 2 (c' := (52, [.ref 23, .int al, .int i, .int v6], [.int (v9 - 1), .int v8, .ref 23], (h.1, I, J5, h.2.2.2))) rfl ?_
              obtain ⟨v17, q_v17, e_v17⟩ := hk_sub (x := v9) (y := 1) (a := v9.toInt) (b := 1) rfl rfl (by omega) (by omega)
              rw [q_v17]
              refine hk_ias rfl (hH.1 23 (0, 21) rfl) (by omega) (by omega) ?_
              refine qm_Ru.go 3 (c' := (57, [.ref 23, .int al, .int i, .int v6], [.int 20, .ref 23, .int 20, .ref 23], (h.1, qm_up I 23 (v8.toInt.toNat) v17, J5, h.2.2.2))) rfl ?_
              refine hk_ial (v := v2) rfl (hH.1 23 (0, 21) rfl) (by decide) (by decide) (show (qm_up I 23 (v8.toInt.toNat) v17) 23 20 = _ from ((hk_neq (by omega)).trans q_v2)) ?_
              refine qm_Ru.go 2 (c' := (60, [.ref 23, .int al, .int i, .int v6], [.int (v2 + 1), .int 20, .ref 23], (h.1, qm_up I 23 (v8.toInt.toNat) v17, J5, h.2.2.2))) rfl ?_
              obtain ⟨v18, q_v18, e_v18⟩ := hk_add (x := v2) (y := 1) (a := v2.toInt) (b := 1) rfl rfl (by omega) (by omega)
              rw [q_v18]
              refine hk_ias rfl (hH.1 23 (0, 21) rfl) (by decide) (by decide) ?_
              refine qm_Ru.go 1 (c' := (64, [.ref 23, .int al, .int (i + 1), .int v6], [], (h.1, qm_up (qm_up I 23 (v8.toInt.toNat) v17) 23 20 v18, J5, h.2.2.2))) rfl ?_
              obtain ⟨v19, q_v19, e_v19⟩ := hk_add (x := i) (y := 1) (a := i.toInt) (b := 1) rfl rfl (by omega) (by omega)
              rw [q_v19]
              refine qm_Ru.go 1 (c' := (2, [.ref 23, .int al, .int v19, .int v6], [], (h.1, qm_up (qm_up I 23 (v8.toInt.toNat) v17) 23 20 v18, J5, h.2.2.2))) rfl ?_
              exact ih _ (by omega) (qm_up (qm_up I 23 (v8.toInt.toNat) v17) 23 20 v18) (J5) v19 (.int v6) (hb_up (o := 23) (k := 20) (x := v18) (hb_up (o := 23) (k := v8.toInt.toNat) (x := v17) hBI ⟨by show (0 : Int) ≤ v17.toInt; omega, by show v17.toInt ≤ (12 : Int); omega⟩) ⟨by show (0 : Int) ≤ v18.toInt; omega, by show v18.toInt ≤ (12 : Int); omega⟩) (fun o ho i => ((hk_mod ho rfl).trans ((hk_mod ho rfl).trans (e o ho i)))) (by omega) (fun s hs => by show 0 ≤ ((qm_up (qm_up I 23 (v8.toInt.toNat) v17) 23 20 v18) 23 (16 + s)).toInt ∧ ((qm_up (qm_up I 23 (v8.toInt.toNat) v17) 23 20 v18) 23 (16 + s)).toInt ≤ 4; rw [hk_neq (by omega)]; exact if c : s = v6.toInt.toNat then (by subst c; rw [hk_equ (by omega)]; omega) else (by rw [hk_neq (by omega)]; exact htw s hs)) rfl
            · refine qm_Ru.go 0 (c' := (42, [.ref 23, .int al, .int i, .int v6], [], (h.1, I, J5, h.2.2.2))) rfl ?_
              refine qm_Ru.rt (v := none) (h' := (h.1, I, J5, h.2.2.2)) rfl ?_
              exact k (I) (J5) hBI (fun o ho i => (e o ho i)) htw
          · refine qm_Ru.go 2 (c' := (25, [.ref 23, .int v6, .int v9], [.int 13], (h.1, I, J5, h.2.2.2))) rfl ?_
            refine qm_Ru.rt (v := (some (.int 13))) (h' := (h.1, I, J5, h.2.2.2)) rfl ?_
            refine qm_Ru.go 2 (c' := (38, [.ref 23, .int al, .int i, .int v6], [.int 20, .ref 23, .int 13], (h.1, I, J5, h.2.2.2))) rfl ?_
            refine hk_ial (v := v2) rfl (hH.1 23 (0, 21) rfl) (by decide) (by decide) q_v2 ?_
            refine qm_Ru.go 0 (c' := (39, [.ref 23, .int al, .int i, .int v6], [.int v2, .int 13], (h.1, I, J5, h.2.2.2))) rfl ?_
            refine hk_ceq (ix := 13) (iy := v2.toInt) rfl rfl rfl (fun z20 => by exfalso; omega) (fun z20 => ?_)
            refine qm_Ru.go 0 (c' := (42, [.ref 23, .int al, .int i, .int v6], [], (h.1, I, J5, h.2.2.2))) rfl ?_
            refine qm_Ru.rt (v := none) (h' := (h.1, I, J5, h.2.2.2)) rfl ?_
            exact k (I) (J5) hBI (fun o ho i => (e o ho i)) htw
theorem hs_srv_23 {L : Nat} {xs : Nat → Int32} {d : Nat} {Z : Option Value → qm_H → Prop} {h : qm_H} (h6 : 6 ≤ L) (hH : hk_H h) (hB : hk_B h.2.1) {al : Int32} (b_al : (0 : Int) ≤ al.toInt ∧ al.toInt ≤ 12) (ht : tw (pI h.2.1 23)) (k : ∀ (I : Nat → Nat → Int32) (J : Nat → Nat → Int64), hk_B I → (∀ o, [23].contains o = false → ∀ i, I o i = h.2.1 o i) → tw (pI I 23) → Z none (h.1, I, J, h.2.2.2)) : qm_Ru (some (L, xs)) (d + 60) cd_171 (qm_ent 4 [.ref 23, .int al] h) Z := by
  refine qm_Ru.go 2 (c' := (2, [.ref 23, .int al, .int 0, .float 0], [], h)) rfl ?_
  exact hl_srv_23 h6 hH hB b_al k _ h.2.1 h.2.2.1 0 _ hB (fun _ _ _ => rfl) (by decide) ht rfl
theorem hl_soon_24 {L : Nat} {xs : Nat → Int32} {d : Nat} {Z : Option Value → qm_H → Prop} {h : qm_H} (h6 : 6 ≤ L) (hH : hk_H h) (hB : hk_B h.2.1) (ht : tw (pI h.2.1 24)) {s : Int32} (b_s : (0 : Int) ≤ s.toInt ∧ s.toInt ≤ 3) {hh : Int32} (b_hh : (0 : Int) ≤ hh.toInt ∧ hh.toInt ≤ 4) (ehh : (pI h.2.1 24) (16 + s.toInt.toNat) = hh.toInt) (k : ∀ (v : Int32) (I : Nat → Nat → Int32) (J : Nat → Nat → Int64), (0 : Int) ≤ v.toInt ∧ v.toInt ≤ 13 → (v.toInt ≤ 11 → con (pI h.2.1 24) s.toInt.toNat v.toInt) → hk_B I → (∀ o, [].contains o = false → ∀ i, I o i = h.2.1 o i) → Z (some (.int v)) (h.1, I, J, h.2.2.2)) : ∀ (m : Nat) (I : Nat → Nat → Int32) (J : Nat → Nat → Int64) (le : Int32) (i : Int32), hk_B I → (∀ o, [].contains o = false → ∀ i, I o i = h.2.1 o i) → ((0 : Int) ≤ i.toInt ∧ i.toInt ≤ hh.toInt) → ((0 : Int) ≤ le.toInt ∧ le.toInt ≤ 13) → (le.toInt ≤ 11 → ∃ n : Nat, n < i.toInt.toNat ∧ (pI h.2.1 24) (4 * s.toInt.toNat + n) = le.toInt) → (4 - i.toInt).toNat = m → qm_Ru (some (L, xs)) (d + 20) cd_163 (22, [.ref 24, .int s, .int hh, .int le, .int i], [], (h.1, I, J, h.2.2.2)) Z := by
  intro m
  induction m using Nat.strongRecOn with
  | ind m ih =>
    intro I J le i hBI e h_i h_le hc hm
    refine qm_Ru.go 2 (c' := (25, [.ref 24, .int s, .int hh, .int le, .int i], [.int hh, .int i], (h.1, I, J, h.2.2.2))) rfl ?_
    refine hk_cge (ix := i.toInt) (iy := hh.toInt) rfl rfl rfl (fun z1 => ?_) (fun z1 => ?_)
    · refine qm_Ru.go 1 (c' := (48, [.ref 24, .int s, .int hh, .int le, .int i], [.int le], (h.1, I, J, h.2.2.2))) rfl ?_
      refine qm_Ru.rt (v := (some (.int le))) (h' := (h.1, I, J, h.2.2.2)) rfl ?_
      exact k le (I) (J) (by omega) (fun c => (hc c).elim fun n g => ⟨n, by omega, by rw [ehh]; omega, g.2⟩) hBI (fun o ho i => (e o ho i))
    · refine qm_Ru.go 5 (c' := (33, [.ref 24, .int s, .int hh, .int le, .int i], [.int (s * 4), .ref 24, .int le], (h.1, I, J, h.2.2.2))) rfl ?_
      obtain ⟨v2, q_v2, e_v2⟩ := hk_mul (x := s) (y := 4) (a := s.toInt) (b := 4) rfl rfl (by omega) (by omega)
      rw [q_v2]
      refine qm_Ru.go 2 (c' := (36, [.ref 24, .int s, .int hh, .int le, .int i], [.int (v2 + i), .ref 24, .int le], (h.1, I, J, h.2.2.2))) rfl ?_
      obtain ⟨v3, q_v3, e_v3⟩ := hk_add (x := v2) (y := i) (a := v2.toInt) (b := i.toInt) rfl rfl (by omega) (by omega)
      rw [q_v3]
      obtain ⟨v4, q_v4⟩ : ∃ v, h.2.1 24 (v3.toInt.toNat) = v := ⟨_, rfl⟩
      have b_v4 : (0 : Int) ≤ v4.toInt ∧ v4.toInt ≤ 12 := by rw [← q_v4]; exact hB 24 (v3.toInt.toNat)
      refine hk_ial (v := v4) rfl (hH.1 24 (0, 21) rfl) (by omega) (by omega) (show (I) 24 (v3.toInt.toNat) = _ from ((e 24 rfl (v3.toInt.toNat)).trans q_v4)) ?_
      refine qm_Ru.go 0 (c' := (37, [.ref 24, .int s, .int hh, .int le, .int i], [.int v4, .int le], (h.1, I, J, h.2.2.2))) rfl ?_
      have l_v4 : (pI h.2.1 24) (4 * s.toInt.toNat + i.toInt.toNat) = v4.toInt := (congrArg (pI h.2.1 24) (show 4 * s.toInt.toNat + i.toInt.toNat = v3.toInt.toNat from by omega)).trans (congrArg Int32.toInt q_v4)
      refine qm_Ru.go 1 (c' := (40, [.ref 24, .int s, .int hh, .int le, .int i], [.int (if v4 < le then v4 else le)], (h.1, I, J, h.2.2.2))) rfl ?_
      obtain ⟨v5, q_v5⟩ : ∃ v, (if v4 < le then v4 else le) = v := ⟨_, rfl⟩
      rw [q_v5]
      refine qm_Ru.go 2 (c' := (44, [.ref 24, .int s, .int hh, .int v5, .int (i + 1)], [], (h.1, I, J, h.2.2.2))) rfl ?_
      obtain ⟨v6, q_v6, e_v6⟩ := hk_add (x := i) (y := 1) (a := i.toInt) (b := 1) rfl rfl (by omega) (by omega)
      rw [q_v6]
      refine qm_Ru.go 1 (c' := (22, [.ref 24, .int s, .int hh, .int v5, .int v6], [], (h.1, I, J, h.2.2.2))) rfl ?_
      have z_v5 : v5 = v4 ∨ v5 = le := by rw [← q_v5]; exact if c : v4 < le then Or.inl (if_pos c) else Or.inr (if_neg c)
      exact ih _ (by omega) (I) (J) v5 v6 hBI (fun o ho i => (e o ho i)) (by omega) (by rcases z_v5 with c | c <;> rw [c] <;> omega) (by exact z_v5.elim (fun c => by rw [c]; exact fun _ => ⟨i.toInt.toNat, by omega, l_v4⟩) (fun c => by rw [c]; exact fun c2 => (hc c2).elim fun n g => ⟨n, by omega, g.2⟩)) rfl
theorem hs_soon_24 {L : Nat} {xs : Nat → Int32} {d : Nat} {Z : Option Value → qm_H → Prop} {h : qm_H} (h6 : 6 ≤ L) (hH : hk_H h) (hB : hk_B h.2.1) (ht : tw (pI h.2.1 24)) {s : Int32} (b_s : (0 : Int) ≤ s.toInt ∧ s.toInt ≤ 3) (k : ∀ (v : Int32) (I : Nat → Nat → Int32) (J : Nat → Nat → Int64), (0 : Int) ≤ v.toInt ∧ v.toInt ≤ 13 → (v.toInt ≤ 11 → con (pI h.2.1 24) s.toInt.toNat v.toInt) → hk_B I → (∀ o, [].contains o = false → ∀ i, I o i = h.2.1 o i) → Z (some (.int v)) (h.1, I, J, h.2.2.2)) : qm_Ru (some (L, xs)) (d + 20) cd_163 (qm_ent 5 [.ref 24, .int s] h) Z := by
  refine qm_Ru.go 4 (c' := (5, [.ref 24, .int s, .float 0, .float 0, .float 0], [.int (16 + s), .ref 24], h)) rfl ?_
  obtain ⟨v1, q_v1, e_v1⟩ := hk_add (x := 16) (y := s) (a := 16) (b := s.toInt) rfl rfl (by omega) (by omega)
  rw [q_v1]
  obtain ⟨v2, q_v2⟩ : ∃ v, h.2.1 24 (v1.toInt.toNat) = v := ⟨_, rfl⟩
  have b_v2 : (0 : Int) ≤ v2.toInt ∧ v2.toInt ≤ 12 := by rw [← q_v2]; exact hB 24 (v1.toInt.toNat)
  refine hk_ial (v := v2) rfl (hH.1 24 (0, 21) rfl) (by omega) (by omega) q_v2 ?_
  refine qm_Ru.go 0 (c' := (6, [.ref 24, .int s, .float 0, .float 0, .float 0], [.int v2], h)) rfl ?_
  have r_v2 : (0 : Int) ≤ v2.toInt ∧ v2.toInt ≤ 4 := by rw [← q_v2, show v1.toInt.toNat = 16 + s.toInt.toNat from by omega]; exact ht _ (by omega)
  have l_v2 : (pI h.2.1 24) (16 + s.toInt.toNat) = v2.toInt := (congrArg (pI h.2.1 24) (show 16 + s.toInt.toNat = v1.toInt.toNat from by omega)).trans (congrArg Int32.toInt q_v2)
  refine qm_Ru.go 2 (c' := (8, [.ref 24, .int s, .int v2, .float 0, .float 0], [.int v2], h)) rfl ?_
  refine hk_zne (ix := v2.toInt) rfl rfl (fun z3 => ?_) (fun z3 => ?_)
  · refine qm_Ru.go 4 (c' := (22, [.ref 24, .int s, .int v2, .int 12, .int 0], [], h)) rfl ?_
    exact hl_soon_24 h6 hH hB ht b_s (hh := v2) (by omega) l_v2 k _ h.2.1 h.2.2.1 12 0 hB (fun _ _ _ => rfl) (by show (0 : Int) ≤ 0 ∧ (0 : Int) ≤ v2.toInt; omega) (by decide) (fun c => absurd c (by decide)) rfl
  · refine qm_Ru.go 5 (c' := (22, [.ref 24, .int s, .int v2, .int 13, .int 0], [], h)) rfl ?_
    exact hl_soon_24 h6 hH hB ht b_s (hh := v2) (by omega) l_v2 k _ h.2.1 h.2.2.1 13 0 hB (fun _ _ _ => rfl) (by show (0 : Int) ≤ 0 ∧ (0 : Int) ≤ v2.toInt; omega) (by decide) (fun c => absurd c (by decide)) rfl
theorem hl_stk_24 {L : Nat} {xs : Nat → Int32} {d : Nat} {Z : Option Value → qm_H → Prop} {h : qm_H} (h6 : 6 ≤ L) (hH : hk_H h) (hB : hk_B h.2.1) (ht : tw (pI h.2.1 24)) {x : Int32} (k : ∀ (v : Int32) (I : Nat → Nat → Int32) (J : Nat → Nat → Int64), (v.toInt = -1 ∨ (((0 : Int) ≤ v.toInt ∧ v.toInt ≤ 3) ∧ (x.toInt ≤ 11 → con (pI h.2.1 24) v.toInt.toNat x.toInt))) → hk_B I → (∀ o, [].contains o = false → ∀ i, I o i = h.2.1 o i) → Z (some (.int v)) (h.1, I, J, h.2.2.2)) : ∀ (m : Nat) (I : Nat → Nat → Int32) (J : Nat → Nat → Int64) (s : Int32), hk_B I → (∀ o, [].contains o = false → ∀ i, I o i = h.2.1 o i) → ((0 : Int) ≤ s.toInt ∧ s.toInt ≤ 4) → (4 - s.toInt).toNat = m → qm_Ru (some (L, xs)) (d + 40) cd_162 (2, [.ref 24, .int x, .int s], [], (h.1, I, J, h.2.2.2)) Z := by
  intro m
  induction m using Nat.strongRecOn with
  | ind m ih =>
    intro I J s hBI e b_s hm
    refine qm_Ru.go 2 (c' := (4, [.ref 24, .int x, .int s], [.int 4, .int s], (h.1, I, J, h.2.2.2))) rfl ?_
    refine hk_cge (ix := s.toInt) (iy := 4) rfl rfl rfl (fun z1 => ?_) (fun z1 => ?_)
    · refine qm_Ru.go 1 (c' := (25, [.ref 24, .int x, .int s], [.int (-1)], (h.1, I, J, h.2.2.2))) rfl ?_
      refine qm_Ru.rt (v := (some (.int (-1)))) (h' := (h.1, I, J, h.2.2.2)) rfl ?_
      exact k ((-1)) (I) (J) (Or.inl rfl) hBI (fun o ho i => (e o ho i))
    · refine qm_Ru.go 2 (c' := (9, [.ref 24, .int x, .int s], [.int s, .ref 24], (h.1, I, J, h.2.2.2))) rfl ?_
      refine qm_Ru.call (j := 163) (as := [.ref 24, .int s]) (c' := (12, [.ref 24, .int x, .int s], [], (h.1, I, J, h.2.2.2))) rfl rfl rfl (hs_soon_24 (h := (h.1, I, J, h.2.2.2)) h6 hH hBI (by show tw (pI I 24); rw [(show pI I 24 = pI h.2.1 24 from funext fun i => congrArg Int32.toInt (e 24 rfl i))]; exact ht) (s := s) (by omega) (fun v4 I2 J3 b_v4 k_v4 _ e_I2 => ?_))
      have e_I2 : I = I2 := funext fun o => funext fun i => (e_I2 o rfl i).symm
      subst e_I2
      refine qm_Ru.go 1 (c' := (13, [.ref 24, .int x, .int s], [.int x, .int v4], (h.1, I, J3, h.2.2.2))) rfl ?_
      refine hk_cne (ix := v4.toInt) (iy := x.toInt) rfl rfl rfl (fun z5 => ?_) (fun z5 => ?_)
      · refine qm_Ru.go 1 (c' := (21, [.ref 24, .int x, .int (s + 1)], [], (h.1, I, J3, h.2.2.2))) rfl ?_
        obtain ⟨v6, q_v6, e_v6⟩ := hk_add (x := s) (y := 1) (a := s.toInt) (b := 1) rfl rfl (by omega) (by omega)
        rw [q_v6]
        refine qm_Ru.go 1 (c' := (2, [.ref 24, .int x, .int v6], [], (h.1, I, J3, h.2.2.2))) rfl ?_
        exact ih _ (by omega) (I) (J3) v6 hBI (fun o ho i => (e o ho i)) (by omega) rfl
      · refine qm_Ru.go 1 (c' := (17, [.ref 24, .int x, .int s], [.int s], (h.1, I, J3, h.2.2.2))) rfl ?_
        refine qm_Ru.rt (v := (some (.int s))) (h' := (h.1, I, J3, h.2.2.2)) rfl ?_
        exact k s (I) (J3) (Or.inr ⟨by omega, fun c => by have g := k_v4 (by omega); rw [show v4.toInt = x.toInt from by omega] at g; rw [← (show pI I 24 = pI h.2.1 24 from funext fun i => congrArg Int32.toInt (e 24 rfl i))]; exact g⟩) hBI (fun o ho i => (e o ho i))
theorem hs_stk_24 {L : Nat} {xs : Nat → Int32} {d : Nat} {Z : Option Value → qm_H → Prop} {h : qm_H} (h6 : 6 ≤ L) (hH : hk_H h) (hB : hk_B h.2.1) (ht : tw (pI h.2.1 24)) {x : Int32} (k : ∀ (v : Int32) (I : Nat → Nat → Int32) (J : Nat → Nat → Int64), (v.toInt = -1 ∨ (((0 : Int) ≤ v.toInt ∧ v.toInt ≤ 3) ∧ (x.toInt ≤ 11 → con (pI h.2.1 24) v.toInt.toNat x.toInt))) → hk_B I → (∀ o, [].contains o = false → ∀ i, I o i = h.2.1 o i) → Z (some (.int v)) (h.1, I, J, h.2.2.2)) : qm_Ru (some (L, xs)) (d + 40) cd_162 (qm_ent 3 [.ref 24, .int x] h) Z := by
  refine qm_Ru.go 2 (c' := (2, [.ref 24, .int x, .int 0], [], h)) rfl ?_
  exact hl_stk_24 h6 hH hB ht k _ h.2.1 h.2.2.1 0 hB (fun _ _ _ => rfl) (by decide) rfl
theorem hl_srv_24 {L : Nat} {xs : Nat → Int32} {d : Nat} {Z : Option Value → qm_H → Prop} {h : qm_H} (h6 : 6 ≤ L) (hH : hk_H h) (hB : hk_B h.2.1) {al : Int32} (b_al : (0 : Int) ≤ al.toInt ∧ al.toInt ≤ 12) (k : ∀ (I : Nat → Nat → Int32) (J : Nat → Nat → Int64), hk_B I → (∀ o, [24].contains o = false → ∀ i, I o i = h.2.1 o i) → tw (pI I 24) → Z none (h.1, I, J, h.2.2.2)) : ∀ (m : Nat) (I : Nat → Nat → Int32) (J : Nat → Nat → Int64) (i : Int32) (l3 : Value), hk_B I → (∀ o, [24].contains o = false → ∀ i, I o i = h.2.1 o i) → ((0 : Int) ≤ i.toInt ∧ i.toInt ≤ 16) → (tw (pI I 24)) → (16 - i.toInt).toNat = m → qm_Ru (some (L, xs)) (d + 60) cd_171 (2, [.ref 24, .int al, .int i, l3], [], (h.1, I, J, h.2.2.2)) Z := by
  intro m
  induction m using Nat.strongRecOn with
  | ind m ih =>
    intro I J i l3 hBI e h_i htw hm
    refine qm_Ru.go 2 (c' := (5, [.ref 24, .int al, .int i, l3], [.int 16, .int i], (h.1, I, J, h.2.2.2))) rfl ?_
    refine hk_cge (ix := i.toInt) (iy := 16) rfl rfl rfl (fun z1 => ?_) (fun z1 => ?_)
    · refine qm_Ru.go 0 (c' := (67, [.ref 24, .int al, .int i, l3], [], (h.1, I, J, h.2.2.2))) rfl ?_
      refine qm_Ru.rt (v := none) (h' := (h.1, I, J, h.2.2.2)) rfl ?_
      exact k (I) (J) hBI (fun o ho i => (e o ho i)) htw
    · refine qm_Ru.go 2 (c' := (11, [.ref 24, .int al, .int i, l3], [.int 20, .ref 24], (h.1, I, J, h.2.2.2))) rfl ?_
      obtain ⟨v2, q_v2⟩ : ∃ v, I 24 20 = v := ⟨_, rfl⟩
      have b_v2 : (0 : Int) ≤ v2.toInt ∧ v2.toInt ≤ 12 := by rw [← q_v2]; exact hBI 24 20
      refine hk_ial (v := v2) rfl (hH.1 24 (0, 21) rfl) (by decide) (by decide) q_v2 ?_
      refine qm_Ru.go 1 (c' := (13, [.ref 24, .int al, .int i, l3], [.int al, .int v2], (h.1, I, J, h.2.2.2))) rfl ?_
      refine hk_cge (ix := v2.toInt) (iy := al.toInt) rfl rfl rfl (fun z3 => ?_) (fun z3 => ?_)
      · refine qm_Ru.go 0 (c' := (67, [.ref 24, .int al, .int i, l3], [], (h.1, I, J, h.2.2.2))) rfl ?_
        refine qm_Ru.rt (v := none) (h' := (h.1, I, J, h.2.2.2)) rfl ?_
        exact k (I) (J) hBI (fun o ho i => (e o ho i)) htw
      · refine qm_Ru.go 3 (c' := (20, [.ref 24, .int al, .int i, l3], [.int 20, .ref 24, .ref 24], (h.1, I, J, h.2.2.2))) rfl ?_
        refine hk_ial (v := v2) rfl (hH.1 24 (0, 21) rfl) (by decide) (by decide) q_v2 ?_
        refine qm_Ru.go 0 (c' := (21, [.ref 24, .int al, .int i, l3], [.int v2, .ref 24], (h.1, I, J, h.2.2.2))) rfl ?_
        refine qm_Ru.call (j := 162) (as := [.ref 24, .int v2]) (c' := (24, [.ref 24, .int al, .int i, l3], [], (h.1, I, J, h.2.2.2))) rfl rfl rfl (hs_stk_24 (h := (h.1, I, J, h.2.2.2)) h6 hH hBI htw (x := v2) (fun v6 I4 J5 k_v6 _ e_I4 => ?_))
        have e_I4 : I = I4 := funext fun o => funext fun i => (e_I4 o rfl i).symm
        subst e_I4
        have b_v6 : (-1 : Int) ≤ v6.toInt ∧ v6.toInt ≤ 3 := by rcases k_v6 with c | ⟨c, _⟩ <;> omega
        refine qm_Ru.go 3 (c' := (27, [.ref 24, .int al, .int i, .int v6], [.int (-1), .int v6], (h.1, I, J5, h.2.2.2))) rfl ?_
        refine hk_ceq (ix := v6.toInt) (iy := (-1)) rfl rfl rfl (fun z7 => ?_) (fun z7 => ?_)
        · refine qm_Ru.go 0 (c' := (42, [.ref 24, .int al, .int i, .int v6], [], (h.1, I, J5, h.2.2.2))) rfl ?_
          refine qm_Ru.rt (v := none) (h' := (h.1, I, J5, h.2.2.2)) rfl ?_
          exact k (I) (J5) hBI (fun o ho i => (e o ho i)) htw
        · refine qm_Ru.go 2 (c' := (32, [.ref 24, .int al, .int i, .int v6], [.int v6, .ref 24], (h.1, I, J5, h.2.2.2))) rfl ?_
          refine qm_Ru.call (j := 164) (as := [.ref 24, .int v6]) (c' := (35, [.ref 24, .int al, .int i, .int v6], [], (h.1, I, J5, h.2.2.2))) rfl rfl rfl ?_
          refine qm_Ru.go 4 (c' := (5, [.ref 24, .int v6, .float 0], [.int (16 + v6), .ref 24], (h.1, I, J5, h.2.2.2))) rfl ?_
          obtain ⟨v8, q_v8, e_v8⟩ := hk_add (x := 16) (y := v6) (a := 16) (b := v6.toInt) rfl rfl (by omega) (by omega)
          rw [q_v8]
          obtain ⟨v9, q_v9⟩ : ∃ v, I 24 (v8.toInt.toNat) = v := ⟨_, rfl⟩
          have b_v9 : (0 : Int) ≤ v9.toInt ∧ v9.toInt ≤ 12 := by rw [← q_v9]; exact hBI 24 (v8.toInt.toNat)
          refine hk_ial (v := v9) rfl (hH.1 24 (0, 21) rfl) (by omega) (by omega) q_v9 ?_
          refine qm_Ru.go 0 (c' := (6, [.ref 24, .int v6, .float 0], [.int v9], (h.1, I, J5, h.2.2.2))) rfl ?_
          have r_v9 : (0 : Int) ≤ v9.toInt ∧ v9.toInt ≤ 4 := by rw [← q_v9, show v8.toInt.toNat = 16 + v6.toInt.toNat from by omega]; exact htw _ (by omega)
          refine qm_Ru.go 2 (c' := (8, [.ref 24, .int v6, .int v9], [.int v9], (h.1, I, J5, h.2.2.2))) rfl ?_
          refine hk_zne (ix := v9.toInt) rfl rfl (fun z10 => ?_) (fun z10 => ?_)
          · refine qm_Ru.go 4 (c' := (20, [.ref 24, .int v6, .int v9], [.int (v6 * 4), .ref 24], (h.1, I, J5, h.2.2.2))) rfl ?_
            obtain ⟨v11, q_v11, e_v11⟩ := hk_mul (x := v6) (y := 4) (a := v6.toInt) (b := 4) rfl rfl (by omega) (by omega)
            rw [q_v11]
            refine qm_Ru.go 2 (c' := (22, [.ref 24, .int v6, .int v9], [.int (v11 + v9), .ref 24], (h.1, I, J5, h.2.2.2))) rfl ?_
            obtain ⟨v12, q_v12, e_v12⟩ := hk_add (x := v11) (y := v9) (a := v11.toInt) (b := v9.toInt) rfl rfl (by omega) (by omega)
            rw [q_v12]
            refine qm_Ru.go 2 (c' := (24, [.ref 24, .int v6, .int v9], [.int (v12 - 1), .ref 24], (h.1, I, J5, h.2.2.2))) rfl ?_
            obtain ⟨v13, q_v13, e_v13⟩ := hk_sub (x := v12) (y := 1) (a := v12.toInt) (b := 1) rfl rfl (by omega) (by omega)
            rw [q_v13]
            obtain ⟨v14, q_v14⟩ : ∃ v, I 24 (v13.toInt.toNat) = v := ⟨_, rfl⟩
            have b_v14 : (0 : Int) ≤ v14.toInt ∧ v14.toInt ≤ 12 := by rw [← q_v14]; exact hBI 24 (v13.toInt.toNat)
            refine hk_ial (v := v14) rfl (hH.1 24 (0, 21) rfl) (by omega) (by omega) q_v14 ?_
            refine qm_Ru.go 0 (c' := (25, [.ref 24, .int v6, .int v9], [.int v14], (h.1, I, J5, h.2.2.2))) rfl ?_
            refine qm_Ru.rt (v := (some (.int v14))) (h' := (h.1, I, J5, h.2.2.2)) rfl ?_
            refine qm_Ru.go 2 (c' := (38, [.ref 24, .int al, .int i, .int v6], [.int 20, .ref 24, .int v14], (h.1, I, J5, h.2.2.2))) rfl ?_
            refine hk_ial (v := v2) rfl (hH.1 24 (0, 21) rfl) (by decide) (by decide) q_v2 ?_
            refine qm_Ru.go 0 (c' := (39, [.ref 24, .int al, .int i, .int v6], [.int v2, .int v14], (h.1, I, J5, h.2.2.2))) rfl ?_
            refine hk_ceq (ix := v14.toInt) (iy := v2.toInt) rfl rfl rfl (fun z15 => ?_) (fun z15 => ?_)
            · refine qm_Ru.go 4 (c' := (48, [.ref 24, .int al, .int i, .int v6], [.int (16 + v6), .ref 24], (h.1, I, J5, h.2.2.2))) rfl ?_
              rw [q_v8]
              refine qm_Ru.go 1 (c' := (49, [.ref 24, .int al, .int i, .int v6], [.int v8, .ref 24, .int v8, .ref 24], (h.1, I, J5, h.2.2.2))) rfl ?_
              refine hk_ial (v := v9) rfl (hH.1 24 (0, 21) rfl) (by omega) (by omega) q_v9 ?_
              refine qm_Ru.go 2 (c' := (52, [.ref 24, .int al, .int i, .int v6], [.int (v9 - 1), .int v8, .ref 24], (h.1, I, J5, h.2.2.2))) rfl ?_
              obtain ⟨v17, q_v17, e_v17⟩ := hk_sub (x := v9) (y := 1) (a := v9.toInt) (b := 1) rfl rfl (by omega) (by omega)
              rw [q_v17]
              refine hk_ias rfl (hH.1 24 (0, 21) rfl) (by omega) (by omega) ?_
              refine qm_Ru.go 3 (c' := (57, [.ref 24, .int al, .int i, .int v6], [.int 20, .ref 24, .int 20, .ref 24], (h.1, qm_up I 24 (v8.toInt.toNat) v17, J5, h.2.2.2))) rfl ?_
              refine hk_ial (v := v2) rfl (hH.1 24 (0, 21) rfl) (by decide) (by decide) (show (qm_up I 24 (v8.toInt.toNat) v17) 24 20 = _ from ((hk_neq (by omega)).trans q_v2)) ?_
              refine qm_Ru.go 2 (c' := (60, [.ref 24, .int al, .int i, .int v6], [.int (v2 + 1), .int 20, .ref 24], (h.1, qm_up I 24 (v8.toInt.toNat) v17, J5, h.2.2.2))) rfl ?_
              obtain ⟨v18, q_v18, e_v18⟩ := hk_add (x := v2) (y := 1) (a := v2.toInt) (b := 1) rfl rfl (by omega) (by omega)
              rw [q_v18]
              refine hk_ias rfl (hH.1 24 (0, 21) rfl) (by decide) (by decide) ?_
              refine qm_Ru.go 1 (c' := (64, [.ref 24, .int al, .int (i + 1), .int v6], [], (h.1, qm_up (qm_up I 24 (v8.toInt.toNat) v17) 24 20 v18, J5, h.2.2.2))) rfl ?_
              obtain ⟨v19, q_v19, e_v19⟩ := hk_add (x := i) (y := 1) (a := i.toInt) (b := 1) rfl rfl (by omega) (by omega)
              rw [q_v19]
              refine qm_Ru.go 1 (c' := (2, [.ref 24, .int al, .int v19, .int v6], [], (h.1, qm_up (qm_up I 24 (v8.toInt.toNat) v17) 24 20 v18, J5, h.2.2.2))) rfl ?_
              exact ih _ (by omega) (qm_up (qm_up I 24 (v8.toInt.toNat) v17) 24 20 v18) (J5) v19 (.int v6) (hb_up (o := 24) (k := 20) (x := v18) (hb_up (o := 24) (k := v8.toInt.toNat) (x := v17) hBI ⟨by show (0 : Int) ≤ v17.toInt; omega, by show v17.toInt ≤ (12 : Int); omega⟩) ⟨by show (0 : Int) ≤ v18.toInt; omega, by show v18.toInt ≤ (12 : Int); omega⟩) (fun o ho i => ((hk_mod ho rfl).trans ((hk_mod ho rfl).trans (e o ho i)))) (by omega) (fun s hs => by show 0 ≤ ((qm_up (qm_up I 24 (v8.toInt.toNat) v17) 24 20 v18) 24 (16 + s)).toInt ∧ ((qm_up (qm_up I 24 (v8.toInt.toNat) v17) 24 20 v18) 24 (16 + s)).toInt ≤ 4; rw [hk_neq (by omega)]; exact if c : s = v6.toInt.toNat then (by subst c; rw [hk_equ (by omega)]; omega) else (by rw [hk_neq (by omega)]; exact htw s hs)) rfl
            · refine qm_Ru.go 0 (c' := (42, [.ref 24, .int al, .int i, .int v6], [], (h.1, I, J5, h.2.2.2))) rfl ?_
              refine qm_Ru.rt (v := none) (h' := (h.1, I, J5, h.2.2.2)) rfl ?_
              exact k (I) (J5) hBI (fun o ho i => (e o ho i)) htw
          · refine qm_Ru.go 2 (c' := (25, [.ref 24, .int v6, .int v9], [.int 13], (h.1, I, J5, h.2.2.2))) rfl ?_
            refine qm_Ru.rt (v := (some (.int 13))) (h' := (h.1, I, J5, h.2.2.2)) rfl ?_
            refine qm_Ru.go 2 (c' := (38, [.ref 24, .int al, .int i, .int v6], [.int 20, .ref 24, .int 13], (h.1, I, J5, h.2.2.2))) rfl ?_
            refine hk_ial (v := v2) rfl (hH.1 24 (0, 21) rfl) (by decide) (by decide) q_v2 ?_
            refine qm_Ru.go 0 (c' := (39, [.ref 24, .int al, .int i, .int v6], [.int v2, .int 13], (h.1, I, J5, h.2.2.2))) rfl ?_
            refine hk_ceq (ix := 13) (iy := v2.toInt) rfl rfl rfl (fun z20 => by exfalso; omega) (fun z20 => ?_)
            refine qm_Ru.go 0 (c' := (42, [.ref 24, .int al, .int i, .int v6], [], (h.1, I, J5, h.2.2.2))) rfl ?_
            refine qm_Ru.rt (v := none) (h' := (h.1, I, J5, h.2.2.2)) rfl ?_
            exact k (I) (J5) hBI (fun o ho i => (e o ho i)) htw
theorem hs_srv_24 {L : Nat} {xs : Nat → Int32} {d : Nat} {Z : Option Value → qm_H → Prop} {h : qm_H} (h6 : 6 ≤ L) (hH : hk_H h) (hB : hk_B h.2.1) {al : Int32} (b_al : (0 : Int) ≤ al.toInt ∧ al.toInt ≤ 12) (ht : tw (pI h.2.1 24)) (k : ∀ (I : Nat → Nat → Int32) (J : Nat → Nat → Int64), hk_B I → (∀ o, [24].contains o = false → ∀ i, I o i = h.2.1 o i) → tw (pI I 24) → Z none (h.1, I, J, h.2.2.2)) : qm_Ru (some (L, xs)) (d + 60) cd_171 (qm_ent 4 [.ref 24, .int al] h) Z := by
  refine qm_Ru.go 2 (c' := (2, [.ref 24, .int al, .int 0, .float 0], [], h)) rfl ?_
  exact hl_srv_24 h6 hH hB b_al k _ h.2.1 h.2.2.1 0 _ hB (fun _ _ _ => rfl) (by decide) ht rfl
theorem hl_soon_25 {L : Nat} {xs : Nat → Int32} {d : Nat} {Z : Option Value → qm_H → Prop} {h : qm_H} (h6 : 6 ≤ L) (hH : hk_H h) (hB : hk_B h.2.1) (ht : tw (pI h.2.1 25)) {s : Int32} (b_s : (0 : Int) ≤ s.toInt ∧ s.toInt ≤ 3) {hh : Int32} (b_hh : (0 : Int) ≤ hh.toInt ∧ hh.toInt ≤ 4) (ehh : (pI h.2.1 25) (16 + s.toInt.toNat) = hh.toInt) (k : ∀ (v : Int32) (I : Nat → Nat → Int32) (J : Nat → Nat → Int64), (0 : Int) ≤ v.toInt ∧ v.toInt ≤ 13 → (v.toInt ≤ 11 → con (pI h.2.1 25) s.toInt.toNat v.toInt) → hk_B I → (∀ o, [].contains o = false → ∀ i, I o i = h.2.1 o i) → Z (some (.int v)) (h.1, I, J, h.2.2.2)) : ∀ (m : Nat) (I : Nat → Nat → Int32) (J : Nat → Nat → Int64) (le : Int32) (i : Int32), hk_B I → (∀ o, [].contains o = false → ∀ i, I o i = h.2.1 o i) → ((0 : Int) ≤ i.toInt ∧ i.toInt ≤ hh.toInt) → ((0 : Int) ≤ le.toInt ∧ le.toInt ≤ 13) → (le.toInt ≤ 11 → ∃ n : Nat, n < i.toInt.toNat ∧ (pI h.2.1 25) (4 * s.toInt.toNat + n) = le.toInt) → (4 - i.toInt).toNat = m → qm_Ru (some (L, xs)) (d + 20) cd_163 (22, [.ref 25, .int s, .int hh, .int le, .int i], [], (h.1, I, J, h.2.2.2)) Z := by
  intro m
  induction m using Nat.strongRecOn with
  | ind m ih =>
    intro I J le i hBI e h_i h_le hc hm
    refine qm_Ru.go 2 (c' := (25, [.ref 25, .int s, .int hh, .int le, .int i], [.int hh, .int i], (h.1, I, J, h.2.2.2))) rfl ?_
    refine hk_cge (ix := i.toInt) (iy := hh.toInt) rfl rfl rfl (fun z1 => ?_) (fun z1 => ?_)
    · refine qm_Ru.go 1 (c' := (48, [.ref 25, .int s, .int hh, .int le, .int i], [.int le], (h.1, I, J, h.2.2.2))) rfl ?_
      refine qm_Ru.rt (v := (some (.int le))) (h' := (h.1, I, J, h.2.2.2)) rfl ?_
      exact k le (I) (J) (by omega) (fun c => (hc c).elim fun n g => ⟨n, by omega, by rw [ehh]; omega, g.2⟩) hBI (fun o ho i => (e o ho i))
    · refine qm_Ru.go 5 (c' := (33, [.ref 25, .int s, .int hh, .int le, .int i], [.int (s * 4), .ref 25, .int le], (h.1, I, J, h.2.2.2))) rfl ?_
      obtain ⟨v2, q_v2, e_v2⟩ := hk_mul (x := s) (y := 4) (a := s.toInt) (b := 4) rfl rfl (by omega) (by omega)
      rw [q_v2]
      refine qm_Ru.go 2 (c' := (36, [.ref 25, .int s, .int hh, .int le, .int i], [.int (v2 + i), .ref 25, .int le], (h.1, I, J, h.2.2.2))) rfl ?_
      obtain ⟨v3, q_v3, e_v3⟩ := hk_add (x := v2) (y := i) (a := v2.toInt) (b := i.toInt) rfl rfl (by omega) (by omega)
      rw [q_v3]
      obtain ⟨v4, q_v4⟩ : ∃ v, h.2.1 25 (v3.toInt.toNat) = v := ⟨_, rfl⟩
      have b_v4 : (0 : Int) ≤ v4.toInt ∧ v4.toInt ≤ 12 := by rw [← q_v4]; exact hB 25 (v3.toInt.toNat)
      refine hk_ial (v := v4) rfl (hH.1 25 (0, 21) rfl) (by omega) (by omega) (show (I) 25 (v3.toInt.toNat) = _ from ((e 25 rfl (v3.toInt.toNat)).trans q_v4)) ?_
      refine qm_Ru.go 0 (c' := (37, [.ref 25, .int s, .int hh, .int le, .int i], [.int v4, .int le], (h.1, I, J, h.2.2.2))) rfl ?_
      have l_v4 : (pI h.2.1 25) (4 * s.toInt.toNat + i.toInt.toNat) = v4.toInt := (congrArg (pI h.2.1 25) (show 4 * s.toInt.toNat + i.toInt.toNat = v3.toInt.toNat from by omega)).trans (congrArg Int32.toInt q_v4)
      refine qm_Ru.go 1 (c' := (40, [.ref 25, .int s, .int hh, .int le, .int i], [.int (if v4 < le then v4 else le)], (h.1, I, J, h.2.2.2))) rfl ?_
      obtain ⟨v5, q_v5⟩ : ∃ v, (if v4 < le then v4 else le) = v := ⟨_, rfl⟩
      rw [q_v5]
      refine qm_Ru.go 2 (c' := (44, [.ref 25, .int s, .int hh, .int v5, .int (i + 1)], [], (h.1, I, J, h.2.2.2))) rfl ?_
      obtain ⟨v6, q_v6, e_v6⟩ := hk_add (x := i) (y := 1) (a := i.toInt) (b := 1) rfl rfl (by omega) (by omega)
      rw [q_v6]
      refine qm_Ru.go 1 (c' := (22, [.ref 25, .int s, .int hh, .int v5, .int v6], [], (h.1, I, J, h.2.2.2))) rfl ?_
      have z_v5 : v5 = v4 ∨ v5 = le := by rw [← q_v5]; exact if c : v4 < le then Or.inl (if_pos c) else Or.inr (if_neg c)
      exact ih _ (by omega) (I) (J) v5 v6 hBI (fun o ho i => (e o ho i)) (by omega) (by rcases z_v5 with c | c <;> rw [c] <;> omega) (by exact z_v5.elim (fun c => by rw [c]; exact fun _ => ⟨i.toInt.toNat, by omega, l_v4⟩) (fun c => by rw [c]; exact fun c2 => (hc c2).elim fun n g => ⟨n, by omega, g.2⟩)) rfl
theorem hs_soon_25 {L : Nat} {xs : Nat → Int32} {d : Nat} {Z : Option Value → qm_H → Prop} {h : qm_H} (h6 : 6 ≤ L) (hH : hk_H h) (hB : hk_B h.2.1) (ht : tw (pI h.2.1 25)) {s : Int32} (b_s : (0 : Int) ≤ s.toInt ∧ s.toInt ≤ 3) (k : ∀ (v : Int32) (I : Nat → Nat → Int32) (J : Nat → Nat → Int64), (0 : Int) ≤ v.toInt ∧ v.toInt ≤ 13 → (v.toInt ≤ 11 → con (pI h.2.1 25) s.toInt.toNat v.toInt) → hk_B I → (∀ o, [].contains o = false → ∀ i, I o i = h.2.1 o i) → Z (some (.int v)) (h.1, I, J, h.2.2.2)) : qm_Ru (some (L, xs)) (d + 20) cd_163 (qm_ent 5 [.ref 25, .int s] h) Z := by
  refine qm_Ru.go 4 (c' := (5, [.ref 25, .int s, .float 0, .float 0, .float 0], [.int (16 + s), .ref 25], h)) rfl ?_
  obtain ⟨v1, q_v1, e_v1⟩ := hk_add (x := 16) (y := s) (a := 16) (b := s.toInt) rfl rfl (by omega) (by omega)
  rw [q_v1]
  obtain ⟨v2, q_v2⟩ : ∃ v, h.2.1 25 (v1.toInt.toNat) = v := ⟨_, rfl⟩
  have b_v2 : (0 : Int) ≤ v2.toInt ∧ v2.toInt ≤ 12 := by rw [← q_v2]; exact hB 25 (v1.toInt.toNat)
  refine hk_ial (v := v2) rfl (hH.1 25 (0, 21) rfl) (by omega) (by omega) q_v2 ?_
  refine qm_Ru.go 0 (c' := (6, [.ref 25, .int s, .float 0, .float 0, .float 0], [.int v2], h)) rfl ?_
  have r_v2 : (0 : Int) ≤ v2.toInt ∧ v2.toInt ≤ 4 := by rw [← q_v2, show v1.toInt.toNat = 16 + s.toInt.toNat from by omega]; exact ht _ (by omega)
  have l_v2 : (pI h.2.1 25) (16 + s.toInt.toNat) = v2.toInt := (congrArg (pI h.2.1 25) (show 16 + s.toInt.toNat = v1.toInt.toNat from by omega)).trans (congrArg Int32.toInt q_v2)
  refine qm_Ru.go 2 (c' := (8, [.ref 25, .int s, .int v2, .float 0, .float 0], [.int v2], h)) rfl ?_
  refine hk_zne (ix := v2.toInt) rfl rfl (fun z3 => ?_) (fun z3 => ?_)
  · refine qm_Ru.go 4 (c' := (22, [.ref 25, .int s, .int v2, .int 12, .int 0], [], h)) rfl ?_
    exact hl_soon_25 h6 hH hB ht b_s (hh := v2) (by omega) l_v2 k _ h.2.1 h.2.2.1 12 0 hB (fun _ _ _ => rfl) (by show (0 : Int) ≤ 0 ∧ (0 : Int) ≤ v2.toInt; omega) (by decide) (fun c => absurd c (by decide)) rfl
  · refine qm_Ru.go 5 (c' := (22, [.ref 25, .int s, .int v2, .int 13, .int 0], [], h)) rfl ?_
    exact hl_soon_25 h6 hH hB ht b_s (hh := v2) (by omega) l_v2 k _ h.2.1 h.2.2.1 13 0 hB (fun _ _ _ => rfl) (by show (0 : Int) ≤ 0 ∧ (0 : Int) ≤ v2.toInt; omega) (by decide) (fun c => absurd c (by decide)) rfl
theorem hl_stk_25 {L : Nat} {xs : Nat → Int32} {d : Nat} {Z : Option Value → qm_H → Prop} {h : qm_H} (h6 : 6 ≤ L) (hH : hk_H h) (hB : hk_B h.2.1) (ht : tw (pI h.2.1 25)) {x : Int32} (k : ∀ (v : Int32) (I : Nat → Nat → Int32) (J : Nat → Nat → Int64), (v.toInt = -1 ∨ (((0 : Int) ≤ v.toInt ∧ v.toInt ≤ 3) ∧ (x.toInt ≤ 11 → con (pI h.2.1 25) v.toInt.toNat x.toInt))) → hk_B I → (∀ o, [].contains o = false → ∀ i, I o i = h.2.1 o i) → Z (some (.int v)) (h.1, I, J, h.2.2.2)) : ∀ (m : Nat) (I : Nat → Nat → Int32) (J : Nat → Nat → Int64) (s : Int32), hk_B I → (∀ o, [].contains o = false → ∀ i, I o i = h.2.1 o i) → ((0 : Int) ≤ s.toInt ∧ s.toInt ≤ 4) → (4 - s.toInt).toNat = m → qm_Ru (some (L, xs)) (d + 40) cd_162 (2, [.ref 25, .int x, .int s], [], (h.1, I, J, h.2.2.2)) Z := by
  intro m
  induction m using Nat.strongRecOn with
  | ind m ih =>
    intro I J s hBI e b_s hm
    refine qm_Ru.go 2 (c' := (4, [.ref 25, .int x, .int s], [.int 4, .int s], (h.1, I, J, h.2.2.2))) rfl ?_
    refine hk_cge (ix := s.toInt) (iy := 4) rfl rfl rfl (fun z1 => ?_) (fun z1 => ?_)
    · refine qm_Ru.go 1 (c' := (25, [.ref 25, .int x, .int s], [.int (-1)], (h.1, I, J, h.2.2.2))) rfl ?_
      refine qm_Ru.rt (v := (some (.int (-1)))) (h' := (h.1, I, J, h.2.2.2)) rfl ?_
      exact k ((-1)) (I) (J) (Or.inl rfl) hBI (fun o ho i => (e o ho i))
    · refine qm_Ru.go 2 (c' := (9, [.ref 25, .int x, .int s], [.int s, .ref 25], (h.1, I, J, h.2.2.2))) rfl ?_
      refine qm_Ru.call (j := 163) (as := [.ref 25, .int s]) (c' := (12, [.ref 25, .int x, .int s], [], (h.1, I, J, h.2.2.2))) rfl rfl rfl (hs_soon_25 (h := (h.1, I, J, h.2.2.2)) h6 hH hBI (by show tw (pI I 25); rw [(show pI I 25 = pI h.2.1 25 from funext fun i => congrArg Int32.toInt (e 25 rfl i))]; exact ht) (s := s) (by omega) (fun v4 I2 J3 b_v4 k_v4 _ e_I2 => ?_))
      have e_I2 : I = I2 := funext fun o => funext fun i => (e_I2 o rfl i).symm
      subst e_I2
      refine qm_Ru.go 1 (c' := (13, [.ref 25, .int x, .int s], [.int x, .int v4], (h.1, I, J3, h.2.2.2))) rfl ?_
      refine hk_cne (ix := v4.toInt) (iy := x.toInt) rfl rfl rfl (fun z5 => ?_) (fun z5 => ?_)
      · refine qm_Ru.go 1 (c' := (21, [.ref 25, .int x, .int (s + 1)], [], (h.1, I, J3, h.2.2.2))) rfl ?_
        obtain ⟨v6, q_v6, e_v6⟩ := hk_add (x := s) (y := 1) (a := s.toInt) (b := 1) rfl rfl (by omega) (by omega)
        rw [q_v6]
        refine qm_Ru.go 1 (c' := (2, [.ref 25, .int x, .int v6], [], (h.1, I, J3, h.2.2.2))) rfl ?_
        exact ih _ (by omega) (I) (J3) v6 hBI (fun o ho i => (e o ho i)) (by omega) rfl
      · refine qm_Ru.go 1 (c' := (17, [.ref 25, .int x, .int s], [.int s], (h.1, I, J3, h.2.2.2))) rfl ?_
        refine qm_Ru.rt (v := (some (.int s))) (h' := (h.1, I, J3, h.2.2.2)) rfl ?_
        exact k s (I) (J3) (Or.inr ⟨by omega, fun c => by have g := k_v4 (by omega); rw [show v4.toInt = x.toInt from by omega] at g; rw [← (show pI I 25 = pI h.2.1 25 from funext fun i => congrArg Int32.toInt (e 25 rfl i))]; exact g⟩) hBI (fun o ho i => (e o ho i))
theorem hs_stk_25 {L : Nat} {xs : Nat → Int32} {d : Nat} {Z : Option Value → qm_H → Prop} {h : qm_H} (h6 : 6 ≤ L) (hH : hk_H h) (hB : hk_B h.2.1) (ht : tw (pI h.2.1 25)) {x : Int32} (k : ∀ (v : Int32) (I : Nat → Nat → Int32) (J : Nat → Nat → Int64), (v.toInt = -1 ∨ (((0 : Int) ≤ v.toInt ∧ v.toInt ≤ 3) ∧ (x.toInt ≤ 11 → con (pI h.2.1 25) v.toInt.toNat x.toInt))) → hk_B I → (∀ o, [].contains o = false → ∀ i, I o i = h.2.1 o i) → Z (some (.int v)) (h.1, I, J, h.2.2.2)) : qm_Ru (some (L, xs)) (d + 40) cd_162 (qm_ent 3 [.ref 25, .int x] h) Z := by
  refine qm_Ru.go 2 (c' := (2, [.ref 25, .int x, .int 0], [], h)) rfl ?_
  exact hl_stk_25 h6 hH hB ht k _ h.2.1 h.2.2.1 0 hB (fun _ _ _ => rfl) (by decide) rfl
theorem hl_srv_25 {L : Nat} {xs : Nat → Int32} {d : Nat} {Z : Option Value → qm_H → Prop} {h : qm_H} (h6 : 6 ≤ L) (hH : hk_H h) (hB : hk_B h.2.1) {al : Int32} (b_al : (0 : Int) ≤ al.toInt ∧ al.toInt ≤ 12) (k : ∀ (I : Nat → Nat → Int32) (J : Nat → Nat → Int64), hk_B I → (∀ o, [25].contains o = false → ∀ i, I o i = h.2.1 o i) → tw (pI I 25) → Z none (h.1, I, J, h.2.2.2)) : ∀ (m : Nat) (I : Nat → Nat → Int32) (J : Nat → Nat → Int64) (i : Int32) (l3 : Value), hk_B I → (∀ o, [25].contains o = false → ∀ i, I o i = h.2.1 o i) → ((0 : Int) ≤ i.toInt ∧ i.toInt ≤ 16) → (tw (pI I 25)) → (16 - i.toInt).toNat = m → qm_Ru (some (L, xs)) (d + 60) cd_171 (2, [.ref 25, .int al, .int i, l3], [], (h.1, I, J, h.2.2.2)) Z := by
  intro m
  induction m using Nat.strongRecOn with
  | ind m ih =>
    intro I J i l3 hBI e h_i htw hm
    refine qm_Ru.go 2 (c' := (5, [.ref 25, .int al, .int i, l3], [.int 16, .int i], (h.1, I, J, h.2.2.2))) rfl ?_
    refine hk_cge (ix := i.toInt) (iy := 16) rfl rfl rfl (fun z1 => ?_) (fun z1 => ?_)
    · refine qm_Ru.go 0 (c' := (67, [.ref 25, .int al, .int i, l3], [], (h.1, I, J, h.2.2.2))) rfl ?_
      refine qm_Ru.rt (v := none) (h' := (h.1, I, J, h.2.2.2)) rfl ?_
      exact k (I) (J) hBI (fun o ho i => (e o ho i)) htw
    · refine qm_Ru.go 2 (c' := (11, [.ref 25, .int al, .int i, l3], [.int 20, .ref 25], (h.1, I, J, h.2.2.2))) rfl ?_
      obtain ⟨v2, q_v2⟩ : ∃ v, I 25 20 = v := ⟨_, rfl⟩
      have b_v2 : (0 : Int) ≤ v2.toInt ∧ v2.toInt ≤ 12 := by rw [← q_v2]; exact hBI 25 20
      refine hk_ial (v := v2) rfl (hH.1 25 (0, 21) rfl) (by decide) (by decide) q_v2 ?_
      refine qm_Ru.go 1 (c' := (13, [.ref 25, .int al, .int i, l3], [.int al, .int v2], (h.1, I, J, h.2.2.2))) rfl ?_
      refine hk_cge (ix := v2.toInt) (iy := al.toInt) rfl rfl rfl (fun z3 => ?_) (fun z3 => ?_)
      · refine qm_Ru.go 0 (c' := (67, [.ref 25, .int al, .int i, l3], [], (h.1, I, J, h.2.2.2))) rfl ?_
        refine qm_Ru.rt (v := none) (h' := (h.1, I, J, h.2.2.2)) rfl ?_
        exact k (I) (J) hBI (fun o ho i => (e o ho i)) htw
      · refine qm_Ru.go 3 (c' := (20, [.ref 25, .int al, .int i, l3], [.int 20, .ref 25, .ref 25], (h.1, I, J, h.2.2.2))) rfl ?_
        refine hk_ial (v := v2) rfl (hH.1 25 (0, 21) rfl) (by decide) (by decide) q_v2 ?_
        refine qm_Ru.go 0 (c' := (21, [.ref 25, .int al, .int i, l3], [.int v2, .ref 25], (h.1, I, J, h.2.2.2))) rfl ?_
        refine qm_Ru.call (j := 162) (as := [.ref 25, .int v2]) (c' := (24, [.ref 25, .int al, .int i, l3], [], (h.1, I, J, h.2.2.2))) rfl rfl rfl (hs_stk_25 (h := (h.1, I, J, h.2.2.2)) h6 hH hBI htw (x := v2) (fun v6 I4 J5 k_v6 _ e_I4 => ?_))
        have e_I4 : I = I4 := funext fun o => funext fun i => (e_I4 o rfl i).symm
        subst e_I4
        have b_v6 : (-1 : Int) ≤ v6.toInt ∧ v6.toInt ≤ 3 := by rcases k_v6 with c | ⟨c, _⟩ <;> omega
        refine qm_Ru.go 3 (c' := (27, [.ref 25, .int al, .int i, .int v6], [.int (-1), .int v6], (h.1, I, J5, h.2.2.2))) rfl ?_
        refine hk_ceq (ix := v6.toInt) (iy := (-1)) rfl rfl rfl (fun z7 => ?_) (fun z7 => ?_)
        · refine qm_Ru.go 0 (c' := (42, [.ref 25, .int al, .int i, .int v6], [], (h.1, I, J5, h.2.2.2))) rfl ?_
          refine qm_Ru.rt (v := none) (h' := (h.1, I, J5, h.2.2.2)) rfl ?_
          exact k (I) (J5) hBI (fun o ho i => (e o ho i)) htw
        · refine qm_Ru.go 2 (c' := (32, [.ref 25, .int al, .int i, .int v6], [.int v6, .ref 25], (h.1, I, J5, h.2.2.2))) rfl ?_
          refine qm_Ru.call (j := 164) (as := [.ref 25, .int v6]) (c' := (35, [.ref 25, .int al, .int i, .int v6], [], (h.1, I, J5, h.2.2.2))) rfl rfl rfl ?_
          refine qm_Ru.go 4 (c' := (5, [.ref 25, .int v6, .float 0], [.int (16 + v6), .ref 25], (h.1, I, J5, h.2.2.2))) rfl ?_
          obtain ⟨v8, q_v8, e_v8⟩ := hk_add (x := 16) (y := v6) (a := 16) (b := v6.toInt) rfl rfl (by omega) (by omega)
          rw [q_v8]
          obtain ⟨v9, q_v9⟩ : ∃ v, I 25 (v8.toInt.toNat) = v := ⟨_, rfl⟩
          have b_v9 : (0 : Int) ≤ v9.toInt ∧ v9.toInt ≤ 12 := by rw [← q_v9]; exact hBI 25 (v8.toInt.toNat)
          refine hk_ial (v := v9) rfl (hH.1 25 (0, 21) rfl) (by omega) (by omega) q_v9 ?_
          refine qm_Ru.go 0 (c' := (6, [.ref 25, .int v6, .float 0], [.int v9], (h.1, I, J5, h.2.2.2))) rfl ?_
          have r_v9 : (0 : Int) ≤ v9.toInt ∧ v9.toInt ≤ 4 := by rw [← q_v9, show v8.toInt.toNat = 16 + v6.toInt.toNat from by omega]; exact htw _ (by omega)
          refine qm_Ru.go 2 (c' := (8, [.ref 25, .int v6, .int v9], [.int v9], (h.1, I, J5, h.2.2.2))) rfl ?_
          refine hk_zne (ix := v9.toInt) rfl rfl (fun z10 => ?_) (fun z10 => ?_)
          · refine qm_Ru.go 4 (c' := (20, [.ref 25, .int v6, .int v9], [.int (v6 * 4), .ref 25], (h.1, I, J5, h.2.2.2))) rfl ?_
            obtain ⟨v11, q_v11, e_v11⟩ := hk_mul (x := v6) (y := 4) (a := v6.toInt) (b := 4) rfl rfl (by omega) (by omega)
            rw [q_v11]
            refine qm_Ru.go 2 (c' := (22, [.ref 25, .int v6, .int v9], [.int (v11 + v9), .ref 25], (h.1, I, J5, h.2.2.2))) rfl ?_
            obtain ⟨v12, q_v12, e_v12⟩ := hk_add (x := v11) (y := v9) (a := v11.toInt) (b := v9.toInt) rfl rfl (by omega) (by omega)
            rw [q_v12]
            refine qm_Ru.go 2 (c' := (24, [.ref 25, .int v6, .int v9], [.int (v12 - 1), .ref 25], (h.1, I, J5, h.2.2.2))) rfl ?_
            obtain ⟨v13, q_v13, e_v13⟩ := hk_sub (x := v12) (y := 1) (a := v12.toInt) (b := 1) rfl rfl (by omega) (by omega)
            rw [q_v13]
            obtain ⟨v14, q_v14⟩ : ∃ v, I 25 (v13.toInt.toNat) = v := ⟨_, rfl⟩
            have b_v14 : (0 : Int) ≤ v14.toInt ∧ v14.toInt ≤ 12 := by rw [← q_v14]; exact hBI 25 (v13.toInt.toNat)
            refine hk_ial (v := v14) rfl (hH.1 25 (0, 21) rfl) (by omega) (by omega) q_v14 ?_
            refine qm_Ru.go 0 (c' := (25, [.ref 25, .int v6, .int v9], [.int v14], (h.1, I, J5, h.2.2.2))) rfl ?_
            refine qm_Ru.rt (v := (some (.int v14))) (h' := (h.1, I, J5, h.2.2.2)) rfl ?_
            refine qm_Ru.go 2 (c' := (38, [.ref 25, .int al, .int i, .int v6], [.int 20, .ref 25, .int v14], (h.1, I, J5, h.2.2.2))) rfl ?_
            refine hk_ial (v := v2) rfl (hH.1 25 (0, 21) rfl) (by decide) (by decide) q_v2 ?_
            refine qm_Ru.go 0 (c' := (39, [.ref 25, .int al, .int i, .int v6], [.int v2, .int v14], (h.1, I, J5, h.2.2.2))) rfl ?_
            refine hk_ceq (ix := v14.toInt) (iy := v2.toInt) rfl rfl rfl (fun z15 => ?_) (fun z15 => ?_)
            · refine qm_Ru.go 4 (c' := (48, [.ref 25, .int al, .int i, .int v6], [.int (16 + v6), .ref 25], (h.1, I, J5, h.2.2.2))) rfl ?_
              rw [q_v8]
              refine qm_Ru.go 1 (c' := (49, [.ref 25, .int al, .int i, .int v6], [.int v8, .ref 25, .int v8, .ref 25], (h.1, I, J5, h.2.2.2))) rfl ?_
              refine hk_ial (v := v9) rfl (hH.1 25 (0, 21) rfl) (by omega) (by omega) q_v9 ?_
              refine qm_Ru.go 2 (c' := (52, [.ref 25, .int al, .int i, .int v6], [.int (v9 - 1), .int v8, .ref 25], (h.1, I, J5, h.2.2.2))) rfl ?_
              obtain ⟨v17, q_v17, e_v17⟩ := hk_sub (x := v9) (y := 1) (a := v9.toInt) (b := 1) rfl rfl (by omega) (by omega)
              rw [q_v17]
              refine hk_ias rfl (hH.1 25 (0, 21) rfl) (by omega) (by omega) ?_
              refine qm_Ru.go 3 (c' := (57, [.ref 25, .int al, .int i, .int v6], [.int 20, .ref 25, .int 20, .ref 25], (h.1, qm_up I 25 (v8.toInt.toNat) v17, J5, h.2.2.2))) rfl ?_
              refine hk_ial (v := v2) rfl (hH.1 25 (0, 21) rfl) (by decide) (by decide) (show (qm_up I 25 (v8.toInt.toNat) v17) 25 20 = _ from ((hk_neq (by omega)).trans q_v2)) ?_
              refine qm_Ru.go 2 (c' := (60, [.ref 25, .int al, .int i, .int v6], [.int (v2 + 1), .int 20, .ref 25], (h.1, qm_up I 25 (v8.toInt.toNat) v17, J5, h.2.2.2))) rfl ?_
              obtain ⟨v18, q_v18, e_v18⟩ := hk_add (x := v2) (y := 1) (a := v2.toInt) (b := 1) rfl rfl (by omega) (by omega)
              rw [q_v18]
              refine hk_ias rfl (hH.1 25 (0, 21) rfl) (by decide) (by decide) ?_
              refine qm_Ru.go 1 (c' := (64, [.ref 25, .int al, .int (i + 1), .int v6], [], (h.1, qm_up (qm_up I 25 (v8.toInt.toNat) v17) 25 20 v18, J5, h.2.2.2))) rfl ?_
              obtain ⟨v19, q_v19, e_v19⟩ := hk_add (x := i) (y := 1) (a := i.toInt) (b := 1) rfl rfl (by omega) (by omega)
              rw [q_v19]
              refine qm_Ru.go 1 (c' := (2, [.ref 25, .int al, .int v19, .int v6], [], (h.1, qm_up (qm_up I 25 (v8.toInt.toNat) v17) 25 20 v18, J5, h.2.2.2))) rfl ?_
              exact ih _ (by omega) (qm_up (qm_up I 25 (v8.toInt.toNat) v17) 25 20 v18) (J5) v19 (.int v6) (hb_up (o := 25) (k := 20) (x := v18) (hb_up (o := 25) (k := v8.toInt.toNat) (x := v17) hBI ⟨by show (0 : Int) ≤ v17.toInt; omega, by show v17.toInt ≤ (12 : Int); omega⟩) ⟨by show (0 : Int) ≤ v18.toInt; omega, by show v18.toInt ≤ (12 : Int); omega⟩) (fun o ho i => ((hk_mod ho rfl).trans ((hk_mod ho rfl).trans (e o ho i)))) (by omega) (fun s hs => by show 0 ≤ ((qm_up (qm_up I 25 (v8.toInt.toNat) v17) 25 20 v18) 25 (16 + s)).toInt ∧ ((qm_up (qm_up I 25 (v8.toInt.toNat) v17) 25 20 v18) 25 (16 + s)).toInt ≤ 4; rw [hk_neq (by omega)]; exact if c : s = v6.toInt.toNat then (by subst c; rw [hk_equ (by omega)]; omega) else (by rw [hk_neq (by omega)]; exact htw s hs)) rfl
            · refine qm_Ru.go 0 (c' := (42, [.ref 25, .int al, .int i, .int v6], [], (h.1, I, J5, h.2.2.2))) rfl ?_
              refine qm_Ru.rt (v := none) (h' := (h.1, I, J5, h.2.2.2)) rfl ?_
              exact k (I) (J5) hBI (fun o ho i => (e o ho i)) htw
          · refine qm_Ru.go 2 (c' := (25, [.ref 25, .int v6, .int v9], [.int 13], (h.1, I, J5, h.2.2.2))) rfl ?_
            refine qm_Ru.rt (v := (some (.int 13))) (h' := (h.1, I, J5, h.2.2.2)) rfl ?_
            refine qm_Ru.go 2 (c' := (38, [.ref 25, .int al, .int i, .int v6], [.int 20, .ref 25, .int 13], (h.1, I, J5, h.2.2.2))) rfl ?_
            refine hk_ial (v := v2) rfl (hH.1 25 (0, 21) rfl) (by decide) (by decide) q_v2 ?_
            refine qm_Ru.go 0 (c' := (39, [.ref 25, .int al, .int i, .int v6], [.int v2, .int 13], (h.1, I, J5, h.2.2.2))) rfl ?_
            refine hk_ceq (ix := 13) (iy := v2.toInt) rfl rfl rfl (fun z20 => by exfalso; omega) (fun z20 => ?_)
            refine qm_Ru.go 0 (c' := (42, [.ref 25, .int al, .int i, .int v6], [], (h.1, I, J5, h.2.2.2))) rfl ?_
            refine qm_Ru.rt (v := none) (h' := (h.1, I, J5, h.2.2.2)) rfl ?_
            exact k (I) (J5) hBI (fun o ho i => (e o ho i)) htw
theorem hs_srv_25 {L : Nat} {xs : Nat → Int32} {d : Nat} {Z : Option Value → qm_H → Prop} {h : qm_H} (h6 : 6 ≤ L) (hH : hk_H h) (hB : hk_B h.2.1) {al : Int32} (b_al : (0 : Int) ≤ al.toInt ∧ al.toInt ≤ 12) (ht : tw (pI h.2.1 25)) (k : ∀ (I : Nat → Nat → Int32) (J : Nat → Nat → Int64), hk_B I → (∀ o, [25].contains o = false → ∀ i, I o i = h.2.1 o i) → tw (pI I 25) → Z none (h.1, I, J, h.2.2.2)) : qm_Ru (some (L, xs)) (d + 60) cd_171 (qm_ent 4 [.ref 25, .int al] h) Z := by
  refine qm_Ru.go 2 (c' := (2, [.ref 25, .int al, .int 0, .float 0], [], h)) rfl ?_
  exact hl_srv_25 h6 hH hB b_al k _ h.2.1 h.2.2.1 0 _ hB (fun _ _ _ => rfl) (by decide) ht rfl
theorem hl_soon_26 {L : Nat} {xs : Nat → Int32} {d : Nat} {Z : Option Value → qm_H → Prop} {h : qm_H} (h6 : 6 ≤ L) (hH : hk_H h) (hB : hk_B h.2.1) (ht : tw (pI h.2.1 26)) {s : Int32} (b_s : (0 : Int) ≤ s.toInt ∧ s.toInt ≤ 3) {hh : Int32} (b_hh : (0 : Int) ≤ hh.toInt ∧ hh.toInt ≤ 4) (ehh : (pI h.2.1 26) (16 + s.toInt.toNat) = hh.toInt) (k : ∀ (v : Int32) (I : Nat → Nat → Int32) (J : Nat → Nat → Int64), (0 : Int) ≤ v.toInt ∧ v.toInt ≤ 13 → (v.toInt ≤ 11 → con (pI h.2.1 26) s.toInt.toNat v.toInt) → hk_B I → (∀ o, [].contains o = false → ∀ i, I o i = h.2.1 o i) → Z (some (.int v)) (h.1, I, J, h.2.2.2)) : ∀ (m : Nat) (I : Nat → Nat → Int32) (J : Nat → Nat → Int64) (le : Int32) (i : Int32), hk_B I → (∀ o, [].contains o = false → ∀ i, I o i = h.2.1 o i) → ((0 : Int) ≤ i.toInt ∧ i.toInt ≤ hh.toInt) → ((0 : Int) ≤ le.toInt ∧ le.toInt ≤ 13) → (le.toInt ≤ 11 → ∃ n : Nat, n < i.toInt.toNat ∧ (pI h.2.1 26) (4 * s.toInt.toNat + n) = le.toInt) → (4 - i.toInt).toNat = m → qm_Ru (some (L, xs)) (d + 20) cd_163 (22, [.ref 26, .int s, .int hh, .int le, .int i], [], (h.1, I, J, h.2.2.2)) Z := by
  intro m
  induction m using Nat.strongRecOn with
  | ind m ih =>
    intro I J le i hBI e h_i h_le hc hm
    refine qm_Ru.go 2 (c' := (25, [.ref 26, .int s, .int hh, .int le, .int i], [.int hh, .int i], (h.1, I, J, h.2.2.2))) rfl ?_
    refine hk_cge (ix := i.toInt) (iy := hh.toInt) rfl rfl rfl (fun z1 => ?_) (fun z1 => ?_)
    · refine qm_Ru.go 1 (c' := (48, [.ref 26, .int s, .int hh, .int le, .int i], [.int le], (h.1, I, J, h.2.2.2))) rfl ?_
      refine qm_Ru.rt (v := (some (.int le))) (h' := (h.1, I, J, h.2.2.2)) rfl ?_
      exact k le (I) (J) (by omega) (fun c => (hc c).elim fun n g => ⟨n, by omega, by rw [ehh]; omega, g.2⟩) hBI (fun o ho i => (e o ho i))
    · refine qm_Ru.go 5 (c' := (33, [.ref 26, .int s, .int hh, .int le, .int i], [.int (s * 4), .ref 26, .int le], (h.1, I, J, h.2.2.2))) rfl ?_
      obtain ⟨v2, q_v2, e_v2⟩ := hk_mul (x := s) (y := 4) (a := s.toInt) (b := 4) rfl rfl (by omega) (by omega)
      rw [q_v2]
      refine qm_Ru.go 2 (c' := (36, [.ref 26, .int s, .int hh, .int le, .int i], [.int (v2 + i), .ref 26, .int le], (h.1, I, J, h.2.2.2))) rfl ?_
      obtain ⟨v3, q_v3, e_v3⟩ := hk_add (x := v2) (y := i) (a := v2.toInt) (b := i.toInt) rfl rfl (by omega) (by omega)
      rw [q_v3]
      obtain ⟨v4, q_v4⟩ : ∃ v, h.2.1 26 (v3.toInt.toNat) = v := ⟨_, rfl⟩
      have b_v4 : (0 : Int) ≤ v4.toInt ∧ v4.toInt ≤ 12 := by rw [← q_v4]; exact hB 26 (v3.toInt.toNat)
      refine hk_ial (v := v4) rfl (hH.1 26 (0, 21) rfl) (by omega) (by omega) (show (I) 26 (v3.toInt.toNat) = _ from ((e 26 rfl (v3.toInt.toNat)).trans q_v4)) ?_
      refine qm_Ru.go 0 (c' := (37, [.ref 26, .int s, .int hh, .int le, .int i], [.int v4, .int le], (h.1, I, J, h.2.2.2))) rfl ?_
      have l_v4 : (pI h.2.1 26) (4 * s.toInt.toNat + i.toInt.toNat) = v4.toInt := (congrArg (pI h.2.1 26) (show 4 * s.toInt.toNat + i.toInt.toNat = v3.toInt.toNat from by omega)).trans (congrArg Int32.toInt q_v4)
      refine qm_Ru.go 1 (c' := (40, [.ref 26, .int s, .int hh, .int le, .int i], [.int (if v4 < le then v4 else le)], (h.1, I, J, h.2.2.2))) rfl ?_
      obtain ⟨v5, q_v5⟩ : ∃ v, (if v4 < le then v4 else le) = v := ⟨_, rfl⟩
      rw [q_v5]
      refine qm_Ru.go 2 (c' := (44, [.ref 26, .int s, .int hh, .int v5, .int (i + 1)], [], (h.1, I, J, h.2.2.2))) rfl ?_
      obtain ⟨v6, q_v6, e_v6⟩ := hk_add (x := i) (y := 1) (a := i.toInt) (b := 1) rfl rfl (by omega) (by omega)
      rw [q_v6]
      refine qm_Ru.go 1 (c' := (22, [.ref 26, .int s, .int hh, .int v5, .int v6], [], (h.1, I, J, h.2.2.2))) rfl ?_
      have z_v5 : v5 = v4 ∨ v5 = le := by rw [← q_v5]; exact if c : v4 < le then Or.inl (if_pos c) else Or.inr (if_neg c)
      exact ih _ (by omega) (I) (J) v5 v6 hBI (fun o ho i => (e o ho i)) (by omega) (by rcases z_v5 with c | c <;> rw [c] <;> omega) (by exact z_v5.elim (fun c => by rw [c]; exact fun _ => ⟨i.toInt.toNat, by omega, l_v4⟩) (fun c => by rw [c]; exact fun c2 => (hc c2).elim fun n g => ⟨n, by omega, g.2⟩)) rfl
theorem hs_soon_26 {L : Nat} {xs : Nat → Int32} {d : Nat} {Z : Option Value → qm_H → Prop} {h : qm_H} (h6 : 6 ≤ L) (hH : hk_H h) (hB : hk_B h.2.1) (ht : tw (pI h.2.1 26)) {s : Int32} (b_s : (0 : Int) ≤ s.toInt ∧ s.toInt ≤ 3) (k : ∀ (v : Int32) (I : Nat → Nat → Int32) (J : Nat → Nat → Int64), (0 : Int) ≤ v.toInt ∧ v.toInt ≤ 13 → (v.toInt ≤ 11 → con (pI h.2.1 26) s.toInt.toNat v.toInt) → hk_B I → (∀ o, [].contains o = false → ∀ i, I o i = h.2.1 o i) → Z (some (.int v)) (h.1, I, J, h.2.2.2)) : qm_Ru (some (L, xs)) (d + 20) cd_163 (qm_ent 5 [.ref 26, .int s] h) Z := by
  refine qm_Ru.go 4 (c' := (5, [.ref 26, .int s, .float 0, .float 0, .float 0], [.int (16 + s), .ref 26], h)) rfl ?_
  obtain ⟨v1, q_v1, e_v1⟩ := hk_add (x := 16) (y := s) (a := 16) (b := s.toInt) rfl rfl (by omega) (by omega)
  rw [q_v1]
  obtain ⟨v2, q_v2⟩ : ∃ v, h.2.1 26 (v1.toInt.toNat) = v := ⟨_, rfl⟩
  have b_v2 : (0 : Int) ≤ v2.toInt ∧ v2.toInt ≤ 12 := by rw [← q_v2]; exact hB 26 (v1.toInt.toNat)
  refine hk_ial (v := v2) rfl (hH.1 26 (0, 21) rfl) (by omega) (by omega) q_v2 ?_
  refine qm_Ru.go 0 (c' := (6, [.ref 26, .int s, .float 0, .float 0, .float 0], [.int v2], h)) rfl ?_
  have r_v2 : (0 : Int) ≤ v2.toInt ∧ v2.toInt ≤ 4 := by rw [← q_v2, show v1.toInt.toNat = 16 + s.toInt.toNat from by omega]; exact ht _ (by omega)
  have l_v2 : (pI h.2.1 26) (16 + s.toInt.toNat) = v2.toInt := (congrArg (pI h.2.1 26) (show 16 + s.toInt.toNat = v1.toInt.toNat from by omega)).trans (congrArg Int32.toInt q_v2)
  refine qm_Ru.go 2 (c' := (8, [.ref 26, .int s, .int v2, .float 0, .float 0], [.int v2], h)) rfl ?_
  refine hk_zne (ix := v2.toInt) rfl rfl (fun z3 => ?_) (fun z3 => ?_)
  · refine qm_Ru.go 4 (c' := (22, [.ref 26, .int s, .int v2, .int 12, .int 0], [], h)) rfl ?_
    exact hl_soon_26 h6 hH hB ht b_s (hh := v2) (by omega) l_v2 k _ h.2.1 h.2.2.1 12 0 hB (fun _ _ _ => rfl) (by show (0 : Int) ≤ 0 ∧ (0 : Int) ≤ v2.toInt; omega) (by decide) (fun c => absurd c (by decide)) rfl
  · refine qm_Ru.go 5 (c' := (22, [.ref 26, .int s, .int v2, .int 13, .int 0], [], h)) rfl ?_
    exact hl_soon_26 h6 hH hB ht b_s (hh := v2) (by omega) l_v2 k _ h.2.1 h.2.2.1 13 0 hB (fun _ _ _ => rfl) (by show (0 : Int) ≤ 0 ∧ (0 : Int) ≤ v2.toInt; omega) (by decide) (fun c => absurd c (by decide)) rfl
theorem hl_stk_26 {L : Nat} {xs : Nat → Int32} {d : Nat} {Z : Option Value → qm_H → Prop} {h : qm_H} (h6 : 6 ≤ L) (hH : hk_H h) (hB : hk_B h.2.1) (ht : tw (pI h.2.1 26)) {x : Int32} (k : ∀ (v : Int32) (I : Nat → Nat → Int32) (J : Nat → Nat → Int64), (v.toInt = -1 ∨ (((0 : Int) ≤ v.toInt ∧ v.toInt ≤ 3) ∧ (x.toInt ≤ 11 → con (pI h.2.1 26) v.toInt.toNat x.toInt))) → hk_B I → (∀ o, [].contains o = false → ∀ i, I o i = h.2.1 o i) → Z (some (.int v)) (h.1, I, J, h.2.2.2)) : ∀ (m : Nat) (I : Nat → Nat → Int32) (J : Nat → Nat → Int64) (s : Int32), hk_B I → (∀ o, [].contains o = false → ∀ i, I o i = h.2.1 o i) → ((0 : Int) ≤ s.toInt ∧ s.toInt ≤ 4) → (4 - s.toInt).toNat = m → qm_Ru (some (L, xs)) (d + 40) cd_162 (2, [.ref 26, .int x, .int s], [], (h.1, I, J, h.2.2.2)) Z := by
  intro m
  induction m using Nat.strongRecOn with
  | ind m ih =>
    intro I J s hBI e b_s hm
    refine qm_Ru.go 2 (c' := (4, [.ref 26, .int x, .int s], [.int 4, .int s], (h.1, I, J, h.2.2.2))) rfl ?_
    refine hk_cge (ix := s.toInt) (iy := 4) rfl rfl rfl (fun z1 => ?_) (fun z1 => ?_)
    · refine qm_Ru.go 1 (c' := (25, [.ref 26, .int x, .int s], [.int (-1)], (h.1, I, J, h.2.2.2))) rfl ?_
      refine qm_Ru.rt (v := (some (.int (-1)))) (h' := (h.1, I, J, h.2.2.2)) rfl ?_
      exact k ((-1)) (I) (J) (Or.inl rfl) hBI (fun o ho i => (e o ho i))
    · refine qm_Ru.go 2 (c' := (9, [.ref 26, .int x, .int s], [.int s, .ref 26], (h.1, I, J, h.2.2.2))) rfl ?_
      refine qm_Ru.call (j := 163) (as := [.ref 26, .int s]) (c' := (12, [.ref 26, .int x, .int s], [], (h.1, I, J, h.2.2.2))) rfl rfl rfl (hs_soon_26 (h := (h.1, I, J, h.2.2.2)) h6 hH hBI (by show tw (pI I 26); rw [(show pI I 26 = pI h.2.1 26 from funext fun i => congrArg Int32.toInt (e 26 rfl i))]; exact ht) (s := s) (by omega) (fun v4 I2 J3 b_v4 k_v4 _ e_I2 => ?_))
      have e_I2 : I = I2 := funext fun o => funext fun i => (e_I2 o rfl i).symm
      subst e_I2
      refine qm_Ru.go 1 (c' := (13, [.ref 26, .int x, .int s], [.int x, .int v4], (h.1, I, J3, h.2.2.2))) rfl ?_
      refine hk_cne (ix := v4.toInt) (iy := x.toInt) rfl rfl rfl (fun z5 => ?_) (fun z5 => ?_)
      · refine qm_Ru.go 1 (c' := (21, [.ref 26, .int x, .int (s + 1)], [], (h.1, I, J3, h.2.2.2))) rfl ?_
        obtain ⟨v6, q_v6, e_v6⟩ := hk_add (x := s) (y := 1) (a := s.toInt) (b := 1) rfl rfl (by omega) (by omega)
        rw [q_v6]
        refine qm_Ru.go 1 (c' := (2, [.ref 26, .int x, .int v6], [], (h.1, I, J3, h.2.2.2))) rfl ?_
        exact ih _ (by omega) (I) (J3) v6 hBI (fun o ho i => (e o ho i)) (by omega) rfl
      · refine qm_Ru.go 1 (c' := (17, [.ref 26, .int x, .int s], [.int s], (h.1, I, J3, h.2.2.2))) rfl ?_
        refine qm_Ru.rt (v := (some (.int s))) (h' := (h.1, I, J3, h.2.2.2)) rfl ?_
        exact k s (I) (J3) (Or.inr ⟨by omega, fun c => by have g := k_v4 (by omega); rw [show v4.toInt = x.toInt from by omega] at g; rw [← (show pI I 26 = pI h.2.1 26 from funext fun i => congrArg Int32.toInt (e 26 rfl i))]; exact g⟩) hBI (fun o ho i => (e o ho i))
theorem hs_stk_26 {L : Nat} {xs : Nat → Int32} {d : Nat} {Z : Option Value → qm_H → Prop} {h : qm_H} (h6 : 6 ≤ L) (hH : hk_H h) (hB : hk_B h.2.1) (ht : tw (pI h.2.1 26)) {x : Int32} (k : ∀ (v : Int32) (I : Nat → Nat → Int32) (J : Nat → Nat → Int64), (v.toInt = -1 ∨ (((0 : Int) ≤ v.toInt ∧ v.toInt ≤ 3) ∧ (x.toInt ≤ 11 → con (pI h.2.1 26) v.toInt.toNat x.toInt))) → hk_B I → (∀ o, [].contains o = false → ∀ i, I o i = h.2.1 o i) → Z (some (.int v)) (h.1, I, J, h.2.2.2)) : qm_Ru (some (L, xs)) (d + 40) cd_162 (qm_ent 3 [.ref 26, .int x] h) Z := by
  refine qm_Ru.go 2 (c' := (2, [.ref 26, .int x, .int 0], [], h)) rfl ?_
  exact hl_stk_26 h6 hH hB ht k _ h.2.1 h.2.2.1 0 hB (fun _ _ _ => rfl) (by decide) rfl
theorem hl_srv_26 {L : Nat} {xs : Nat → Int32} {d : Nat} {Z : Option Value → qm_H → Prop} {h : qm_H} (h6 : 6 ≤ L) (hH : hk_H h) (hB : hk_B h.2.1) {al : Int32} (b_al : (0 : Int) ≤ al.toInt ∧ al.toInt ≤ 12) (k : ∀ (I : Nat → Nat → Int32) (J : Nat → Nat → Int64), hk_B I → (∀ o, [26].contains o = false → ∀ i, I o i = h.2.1 o i) → tw (pI I 26) → Z none (h.1, I, J, h.2.2.2)) : ∀ (m : Nat) (I : Nat → Nat → Int32) (J : Nat → Nat → Int64) (i : Int32) (l3 : Value), hk_B I → (∀ o, [26].contains o = false → ∀ i, I o i = h.2.1 o i) → ((0 : Int) ≤ i.toInt ∧ i.toInt ≤ 16) → (tw (pI I 26)) → (16 - i.toInt).toNat = m → qm_Ru (some (L, xs)) (d + 60) cd_171 (2, [.ref 26, .int al, .int i, l3], [], (h.1, I, J, h.2.2.2)) Z := by
  intro m
  induction m using Nat.strongRecOn with
  | ind m ih =>
    intro I J i l3 hBI e h_i htw hm
    refine qm_Ru.go 2 (c' := (5, [.ref 26, .int al, .int i, l3], [.int 16, .int i], (h.1, I, J, h.2.2.2))) rfl ?_
    refine hk_cge (ix := i.toInt) (iy := 16) rfl rfl rfl (fun z1 => ?_) (fun z1 => ?_)
    · refine qm_Ru.go 0 (c' := (67, [.ref 26, .int al, .int i, l3], [], (h.1, I, J, h.2.2.2))) rfl ?_
      refine qm_Ru.rt (v := none) (h' := (h.1, I, J, h.2.2.2)) rfl ?_
      exact k (I) (J) hBI (fun o ho i => (e o ho i)) htw
    · refine qm_Ru.go 2 (c' := (11, [.ref 26, .int al, .int i, l3], [.int 20, .ref 26], (h.1, I, J, h.2.2.2))) rfl ?_
      obtain ⟨v2, q_v2⟩ : ∃ v, I 26 20 = v := ⟨_, rfl⟩
      have b_v2 : (0 : Int) ≤ v2.toInt ∧ v2.toInt ≤ 12 := by rw [← q_v2]; exact hBI 26 20
      refine hk_ial (v := v2) rfl (hH.1 26 (0, 21) rfl) (by decide) (by decide) q_v2 ?_
      refine qm_Ru.go 1 (c' := (13, [.ref 26, .int al, .int i, l3], [.int al, .int v2], (h.1, I, J, h.2.2.2))) rfl ?_
      refine hk_cge (ix := v2.toInt) (iy := al.toInt) rfl rfl rfl (fun z3 => ?_) (fun z3 => ?_)
      · refine qm_Ru.go 0 (c' := (67, [.ref 26, .int al, .int i, l3], [], (h.1, I, J, h.2.2.2))) rfl ?_
        refine qm_Ru.rt (v := none) (h' := (h.1, I, J, h.2.2.2)) rfl ?_
        exact k (I) (J) hBI (fun o ho i => (e o ho i)) htw
      · refine qm_Ru.go 3 (c' := (20, [.ref 26, .int al, .int i, l3], [.int 20, .ref 26, .ref 26], (h.1, I, J, h.2.2.2))) rfl ?_
        refine hk_ial (v := v2) rfl (hH.1 26 (0, 21) rfl) (by decide) (by decide) q_v2 ?_
        refine qm_Ru.go 0 (c' := (21, [.ref 26, .int al, .int i, l3], [.int v2, .ref 26], (h.1, I, J, h.2.2.2))) rfl ?_
        refine qm_Ru.call (j := 162) (as := [.ref 26, .int v2]) (c' := (24, [.ref 26, .int al, .int i, l3], [], (h.1, I, J, h.2.2.2))) rfl rfl rfl (hs_stk_26 (h := (h.1, I, J, h.2.2.2)) h6 hH hBI htw (x := v2) (fun v6 I4 J5 k_v6 _ e_I4 => ?_))
        have e_I4 : I = I4 := funext fun o => funext fun i => (e_I4 o rfl i).symm
        subst e_I4
        have b_v6 : (-1 : Int) ≤ v6.toInt ∧ v6.toInt ≤ 3 := by rcases k_v6 with c | ⟨c, _⟩ <;> omega
        refine qm_Ru.go 3 (c' := (27, [.ref 26, .int al, .int i, .int v6], [.int (-1), .int v6], (h.1, I, J5, h.2.2.2))) rfl ?_
        refine hk_ceq (ix := v6.toInt) (iy := (-1)) rfl rfl rfl (fun z7 => ?_) (fun z7 => ?_)
        · refine qm_Ru.go 0 (c' := (42, [.ref 26, .int al, .int i, .int v6], [], (h.1, I, J5, h.2.2.2))) rfl ?_
          refine qm_Ru.rt (v := none) (h' := (h.1, I, J5, h.2.2.2)) rfl ?_
          exact k (I) (J5) hBI (fun o ho i => (e o ho i)) htw
        · refine qm_Ru.go 2 (c' := (32, [.ref 26, .int al, .int i, .int v6], [.int v6, .ref 26], (h.1, I, J5, h.2.2.2))) rfl ?_
          refine qm_Ru.call (j := 164) (as := [.ref 26, .int v6]) (c' := (35, [.ref 26, .int al, .int i, .int v6], [], (h.1, I, J5, h.2.2.2))) rfl rfl rfl ?_
          refine qm_Ru.go 4 (c' := (5, [.ref 26, .int v6, .float 0], [.int (16 + v6), .ref 26], (h.1, I, J5, h.2.2.2))) rfl ?_
          obtain ⟨v8, q_v8, e_v8⟩ := hk_add (x := 16) (y := v6) (a := 16) (b := v6.toInt) rfl rfl (by omega) (by omega)
          rw [q_v8]
          obtain ⟨v9, q_v9⟩ : ∃ v, I 26 (v8.toInt.toNat) = v := ⟨_, rfl⟩
          have b_v9 : (0 : Int) ≤ v9.toInt ∧ v9.toInt ≤ 12 := by rw [← q_v9]; exact hBI 26 (v8.toInt.toNat)
          refine hk_ial (v := v9) rfl (hH.1 26 (0, 21) rfl) (by omega) (by omega) q_v9 ?_
          refine qm_Ru.go 0 (c' := (6, [.ref 26, .int v6, .float 0], [.int v9], (h.1, I, J5, h.2.2.2))) rfl ?_
          have r_v9 : (0 : Int) ≤ v9.toInt ∧ v9.toInt ≤ 4 := by rw [← q_v9, show v8.toInt.toNat = 16 + v6.toInt.toNat from by omega]; exact htw _ (by omega)
          refine qm_Ru.go 2 (c' := (8, [.ref 26, .int v6, .int v9], [.int v9], (h.1, I, J5, h.2.2.2))) rfl ?_
          refine hk_zne (ix := v9.toInt) rfl rfl (fun z10 => ?_) (fun z10 => ?_)
          · refine qm_Ru.go 4 (c' := (20, [.ref 26, .int v6, .int v9], [.int (v6 * 4), .ref 26], (h.1, I, J5, h.2.2.2))) rfl ?_
            obtain ⟨v11, q_v11, e_v11⟩ := hk_mul (x := v6) (y := 4) (a := v6.toInt) (b := 4) rfl rfl (by omega) (by omega)
            rw [q_v11]
            refine qm_Ru.go 2 (c' := (22, [.ref 26, .int v6, .int v9], [.int (v11 + v9), .ref 26], (h.1, I, J5, h.2.2.2))) rfl ?_
            obtain ⟨v12, q_v12, e_v12⟩ := hk_add (x := v11) (y := v9) (a := v11.toInt) (b := v9.toInt) rfl rfl (by omega) (by omega)
            rw [q_v12]
            refine qm_Ru.go 2 (c' := (24, [.ref 26, .int v6, .int v9], [.int (v12 - 1), .ref 26], (h.1, I, J5, h.2.2.2))) rfl ?_
            obtain ⟨v13, q_v13, e_v13⟩ := hk_sub (x := v12) (y := 1) (a := v12.toInt) (b := 1) rfl rfl (by omega) (by omega)
            rw [q_v13]
            obtain ⟨v14, q_v14⟩ : ∃ v, I 26 (v13.toInt.toNat) = v := ⟨_, rfl⟩
            have b_v14 : (0 : Int) ≤ v14.toInt ∧ v14.toInt ≤ 12 := by rw [← q_v14]; exact hBI 26 (v13.toInt.toNat)
            refine hk_ial (v := v14) rfl (hH.1 26 (0, 21) rfl) (by omega) (by omega) q_v14 ?_
            refine qm_Ru.go 0 (c' := (25, [.ref 26, .int v6, .int v9], [.int v14], (h.1, I, J5, h.2.2.2))) rfl ?_
            refine qm_Ru.rt (v := (some (.int v14))) (h' := (h.1, I, J5, h.2.2.2)) rfl ?_
            refine qm_Ru.go 2 (c' := (38, [.ref 26, .int al, .int i, .int v6], [.int 20, .ref 26, .int v14], (h.1, I, J5, h.2.2.2))) rfl ?_
            refine hk_ial (v := v2) rfl (hH.1 26 (0, 21) rfl) (by decide) (by decide) q_v2 ?_
            refine qm_Ru.go 0 (c' := (39, [.ref 26, .int al, .int i, .int v6], [.int v2, .int v14], (h.1, I, J5, h.2.2.2))) rfl ?_
            refine hk_ceq (ix := v14.toInt) (iy := v2.toInt) rfl rfl rfl (fun z15 => ?_) (fun z15 => ?_)
            · refine qm_Ru.go 4 (c' := (48, [.ref 26, .int al, .int i, .int v6], [.int (16 + v6), .ref 26], (h.1, I, J5, h.2.2.2))) rfl ?_
              rw [q_v8]
              refine qm_Ru.go 1 (c' := (49, [.ref 26, .int al, .int i, .int v6], [.int v8, .ref 26, .int v8, .ref 26], (h.1, I, J5, h.2.2.2))) rfl ?_
              refine hk_ial (v := v9) rfl (hH.1 26 (0, 21) rfl) (by omega) (by omega) q_v9 ?_
              refine qm_Ru.go 2 (c' := (52, [.ref 26, .int al, .int i, .int v6], [.int (v9 - 1), .int v8, .ref 26], (h.1, I, J5, h.2.2.2))) rfl ?_
              obtain ⟨v17, q_v17, e_v17⟩ := hk_sub (x := v9) (y := 1) (a := v9.toInt) (b := 1) rfl rfl (by omega) (by omega)
              rw [q_v17]
              refine hk_ias rfl (hH.1 26 (0, 21) rfl) (by omega) (by omega) ?_
              refine qm_Ru.go 3 (c' := (57, [.ref 26, .int al, .int i, .int v6], [.int 20, .ref 26, .int 20, .ref 26], (h.1, qm_up I 26 (v8.toInt.toNat) v17, J5, h.2.2.2))) rfl ?_
              refine hk_ial (v := v2) rfl (hH.1 26 (0, 21) rfl) (by decide) (by decide) (show (qm_up I 26 (v8.toInt.toNat) v17) 26 20 = _ from ((hk_neq (by omega)).trans q_v2)) ?_
              refine qm_Ru.go 2 (c' := (60, [.ref 26, .int al, .int i, .int v6], [.int (v2 + 1), .int 20, .ref 26], (h.1, qm_up I 26 (v8.toInt.toNat) v17, J5, h.2.2.2))) rfl ?_
              obtain ⟨v18, q_v18, e_v18⟩ := hk_add (x := v2) (y := 1) (a := v2.toInt) (b := 1) rfl rfl (by omega) (by omega)
              rw [q_v18]
              refine hk_ias rfl (hH.1 26 (0, 21) rfl) (by decide) (by decide) ?_
              refine qm_Ru.go 1 (c' := (64, [.ref 26, .int al, .int (i + 1), .int v6], [], (h.1, qm_up (qm_up I 26 (v8.toInt.toNat) v17) 26 20 v18, J5, h.2.2.2))) rfl ?_
              obtain ⟨v19, q_v19, e_v19⟩ := hk_add (x := i) (y := 1) (a := i.toInt) (b := 1) rfl rfl (by omega) (by omega)
              rw [q_v19]
              refine qm_Ru.go 1 (c' := (2, [.ref 26, .int al, .int v19, .int v6], [], (h.1, qm_up (qm_up I 26 (v8.toInt.toNat) v17) 26 20 v18, J5, h.2.2.2))) rfl ?_
              exact ih _ (by omega) (qm_up (qm_up I 26 (v8.toInt.toNat) v17) 26 20 v18) (J5) v19 (.int v6) (hb_up (o := 26) (k := 20) (x := v18) (hb_up (o := 26) (k := v8.toInt.toNat) (x := v17) hBI ⟨by show (0 : Int) ≤ v17.toInt; omega, by show v17.toInt ≤ (12 : Int); omega⟩) ⟨by show (0 : Int) ≤ v18.toInt; omega, by show v18.toInt ≤ (12 : Int); omega⟩) (fun o ho i => ((hk_mod ho rfl).trans ((hk_mod ho rfl).trans (e o ho i)))) (by omega) (fun s hs => by show 0 ≤ ((qm_up (qm_up I 26 (v8.toInt.toNat) v17) 26 20 v18) 26 (16 + s)).toInt ∧ ((qm_up (qm_up I 26 (v8.toInt.toNat) v17) 26 20 v18) 26 (16 + s)).toInt ≤ 4; rw [hk_neq (by omega)]; exact if c : s = v6.toInt.toNat then (by subst c; rw [hk_equ (by omega)]; omega) else (by rw [hk_neq (by omega)]; exact htw s hs)) rfl
            · refine qm_Ru.go 0 (c' := (42, [.ref 26, .int al, .int i, .int v6], [], (h.1, I, J5, h.2.2.2))) rfl ?_
              refine qm_Ru.rt (v := none) (h' := (h.1, I, J5, h.2.2.2)) rfl ?_
              exact k (I) (J5) hBI (fun o ho i => (e o ho i)) htw
          · refine qm_Ru.go 2 (c' := (25, [.ref 26, .int v6, .int v9], [.int 13], (h.1, I, J5, h.2.2.2))) rfl ?_
            refine qm_Ru.rt (v := (some (.int 13))) (h' := (h.1, I, J5, h.2.2.2)) rfl ?_
            refine qm_Ru.go 2 (c' := (38, [.ref 26, .int al, .int i, .int v6], [.int 20, .ref 26, .int 13], (h.1, I, J5, h.2.2.2))) rfl ?_
            refine hk_ial (v := v2) rfl (hH.1 26 (0, 21) rfl) (by decide) (by decide) q_v2 ?_
            refine qm_Ru.go 0 (c' := (39, [.ref 26, .int al, .int i, .int v6], [.int v2, .int 13], (h.1, I, J5, h.2.2.2))) rfl ?_
            refine hk_ceq (ix := 13) (iy := v2.toInt) rfl rfl rfl (fun z20 => by exfalso; omega) (fun z20 => ?_)
            refine qm_Ru.go 0 (c' := (42, [.ref 26, .int al, .int i, .int v6], [], (h.1, I, J5, h.2.2.2))) rfl ?_
            refine qm_Ru.rt (v := none) (h' := (h.1, I, J5, h.2.2.2)) rfl ?_
            exact k (I) (J5) hBI (fun o ho i => (e o ho i)) htw
theorem hs_srv_26 {L : Nat} {xs : Nat → Int32} {d : Nat} {Z : Option Value → qm_H → Prop} {h : qm_H} (h6 : 6 ≤ L) (hH : hk_H h) (hB : hk_B h.2.1) {al : Int32} (b_al : (0 : Int) ≤ al.toInt ∧ al.toInt ≤ 12) (ht : tw (pI h.2.1 26)) (k : ∀ (I : Nat → Nat → Int32) (J : Nat → Nat → Int64), hk_B I → (∀ o, [26].contains o = false → ∀ i, I o i = h.2.1 o i) → tw (pI I 26) → Z none (h.1, I, J, h.2.2.2)) : qm_Ru (some (L, xs)) (d + 60) cd_171 (qm_ent 4 [.ref 26, .int al] h) Z := by
  refine qm_Ru.go 2 (c' := (2, [.ref 26, .int al, .int 0, .float 0], [], h)) rfl ?_
  exact hl_srv_26 h6 hH hB b_al k _ h.2.1 h.2.2.1 0 _ hB (fun _ _ _ => rfl) (by decide) ht rfl
theorem hl_soon_27 {L : Nat} {xs : Nat → Int32} {d : Nat} {Z : Option Value → qm_H → Prop} {h : qm_H} (h6 : 6 ≤ L) (hH : hk_H h) (hB : hk_B h.2.1) (ht : tw (pI h.2.1 27)) {s : Int32} (b_s : (0 : Int) ≤ s.toInt ∧ s.toInt ≤ 3) {hh : Int32} (b_hh : (0 : Int) ≤ hh.toInt ∧ hh.toInt ≤ 4) (ehh : (pI h.2.1 27) (16 + s.toInt.toNat) = hh.toInt) (k : ∀ (v : Int32) (I : Nat → Nat → Int32) (J : Nat → Nat → Int64), (0 : Int) ≤ v.toInt ∧ v.toInt ≤ 13 → (v.toInt ≤ 11 → con (pI h.2.1 27) s.toInt.toNat v.toInt) → hk_B I → (∀ o, [].contains o = false → ∀ i, I o i = h.2.1 o i) → Z (some (.int v)) (h.1, I, J, h.2.2.2)) : ∀ (m : Nat) (I : Nat → Nat → Int32) (J : Nat → Nat → Int64) (le : Int32) (i : Int32), hk_B I → (∀ o, [].contains o = false → ∀ i, I o i = h.2.1 o i) → ((0 : Int) ≤ i.toInt ∧ i.toInt ≤ hh.toInt) → ((0 : Int) ≤ le.toInt ∧ le.toInt ≤ 13) → (le.toInt ≤ 11 → ∃ n : Nat, n < i.toInt.toNat ∧ (pI h.2.1 27) (4 * s.toInt.toNat + n) = le.toInt) → (4 - i.toInt).toNat = m → qm_Ru (some (L, xs)) (d + 20) cd_163 (22, [.ref 27, .int s, .int hh, .int le, .int i], [], (h.1, I, J, h.2.2.2)) Z := by
  intro m
  induction m using Nat.strongRecOn with
  | ind m ih =>
    intro I J le i hBI e h_i h_le hc hm
    refine qm_Ru.go 2 (c' := (25, [.ref 27, .int s, .int hh, .int le, .int i], [.int hh, .int i], (h.1, I, J, h.2.2.2))) rfl ?_
    refine hk_cge (ix := i.toInt) (iy := hh.toInt) rfl rfl rfl (fun z1 => ?_) (fun z1 => ?_)
    · refine qm_Ru.go 1 (c' := (48, [.ref 27, .int s, .int hh, .int le, .int i], [.int le], (h.1, I, J, h.2.2.2))) rfl ?_
      refine qm_Ru.rt (v := (some (.int le))) (h' := (h.1, I, J, h.2.2.2)) rfl ?_
      exact k le (I) (J) (by omega) (fun c => (hc c).elim fun n g => ⟨n, by omega, by rw [ehh]; omega, g.2⟩) hBI (fun o ho i => (e o ho i))
    · refine qm_Ru.go 5 (c' := (33, [.ref 27, .int s, .int hh, .int le, .int i], [.int (s * 4), .ref 27, .int le], (h.1, I, J, h.2.2.2))) rfl ?_
      obtain ⟨v2, q_v2, e_v2⟩ := hk_mul (x := s) (y := 4) (a := s.toInt) (b := 4) rfl rfl (by omega) (by omega)
      rw [q_v2]
      refine qm_Ru.go 2 (c' := (36, [.ref 27, .int s, .int hh, .int le, .int i], [.int (v2 + i), .ref 27, .int le], (h.1, I, J, h.2.2.2))) rfl ?_
      obtain ⟨v3, q_v3, e_v3⟩ := hk_add (x := v2) (y := i) (a := v2.toInt) (b := i.toInt) rfl rfl (by omega) (by omega)
      rw [q_v3]
      obtain ⟨v4, q_v4⟩ : ∃ v, h.2.1 27 (v3.toInt.toNat) = v := ⟨_, rfl⟩
      have b_v4 : (0 : Int) ≤ v4.toInt ∧ v4.toInt ≤ 12 := by rw [← q_v4]; exact hB 27 (v3.toInt.toNat)
      refine hk_ial (v := v4) rfl (hH.1 27 (0, 21) rfl) (by omega) (by omega) (show (I) 27 (v3.toInt.toNat) = _ from ((e 27 rfl (v3.toInt.toNat)).trans q_v4)) ?_
      refine qm_Ru.go 0 (c' := (37, [.ref 27, .int s, .int hh, .int le, .int i], [.int v4, .int le], (h.1, I, J, h.2.2.2))) rfl ?_
      have l_v4 : (pI h.2.1 27) (4 * s.toInt.toNat + i.toInt.toNat) = v4.toInt := (congrArg (pI h.2.1 27) (show 4 * s.toInt.toNat + i.toInt.toNat = v3.toInt.toNat from by omega)).trans (congrArg Int32.toInt q_v4)
      refine qm_Ru.go 1 (c' := (40, [.ref 27, .int s, .int hh, .int le, .int i], [.int (if v4 < le then v4 else le)], (h.1, I, J, h.2.2.2))) rfl ?_
      obtain ⟨v5, q_v5⟩ : ∃ v, (if v4 < le then v4 else le) = v := ⟨_, rfl⟩
      rw [q_v5]
      refine qm_Ru.go 2 (c' := (44, [.ref 27, .int s, .int hh, .int v5, .int (i + 1)], [], (h.1, I, J, h.2.2.2))) rfl ?_
      obtain ⟨v6, q_v6, e_v6⟩ := hk_add (x := i) (y := 1) (a := i.toInt) (b := 1) rfl rfl (by omega) (by omega)
      rw [q_v6]
      refine qm_Ru.go 1 (c' := (22, [.ref 27, .int s, .int hh, .int v5, .int v6], [], (h.1, I, J, h.2.2.2))) rfl ?_
      have z_v5 : v5 = v4 ∨ v5 = le := by rw [← q_v5]; exact if c : v4 < le then Or.inl (if_pos c) else Or.inr (if_neg c)
      exact ih _ (by omega) (I) (J) v5 v6 hBI (fun o ho i => (e o ho i)) (by omega) (by rcases z_v5 with c | c <;> rw [c] <;> omega) (by exact z_v5.elim (fun c => by rw [c]; exact fun _ => ⟨i.toInt.toNat, by omega, l_v4⟩) (fun c => by rw [c]; exact fun c2 => (hc c2).elim fun n g => ⟨n, by omega, g.2⟩)) rfl
theorem hs_soon_27 {L : Nat} {xs : Nat → Int32} {d : Nat} {Z : Option Value → qm_H → Prop} {h : qm_H} (h6 : 6 ≤ L) (hH : hk_H h) (hB : hk_B h.2.1) (ht : tw (pI h.2.1 27)) {s : Int32} (b_s : (0 : Int) ≤ s.toInt ∧ s.toInt ≤ 3) (k : ∀ (v : Int32) (I : Nat → Nat → Int32) (J : Nat → Nat → Int64), (0 : Int) ≤ v.toInt ∧ v.toInt ≤ 13 → (v.toInt ≤ 11 → con (pI h.2.1 27) s.toInt.toNat v.toInt) → hk_B I → (∀ o, [].contains o = false → ∀ i, I o i = h.2.1 o i) → Z (some (.int v)) (h.1, I, J, h.2.2.2)) : qm_Ru (some (L, xs)) (d + 20) cd_163 (qm_ent 5 [.ref 27, .int s] h) Z := by
  refine qm_Ru.go 4 (c' := (5, [.ref 27, .int s, .float 0, .float 0, .float 0], [.int (16 + s), .ref 27], h)) rfl ?_
  obtain ⟨v1, q_v1, e_v1⟩ := hk_add (x := 16) (y := s) (a := 16) (b := s.toInt) rfl rfl (by omega) (by omega)
  rw [q_v1]
  obtain ⟨v2, q_v2⟩ : ∃ v, h.2.1 27 (v1.toInt.toNat) = v := ⟨_, rfl⟩
  have b_v2 : (0 : Int) ≤ v2.toInt ∧ v2.toInt ≤ 12 := by rw [← q_v2]; exact hB 27 (v1.toInt.toNat)
  refine hk_ial (v := v2) rfl (hH.1 27 (0, 21) rfl) (by omega) (by omega) q_v2 ?_
  refine qm_Ru.go 0 (c' := (6, [.ref 27, .int s, .float 0, .float 0, .float 0], [.int v2], h)) rfl ?_
  have r_v2 : (0 : Int) ≤ v2.toInt ∧ v2.toInt ≤ 4 := by rw [← q_v2, show v1.toInt.toNat = 16 + s.toInt.toNat from by omega]; exact ht _ (by omega)
  have l_v2 : (pI h.2.1 27) (16 + s.toInt.toNat) = v2.toInt := (congrArg (pI h.2.1 27) (show 16 + s.toInt.toNat = v1.toInt.toNat from by omega)).trans (congrArg Int32.toInt q_v2)
  refine qm_Ru.go 2 (c' := (8, [.ref 27, .int s, .int v2, .float 0, .float 0], [.int v2], h)) rfl ?_
  refine hk_zne (ix := v2.toInt) rfl rfl (fun z3 => ?_) (fun z3 => ?_)
  · refine qm_Ru.go 4 (c' := (22, [.ref 27, .int s, .int v2, .int 12, .int 0], [], h)) rfl ?_
    exact hl_soon_27 h6 hH hB ht b_s (hh := v2) (by omega) l_v2 k _ h.2.1 h.2.2.1 12 0 hB (fun _ _ _ => rfl) (by show (0 : Int) ≤ 0 ∧ (0 : Int) ≤ v2.toInt; omega) (by decide) (fun c => absurd c (by decide)) rfl
  · refine qm_Ru.go 5 (c' := (22, [.ref 27, .int s, .int v2, .int 13, .int 0], [], h)) rfl ?_
    exact hl_soon_27 h6 hH hB ht b_s (hh := v2) (by omega) l_v2 k _ h.2.1 h.2.2.1 13 0 hB (fun _ _ _ => rfl) (by show (0 : Int) ≤ 0 ∧ (0 : Int) ≤ v2.toInt; omega) (by decide) (fun c => absurd c (by decide)) rfl
theorem hl_stk_27 {L : Nat} {xs : Nat → Int32} {d : Nat} {Z : Option Value → qm_H → Prop} {h : qm_H} (h6 : 6 ≤ L) (hH : hk_H h) (hB : hk_B h.2.1) (ht : tw (pI h.2.1 27)) {x : Int32} (k : ∀ (v : Int32) (I : Nat → Nat → Int32) (J : Nat → Nat → Int64), (v.toInt = -1 ∨ (((0 : Int) ≤ v.toInt ∧ v.toInt ≤ 3) ∧ (x.toInt ≤ 11 → con (pI h.2.1 27) v.toInt.toNat x.toInt))) → hk_B I → (∀ o, [].contains o = false → ∀ i, I o i = h.2.1 o i) → Z (some (.int v)) (h.1, I, J, h.2.2.2)) : ∀ (m : Nat) (I : Nat → Nat → Int32) (J : Nat → Nat → Int64) (s : Int32), hk_B I → (∀ o, [].contains o = false → ∀ i, I o i = h.2.1 o i) → ((0 : Int) ≤ s.toInt ∧ s.toInt ≤ 4) → (4 - s.toInt).toNat = m → qm_Ru (some (L, xs)) (d + 40) cd_162 (2, [.ref 27, .int x, .int s], [], (h.1, I, J, h.2.2.2)) Z := by
  intro m
  induction m using Nat.strongRecOn with
  | ind m ih =>
    intro I J s hBI e b_s hm
    refine qm_Ru.go 2 (c' := (4, [.ref 27, .int x, .int s], [.int 4, .int s], (h.1, I, J, h.2.2.2))) rfl ?_
    refine hk_cge (ix := s.toInt) (iy := 4) rfl rfl rfl (fun z1 => ?_) (fun z1 => ?_)
    · refine qm_Ru.go 1 (c' := (25, [.ref 27, .int x, .int s], [.int (-1)], (h.1, I, J, h.2.2.2))) rfl ?_
      refine qm_Ru.rt (v := (some (.int (-1)))) (h' := (h.1, I, J, h.2.2.2)) rfl ?_
      exact k ((-1)) (I) (J) (Or.inl rfl) hBI (fun o ho i => (e o ho i))
    · refine qm_Ru.go 2 (c' := (9, [.ref 27, .int x, .int s], [.int s, .ref 27], (h.1, I, J, h.2.2.2))) rfl ?_
      refine qm_Ru.call (j := 163) (as := [.ref 27, .int s]) (c' := (12, [.ref 27, .int x, .int s], [], (h.1, I, J, h.2.2.2))) rfl rfl rfl (hs_soon_27 (h := (h.1, I, J, h.2.2.2)) h6 hH hBI (by show tw (pI I 27); rw [(show pI I 27 = pI h.2.1 27 from funext fun i => congrArg Int32.toInt (e 27 rfl i))]; exact ht) (s := s) (by omega) (fun v4 I2 J3 b_v4 k_v4 _ e_I2 => ?_))
      have e_I2 : I = I2 := funext fun o => funext fun i => (e_I2 o rfl i).symm
      subst e_I2
      refine qm_Ru.go 1 (c' := (13, [.ref 27, .int x, .int s], [.int x, .int v4], (h.1, I, J3, h.2.2.2))) rfl ?_
      refine hk_cne (ix := v4.toInt) (iy := x.toInt) rfl rfl rfl (fun z5 => ?_) (fun z5 => ?_)
      · refine qm_Ru.go 1 (c' := (21, [.ref 27, .int x, .int (s + 1)], [], (h.1, I, J3, h.2.2.2))) rfl ?_
        obtain ⟨v6, q_v6, e_v6⟩ := hk_add (x := s) (y := 1) (a := s.toInt) (b := 1) rfl rfl (by omega) (by omega)
        rw [q_v6]
        refine qm_Ru.go 1 (c' := (2, [.ref 27, .int x, .int v6], [], (h.1, I, J3, h.2.2.2))) rfl ?_
        exact ih _ (by omega) (I) (J3) v6 hBI (fun o ho i => (e o ho i)) (by omega) rfl
      · refine qm_Ru.go 1 (c' := (17, [.ref 27, .int x, .int s], [.int s], (h.1, I, J3, h.2.2.2))) rfl ?_
        refine qm_Ru.rt (v := (some (.int s))) (h' := (h.1, I, J3, h.2.2.2)) rfl ?_
        exact k s (I) (J3) (Or.inr ⟨by omega, fun c => by have g := k_v4 (by omega); rw [show v4.toInt = x.toInt from by omega] at g; rw [← (show pI I 27 = pI h.2.1 27 from funext fun i => congrArg Int32.toInt (e 27 rfl i))]; exact g⟩) hBI (fun o ho i => (e o ho i))
theorem hs_stk_27 {L : Nat} {xs : Nat → Int32} {d : Nat} {Z : Option Value → qm_H → Prop} {h : qm_H} (h6 : 6 ≤ L) (hH : hk_H h) (hB : hk_B h.2.1) (ht : tw (pI h.2.1 27)) {x : Int32} (k : ∀ (v : Int32) (I : Nat → Nat → Int32) (J : Nat → Nat → Int64), (v.toInt = -1 ∨ (((0 : Int) ≤ v.toInt ∧ v.toInt ≤ 3) ∧ (x.toInt ≤ 11 → con (pI h.2.1 27) v.toInt.toNat x.toInt))) → hk_B I → (∀ o, [].contains o = false → ∀ i, I o i = h.2.1 o i) → Z (some (.int v)) (h.1, I, J, h.2.2.2)) : qm_Ru (some (L, xs)) (d + 40) cd_162 (qm_ent 3 [.ref 27, .int x] h) Z := by
  refine qm_Ru.go 2 (c' := (2, [.ref 27, .int x, .int 0], [], h)) rfl ?_
  exact hl_stk_27 h6 hH hB ht k _ h.2.1 h.2.2.1 0 hB (fun _ _ _ => rfl) (by decide) rfl
theorem hl_srv_27 {L : Nat} {xs : Nat → Int32} {d : Nat} {Z : Option Value → qm_H → Prop} {h : qm_H} (h6 : 6 ≤ L) (hH : hk_H h) (hB : hk_B h.2.1) {al : Int32} (b_al : (0 : Int) ≤ al.toInt ∧ al.toInt ≤ 12) (k : ∀ (I : Nat → Nat → Int32) (J : Nat → Nat → Int64), hk_B I → (∀ o, [27].contains o = false → ∀ i, I o i = h.2.1 o i) → tw (pI I 27) → Z none (h.1, I, J, h.2.2.2)) : ∀ (m : Nat) (I : Nat → Nat → Int32) (J : Nat → Nat → Int64) (i : Int32) (l3 : Value), hk_B I → (∀ o, [27].contains o = false → ∀ i, I o i = h.2.1 o i) → ((0 : Int) ≤ i.toInt ∧ i.toInt ≤ 16) → (tw (pI I 27)) → (16 - i.toInt).toNat = m → qm_Ru (some (L, xs)) (d + 60) cd_171 (2, [.ref 27, .int al, .int i, l3], [], (h.1, I, J, h.2.2.2)) Z := by
  intro m
  induction m using Nat.strongRecOn with
  | ind m ih =>
    intro I J i l3 hBI e h_i htw hm
    refine qm_Ru.go 2 (c' := (5, [.ref 27, .int al, .int i, l3], [.int 16, .int i], (h.1, I, J, h.2.2.2))) rfl ?_
    refine hk_cge (ix := i.toInt) (iy := 16) rfl rfl rfl (fun z1 => ?_) (fun z1 => ?_)
    · refine qm_Ru.go 0 (c' := (67, [.ref 27, .int al, .int i, l3], [], (h.1, I, J, h.2.2.2))) rfl ?_
      refine qm_Ru.rt (v := none) (h' := (h.1, I, J, h.2.2.2)) rfl ?_
      exact k (I) (J) hBI (fun o ho i => (e o ho i)) htw
    · refine qm_Ru.go 2 (c' := (11, [.ref 27, .int al, .int i, l3], [.int 20, .ref 27], (h.1, I, J, h.2.2.2))) rfl ?_
      obtain ⟨v2, q_v2⟩ : ∃ v, I 27 20 = v := ⟨_, rfl⟩
      have b_v2 : (0 : Int) ≤ v2.toInt ∧ v2.toInt ≤ 12 := by rw [← q_v2]; exact hBI 27 20
      refine hk_ial (v := v2) rfl (hH.1 27 (0, 21) rfl) (by decide) (by decide) q_v2 ?_
      refine qm_Ru.go 1 (c' := (13, [.ref 27, .int al, .int i, l3], [.int al, .int v2], (h.1, I, J, h.2.2.2))) rfl ?_
      refine hk_cge (ix := v2.toInt) (iy := al.toInt) rfl rfl rfl (fun z3 => ?_) (fun z3 => ?_)
      · refine qm_Ru.go 0 (c' := (67, [.ref 27, .int al, .int i, l3], [], (h.1, I, J, h.2.2.2))) rfl ?_
        refine qm_Ru.rt (v := none) (h' := (h.1, I, J, h.2.2.2)) rfl ?_
        exact k (I) (J) hBI (fun o ho i => (e o ho i)) htw
      · refine qm_Ru.go 3 (c' := (20, [.ref 27, .int al, .int i, l3], [.int 20, .ref 27, .ref 27], (h.1, I, J, h.2.2.2))) rfl ?_
        refine hk_ial (v := v2) rfl (hH.1 27 (0, 21) rfl) (by decide) (by decide) q_v2 ?_
        refine qm_Ru.go 0 (c' := (21, [.ref 27, .int al, .int i, l3], [.int v2, .ref 27], (h.1, I, J, h.2.2.2))) rfl ?_
        refine qm_Ru.call (j := 162) (as := [.ref 27, .int v2]) (c' := (24, [.ref 27, .int al, .int i, l3], [], (h.1, I, J, h.2.2.2))) rfl rfl rfl (hs_stk_27 (h := (h.1, I, J, h.2.2.2)) h6 hH hBI htw (x := v2) (fun v6 I4 J5 k_v6 _ e_I4 => ?_))
        have e_I4 : I = I4 := funext fun o => funext fun i => (e_I4 o rfl i).symm
        subst e_I4
        have b_v6 : (-1 : Int) ≤ v6.toInt ∧ v6.toInt ≤ 3 := by rcases k_v6 with c | ⟨c, _⟩ <;> omega
        refine qm_Ru.go 3 (c' := (27, [.ref 27, .int al, .int i, .int v6], [.int (-1), .int v6], (h.1, I, J5, h.2.2.2))) rfl ?_
        refine hk_ceq (ix := v6.toInt) (iy := (-1)) rfl rfl rfl (fun z7 => ?_) (fun z7 => ?_)
        · refine qm_Ru.go 0 (c' := (42, [.ref 27, .int al, .int i, .int v6], [], (h.1, I, J5, h.2.2.2))) rfl ?_
          refine qm_Ru.rt (v := none) (h' := (h.1, I, J5, h.2.2.2)) rfl ?_
          exact k (I) (J5) hBI (fun o ho i => (e o ho i)) htw
        · refine qm_Ru.go 2 (c' := (32, [.ref 27, .int al, .int i, .int v6], [.int v6, .ref 27], (h.1, I, J5, h.2.2.2))) rfl ?_
          refine qm_Ru.call (j := 164) (as := [.ref 27, .int v6]) (c' := (35, [.ref 27, .int al, .int i, .int v6], [], (h.1, I, J5, h.2.2.2))) rfl rfl rfl ?_
          refine qm_Ru.go 4 (c' := (5, [.ref 27, .int v6, .float 0], [.int (16 + v6), .ref 27], (h.1, I, J5, h.2.2.2))) rfl ?_
          obtain ⟨v8, q_v8, e_v8⟩ := hk_add (x := 16) (y := v6) (a := 16) (b := v6.toInt) rfl rfl (by omega) (by omega)
          rw [q_v8]
          obtain ⟨v9, q_v9⟩ : ∃ v, I 27 (v8.toInt.toNat) = v := ⟨_, rfl⟩
          have b_v9 : (0 : Int) ≤ v9.toInt ∧ v9.toInt ≤ 12 := by rw [← q_v9]; exact hBI 27 (v8.toInt.toNat)
          refine hk_ial (v := v9) rfl (hH.1 27 (0, 21) rfl) (by omega) (by omega) q_v9 ?_
          refine qm_Ru.go 0 (c' := (6, [.ref 27, .int v6, .float 0], [.int v9], (h.1, I, J5, h.2.2.2))) rfl ?_
          have r_v9 : (0 : Int) ≤ v9.toInt ∧ v9.toInt ≤ 4 := by rw [← q_v9, show v8.toInt.toNat = 16 + v6.toInt.toNat from by omega]; exact htw _ (by omega)
          refine qm_Ru.go 2 (c' := (8, [.ref 27, .int v6, .int v9], [.int v9], (h.1, I, J5, h.2.2.2))) rfl ?_
          refine hk_zne (ix := v9.toInt) rfl rfl (fun z10 => ?_) (fun z10 => ?_)
          · refine qm_Ru.go 4 (c' := (20, [.ref 27, .int v6, .int v9], [.int (v6 * 4), .ref 27], (h.1, I, J5, h.2.2.2))) rfl ?_
            obtain ⟨v11, q_v11, e_v11⟩ := hk_mul (x := v6) (y := 4) (a := v6.toInt) (b := 4) rfl rfl (by omega) (by omega)
            rw [q_v11]
            refine qm_Ru.go 2 (c' := (22, [.ref 27, .int v6, .int v9], [.int (v11 + v9), .ref 27], (h.1, I, J5, h.2.2.2))) rfl ?_
            obtain ⟨v12, q_v12, e_v12⟩ := hk_add (x := v11) (y := v9) (a := v11.toInt) (b := v9.toInt) rfl rfl (by omega) (by omega)
            rw [q_v12]
            refine qm_Ru.go 2 (c' := (24, [.ref 27, .int v6, .int v9], [.int (v12 - 1), .ref 27], (h.1, I, J5, h.2.2.2))) rfl ?_
            obtain ⟨v13, q_v13, e_v13⟩ := hk_sub (x := v12) (y := 1) (a := v12.toInt) (b := 1) rfl rfl (by omega) (by omega)
            rw [q_v13]
            obtain ⟨v14, q_v14⟩ : ∃ v, I 27 (v13.toInt.toNat) = v := ⟨_, rfl⟩
            have b_v14 : (0 : Int) ≤ v14.toInt ∧ v14.toInt ≤ 12 := by rw [← q_v14]; exact hBI 27 (v13.toInt.toNat)
            refine hk_ial (v := v14) rfl (hH.1 27 (0, 21) rfl) (by omega) (by omega) q_v14 ?_
            refine qm_Ru.go 0 (c' := (25, [.ref 27, .int v6, .int v9], [.int v14], (h.1, I, J5, h.2.2.2))) rfl ?_
            refine qm_Ru.rt (v := (some (.int v14))) (h' := (h.1, I, J5, h.2.2.2)) rfl ?_
            refine qm_Ru.go 2 (c' := (38, [.ref 27, .int al, .int i, .int v6], [.int 20, .ref 27, .int v14], (h.1, I, J5, h.2.2.2))) rfl ?_
            refine hk_ial (v := v2) rfl (hH.1 27 (0, 21) rfl) (by decide) (by decide) q_v2 ?_
            refine qm_Ru.go 0 (c' := (39, [.ref 27, .int al, .int i, .int v6], [.int v2, .int v14], (h.1, I, J5, h.2.2.2))) rfl ?_
            refine hk_ceq (ix := v14.toInt) (iy := v2.toInt) rfl rfl rfl (fun z15 => ?_) (fun z15 => ?_)
            · refine qm_Ru.go 4 (c' := (48, [.ref 27, .int al, .int i, .int v6], [.int (16 + v6), .ref 27], (h.1, I, J5, h.2.2.2))) rfl ?_
              rw [q_v8]
              refine qm_Ru.go 1 (c' := (49, [.ref 27, .int al, .int i, .int v6], [.int v8, .ref 27, .int v8, .ref 27], (h.1, I, J5, h.2.2.2))) rfl ?_
              refine hk_ial (v := v9) rfl (hH.1 27 (0, 21) rfl) (by omega) (by omega) q_v9 ?_
              refine qm_Ru.go 2 (c' := (52, [.ref 27, .int al, .int i, .int v6], [.int (v9 - 1), .int v8, .ref 27], (h.1, I, J5, h.2.2.2))) rfl ?_
              obtain ⟨v17, q_v17, e_v17⟩ := hk_sub (x := v9) (y := 1) (a := v9.toInt) (b := 1) rfl rfl (by omega) (by omega)
              rw [q_v17]
              refine hk_ias rfl (hH.1 27 (0, 21) rfl) (by omega) (by omega) ?_
              refine qm_Ru.go 3 (c' := (57, [.ref 27, .int al, .int i, .int v6], [.int 20, .ref 27, .int 20, .ref 27], (h.1, qm_up I 27 (v8.toInt.toNat) v17, J5, h.2.2.2))) rfl ?_
              refine hk_ial (v := v2) rfl (hH.1 27 (0, 21) rfl) (by decide) (by decide) (show (qm_up I 27 (v8.toInt.toNat) v17) 27 20 = _ from ((hk_neq (by omega)).trans q_v2)) ?_
              refine qm_Ru.go 2 (c' := (60, [.ref 27, .int al, .int i, .int v6], [.int (v2 + 1), .int 20, .ref 27], (h.1, qm_up I 27 (v8.toInt.toNat) v17, J5, h.2.2.2))) rfl ?_
              obtain ⟨v18, q_v18, e_v18⟩ := hk_add (x := v2) (y := 1) (a := v2.toInt) (b := 1) rfl rfl (by omega) (by omega)
              rw [q_v18]
              refine hk_ias rfl (hH.1 27 (0, 21) rfl) (by decide) (by decide) ?_
              refine qm_Ru.go 1 (c' := (64, [.ref 27, .int al, .int (i + 1), .int v6], [], (h.1, qm_up (qm_up I 27 (v8.toInt.toNat) v17) 27 20 v18, J5, h.2.2.2))) rfl ?_
              obtain ⟨v19, q_v19, e_v19⟩ := hk_add (x := i) (y := 1) (a := i.toInt) (b := 1) rfl rfl (by omega) (by omega)
              rw [q_v19]
              refine qm_Ru.go 1 (c' := (2, [.ref 27, .int al, .int v19, .int v6], [], (h.1, qm_up (qm_up I 27 (v8.toInt.toNat) v17) 27 20 v18, J5, h.2.2.2))) rfl ?_
              exact ih _ (by omega) (qm_up (qm_up I 27 (v8.toInt.toNat) v17) 27 20 v18) (J5) v19 (.int v6) (hb_up (o := 27) (k := 20) (x := v18) (hb_up (o := 27) (k := v8.toInt.toNat) (x := v17) hBI ⟨by show (0 : Int) ≤ v17.toInt; omega, by show v17.toInt ≤ (12 : Int); omega⟩) ⟨by show (0 : Int) ≤ v18.toInt; omega, by show v18.toInt ≤ (12 : Int); omega⟩) (fun o ho i => ((hk_mod ho rfl).trans ((hk_mod ho rfl).trans (e o ho i)))) (by omega) (fun s hs => by show 0 ≤ ((qm_up (qm_up I 27 (v8.toInt.toNat) v17) 27 20 v18) 27 (16 + s)).toInt ∧ ((qm_up (qm_up I 27 (v8.toInt.toNat) v17) 27 20 v18) 27 (16 + s)).toInt ≤ 4; rw [hk_neq (by omega)]; exact if c : s = v6.toInt.toNat then (by subst c; rw [hk_equ (by omega)]; omega) else (by rw [hk_neq (by omega)]; exact htw s hs)) rfl
            · refine qm_Ru.go 0 (c' := (42, [.ref 27, .int al, .int i, .int v6], [], (h.1, I, J5, h.2.2.2))) rfl ?_
              refine qm_Ru.rt (v := none) (h' := (h.1, I, J5, h.2.2.2)) rfl ?_
              exact k (I) (J5) hBI (fun o ho i => (e o ho i)) htw
          · refine qm_Ru.go 2 (c' := (25, [.ref 27, .int v6, .int v9], [.int 13], (h.1, I, J5, h.2.2.2))) rfl ?_
            refine qm_Ru.rt (v := (some (.int 13))) (h' := (h.1, I, J5, h.2.2.2)) rfl ?_
            refine qm_Ru.go 2 (c' := (38, [.ref 27, .int al, .int i, .int v6], [.int 20, .ref 27, .int 13], (h.1, I, J5, h.2.2.2))) rfl ?_
            refine hk_ial (v := v2) rfl (hH.1 27 (0, 21) rfl) (by decide) (by decide) q_v2 ?_
            refine qm_Ru.go 0 (c' := (39, [.ref 27, .int al, .int i, .int v6], [.int v2, .int 13], (h.1, I, J5, h.2.2.2))) rfl ?_
            refine hk_ceq (ix := 13) (iy := v2.toInt) rfl rfl rfl (fun z20 => by exfalso; omega) (fun z20 => ?_)
            refine qm_Ru.go 0 (c' := (42, [.ref 27, .int al, .int i, .int v6], [], (h.1, I, J5, h.2.2.2))) rfl ?_
            refine qm_Ru.rt (v := none) (h' := (h.1, I, J5, h.2.2.2)) rfl ?_
            exact k (I) (J5) hBI (fun o ho i => (e o ho i)) htw
theorem hs_srv_27 {L : Nat} {xs : Nat → Int32} {d : Nat} {Z : Option Value → qm_H → Prop} {h : qm_H} (h6 : 6 ≤ L) (hH : hk_H h) (hB : hk_B h.2.1) {al : Int32} (b_al : (0 : Int) ≤ al.toInt ∧ al.toInt ≤ 12) (ht : tw (pI h.2.1 27)) (k : ∀ (I : Nat → Nat → Int32) (J : Nat → Nat → Int64), hk_B I → (∀ o, [27].contains o = false → ∀ i, I o i = h.2.1 o i) → tw (pI I 27) → Z none (h.1, I, J, h.2.2.2)) : qm_Ru (some (L, xs)) (d + 60) cd_171 (qm_ent 4 [.ref 27, .int al] h) Z := by
  refine qm_Ru.go 2 (c' := (2, [.ref 27, .int al, .int 0, .float 0], [], h)) rfl ?_
  exact hl_srv_27 h6 hH hB b_al k _ h.2.1 h.2.2.1 0 _ hB (fun _ _ _ => rfl) (by decide) ht rfl
