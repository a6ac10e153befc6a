/-! all ways of a run over unknown numbers -/
/-- what bounds say of x against k -/
def qm_ci (q : ClassFile.Cond) (lo hi k : Int) : Option Bool := match q with
  | .lt => if hi < k then some true else if k ≤ lo then some false else none
  | .ge => if hi < k then some false else if k ≤ lo then some true else none
  | .le => if hi ≤ k then some true else if k < lo then some false else none
  | .gt => if hi ≤ k then some false else if k < lo then some true else none
  | .eq => if lo = k ∧ hi = k then some true else if k < lo ∨ hi < k then some false else none
  | .ne => if lo = k ∧ hi = k then some false else if k < lo ∨ hi < k then some true else none
def qm_ai (q : ClassFile.Cond) (lo hi k : Int) (b : Bool) : Int × Int := match q, b with
  | .lt, true => (lo, min hi (k - 1))
  | .lt, false => (max lo k, hi)
  | .ge, true => (max lo k, hi)
  | .ge, false => (lo, min hi (k - 1))
  | .le, true => (lo, min hi k)
  | .le, false => (max lo (k + 1), hi)
  | .gt, true => (max lo (k + 1), hi)
  | .gt, false => (lo, min hi k)
  | .eq, true => (k, k)
  | .eq, false => (if lo = k then lo + 1 else lo, if hi = k then hi - 1 else hi)
  | .ne, true => (if lo = k then lo + 1 else lo, if hi = k then hi - 1 else hi)
  | .ne, false => (k, k)
def qm_flip (q : ClassFile.Cond) : ClassFile.Cond := match q with
  | .lt => .gt
  | .gt => .lt
  | .le => .ge
  | .ge => .le
  | .eq => .eq
  | .ne => .ne
theorem qm_flip_ok (q : ClassFile.Cond) (x y : Int32) : qm_cc (qm_flip q) x y = qm_cc q y x := by
  cases q <;> simp only [qm_flip, qm_cc]
  · exact decide_eq_decide.mpr ⟨Eq.symm, Eq.symm⟩
  · exact decide_eq_decide.mpr ⟨fun h z => h z.symm, fun h z => h z.symm⟩
theorem qm_ci_ok {q : ClassFile.Cond} {lo hi : Int} {x k : Int32} {b : Bool} (h1 : lo ≤ x.toInt) (h2 : x.toInt ≤ hi) (h : qm_ci q lo hi k.toInt = some b) : qm_cc q x k = b := by
  have e1 : x < k ↔ x.toInt < k.toInt := Int32.lt_iff_toInt_lt
  have e2 : k < x ↔ k.toInt < x.toInt := Int32.lt_iff_toInt_lt
  have e3 : x ≤ k ↔ x.toInt ≤ k.toInt := Int32.le_iff_toInt_le
  have e4 : k ≤ x ↔ k.toInt ≤ x.toInt := Int32.le_iff_toInt_le
  have e5 : x = k ↔ x.toInt = k.toInt := Int32.toInt_inj.symm
  cases q <;> simp only [qm_ci] at h <;> simp only [qm_cc, e1, e2, e3, e4, e5] <;> (split at h) <;> first
    | (cases h; first | exact decide_eq_true (by omega) | exact decide_eq_false (by omega))
    | (split at h <;> cases h <;> first | exact decide_eq_true (by omega) | exact decide_eq_false (by omega))
theorem qm_ai_ok {q : ClassFile.Cond} {lo hi : Int} {x k : Int32} {b : Bool} (h1 : lo ≤ x.toInt) (h2 : x.toInt ≤ hi) (h : qm_cc q x k = b) : (qm_ai q lo hi k.toInt b).1 ≤ x.toInt ∧ x.toInt ≤ (qm_ai q lo hi k.toInt b).2 := by
  have e1 : x < k ↔ x.toInt < k.toInt := Int32.lt_iff_toInt_lt
  have e2 : k < x ↔ k.toInt < x.toInt := Int32.lt_iff_toInt_lt
  have e3 : x ≤ k ↔ x.toInt ≤ k.toInt := Int32.le_iff_toInt_le
  have e4 : k ≤ x ↔ k.toInt ≤ x.toInt := Int32.le_iff_toInt_le
  have e5 : x = k ↔ x.toInt = k.toInt := Int32.toInt_inj.symm
  cases q <;> cases b <;> simp only [qm_cc, e1, e2, e3, e4, e5, decide_eq_true_eq, decide_eq_false_iff_not] at h <;> simp only [qm_ai] <;> (repeat' split) <;> omega
def qm_fa : List (Nat × Nat × Bool) → Nat → Nat → Option Bool
  | [], _, _ => none
  | q :: r, n, m => bif Nat.beq q.1 n && Nat.beq q.2.1 m then some q.2.2 else qm_fa r n m
theorem qm_fa_mem : ∀ {t : List (Nat × Nat × Bool)} {n m : Nat} {b : Bool}, qm_fa t n m = some b → (n, m, b) ∈ t
  | [], _, _, _, h => by cases h
  | q :: t, n, m, b, h => by
    unfold qm_fa at h
    cases hb : Nat.beq q.1 n && Nat.beq q.2.1 m with
    | true =>
      simp only [hb, cond_true] at h
      rw [Bool.and_eq_true] at hb
      have h1 := Nat.eq_of_beq_eq_true hb.1
      have h2 := Nat.eq_of_beq_eq_true hb.2
      cases h
      subst h1
      subst h2
      exact List.mem_cons_self
    | false =>
      simp only [hb, cond_false] at h
      exact List.mem_cons_of_mem _ (qm_fa_mem h)
/-- is the branch known -/
def qm_dc (E : qm_En) (q : ClassFile.Cond) (x y : Value) : Option Bool := match x, y with
  | .int x, .int y => some (qm_cc q x y)
  | .float n, .int k => bif decide (n = 0) then none else qm_ci q (qm_bd E n.toNat).1 (qm_bd E n.toNat).2 k.toInt
  | .int k, .float n => bif decide (n = 0) then none else qm_ci (qm_flip q) (qm_bd E n.toNat).1 (qm_bd E n.toNat).2 k.toInt
  | .float n, .float m => bif decide (n = 0) || decide (m = 0) then none else (match q with
    | .lt => qm_fa E.2 n.toNat m.toNat
    | .ge => (qm_fa E.2 n.toNat m.toNat).map Bool.not
    | .gt => qm_fa E.2 m.toNat n.toNat
    | .le => (qm_fa E.2 m.toNat n.toNat).map Bool.not
    | _ => none)
  | _, _ => none
/-- what is known when the branch goes so -/
def qm_as (E : qm_En) (q : ClassFile.Cond) (x y : Value) (b : Bool) : qm_En := match x, y with
  | .float n, .int k => bif decide (n = 0) then E else (E.1.set n.toNat (qm_ai q (qm_bd E n.toNat).1 (qm_bd E n.toNat).2 k.toInt b), E.2)
  | .int k, .float n => bif decide (n = 0) then E else (E.1.set n.toNat (qm_ai (qm_flip q) (qm_bd E n.toNat).1 (qm_bd E n.toNat).2 k.toInt b), E.2)
  | .float n, .float m => bif decide (n = 0) || decide (m = 0) then E else (match q with
    | .lt => (E.1, (n.toNat, m.toNat, b) :: E.2)
    | .ge => (E.1, (n.toNat, m.toNat, !b) :: E.2)
    | .gt => (E.1, (m.toNat, n.toNat, b) :: E.2)
    | .le => (E.1, (m.toNat, n.toNat, !b) :: E.2)
    | _ => E)
  | _, _ => E
theorem qm_u0 {n : UInt32} (h : ¬ n = 0) : 0 < n.toNat := by
  rcases Nat.eq_zero_or_pos n.toNat with z | z
  · exact absurd (UInt32.toNat_inj.mp z) h
  · exact z
theorem qm_dc_ok {r : Nat → Int32} {E : qm_En} (hs : qm_sat r E) {q : ClassFile.Cond} {x y : Value} {b : Bool} (h : qm_dc E q x y = some b) : ∃ x' y', qm_sv r x = .int x' ∧ qm_sv r y = .int y' ∧ qm_cc q x' y' = b := by
  unfold qm_dc at h
  split at h
  · rename_i x y
    exact ⟨x, y, rfl, rfl, Option.some.inj h⟩
  · rename_i n k
    by_cases hn : n = 0
    · simp [hn] at h
    · simp only [hn, decide_false, cond_false] at h
      have hb := hs.1 n.toNat (qm_u0 hn)
      exact ⟨r n.toNat, k, by simp [qm_sv, hn], rfl, qm_ci_ok hb.1 hb.2 h⟩
  · rename_i k n
    by_cases hn : n = 0
    · simp [hn] at h
    · simp only [hn, decide_false, cond_false] at h
      have hb := hs.1 n.toNat (qm_u0 hn)
      exact ⟨k, r n.toNat, rfl, by simp [qm_sv, hn], by rw [← qm_flip_ok]; exact qm_ci_ok hb.1 hb.2 h⟩
  · rename_i n m
    by_cases hn : n = 0
    · simp [hn] at h
    · by_cases hm : m = 0
      · simp [hm] at h
      · simp only [hn, hm, decide_false, Bool.or_self, cond_false] at h
        refine ⟨r n.toNat, r m.toNat, by simp [qm_sv, hn], by simp [qm_sv, hm], ?_⟩
        have hlt : ∀ {a b : Int32}, decide (b ≤ a) = !decide (a < b) := by
          intro a b
          by_cases z : a < b
          · have : ¬ b ≤ a := by
              intro w
              have h1 := Int32.lt_iff_toInt_lt.mp z
              have h2 := Int32.le_iff_toInt_le.mp w
              omega
            simp [z, this]
          · have : b ≤ a := by
              refine Int32.le_iff_toInt_le.mpr ?_
              have h1 : ¬ a.toInt < b.toInt := fun w => z (Int32.lt_iff_toInt_lt.mpr w)
              omega
            simp [z, this]
        cases q with
        | lt => exact hs.2 _ (qm_fa_mem h)
        | gt => exact hs.2 _ (qm_fa_mem h)
        | ge =>
          obtain ⟨c, h1, rfl⟩ := Option.map_eq_some_iff.mp h
          have := hs.2 _ (qm_fa_mem h1)
          show decide (r m.toNat ≤ r n.toNat) = !c
          rw [hlt, this]
        | le =>
          obtain ⟨c, h1, rfl⟩ := Option.map_eq_some_iff.mp h
          have := hs.2 _ (qm_fa_mem h1)
          show decide (r n.toNat ≤ r m.toNat) = !c
          rw [hlt, this]
        | eq => cases h
        | ne => cases h
  · cases h
theorem qm_sat_set {r : Nat → Int32} {E : qm_En} (hs : qm_sat r E) {n : Nat} {q : Int × Int} (hq : q.1 ≤ (r n).toInt ∧ (r n).toInt ≤ q.2) : qm_sat r (E.1.set n q, E.2) := by
  refine ⟨fun m hm => ?_, hs.2⟩
  have hb := hs.1 m hm
  unfold qm_bd at hb ⊢
  by_cases he : n = m
  · subst he
    by_cases hl : n < E.1.length
    · rw [List.getD_eq_getElem?_getD, List.getElem?_set_self hl]
      exact hq
    · rw [List.set_eq_of_length_le (by omega)]
      exact hb
  · rw [List.getD_eq_getElem?_getD, List.getElem?_set_ne he, ← List.getD_eq_getElem?_getD]
    exact hb
theorem qm_as_ok {r : Nat → Int32} {E : qm_En} (hs : qm_sat r E) {q : ClassFile.Cond} {x y : Value} {x' y' : Int32} (hx : qm_sv r x = .int x') (hy : qm_sv r y = .int y') {b : Bool} (h : qm_cc q x' y' = b) : qm_sat r (qm_as E q x y b) := by
  unfold qm_as
  split
  · rename_i n k
    by_cases hn : n = 0
    · simp only [hn, decide_true, cond_true]
      exact hs
    · simp only [hn, decide_false, cond_false]
      have hb := hs.1 n.toNat (qm_u0 hn)
      simp only [qm_sv, hn, decide_false, cond_false] at hx
      cases hx
      cases hy
      exact qm_sat_set hs (qm_ai_ok hb.1 hb.2 h)
  · rename_i k n
    by_cases hn : n = 0
    · simp only [hn, decide_true, cond_true]
      exact hs
    · simp only [hn, decide_false, cond_false]
      have hb := hs.1 n.toNat (qm_u0 hn)
      simp only [qm_sv, hn, decide_false, cond_false] at hy
      cases hx
      cases hy
      exact qm_sat_set hs (qm_ai_ok hb.1 hb.2 (by rw [qm_flip_ok]; exact h))
  · rename_i n m
    by_cases hn : n = 0
    · simp only [hn, decide_true, Bool.true_or, cond_true]
      exact hs
    · by_cases hm : m = 0
      · simp only [hm, decide_true, Bool.or_true, cond_true]
        exact hs
      · simp only [hn, hm, decide_false, Bool.or_self, cond_false]
        simp only [qm_sv, hn, decide_false, cond_false] at hx
        simp only [qm_sv, hm, decide_false, cond_false] at hy
        cases hx
        cases hy
        have hlt : ∀ {a b : Int32}, decide (a < b) = !decide (b ≤ a) := by
          intro a b
          by_cases z : a < b
          · have : ¬ b ≤ a := by
              intro w
              have h1 := Int32.lt_iff_toInt_lt.mp z
              have h2 := Int32.le_iff_toInt_le.mp w
              omega
            simp [z, this]
          · have : b ≤ a := by
              refine Int32.le_iff_toInt_le.mpr ?_
              have h1 : ¬ a.toInt < b.toInt := fun w => z (Int32.lt_iff_toInt_lt.mpr w)
              omega
            simp [z, this]
        have add : ∀ {i j : Nat} {c : Bool}, decide (r i < r j) = c → qm_sat r (E.1, (i, j, c) :: E.2) := fun hc => ⟨hs.1, fun q hq => by
          rcases List.mem_cons.mp hq with rfl | hq
          · exact hc
          · exact hs.2 q hq⟩
        cases q with
        | lt => exact add h
        | gt => exact add h
        | ge => exact add (by rw [hlt, show decide (r m.toNat ≤ r n.toNat) = b from h])
        | le => exact add (by rw [hlt, show decide (r n.toNat ≤ r m.toNat) = b from h])
        | eq => exact hs
        | ne => exact hs
  · exact hs
/-- where a number is cut first: a test of equality within its bounds -/
def qm_cut (E : qm_En) (q : ClassFile.Cond) (x y : Value) : Option (Nat × Int) := match x, y with
  | .float n, .int k => (match q with
    | .eq => bif decide (¬ n = 0) && decide ((qm_bd E n.toNat).1 < k.toInt) then some (n.toNat, k.toInt) else none
    | .ne => bif decide (¬ n = 0) && decide ((qm_bd E n.toNat).1 < k.toInt) then some (n.toNat, k.toInt) else none
    | _ => none)
  | .int k, .float n => (match q with
    | .eq => bif decide (¬ n = 0) && decide ((qm_bd E n.toNat).1 < k.toInt) then some (n.toNat, k.toInt) else none
    | .ne => bif decide (¬ n = 0) && decide ((qm_bd E n.toNat).1 < k.toInt) then some (n.toNat, k.toInt) else none
    | _ => none)
  | _, _ => none
def qm_c1 (E : qm_En) (m : Nat) (k : Int) : qm_En := (E.1.set m ((qm_bd E m).1, k - 1), E.2)
def qm_c2 (E : qm_En) (m : Nat) (k : Int) : qm_En := (E.1.set m (k, (qm_bd E m).2), E.2)
/-- a wide number is cut at 0, then at 65 -/
def qm_wcut (q : Int × Int) : Option Int := if q.1 < 0 ∧ 0 ≤ q.2 then some 0 else if 0 ≤ q.1 ∧ q.1 ≤ 64 then some 65 else none
/-- the numbers of a split -/
def qm_rg (q : Int × Int) : List Nat := List.range (q.2 - q.1 + 1).toNat
/-- every way from here comes to its end with 1 -/
def qm_all (F : Nat → Nat × qm_Cd) : Nat → Nat → qm_En → qm_Cd → qm_CS → List (qm_Cd × Nat × List Value × List Value) → Bool
  | 0, _, _, _, _, _ => false
  | n + 1, d, E, cd, c, fs => match qm_fetch cd c.1 with
    | none => false
    | some it => match qm_xS E it c with
      | none => false
      | some (.inl c') => qm_all F n d E cd c' fs
      | some (.inr (.inl q)) => (match qm_dc E q.1 q.2.1 q.2.2.1 with
        | some true => qm_all F n d E cd q.2.2.2.1 fs
        | some false => qm_all F n d E cd q.2.2.2.2 fs
        | none => (match qm_cut E q.1 q.2.1 q.2.2.1 with
          | some g => Nat.blt 0 g.1 && (qm_all F n d (qm_c1 E g.1 g.2) cd c fs && qm_all F n d (qm_c2 E g.1 g.2) cd c fs)
          | none => qm_il q.2.1 && (qm_il q.2.2.1 && (qm_all F n d (qm_as E q.1 q.2.1 q.2.2.1 true) cd q.2.2.2.1 fs && qm_all F n d (qm_as E q.1 q.2.1 q.2.2.1 false) cd q.2.2.2.2 fs))))
      | some (.inr (.inr (.inl q))) => (match fs with
        | [] => decide (q.1 = some (.int 1)) && (Nat.ble q.2.1.length 600000 && Nat.ble (qm_tot q.2.1) 7302250)
        | g :: fs' => qm_all F n (d + 1) E g.1 (g.2.1, g.2.2.1, q.1.toList ++ g.2.2.2, q.2) fs')
      | some (.inr (.inr (.inr (.inl q)))) => (match d with
        | 0 => false
        | d' + 1 => bif Nat.ble (qm_la q.2.1).length (F q.1).1 then qm_all F n d' E (F q.1).2 (0, qm_la q.2.1 ++ List.replicate ((F q.1).1 - (qm_la q.2.1).length) (.float 0), [], q.2.2.2.2.2) ((cd, q.2.2.1, q.2.2.2.1, q.2.2.2.2.1) :: fs) else false)
      | some (.inr (.inr (.inr (.inr m)))) => bif Nat.blt 0 m && decide ((qm_bd E m).2 - (qm_bd E m).1 ≤ 64) then (qm_rg (qm_bd E m)).all (fun t => qm_all F n d (E.1.set m ((qm_bd E m).1 + t, (qm_bd E m).1 + t), E.2) cd c fs) else (match qm_wcut (qm_bd E m) with
        | some k => Nat.blt 0 m && (qm_all F n d (qm_c1 E m k) cd c fs && qm_all F n d (qm_c2 E m k) cd c fs)
        | none => false)
/-- what comes behind a frame's answer -/
def qm_K (X : Option (Nat × (Nat → Int32))) (r : Nat → Int32) : Nat → List (qm_Cd × Nat × List Value × List Value) → Option Value → qm_H → Prop
  | _, [] => fun v h => v = some (.int 1) ∧ h.1.length ≤ 600000 ∧ qm_tot h.1 ≤ 7302250
  | d, g :: fs => fun v h => qm_Ru X (d + 1) g.1 (g.2.1, g.2.2.1.map (qm_sv r), v.toList ++ g.2.2.2.map (qm_sv r), h) (qm_K X r (d + 1) fs)
theorem qm_map_la (r : Nat → Int32) : ∀ as : List Value, (qm_la as).map (qm_sv r) = qm_la (as.map (qm_sv r))
  | [] => rfl
  | a :: t => by
    have ih := qm_map_la r t
    unfold qm_la
    rw [List.map_cons]
    show (bif Nat.beq a.category 2 then a :: .float 0 :: qm_la t else a :: qm_la t).map (qm_sv r) = (bif Nat.beq (qm_sv r a).category 2 then qm_sv r a :: .float 0 :: qm_la (t.map (qm_sv r)) else qm_sv r a :: qm_la (t.map (qm_sv r)))
    rw [qm_sv_cat]
    cases Nat.beq a.category 2 with
    | true => simp only [cond_true, List.map_cons, ih]; rfl
    | false => simp only [cond_false, List.map_cons, ih]
theorem qm_c_ok {r : Nat → Int32} {E : qm_En} (hs : qm_sat r E) {m : Nat} (hm : 0 < m) (k : Int) : qm_sat r (qm_c1 E m k) ∨ qm_sat r (qm_c2 E m k) := by
  have hb := hs.1 m hm
  by_cases h : (r m).toInt < k
  · exact Or.inl (qm_sat_set hs ⟨hb.1, by dsimp only; omega⟩)
  · exact Or.inr (qm_sat_set hs ⟨by dsimp only; omega, hb.2⟩)
theorem qm_all_ok (xs ys : Nat → Int32) : ∀ (n d : Nat) (E : qm_En) (cd : qm_Cd) (c : qm_CS) (fs : List (qm_Cd × Nat × List Value × List Value)), qm_sat (qm_rho xs ys) E → qm_all qm_F n d E cd c fs = true → qm_Ru (some (6, xs)) d cd (qm_cs (qm_rho xs ys) c) (qm_K (some (6, xs)) (qm_rho xs ys) d fs)
  | 0, _, _, _, _, _, _, h => by cases h
  | n + 1, d, E, cd, c, fs, hs, h => by
    unfold qm_all at h
    split at h
    · cases h
    · rename_i it hf
      have hstep : qm_step (some (6, xs)) cd (qm_cs (qm_rho xs ys) c) = qm_x (some (6, xs)) it (qm_cs (qm_rho xs ys) c) := by
        unfold qm_step
        rw [show (qm_cs (qm_rho xs ys) c).1 = c.1 from rfl, hf]
      have hpc := (qm_fetch_ok hf).2
      obtain ⟨pc, np, ins, a, f, v⟩ := it
      obtain ⟨pc', ls, st, hh⟩ := c
      have hpc : pc = pc' := hpc
      subst hpc
      split at h
      · cases h
      · rename_i c' hx
        have hy := qm_y hs hx rfl
        exact qm_Ru.nx (hstep.trans hy) (qm_all_ok xs ys n d E cd c' fs hs h)
      · rename_i q hx
        have hy := qm_y hs hx rfl
        obtain ⟨q0, qx, qy, c1, c2⟩ := q
        dsimp only at h
        split at h
        · rename_i hd
          obtain ⟨x', y', g1, g2, g3⟩ := qm_dc_ok hs hd
          have hy2 : qm_x (some (6, xs)) (pc, np, ins, a, f, v) (qm_cs (qm_rho xs ys) (pc, ls, st, hh)) = some (.inr (.inl (qm_cc q0 x' y', qm_cs (qm_rho xs ys) c1, qm_cs (qm_rho xs ys) c2))) := by
            rw [hy]
            simp only [qm_f2, g1, g2]
          refine qm_Ru.br (hstep.trans hy2) (fun _ => qm_all_ok xs ys n d E cd c1 fs hs h) (fun z => ?_)
          rw [g3] at z
          cases z
        · rename_i hd
          obtain ⟨x', y', g1, g2, g3⟩ := qm_dc_ok hs hd
          have hy2 : qm_x (some (6, xs)) (pc, np, ins, a, f, v) (qm_cs (qm_rho xs ys) (pc, ls, st, hh)) = some (.inr (.inl (qm_cc q0 x' y', qm_cs (qm_rho xs ys) c1, qm_cs (qm_rho xs ys) c2))) := by
            rw [hy]
            simp only [qm_f2, g1, g2]
          refine qm_Ru.br (hstep.trans hy2) (fun z => ?_) (fun _ => qm_all_ok xs ys n d E cd c2 fs hs h)
          rw [g3] at z
          cases z
        · split at h
          · rename_i g hg
            simp only [Bool.and_eq_true] at h
            obtain ⟨i0, h1, h2⟩ := h
            rcases qm_c_ok hs (Nat.le_of_ble_eq_true i0) g.2 with z | z
            · exact qm_all_ok xs ys n d _ cd (pc, ls, st, hh) fs z h1
            · exact qm_all_ok xs ys n d _ cd (pc, ls, st, hh) fs z h2
          · simp only [Bool.and_eq_true] at h
            obtain ⟨i1, i2, h1, h2⟩ := h
            obtain ⟨x', g1⟩ := qm_il_sv (r := qm_rho xs ys) i1
            obtain ⟨y', g2⟩ := qm_il_sv (r := qm_rho xs ys) i2
            have hy2 : qm_x (some (6, xs)) (pc, np, ins, a, f, v) (qm_cs (qm_rho xs ys) (pc, ls, st, hh)) = some (.inr (.inl (qm_cc q0 x' y', qm_cs (qm_rho xs ys) c1, qm_cs (qm_rho xs ys) c2))) := by
              rw [hy]
              simp only [qm_f2, g1, g2]
            exact qm_Ru.br (hstep.trans hy2) (fun z => qm_all_ok xs ys n d _ cd c1 fs (qm_as_ok hs g1 g2 z) h1) (fun z => qm_all_ok xs ys n d _ cd c2 fs (qm_as_ok hs g1 g2 z) h2)
      · rename_i q hx
        have hy := qm_y hs hx rfl
        obtain ⟨qv, qh⟩ := q
        refine qm_Ru.rt (hstep.trans hy) ?_
        dsimp only at h
        split at h
        · simp only [Bool.and_eq_true, decide_eq_true_eq] at h
          obtain ⟨h1, h2, h3⟩ := h
          exact ⟨by rw [h1]; rfl, Nat.le_of_ble_eq_true h2, Nat.le_of_ble_eq_true h3⟩
        · rename_i g fs'
          have ih := qm_all_ok xs ys n (d + 1) E g.1 _ fs' hs h
          have e1 : qm_cs (qm_rho xs ys) (g.2.1, g.2.2.1, qv.toList ++ g.2.2.2, qh) = (g.2.1, g.2.2.1.map (qm_sv (qm_rho xs ys)), (qv.map (qm_sv (qm_rho xs ys))).toList ++ g.2.2.2.map (qm_sv (qm_rho xs ys)), qm_hs (qm_rho xs ys) qh) := by
            unfold qm_cs
            dsimp only
            rw [List.map_append]
            cases qv <;> rfl
          rw [e1] at ih
          exact ih
      · rename_i q hx
        have hy := qm_y hs hx rfl
        obtain ⟨j, as, c1⟩ := q
        dsimp only at h
        split at h
        · cases h
        · rename_i d'
          cases hl : Nat.ble (qm_la as).length (qm_F j).1 with
          | false => simp only [hl, cond_false] at h; cases h
          | true =>
            simp only [hl, cond_true] at h
            have ih := qm_all_ok xs ys n d' E (qm_F j).2 _ _ hs h
            have hlen : (qm_la (as.map (qm_sv (qm_rho xs ys)))).length = (qm_la as).length := by rw [← qm_map_la, List.length_map]
            refine qm_Ru.call (hstep.trans hy) rfl (by rw [hlen]; exact hl) ?_
            have e1 : qm_cs (qm_rho xs ys) (0, qm_la as ++ List.replicate ((qm_F j).1 - (qm_la as).length) (.float 0), [], c1.2.2.2) = qm_ent (qm_F j).1 (as.map (qm_sv (qm_rho xs ys))) (qm_cs (qm_rho xs ys) c1).2.2.2 := by
              unfold qm_cs qm_ent
              dsimp only
              rw [List.map_append, qm_map_la, List.map_replicate, hlen]
              rfl
            rw [e1] at ih
            exact ih
      · rename_i m hx
        cases hc : Nat.blt 0 m && decide ((qm_bd E m).2 - (qm_bd E m).1 ≤ 64) with
        | false =>
          simp only [hc, cond_false] at h
          split at h
          · rename_i k hk
            simp only [Bool.and_eq_true] at h
            obtain ⟨i0, h1, h2⟩ := h
            rcases qm_c_ok hs (Nat.le_of_ble_eq_true i0) k with z | z
            · exact qm_all_ok xs ys n d _ cd (pc, ls, st, hh) fs z h1
            · exact qm_all_ok xs ys n d _ cd (pc, ls, st, hh) fs z h2
          · cases h
        | true =>
          simp only [hc, cond_true] at h
          rw [Bool.and_eq_true] at hc
          have hm : 0 < m := Nat.le_of_ble_eq_true hc.1
          have hb := hs.1 m hm
          have h1 := List.all_eq_true.mp h ((qm_rho xs ys m).toInt - (qm_bd E m).1).toNat (List.mem_range.mpr (by omega))
          refine qm_all_ok xs ys n d _ cd (pc, ls, st, hh) fs (qm_sat_set hs ?_) h1
          dsimp only
          omega
