/-! what a branch tells -/
noncomputable def qa_ix (a b : qa_B) : qa_B := (zmax a.1 b.1, zmin a.2 b.2)
theorem qa_ix_ok {a b : qa_B} {x : Int32} (ha : qa_in a x) (hb : qa_in b x) : qa_in (qa_ix a b) x := by
  unfold qa_in at ha hb
  show zmax a.1 b.1 ≤ x.toInt ∧ x.toInt ≤ zmin a.2 b.2
  rw [zmax_eq, zmin_eq]
  omega
/-- the same told of what a number was made of -/
noncomputable def qa_en (E : List (Nat × Int × Int)) (n : Nat) (q : qa_B) (l : List (Nat × Nat × Int)) : List (Nat × Int × Int) := List.rec (motive := fun _ => List (Nat × Int × Int)) E (fun d _ ih => bif Nat.beq d.1 n then (d.2.1, qa_ix (qa_lk E d.2.1) (q.1 - d.2.2, q.2 - d.2.2)) :: ih else ih) l
theorem qa_en_cons {E : List (Nat × Int × Int)} {n : Nat} {q : qa_B} {d : Nat × Nat × Int} {r : List (Nat × Nat × Int)} : qa_en E n q (d :: r) = bif Nat.beq d.1 n then (d.2.1, qa_ix (qa_lk E d.2.1) (q.1 - d.2.2, q.2 - d.2.2)) :: qa_en E n q r else qa_en E n q r := rfl
noncomputable def qa_d (s : Bool) : Int := bif s then 1 else 0
/-- the same told of what lies below or above it -/
noncomputable def qa_ef (E E' : List (Nat × Int × Int)) (n : Nat) (q : qa_B) (l : List (Bool × Nat × Nat)) : List (Nat × Int × Int) := List.rec (motive := fun _ => List (Nat × Int × Int)) E' (fun d _ ih => bif Nat.beq d.2.2 n then (d.2.1, qa_ix (qa_lk E d.2.1) (-2147483648, q.2 - qa_d d.1)) :: ih else bif Nat.beq d.2.1 n then (d.2.2, qa_ix (qa_lk E d.2.2) (q.1 + qa_d d.1, 2147483647)) :: ih else ih) l
theorem qa_ef_cons {E E' : List (Nat × Int × Int)} {n : Nat} {q : qa_B} {d : Bool × Nat × Nat} {r : List (Bool × Nat × Nat)} : qa_ef E E' n q (d :: r) = bif Nat.beq d.2.2 n then (d.2.1, qa_ix (qa_lk E d.2.1) (-2147483648, q.2 - qa_d d.1)) :: qa_ef E E' n q r else bif Nat.beq d.2.1 n then (d.2.2, qa_ix (qa_lk E d.2.2) (q.1 + qa_d d.1, 2147483647)) :: qa_ef E E' n q r else qa_ef E E' n q r := rfl
noncomputable def qa_set (K : qa_K) (a : Value) (q : qa_B) : qa_K := match a with
  | .retAddr (n + 1) => (K.1, (n, q) :: qa_ef K.2.1 (qa_en K.2.1 n q K.2.2.2.1) n q K.2.2.1, K.2.2)
  | _ => K
theorem qa_lt_d {s : Bool} {x y : Int32} (h : qa_lt s x y) : x.toInt + qa_d s ≤ y.toInt := by
  cases s with
  | true =>
    have h : x.toInt < y.toInt := h
    show x.toInt + 1 ≤ y.toInt
    omega
  | false =>
    have h : x.toInt ≤ y.toInt := h
    show x.toInt + 0 ≤ y.toInt
    omega
theorem qa_ef_ok {p : List Int32} {E E' : List (Nat × Int × Int)} {n : Nat} {q : qa_B} {x : Int32} (hE : ∀ q ∈ E, ∃ x, p[q.1]? = some x ∧ qa_in q.2 x) (hE' : ∀ q ∈ E', ∃ x, p[q.1]? = some x ∧ qa_in q.2 x) (hn : p[n]? = some x) (hx : qa_in q x) : ∀ {F : List (Bool × Nat × Nat)}, (∀ q ∈ F, ∃ x y, p[q.2.1]? = some x ∧ p[q.2.2]? = some y ∧ qa_lt q.1 x y) → ∀ w ∈ qa_ef E E' n q F, ∃ x, p[w.1]? = some x ∧ qa_in w.2 x
  | [], _ => hE'
  | d :: r, hF => by
    have ih := qa_ef_ok hE hE' hn hx (F := r) (fun q hq => hF q (List.mem_cons_of_mem _ hq))
    obtain ⟨y, z, h1, h2, h3⟩ := hF d List.mem_cons_self
    have h3 := qa_lt_d h3
    rw [qa_ef_cons]
    cases hb : Nat.beq d.2.2 n with
    | true =>
      rw [cond_true]
      intro w hw
      rcases List.mem_cons.mp hw with rfl | hw
      · have e := Nat.eq_of_beq_eq_true hb
        rw [e, hn] at h2
        cases h2
        refine ⟨y, h1, qa_ix_ok (qa_lk_ok h1 hE) ?_⟩
        have b := Int32.le_toInt y
        unfold qa_in at hx ⊢
        dsimp only
        omega
      · exact ih w hw
    | false =>
      rw [cond_false]
      cases hc : Nat.beq d.2.1 n with
      | true =>
        rw [cond_true]
        intro w hw
        rcases List.mem_cons.mp hw with rfl | hw
        · have e := Nat.eq_of_beq_eq_true hc
          rw [e, hn] at h1
          cases h1
          refine ⟨z, h2, qa_ix_ok (qa_lk_ok h2 hE) ?_⟩
          have b := Int32.toInt_lt z
          unfold qa_in at hx ⊢
          dsimp only
          omega
        · exact ih w hw
      | false => exact ih
theorem qa_en_ok {p : List Int32} {E : List (Nat × Int × Int)} {n : Nat} {q : qa_B} {x : Int32} (hE : ∀ q ∈ E, ∃ x, p[q.1]? = some x ∧ qa_in q.2 x) (hn : p[n]? = some x) (hx : qa_in q x) : ∀ {D : List (Nat × Nat × Int)}, (∀ q ∈ D, ∃ x y, p[q.1]? = some x ∧ p[q.2.1]? = some y ∧ x.toInt = y.toInt + q.2.2) → ∀ w ∈ qa_en E n q D, ∃ x, p[w.1]? = some x ∧ qa_in w.2 x
  | [], _ => hE
  | d :: r, hD => by
    have ih := qa_en_ok hE hn hx (D := r) (fun q hq => hD q (List.mem_cons_of_mem _ hq))
    rw [qa_en_cons]
    cases hb : Nat.beq d.1 n with
    | false => exact ih
    | true =>
      rw [cond_true]
      intro w hw
      rcases List.mem_cons.mp hw with rfl | hw
      · have e := Nat.eq_of_beq_eq_true hb
        obtain ⟨y, z, h1, h2, h3⟩ := hD d List.mem_cons_self
        rw [e, hn] at h1
        cases h1
        refine ⟨z, h2, qa_ix_ok (qa_lk_ok h2 hE) ?_⟩
        unfold qa_in at hx ⊢
        dsimp only
        omega
      · exact ih w hw
theorem qa_set_ok {p : List Int32} {K : qa_K} {a : Value} {q : qa_B} {x : Int32} (hs : qa_sat p K) (hg : qa_g p a (.int x)) (hx : qa_in q x) : qa_sat p (qa_set K a q) := by
  unfold qa_set
  split
  · rename_i n
    obtain ⟨y, h1, h2⟩ := hg
    cases h2
    refine ⟨hs.1, fun w hw => ?_, hs.2.2.1, hs.2.2.2⟩
    rcases List.mem_cons.mp hw with rfl | hw
    · exact ⟨x, h1, hx⟩
    · exact qa_ef_ok hs.2.1 (qa_en_ok hs.2.1 h1 hx hs.2.2.2) h1 hx hs.2.2.1 w hw
  · exact hs
theorem qa_set_hp {p : List Int32} {K : qa_K} {h : qm_H} (a : Value) (q : qa_B) (hp : qa_hp p K h) : qa_hp p (qa_set K a q) h := by
  unfold qa_set
  split
  · exact hp
  · exact hp
/-- a fact of order -/
noncomputable def qa_fc (s : Bool) (K : qa_K) (x y : Value) : qa_K := match x, y with
  | .retAddr (n + 1), .retAddr (m + 1) => (K.1, K.2.1, (s, n, m) :: K.2.2.1, K.2.2.2)
  | _, _ => K
theorem qa_fc_ok {p : List Int32} {K : qa_K} {s : Bool} {a b : Value} {x y : Int32} (hs : qa_sat p K) (ga : qa_g p a (.int x)) (gb : qa_g p b (.int y)) (h : qa_lt s x y) : qa_sat p (qa_fc s K a b) := by
  unfold qa_fc
  split
  · obtain ⟨x', h1, h2⟩ := ga
    obtain ⟨y', h3, h4⟩ := gb
    cases h2
    cases h4
    refine ⟨hs.1, hs.2.1, fun w hw => ?_, hs.2.2.2⟩
    rcases List.mem_cons.mp hw with rfl | hw
    · exact ⟨x, y, h1, h3, h⟩
    · exact hs.2.2.1 w hw
  · exact hs
theorem qa_fc_hp {p : List Int32} {K : qa_K} {h : qm_H} (s : Bool) (a b : Value) (hp : qa_hp p K h) : qa_hp p (qa_fc s K a b) h := by
  unfold qa_fc
  split
  · exact hp
  · exact hp
/-- y - x is at least that -/
noncomputable def qa_df (l : List (Bool × Nat × Nat)) (n m : Nat) : Int := List.rec (motive := fun _ => Int) (-4294967296) (fun q _ ih => bif Nat.beq q.2.1 n && Nat.beq q.2.2 m then max (qa_d q.1) ih else ih) l
theorem qa_df_cons {q : Bool × Nat × Nat} {r : List (Bool × Nat × Nat)} {n m : Nat} : qa_df (q :: r) n m = bif Nat.beq q.2.1 n && Nat.beq q.2.2 m then max (qa_d q.1) (qa_df r n m) else qa_df r n m := rfl
theorem qa_df_ok {p : List Int32} {n m : Nat} {x y : Int32} (hx : p[n]? = some x) (hy : p[m]? = some y) : ∀ {F : List (Bool × Nat × Nat)}, (∀ q ∈ F, ∃ x y, p[q.2.1]? = some x ∧ p[q.2.2]? = some y ∧ qa_lt q.1 x y) → qa_df F n m ≤ y.toInt - x.toInt
  | [], _ => by
    have h1 := Int32.le_toInt x
    have h2 := Int32.toInt_lt x
    have h3 := Int32.le_toInt y
    have h4 := Int32.toInt_lt y
    show (-4294967296 : Int) ≤ _
    omega
  | q :: r, h => by
    have ih := qa_df_ok hx hy (F := r) (fun q hq => h q (List.mem_cons_of_mem _ hq))
    rw [qa_df_cons]
    cases hb : Nat.beq q.2.1 n && Nat.beq q.2.2 m with
    | false => exact ih
    | true =>
      rw [Bool.and_eq_true] at hb
      have e1 := Nat.eq_of_beq_eq_true hb.1
      have e2 := Nat.eq_of_beq_eq_true hb.2
      obtain ⟨x', y', h1, h2, h3⟩ := h q List.mem_cons_self
      rw [e1, hx] at h1
      rw [e2, hy] at h2
      cases h1
      cases h2
      have := qa_lt_d h3
      rw [cond_true]
      omega
noncomputable def qa_lo (K : qa_K) (x y : Value) : Int := match x, y with
  | .retAddr (n + 1), .retAddr (m + 1) => qa_df K.2.2.1 m n
  | _, _ => -4294967296
theorem qa_lo_ok {p : List Int32} {K : qa_K} {a b : Value} {x y : Int32} (hs : qa_sat p K) (ga : qa_g p a (.int x)) (gb : qa_g p b (.int y)) : qa_lo K a b ≤ x.toInt - y.toInt := by
  unfold qa_lo
  split
  · obtain ⟨x', h1, h2⟩ := ga
    obtain ⟨y', h3, h4⟩ := gb
    cases h2
    cases h4
    exact qa_df_ok h3 h1 hs.2.2.1
  · have h1 := Int32.le_toInt x
    have h2 := Int32.toInt_lt x
    have h3 := Int32.le_toInt y
    have h4 := Int32.toInt_lt y
    omega
/-- x is below y (s), or y at most -/
noncomputable def qa_rl (s : Bool) (K : qa_K) (x y : Value) : Option qa_K := bif zlt (qa_bd K y).2 ((qa_bd K x).1 + qa_d s) || zlt (-qa_d s) (qa_lo K x y) then none else some (qa_fc s (qa_set (qa_set K x ((qa_bd K x).1, zmin (qa_bd K x).2 ((qa_bd K y).2 - qa_d s))) y (zmax (qa_bd K y).1 ((qa_bd K x).1 + qa_d s), (qa_bd K y).2)) x y)
theorem qa_rl_d (s : Bool) (K : qa_K) (x y : Value) : qa_rl s K x y = (bif decide ((qa_bd K y).2 < (qa_bd K x).1 + qa_d s) || decide (-qa_d s < qa_lo K x y) then none else some (qa_fc s (qa_set (qa_set K x ((qa_bd K x).1, min (qa_bd K x).2 ((qa_bd K y).2 - qa_d s))) y (max (qa_bd K y).1 ((qa_bd K x).1 + qa_d s), (qa_bd K y).2)) x y)) := by
  unfold qa_rl
  simp only [zle_eq, zlt_eq, zeq_eq, zmax_eq, zmin_eq]
theorem qa_rl_ok {p : List Int32} {K : qa_K} {hh : qm_H} {s : Bool} {a b : Value} {x y : Int32} (hs : qa_sat p K) (hp : qa_hp p K hh) (ga : qa_g p a (.int x)) (gb : qa_g p b (.int y)) (ia : qa_il a = true) (ib : qa_il b = true) (h : qa_lt s x y) : ∃ K', qa_rl s K a b = some K' ∧ qa_sat p K' ∧ qa_hp p K' hh := by
  obtain ⟨x', e1, ba⟩ := qa_bd_ok hs ga ia
  cases e1
  obtain ⟨y', e2, bb⟩ := qa_bd_ok hs gb ib
  cases e2
  have hd := qa_lt_d h
  unfold qa_in at ba bb
  rw [qa_rl_d]
  have hlo := qa_lo_ok hs ga gb
  rw [decide_eq_false (show ¬ (qa_bd K b).2 < (qa_bd K a).1 + qa_d s by omega), decide_eq_false (show ¬ -qa_d s < qa_lo K a b by omega), Bool.or_self, cond_false]
  refine ⟨_, rfl, qa_fc_ok (qa_set_ok (qa_set_ok hs ga ?_) gb ?_) ga gb h, qa_fc_hp _ _ _ (qa_set_hp _ _ (qa_set_hp _ _ hp))⟩
  · show (qa_bd K a).1 ≤ x.toInt ∧ x.toInt ≤ min (qa_bd K a).2 ((qa_bd K b).2 - qa_d s)
    omega
  · show max (qa_bd K b).1 ((qa_bd K a).1 + qa_d s) ≤ y.toInt ∧ y.toInt ≤ (qa_bd K b).2
    omega
/-- not c -/
noncomputable def qa_nc (q : qa_B) (c : Int) : qa_B := (bif zeq q.1 c then q.1 + 1 else q.1, bif zeq q.2 c then q.2 - 1 else q.2)
theorem qa_nc_ok {q : qa_B} {x : Int32} {c : Int} (hx : qa_in q x) (h : ¬ x.toInt = c) : qa_in (qa_nc q c) x := by
  unfold qa_in at hx
  show (bif zeq q.1 c then q.1 + 1 else q.1) ≤ x.toInt ∧ x.toInt ≤ (bif zeq q.2 c then q.2 - 1 else q.2)
  rw [zeq_eq, zeq_eq]
  by_cases h1 : q.1 = c
  · rw [decide_eq_true h1, cond_true]
    by_cases h2 : q.2 = c
    · rw [decide_eq_true h2, cond_true]
      omega
    · rw [decide_eq_false h2, cond_false]
      omega
  · rw [decide_eq_false h1, cond_false]
    by_cases h2 : q.2 = c
    · rw [decide_eq_true h2, cond_true]
      omega
    · rw [decide_eq_false h2, cond_false]
      omega
noncomputable def qa_rn1 (K : qa_K) (x : Value) (q : qa_B) : Option qa_K := bif zlt q.2 q.1 then none else some (qa_set K x q)
theorem qa_rn1_d (K : qa_K) (x : Value) (q : qa_B) : qa_rn1 K x q = (bif decide (q.2 < q.1) then none else some (qa_set K x q)) := by
  unfold qa_rn1
  simp only [zle_eq, zlt_eq, zeq_eq, zmax_eq, zmin_eq]
noncomputable def qa_rn (K : qa_K) (x y : Value) : Option qa_K := bif zeq (qa_bd K y).1 (qa_bd K y).2 then qa_rn1 K x (qa_nc (qa_bd K x) (qa_bd K y).1) else bif zeq (qa_bd K x).1 (qa_bd K x).2 then qa_rn1 K y (qa_nc (qa_bd K y) (qa_bd K x).1) else bif decide (x = y) then none else some K
theorem qa_rn_d (K : qa_K) (x y : Value) : qa_rn K x y = (bif decide ((qa_bd K y).1 = (qa_bd K y).2) then qa_rn1 K x (qa_nc (qa_bd K x) (qa_bd K y).1) else bif decide ((qa_bd K x).1 = (qa_bd K x).2) then qa_rn1 K y (qa_nc (qa_bd K y) (qa_bd K x).1) else bif decide (x = y) then none else some K) := by
  unfold qa_rn
  simp only [zle_eq, zlt_eq, zeq_eq, zmax_eq, zmin_eq]
theorem qa_rn1_ok {p : List Int32} {K : qa_K} {hh : qm_H} {a : Value} {x : Int32} {q : qa_B} (hs : qa_sat p K) (hp : qa_hp p K hh) (ga : qa_g p a (.int x)) (h : qa_in q x) : ∃ K', qa_rn1 K a q = some K' ∧ qa_sat p K' ∧ qa_hp p K' hh := by
  rw [qa_rn1_d]
  unfold qa_in at h
  rw [decide_eq_false (show ¬ q.2 < q.1 by omega), cond_false]
  exact ⟨_, rfl, qa_set_ok hs ga h, qa_set_hp _ _ hp⟩
theorem qa_rn_ok {p : List Int32} {K : qa_K} {hh : qm_H} {a b : Value} {x y : Int32} (hs : qa_sat p K) (hp : qa_hp p K hh) (ga : qa_g p a (.int x)) (gb : qa_g p b (.int y)) (ia : qa_il a = true) (ib : qa_il b = true) (h : ¬ x = y) : ∃ K', qa_rn K a b = some K' ∧ qa_sat p K' ∧ qa_hp p K' hh := by
  obtain ⟨x', e1, ba⟩ := qa_bd_ok hs ga ia
  cases e1
  obtain ⟨y', e2, bb⟩ := qa_bd_ok hs gb ib
  cases e2
  have hne : ¬ x.toInt = y.toInt := fun e => h (Int32.toInt_inj.mp e)
  rw [qa_rn_d]
  by_cases h1 : (qa_bd K b).1 = (qa_bd K b).2
  · rw [decide_eq_true h1, cond_true]
    refine qa_rn1_ok hs hp ga (qa_nc_ok ba ?_)
    unfold qa_in at bb
    omega
  · rw [decide_eq_false h1, cond_false]
    by_cases h2 : (qa_bd K a).1 = (qa_bd K a).2
    · rw [decide_eq_true h2, cond_true]
      refine qa_rn1_ok hs hp gb (qa_nc_ok bb ?_)
      unfold qa_in at ba
      omega
    · rw [decide_eq_false h2, cond_false]
      by_cases h3 : a = b
      · exfalso
        subst h3
        cases a with
        | int c =>
          have e1 : Value.int x = .int c := ga
          have e2 : Value.int y = .int c := gb
          cases e1
          cases e2
          exact h rfl
        | retAddr n =>
          cases n with
          | zero => cases ia
          | succ n =>
            obtain ⟨u, g1, g2⟩ := ga
            obtain ⟨w, g3, g4⟩ := gb
            cases g2
            cases g4
            rw [g1] at g3
            cases g3
            exact h rfl
        | _ => cases ia
      · rw [decide_eq_false h3, cond_false]
        exact ⟨K, rfl, hs, hp⟩
noncomputable def qa_re (K : qa_K) (x y : Value) : Option qa_K := match qa_rl false K x y with
  | some K1 => qa_rl false K1 y x
  | none => none
theorem qa_re_ok {p : List Int32} {K : qa_K} {hh : qm_H} {a b : Value} {x : Int32} (hs : qa_sat p K) (hp : qa_hp p K hh) (ga : qa_g p a (.int x)) (gb : qa_g p b (.int x)) (ia : qa_il a = true) (ib : qa_il b = true) : ∃ K', qa_re K a b = some K' ∧ qa_sat p K' ∧ qa_hp p K' hh := by
  obtain ⟨K1, e1, s1, p1⟩ := qa_rl_ok (s := false) hs hp ga gb ia ib (Int.le_refl _)
  unfold qa_re
  rw [e1]
  exact qa_rl_ok (s := false) s1 p1 gb ga ib ia (Int.le_refl _)
/-- the branch goes so; none: it can't -/
noncomputable def qa_as (K : qa_K) (q : ClassFile.Cond) (x y : Value) (b : Bool) : Option qa_K := match q, b with
  | .lt, true => qa_rl true K x y
  | .lt, false => qa_rl false K y x
  | .ge, true => qa_rl false K y x
  | .ge, false => qa_rl true K x y
  | .gt, true => qa_rl true K y x
  | .gt, false => qa_rl false K x y
  | .le, true => qa_rl false K x y
  | .le, false => qa_rl true K y x
  | .eq, true => qa_re K x y
  | .eq, false => qa_rn K x y
  | .ne, true => qa_rn K x y
  | .ne, false => qa_re K x y
theorem qa_as_ok {p : List Int32} {K : qa_K} {hh : qm_H} {q : ClassFile.Cond} {a b : Value} {x y : Int32} {c : Bool} (hs : qa_sat p K) (hp : qa_hp p K hh) (ga : qa_g p a (.int x)) (gb : qa_g p b (.int y)) (ia : qa_il a = true) (ib : qa_il b = true) (h : qm_cc q x y = c) : ∃ K', qa_as K q a b c = some K' ∧ qa_sat p K' ∧ qa_hp p K' hh := by
  have e1 : x < y ↔ x.toInt < y.toInt := Int32.lt_iff_toInt_lt
  have e2 : y < x ↔ y.toInt < x.toInt := Int32.lt_iff_toInt_lt
  have e3 : x ≤ y ↔ x.toInt ≤ y.toInt := Int32.le_iff_toInt_le
  have e4 : y ≤ x ↔ y.toInt ≤ x.toInt := Int32.le_iff_toInt_le
  cases q <;> cases c <;> simp only [qm_cc, e1, e2, e3, e4, decide_eq_true_eq, decide_eq_false_iff_not] at h <;> simp only [qa_as]
  · exact qa_rn_ok hs hp ga gb ia ib h
  · subst h
    exact qa_re_ok hs hp ga gb ia ib
  · have h : x = y := Classical.not_not.mp h
    subst h
    exact qa_re_ok hs hp ga gb ia ib
  · exact qa_rn_ok hs hp ga gb ia ib h
  · exact qa_rl_ok (s := false) hs hp gb ga ib ia (show y.toInt ≤ x.toInt by omega)
  · exact qa_rl_ok (s := true) hs hp ga gb ia ib h
  · exact qa_rl_ok (s := true) hs hp ga gb ia ib (show x.toInt < y.toInt by omega)
  · exact qa_rl_ok (s := false) hs hp gb ga ib ia h
  · exact qa_rl_ok (s := false) hs hp ga gb ia ib (show x.toInt ≤ y.toInt by omega)
  · exact qa_rl_ok (s := true) hs hp gb ga ib ia h
  · exact qa_rl_ok (s := true) hs hp gb ga ib ia (show y.toInt < x.toInt by omega)
  · exact qa_rl_ok (s := false) hs hp ga gb ia ib h
