/-! what is known of a state: numbers of which bounds, order and differences are known; places whose number is known -/
/-- how many numbers; bounds; order (strict or not); n is m and c more; known places; places known at an unknown index -/
abbrev qa_K : Type := Nat × List (Nat × Int × Int) × List (Bool × Nat × Nat) × List (Nat × Nat × Int) × List (Nat × Nat × Value) × List (Nat × Nat × Value)
/-- .retAddr (n + 1): number n; .double: some long; .float 0: unset; another .float: anything of one slot; else: the value itself -/
noncomputable def qa_g (p : List Int32) (a v : Value) : Prop := match a with
  | .retAddr (n + 1) => ∃ x, p[n]? = some x ∧ v = .int x
  | .double _ => ∃ x, v = .long x
  | .float b => bif decide (b = 0) then v = .float 0 else v.category = 1
  | w => v = w
noncomputable def qa_G (p : List Int32) : List Value → List Value → Prop
  | [], vs => vs = []
  | a :: as, vs => ∃ v ws, vs = v :: ws ∧ qa_g p a v ∧ qa_G p as ws
theorem qa_ext {p t : List Int32} {n : Nat} {x : Int32} (h : p[n]? = some x) : (p ++ t)[n]? = some x := by
  rw [List.getElem?_append_left (List.getElem?_eq_some_iff.mp h).1]
  exact h
theorem qa_g_ext {p : List Int32} (t : List Int32) {a v : Value} (h : qa_g p a v) : qa_g (p ++ t) a v := by
  cases a with
  | retAddr n =>
    cases n with
    | zero => exact h
    | succ n =>
      obtain ⟨x, h1, h2⟩ := h
      exact ⟨x, qa_ext h1, h2⟩
  | _ => exact h
theorem qa_G_ext {p : List Int32} (t : List Int32) : ∀ {as vs : List Value}, qa_G p as vs → qa_G (p ++ t) as vs
  | [], _, h => h
  | _ :: _, _, ⟨v, ws, h1, h2, h3⟩ => ⟨v, ws, h1, qa_g_ext t h2, qa_G_ext t h3⟩
theorem qa_G_len {p : List Int32} : ∀ {as vs : List Value}, qa_G p as vs → vs.length = as.length
  | [], _, h => by
    rw [show _ = [] from h]
  | _ :: _, _, ⟨v, ws, h1, _, h3⟩ => by
    rw [h1, List.length_cons, List.length_cons, qa_G_len h3]
theorem qa_G_get {p : List Int32} : ∀ {as vs : List Value} {i : Nat} {a : Value}, qa_G p as vs → as[i]? = some a → ∃ v, vs[i]? = some v ∧ qa_g p a v
  | [], _, _, _, _, h => by cases h
  | _ :: _, _, 0, _, ⟨v, ws, h1, h2, _⟩, h => by
    subst h1
    cases h
    exact ⟨v, rfl, h2⟩
  | _ :: as, _, i + 1, a, ⟨v, ws, h1, _, h3⟩, h => by
    subst h1
    have h : as[i]? = some a := h
    obtain ⟨u, h4, h5⟩ := qa_G_get (i := i) h3 h
    exact ⟨u, h4, h5⟩
theorem qa_G_no {p : List Int32} : ∀ {as vs : List Value} {i : Nat}, qa_G p as vs → as[i]? = none → vs[i]? = none
  | as, vs, i, h, hn => by
    have := qa_G_len h
    rw [List.getElem?_eq_none_iff] at hn ⊢
    omega
theorem qa_G_set {p : List Int32} {a v : Value} (hg : qa_g p a v) : ∀ {as vs : List Value} (i : Nat), qa_G p as vs → qa_G p (as.set i a) (vs.set i v)
  | [], _, _, h => by
    rw [show _ = [] from h]
    rfl
  | _ :: _, _, 0, ⟨w, ws, h1, _, h3⟩ => by
    subst h1
    exact ⟨v, ws, rfl, hg, h3⟩
  | _ :: _, _, i + 1, ⟨w, ws, h1, h2, h3⟩ => by
    subst h1
    exact ⟨w, _, rfl, h2, qa_G_set hg i h3⟩
theorem qa_G_app {p : List Int32} : ∀ {as vs bs ws : List Value}, qa_G p as vs → qa_G p bs ws → qa_G p (as ++ bs) (vs ++ ws)
  | [], _, _, _, h, k => by
    rw [show _ = [] from h]
    exact k
  | _ :: _, _, _, _, ⟨v, us, h1, h2, h3⟩, k => by
    subst h1
    exact ⟨v, _, rfl, h2, qa_G_app h3 k⟩
theorem qa_G_rev {p : List Int32} : ∀ {as vs : List Value}, qa_G p as vs → qa_G p as.reverse vs.reverse
  | [], _, h => by
    rw [show _ = [] from h]
    rfl
  | _ :: _, _, ⟨v, us, h1, h2, h3⟩ => by
    subst h1
    rw [List.reverse_cons, List.reverse_cons]
    exact qa_G_app (qa_G_rev h3) ⟨v, [], rfl, h2, rfl⟩
theorem qa_G_take {p : List Int32} : ∀ (n : Nat) {as vs : List Value}, qa_G p as vs → qa_G p (as.take n) (vs.take n) ∧ qa_G p (as.drop n) (vs.drop n)
  | 0, _, _, h => ⟨rfl, h⟩
  | n + 1, [], _, h => by
    rw [show _ = [] from h]
    exact ⟨rfl, rfl⟩
  | n + 1, _ :: _, _, ⟨v, us, h1, h2, h3⟩ => by
    subst h1
    have := qa_G_take n h3
    exact ⟨⟨v, _, rfl, h2, this.1⟩, this.2⟩
theorem qa_G_rep {p : List Int32} {a v : Value} (hg : qa_g p a v) : ∀ n : Nat, qa_G p (List.replicate n a) (List.replicate n v)
  | 0 => rfl
  | n + 1 => ⟨v, _, rfl, hg, qa_G_rep hg n⟩
/-- is it a long, known or not -/
noncomputable def qa_lg (a : Value) : Bool := match a with
  | .long _ => true
  | .double _ => true
  | _ => false
theorem qa_g_cat {p : List Int32} {a v : Value} (h : qa_g p a v) : v.category = a.category := by
  cases a with
  | retAddr n =>
    cases n with
    | zero =>
      rw [show v = _ from h]
    | succ n =>
      obtain ⟨x, _, rfl⟩ := h
      rfl
  | double _ =>
    obtain ⟨x, rfl⟩ := h
    rfl
  | float b =>
    have h : bif decide (b = 0) then v = .float 0 else v.category = 1 := h
    cases hb : decide (b = 0) with
    | true =>
      rw [hb, cond_true] at h
      rw [h]
      rfl
    | false =>
      rw [hb, cond_false] at h
      rw [h]
      rfl
  | _ => rw [show v = _ from h]
theorem qa_G_cat {p : List Int32} : ∀ {as vs : List Value}, qa_G p as vs → qm_cat vs = qm_cat as
  | [], _, h => by
    rw [show _ = [] from h]
  | a :: as, _, ⟨v, us, h1, h2, h3⟩ => by
    subst h1
    have ih := qa_G_cat h3
    unfold qm_cat at ih ⊢
    rw [List.map_cons, List.map_cons, List.sum_cons, List.sum_cons, ih, qa_g_cat h2]
theorem qa_G_la {p : List Int32} : ∀ {as vs : List Value}, qa_G p as vs → qa_G p (qm_la as) (qm_la vs)
  | [], _, h => by
    rw [show _ = [] from h]
    rfl
  | a :: as, _, ⟨v, us, h1, h2, h3⟩ => by
    subst h1
    have ih := qa_G_la h3
    unfold qm_la
    rw [qa_g_cat h2]
    cases Nat.beq a.category 2 with
    | true => exact ⟨v, _, rfl, h2, .float 0, _, rfl, rfl, ih⟩
    | false => exact ⟨v, _, rfl, h2, ih⟩
/-- a local of one slot is written -/
theorem qa_G_s1 {p : List Int32} {as vs : List Value} {a v : Value} (h : qa_G p as vs) (hg : qa_g p a v) (i : Nat) : qa_G p (qm_s1 as i a) (qm_s1 vs i v) := by
  cases i with
  | zero => exact qa_G_set hg 0 h
  | succ j =>
    unfold qm_s1
    dsimp only
    cases hj : as[j]? with
    | none =>
      rw [qa_G_no h hj]
      exact qa_G_set hg (j + 1) h
    | some w =>
      obtain ⟨w', h1, h2⟩ := qa_G_get h hj
      rw [h1]
      have two : qa_G p ((as.set j (.float 0)).set (j + 1) a) ((vs.set j (.float 0)).set (j + 1) v) := qa_G_set hg (j + 1) (qa_G_set (a := .float 0) (v := .float 0) rfl j h)
      have one := qa_G_set hg (j + 1) h
      cases w with
      | long x =>
        rw [show w' = _ from h2]
        exact two
      | double x =>
        obtain ⟨y, rfl⟩ := h2
        exact two
      | retAddr n =>
        cases n with
        | zero =>
          rw [show w' = _ from h2]
          exact one
        | succ n =>
          obtain ⟨x, _, rfl⟩ := h2
          exact one
      | float b =>
        have hc := qa_g_cat h2
        cases w' with
        | long x => cases hc
        | double x => cases hc
        | _ => exact one
      | _ =>
        rw [show w' = _ from h2]
        exact one
theorem qa_G_s2 {p : List Int32} {as vs : List Value} {a v : Value} (h : qa_G p as vs) (hg : qa_g p a v) (i : Nat) : qa_G p (qm_s2 as i a) (qm_s2 vs i v) := by
  unfold qm_s2
  exact qa_G_set (a := .float 0) (v := .float 0) rfl (i + 1) (qa_G_s1 h hg i)
/-! the numbers fit what is known -/
noncomputable def qa_lt (s : Bool) (x y : Int32) : Prop := bif s then x.toInt < y.toInt else x.toInt ≤ y.toInt
noncomputable def qa_sat (p : List Int32) (K : qa_K) : Prop := p.length = K.1 ∧ (∀ q ∈ K.2.1, ∃ x, p[q.1]? = some x ∧ qa_in q.2 x) ∧ (∀ q ∈ K.2.2.1, ∃ x y, p[q.2.1]? = some x ∧ p[q.2.2]? = some y ∧ qa_lt q.1 x y) ∧ (∀ q ∈ K.2.2.2.1, ∃ x y, p[q.1]? = some x ∧ p[q.2.1]? = some y ∧ x.toInt = y.toInt + q.2.2)
noncomputable def qa_hp (p : List Int32) (K : qa_K) (h : qm_H) : Prop := (∀ q ∈ K.2.2.2.2.1, qa_g p q.2.2 (.int (h.2.1 q.1 q.2.1))) ∧ (∀ q ∈ K.2.2.2.2.2, ∃ x, p[q.2.1]? = some x ∧ 0 ≤ x.toInt ∧ qa_g p q.2.2 (.int (h.2.1 q.1 x.toInt.toNat)))
theorem qa_hp_ext {p : List Int32} (t : List Int32) {K : qa_K} {h : qm_H} (hp : qa_hp p K h) : qa_hp (p ++ t) K h := by
  refine ⟨fun q hq => qa_g_ext t (hp.1 q hq), fun q hq => ?_⟩
  obtain ⟨x, h1, h2, h3⟩ := hp.2 q hq
  exact ⟨x, qa_ext h1, h2, qa_g_ext t h3⟩
/-- a new number -/
theorem qa_sat_new {p : List Int32} {K : qa_K} {x : Int32} (hs : qa_sat p K) {q : qa_B} (hx : qa_in q x) : qa_sat (p ++ [x]) (K.1 + 1, (K.1, q) :: K.2.1, K.2.2) ∧ (p ++ [x])[K.1]? = some x := by
  have e : (p ++ [x])[K.1]? = some x := by
    rw [← hs.1, List.getElem?_append_right (Nat.le_refl _), Nat.sub_self]
    rfl
  refine ⟨⟨by rw [List.length_append, hs.1]; rfl, fun r hr => ?_, fun r hr => ?_, fun r hr => ?_⟩, e⟩
  · rcases List.mem_cons.mp hr with rfl | hr
    · exact ⟨x, e, hx⟩
    · obtain ⟨y, h1, h2⟩ := hs.2.1 r hr
      exact ⟨y, qa_ext h1, h2⟩
  · obtain ⟨y, z, h1, h2, h3⟩ := hs.2.2.1 r hr
    exact ⟨y, z, qa_ext h1, qa_ext h2, h3⟩
  · obtain ⟨y, z, h1, h2, h3⟩ := hs.2.2.2 r hr
    exact ⟨y, z, qa_ext h1, qa_ext h2, h3⟩
noncomputable def qa_mk (K : qa_K) (q : qa_B) : Value × qa_K := bif zeq q.1 q.2 then (.int (Int32.ofInt q.1), K) else (.retAddr (K.1 + 1), (K.1 + 1, (K.1, q) :: K.2.1, K.2.2))
theorem qa_mk_d (K : qa_K) (q : qa_B) : qa_mk K q = (bif decide (q.1 = q.2) then (.int (Int32.ofInt q.1), K) else (.retAddr (K.1 + 1), (K.1 + 1, (K.1, q) :: K.2.1, K.2.2))) := by
  unfold qa_mk
  simp only [zle_eq, zlt_eq, zeq_eq, zmax_eq, zmin_eq]
theorem qa_mk_ok {p : List Int32} {K : qa_K} {h : qm_H} {q : qa_B} {x : Int32} (hs : qa_sat p K) (hp : qa_hp p K h) (hx : qa_in q x) : ∃ t, qa_sat (p ++ t) (qa_mk K q).2 ∧ qa_hp (p ++ t) (qa_mk K q).2 h ∧ qa_g (p ++ t) (qa_mk K q).1 (.int x) := by
  rw [qa_mk_d]
  cases hc : decide (q.1 = q.2) with
  | true =>
    rw [decide_eq_true_eq] at hc
    rw [cond_true]
    refine ⟨[], by rw [List.append_nil]; exact hs, by rw [List.append_nil]; exact hp, ?_⟩
    show Value.int x = .int (Int32.ofInt q.1)
    have e : x.toInt = q.1 := by
      have h1 := hx.1
      have h2 := hx.2
      omega
    rw [← e, Int32.ofInt_toInt]
  | false =>
    rw [cond_false]
    have := qa_sat_new hs hx
    exact ⟨[x], this.1, qa_hp_ext [x] hp, x, this.2, rfl⟩
/-- bounds of a number -/
noncomputable def qa_lk (E : List (Nat × Int × Int)) (n : Nat) : qa_B := List.rec (motive := fun _ => qa_B) qa_full (fun q _ ih => bif Nat.beq q.1 n then q.2 else ih) E
theorem qa_lk_cons {q : Nat × Int × Int} {r : List (Nat × Int × Int)} {n : Nat} : qa_lk (q :: r) n = bif Nat.beq q.1 n then q.2 else qa_lk r n := rfl
/-- is it in the list -/
noncomputable def qa_has (l : List Nat) (n : Nat) : Bool := List.rec (motive := fun _ => Bool) false (fun q _ ih => bif Nat.beq n q then true else ih) l
theorem qa_has_eq : ∀ (l : List Nat) (n : Nat), qa_has l n = l.contains n
  | [], _ => rfl
  | q :: r, n => by
    have ih := qa_has_eq r n
    show (bif Nat.beq n q then true else qa_has r n) = _
    rw [List.contains_cons, ih]
    cases hb : Nat.beq n q with
    | true => rw [Nat.eq_of_beq_eq_true hb, cond_true, beq_self_eq_true, Bool.true_or]
    | false => rw [cond_false, beq_eq_false_iff_ne.mpr (Nat.ne_of_beq_eq_false hb), Bool.false_or]
noncomputable def qa_bd (K : qa_K) (a : Value) : qa_B := match a with
  | .int c => (c.toInt, c.toInt)
  | .retAddr (n + 1) => qa_lk K.2.1 n
  | _ => qa_full
noncomputable def qa_il (a : Value) : Bool := match a with
  | .int _ => true
  | .retAddr (_ + 1) => true
  | _ => false
theorem qa_lk_ok {p : List Int32} {n : Nat} {x : Int32} (hx : p[n]? = some x) : ∀ {E : List (Nat × Int × Int)}, (∀ q ∈ E, ∃ x, p[q.1]? = some x ∧ qa_in q.2 x) → qa_in (qa_lk E n) x
  | [], _ => qa_in_full x
  | q :: r, h => by
    rw [qa_lk_cons]
    cases hb : Nat.beq q.1 n with
    | true =>
      rw [cond_true]
      have e := Nat.eq_of_beq_eq_true hb
      obtain ⟨y, h1, h2⟩ := h q List.mem_cons_self
      rw [e, hx] at h1
      cases h1
      exact h2
    | false =>
      rw [cond_false]
      exact qa_lk_ok hx (fun q hq => h q (List.mem_cons_of_mem _ hq))
theorem qa_bd_ok {p : List Int32} {K : qa_K} (hs : qa_sat p K) {a v : Value} (hg : qa_g p a v) (hi : qa_il a = true) : ∃ x, v = .int x ∧ qa_in (qa_bd K a) x := by
  cases a with
  | int c => exact ⟨c, hg, Int.le_refl _, Int.le_refl _⟩
  | retAddr n =>
    cases n with
    | zero => cases hi
    | succ n =>
      obtain ⟨x, h1, h2⟩ := hg
      exact ⟨x, h2, qa_lk_ok h1 hs.2.1⟩
  | _ => cases hi
