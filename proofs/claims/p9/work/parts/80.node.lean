/-! states that stand for many: the heads of loops -/
abbrev qa_Fs : Type := List (Nat × Nat × List Value × List Value)
noncomputable def qa_GF (p : List Int32) : qa_Fs → qa_Fs → Prop
  | [], vs => vs = []
  | g :: fs, vs => ∃ g' gs, vs = g' :: gs ∧ (g'.1 = g.1 ∧ g'.2.1 = g.2.1) ∧ (qa_G p g.2.2.1 g'.2.2.1 ∧ qa_G p g.2.2.2 g'.2.2.2) ∧ qa_GF p fs gs
theorem qa_GF_ext {p : List Int32} (t : List Int32) : ∀ {fs gs : qa_Fs}, qa_GF p fs gs → qa_GF (p ++ t) fs gs
  | [], _, h => h
  | _ :: _, _, ⟨g', gs, h1, h2, h3, h4⟩ => ⟨g', gs, h1, h2, ⟨qa_G_ext t h3.1, qa_G_ext t h3.2⟩, qa_GF_ext t h4⟩
/-- which of the numbers here a number there is -/
noncomputable def qa_tl : List (Nat × Value) → Nat → Option Value
  | [], _ => none
  | q :: r, n => bif Nat.beq q.1 n then some q.2 else qa_tl r n
noncomputable def qa_mt : List Value → List Value → List (Nat × Value)
  | n :: ns, a :: as => (match n with
    | .retAddr (k + 1) => (k, a) :: qa_mt ns as
    | _ => qa_mt ns as)
  | _, _ => []
noncomputable def qa_mf : qa_Fs → qa_Fs → List (Nat × Value)
  | n :: ns, a :: as => qa_mt n.2.2.1 a.2.2.1 ++ (qa_mt n.2.2.2 a.2.2.2 ++ qa_mf ns as)
  | _, _ => []
noncomputable def qa_mm (K : qa_K) : List (Nat × Nat × Value) → List (Nat × Value)
  | [] => []
  | q :: r => (match qa_lm K.2.2.2.2.1 q.1 q.2.1 with
    | some a => qa_mt [q.2.2] [a] ++ qa_mm K r
    | none => qa_mm K r)
/-- one slot -/
noncomputable def qa_sl (N : Nat) (th : List (Nat × Value)) (n a : Value) : Bool := match n with
  | .retAddr (k + 1) => (qa_il a && Nat.blt k N) && (match qa_tl th k with
    | some b => decide (b = a)
    | none => false)
  | .double _ => qa_lg a
  | .float b => bif decide (b = 0) then decide (a = .float 0) else Nat.beq a.category 1
  | w => decide (a = w)
noncomputable def qa_sls (N : Nat) (th : List (Nat × Value)) : List Value → List Value → Bool
  | [], [] => true
  | n :: ns, a :: as => qa_sl N th n a && qa_sls N th ns as
  | _, _ => false
noncomputable def qa_slf (N : Nat) (th : List (Nat × Value)) : qa_Fs → qa_Fs → Bool
  | [], [] => true
  | n :: ns, a :: as => ((Nat.beq n.1 a.1 && Nat.beq n.2.1 a.2.1) && (qa_sls N th n.2.2.1 a.2.2.1 && qa_sls N th n.2.2.2 a.2.2.2)) && qa_slf N th ns as
  | _, _ => false
noncomputable def qa_vl (p : List Int32) (a : Value) : Int32 := match a with
  | .int c => c
  | .retAddr (n + 1) => p.getD n 0
  | _ => 0
noncomputable def qa_pv (p : List Int32) (th : List (Nat × Value)) (N : Nat) : List Int32 := (List.range N).map (fun k => qa_vl p ((qa_tl th k).getD (.int 0)))
theorem qa_vl_ok {p : List Int32} {a : Value} {x : Int32} (hg : qa_g p a (.int x)) (hi : qa_il a = true) : qa_vl p a = x := by
  cases a with
  | int c =>
    have hg : Value.int x = .int c := hg
    cases hg
    rfl
  | retAddr n =>
    cases n with
    | zero => cases hi
    | succ n =>
      obtain ⟨y, h1, h2⟩ := hg
      cases h2
      show p.getD n 0 = x
      rw [List.getD_eq_getElem?_getD, h1]
      rfl
  | _ => cases hi
theorem qa_pv_get {p : List Int32} {th : List (Nat × Value)} {N k : Nat} {a : Value} (hk : k < N) (ht : qa_tl th k = some a) : (qa_pv p th N)[k]? = some (qa_vl p a) := by
  unfold qa_pv
  rw [List.getElem?_map, List.getElem?_range hk, Option.map_some, ht]
  rfl
theorem qa_sl_ok {p : List Int32} {N : Nat} {th : List (Nat × Value)} {n a v : Value} (h : qa_sl N th n a = true) (hg : qa_g p a v) : qa_g (qa_pv p th N) n v := by
  cases n with
  | retAddr k =>
    cases k with
    | zero =>
      have h : a = .retAddr 0 := of_decide_eq_true h
      subst h
      exact hg
    | succ k =>
      have h : ((qa_il a && Nat.blt k N) && (match qa_tl th k with
        | some b => decide (b = a)
        | none => false)) = true := h
      rw [Bool.and_eq_true, Bool.and_eq_true] at h
      obtain ⟨⟨h1, h2⟩, h3⟩ := h
      split at h3
      · rename_i b hb
        have h3 := of_decide_eq_true h3
        subst h3
        obtain ⟨x, ex⟩ := qa_il_ok hg h1
        subst ex
        refine ⟨x, ?_, rfl⟩
        rw [qa_pv_get (Nat.le_of_ble_eq_true h2) hb, qa_vl_ok hg h1]
      · cases h3
  | double b =>
    have h : qa_lg a = true := h
    exact qa_lg_ok hg h
  | float b =>
    have h : (bif decide (b = 0) then decide (a = .float 0) else Nat.beq a.category 1) = true := h
    show bif decide (b = 0) then v = .float 0 else v.category = 1
    cases hb : decide (b = 0) with
    | true =>
      rw [hb, cond_true] at h
      have h := of_decide_eq_true h
      subst h
      exact hg
    | false =>
      rw [hb, cond_false] at h
      rw [cond_false, qa_g_cat hg]
      exact Nat.eq_of_beq_eq_true h
  | int c =>
    have h : a = .int c := of_decide_eq_true h
    subst h
    exact hg
  | long c =>
    have h : a = .long c := of_decide_eq_true h
    subst h
    exact hg
  | null =>
    have h : a = .null := of_decide_eq_true h
    subst h
    exact hg
  | ref o =>
    have h : a = .ref o := of_decide_eq_true h
    subst h
    exact hg
theorem qa_sls_ok {p : List Int32} {N : Nat} {th : List (Nat × Value)} : ∀ {ns as vs : List Value}, qa_sls N th ns as = true → qa_G p as vs → qa_G (qa_pv p th N) ns vs
  | [], [], _, _, h => h
  | [], _ :: _, _, h, _ => by cases h
  | _ :: _, [], _, h, _ => by cases h
  | n :: ns, a :: as, _, h, ⟨v, ws, h1, h2, h3⟩ => by
    unfold qa_sls at h
    rw [Bool.and_eq_true] at h
    exact ⟨v, ws, h1, qa_sl_ok h.1 h2, qa_sls_ok h.2 h3⟩
theorem qa_slf_ok {p : List Int32} {N : Nat} {th : List (Nat × Value)} : ∀ {ns as vs : qa_Fs}, qa_slf N th ns as = true → qa_GF p as vs → qa_GF (qa_pv p th N) ns vs
  | [], [], _, _, h => h
  | [], _ :: _, _, h, _ => by cases h
  | _ :: _, [], _, h, _ => by cases h
  | n :: ns, a :: as, _, h, ⟨v, ws, h1, h2, h3, h4⟩ => by
    unfold qa_slf at h
    rw [Bool.and_eq_true, Bool.and_eq_true, Bool.and_eq_true, Bool.and_eq_true] at h
    obtain ⟨⟨⟨g1, g2⟩, g3, g4⟩, g5⟩ := h
    have e1 := Nat.eq_of_beq_eq_true g1
    have e2 := Nat.eq_of_beq_eq_true g2
    exact ⟨v, ws, h1, ⟨h2.1.trans e1.symm, h2.2.trans e2.symm⟩, ⟨qa_sls_ok g3 h3.1, qa_sls_ok g4 h3.2⟩, qa_slf_ok g5 h4⟩
/-- a number of what is known here -/
noncomputable def qa_ti (K : qa_K) (a : Value) : Bool := match a with
  | .int _ => true
  | .retAddr (m + 1) => Nat.blt m K.1
  | _ => false
theorem qa_ti_ok {p : List Int32} {K : qa_K} {a : Value} (hs : qa_sat p K) (h : qa_ti K a = true) : qa_il a = true ∧ qa_g p a (.int (qa_vl p a)) := by
  cases a with
  | int c => exact ⟨rfl, rfl⟩
  | retAddr n =>
    cases n with
    | zero => cases h
    | succ n =>
      have h : n < K.1 := Nat.le_of_ble_eq_true h
      rw [← hs.1] at h
      refine ⟨rfl, p[n], List.getElem?_eq_getElem h, ?_⟩
      show Value.int (p.getD n 0) = .int p[n]
      rw [List.getD_eq_getElem?_getD, List.getElem?_eq_getElem h]
      rfl
  | _ => cases h
/-- a number as others and so much more -/
noncomputable def qa_rp (K : qa_K) (x : Value) : List (Nat × Int) := match x with
  | .retAddr (n + 1) => (n, 0) :: (K.2.2.2.1.filter fun d => Nat.beq d.1 n).map fun d => d.2
  | _ => []
noncomputable def qa_d1 (F : List (Bool × Nat × Nat)) (a b : Nat × Int) : Int := (bif Nat.beq a.1 b.1 then 0 else qa_df F a.1 b.1) + b.2 - a.2
noncomputable def qa_d2 (F : List (Bool × Nat × Nat)) (a : Nat × Int) (m : Int) : List (Nat × Int) → Int
  | [] => m
  | b :: r => max (qa_d1 F a b) (qa_d2 F a m r)
noncomputable def qa_d3 (F : List (Bool × Nat × Nat)) (bs : List (Nat × Int)) (m : Int) : List (Nat × Int) → Int
  | [] => m
  | a :: r => qa_d2 F a (qa_d3 F bs m r) bs
/-- y - x is at least that -/
noncomputable def qa_dl (K : qa_K) (x y : Value) : Int := qa_d3 K.2.2.1 (qa_rp K y) ((qa_bd K y).1 - (qa_bd K x).2) (qa_rp K x)
theorem qa_rp_ok {p : List Int32} {K : qa_K} {a : Value} {x : Int32} (hs : qa_sat p K) (hg : qa_g p a (.int x)) : ∀ q ∈ qa_rp K a, ∃ y, p[q.1]? = some y ∧ x.toInt = y.toInt + q.2 := by
  intro q hq
  unfold qa_rp at hq
  split at hq
  · rename_i n
    obtain ⟨z, h1, h2⟩ := hg
    cases h2
    rcases List.mem_cons.mp hq with rfl | hq
    · exact ⟨x, h1, by dsimp only; omega⟩
    · obtain ⟨d, hd, rfl⟩ := List.mem_map.mp hq
      obtain ⟨d1, d2⟩ := List.mem_filter.mp hd
      have e := Nat.eq_of_beq_eq_true d2
      obtain ⟨u, w, g1, g2, g3⟩ := hs.2.2.2 d d1
      rw [e, h1] at g1
      cases g1
      exact ⟨w, g2, g3⟩
  · cases hq
theorem qa_d1_ok {p : List Int32} {F : List (Bool × Nat × Nat)} (hF : ∀ q ∈ F, ∃ x y, p[q.2.1]? = some x ∧ p[q.2.2]? = some y ∧ qa_lt q.1 x y) {x y : Int} {a b : Nat × Int} (ha : ∃ u : Int32, p[a.1]? = some u ∧ x = u.toInt + a.2) (hb : ∃ u : Int32, p[b.1]? = some u ∧ y = u.toInt + b.2) : qa_d1 F a b ≤ y - x := by
  obtain ⟨u, h1, h2⟩ := ha
  obtain ⟨w, h3, h4⟩ := hb
  unfold qa_d1
  cases hc : Nat.beq a.1 b.1 with
  | true =>
    have e := Nat.eq_of_beq_eq_true hc
    rw [e, h3] at h1
    cases h1
    rw [cond_true]
    omega
  | false =>
    have := qa_df_ok h1 h3 hF
    rw [cond_false]
    omega
theorem qa_d2_ok {p : List Int32} {F : List (Bool × Nat × Nat)} (hF : ∀ q ∈ F, ∃ x y, p[q.2.1]? = some x ∧ p[q.2.2]? = some y ∧ qa_lt q.1 x y) {x y m : Int} (hm : m ≤ y - x) {a : Nat × Int} (ha : ∃ u : Int32, p[a.1]? = some u ∧ x = u.toInt + a.2) : ∀ {bs : List (Nat × Int)}, (∀ b ∈ bs, ∃ u : Int32, p[b.1]? = some u ∧ y = u.toInt + b.2) → qa_d2 F a m bs ≤ y - x
  | [], _ => hm
  | b :: r, h => by
    have h1 := qa_d1_ok hF ha (h b List.mem_cons_self)
    have h2 := qa_d2_ok hF hm ha (bs := r) (fun b hb => h b (List.mem_cons_of_mem _ hb))
    unfold qa_d2
    omega
theorem qa_d3_ok {p : List Int32} {F : List (Bool × Nat × Nat)} (hF : ∀ q ∈ F, ∃ x y, p[q.2.1]? = some x ∧ p[q.2.2]? = some y ∧ qa_lt q.1 x y) {x y m : Int} (hm : m ≤ y - x) {bs : List (Nat × Int)} (hb : ∀ b ∈ bs, ∃ u : Int32, p[b.1]? = some u ∧ y = u.toInt + b.2) : ∀ {as : List (Nat × Int)}, (∀ a ∈ as, ∃ u : Int32, p[a.1]? = some u ∧ x = u.toInt + a.2) → qa_d3 F bs m as ≤ y - x
  | [], _ => hm
  | a :: r, h => by
    have h2 := qa_d3_ok hF hm hb (as := r) (fun a ha => h a (List.mem_cons_of_mem _ ha))
    unfold qa_d3
    exact qa_d2_ok hF h2 (h a List.mem_cons_self) hb
theorem qa_dl_ok {p : List Int32} {K : qa_K} {a b : Value} {x y : Int32} (hs : qa_sat p K) (ga : qa_g p a (.int x)) (gb : qa_g p b (.int y)) (ia : qa_il a = true) (ib : qa_il b = true) : qa_dl K a b ≤ y.toInt - x.toInt := by
  obtain ⟨x', e1, ba⟩ := qa_bd_ok hs ga ia
  cases e1
  obtain ⟨y', e2, bb⟩ := qa_bd_ok hs gb ib
  cases e2
  unfold qa_in at ba bb
  exact qa_d3_ok hs.2.2.1 (by omega) (qa_rp_ok hs gb) (qa_rp_ok hs ga)
