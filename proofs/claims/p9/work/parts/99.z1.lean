/-! the reference's stacks by levels -/
noncomputable def lvl (I : Nat → Nat → Int32) (d : Nat) : Nat → Int := fun i => (I 161 (20 * d + i)).toInt
theorem lv_of {I : Nat → Nat → Int32} {K d n : Nat} {x : Int32} (q : I 161 K = x) (hK : K = 20 * d + n) : lvl I d n = x.toInt := by
  subst hK
  exact congrArg Int32.toInt q
theorem lv_up {I : Nat → Nat → Int32} {K d n : Nat} {x : Int32} (hK : K = 20 * d + n) : lvl (qm_up I 161 K x) d = fu_up (lvl I d) n x.toInt := by
  subst hK
  funext i
  unfold fu_up
  by_cases e : i = n
  · subst e
    rw [if_pos rfl]
    exact congrArg Int32.toInt qa_up_eq
  · rw [if_neg e]
    exact congrArg Int32.toInt (hk_neq (by omega))
theorem lv_sk {I : Nat → Nat → Int32} {o k d : Nat} {x : Int32} (h : Nat.beq 161 o = false) : lvl (qm_up I o k x) d = lvl I d := funext fun i => congrArg Int32.toInt (hk_ot h)
/-- what stackOf answers -/
noncomputable def stk (f : Nat → Int) (x v : Int) : Prop := (v = -1 ∧ ∀ s : Nat, s < 4 → ¬ con f s x) ∨ ((0 ≤ v ∧ v ≤ 3) ∧ con f v.toNat x ∧ ∀ s : Nat, s < v.toNat → ¬ con f s x)
/-- who comes next isn't on top -/
noncomputable def nxt (f : Nat → Int) (x : Int) : Prop := ∀ s : Nat, s < 4 → con f s x → (∀ t : Nat, t < s → ¬ con f t x) → f (4 * s + (f (16 + s) - 1).toNat) ≠ x
theorem nxt_of {f : Nat → Int} {x : Int} {v : Nat} (h4 : v < 4) (hc : con f v x) (hl : ∀ s : Nat, s < v → ¬ con f s x) (hn : f (4 * v + (f (16 + v) - 1).toNat) ≠ x) : nxt f x := by
  intro s s4 sc sl
  have e : s = v := by
    rcases Nat.lt_trichotomy s v with c | c | c
    · exact absurd sc (hl s c)
    · exact c
    · exact absurd hc (sl v c)
  subst e
  exact hn
theorem con_h {f : Nat → Int} {s : Nat} {x h : Int} (hc : con f s x) (e : f (16 + s) = h) : 1 ≤ h := by
  obtain ⟨i, _, i1, _⟩ := hc
  omega
theorem least_ex {f : Nat → Int} {x : Int} : ∀ {s : Nat}, con f s x → s < 4 → ∃ t : Nat, t < 4 ∧ con f t x ∧ ∀ u : Nat, u < t → ¬ con f u x := by
  intro s
  induction s using Nat.strongRecOn with
  | ind s ih =>
    intro hc h4
    by_cases c : ∃ u, u < s ∧ con f u x
    · obtain ⟨u, u1, u2⟩ := c
      exact ih u u1 u2 (by omega)
    · exact ⟨s, h4, hc, fun u hu hcu => c ⟨u, hu, hcu⟩⟩
/-- the lorries' boxes are all different -/
noncomputable def s_L (I : Nat → Nat → Int32) : Prop := ∀ i j : Nat, i < j → (j : Int) < (I 118 59).toInt → (I 158 i).toInt ≠ (I 158 j).toInt
/-- the queue: boxes in the yard, all different -/
noncomputable def q_ok (I : Nat → Nat → Int32) (w : Nat → Int) : Prop := qdis (pI I 159) (I 118 61).toInt ∧ ∀ q : Nat, (q : Int) < (I 118 61).toInt → w (pI I 159 q).toNat = 2
/-- the stacks as the yard's: all of the queue lie in them -/
theorem lev_yard {I I' : Nat → Nat → Int32} (hV : s_R I) (hB : hk_B I) {qd : Nat → Int} {qn : Int} (hq : ∀ q : Nat, (q : Int) < qn → pI I 150 (qd q).toNat = 2) (h0 : ∀ q : Nat, 0 ≤ qd q) (e1 : ∀ i : Nat, i < 16 → I' 161 i = I 153 i) (e2 : ∀ s : Nat, s < 4 → I' 161 (16 + s) = I 154 s) : lev (lvl I' 0) qd 0 qn := by
  have c1 : ∀ i : Nat, i < 16 → lvl I' 0 i = pI I 153 i := fun i hi => by
    show (I' 161 (20 * 0 + i)).toInt = _
    rw [show 20 * 0 + i = i by omega, e1 i hi]
    rfl
  have c2 : ∀ s : Nat, s < 4 → lvl I' 0 (16 + s) = pI I 154 s := fun s hs => by
    show (I' 161 (20 * 0 + (16 + s))).toInt = _
    rw [show 20 * 0 + (16 + s) = 16 + s by omega, e2 s hs]
    rfl
  refine ⟨fun s hs => ?_, fun q _ hn => ?_⟩
  · rw [c2 s hs]
    exact hB 154 s
  · obtain ⟨g, i, g4, i4, g1, g2, g3⟩ := hV.2.2.1 (qd q).toNat (hq q hn)
    refine ⟨g, g4, i, i4, ?_, ?_⟩
    · rw [c2 g g4]
      exact g2
    · rw [c1 _ (by omega)]
      show (I 153 (4 * g + i)).toInt = qd q
      have := h0 q
      have g3 : (I 153 (4 * g + i)).toInt = (((qd q).toNat : Nat) : Int) := g3
      omega
/-- the queue as far as k lorries -/
noncomputable def qs (I h0 : Nat → Nat → Int32) (k : Int) : Prop := (0 ≤ (I 118 61).toInt ∧ (I 118 61).toInt ≤ k) ∧ (∀ q : Nat, (q : Int) < (I 118 61).toInt → pI h0 150 (pI I 159 q).toNat = 2 ∧ ∃ r : Nat, (r : Int) < k ∧ pI I 159 q = pI h0 158 r) ∧ qdis (pI I 159) (I 118 61).toInt
theorem qs_skip {I h0 : Nat → Nat → Int32} {k k2 : Int} (h : qs I h0 k) (e : k2 = k + 1) : qs I h0 k2 := by
  subst e
  refine ⟨⟨h.1.1, by have := h.1.2; omega⟩, fun q hq => ⟨(h.2.1 q hq).1, ?_⟩, h.2.2⟩
  obtain ⟨r, r1, r2⟩ := (h.2.1 q hq).2
  exact ⟨r, by omega, r2⟩
theorem qs_add {I I' h0 : Nat → Nat → Int32} {k k2 q x : Int} {n : Nat} (h : qs I h0 k) (eq : (I 118 61).toInt = q) (e61 : (I' 118 61).toInt = q + 1) (e159 : pI I' 159 = fu_up (pI I 159) n x) (en : n = q.toNat) (hx : pI h0 158 k.toNat = x) (hw : pI h0 150 x.toNat = 2) (hk : 0 ≤ k) (hL : s_L h0) (hkl : k < (h0 118 59).toInt) (e2 : k2 = k + 1) : qs I' h0 k2 := by
  subst e2
  subst en
  have hq := h.1
  rw [eq] at hq
  refine ⟨by rw [e61]; omega, fun p hp => ?_, fun i j hij hj => ?_⟩
  · rw [e61] at hp
    rw [e159]
    by_cases c : p = q.toNat
    · subst c
      rw [fu_eq]
      exact ⟨hw, k.toNat, by omega, hx.symm⟩
    · rw [fu_ne c]
      obtain ⟨a, r, r1, r2⟩ := h.2.1 p (by rw [eq]; omega)
      exact ⟨a, r, by omega, r2⟩
  · rw [e61] at hj
    rw [e159]
    rw [fu_ne (show i ≠ q.toNat by omega)]
    by_cases c : j = q.toNat
    · subst c
      rw [fu_eq]
      obtain ⟨_, r, r1, r2⟩ := h.2.1 i (by rw [eq]; omega)
      rw [r2, ← hx]
      exact hL r k.toNat (by omega) (by omega)
    · rw [fu_ne c]
      exact h.2.2 i j hij (by rw [eq]; omega)
theorem least_un {f : Nat → Int} {x : Int} {s t : Nat} (h1 : con f s x) (h2 : ∀ u : Nat, u < s → ¬ con f u x) (h3 : con f t x) (h4 : ∀ u : Nat, u < t → ¬ con f u x) : s = t := by
  rcases Nat.lt_trichotomy s t with c | c | c
  · exact absurd h1 (h4 s c)
  · exact c
  · exact absurd h3 (h2 t c)
theorem lv0 {I : Nat → Nat → Int32} {n : Nat} : lvl I 0 n = (I 161 n).toInt := by
  show (I 161 (20 * 0 + n)).toInt = _
  rw [Nat.mul_zero, Nat.zero_add]
/-- how high the stack of the next one is -/
noncomputable def gst (f : Nat → Int) (x : Int) (g : Nat) : Prop := ∃ s : Nat, s < 4 ∧ con f s x ∧ (∀ t : Nat, t < s → ¬ con f t x) ∧ f (16 + s) = (g : Int)
theorem gst_ex {f : Nat → Int} {x : Int} (hH : lev_H f) {s : Nat} (h4 : s < 4) (hc : con f s x) : ∃ g : Nat, g ≤ 4 ∧ gst f x g := by
  obtain ⟨t, t4, tc, tl⟩ := least_ex hc h4
  have := hH t t4
  exact ⟨(f (16 + t)).toNat, by omega, t, t4, tc, tl, by omega⟩
/-- a dig lowers the stack of the next one -/
theorem gst_dig {f : Nat → Int} {x : Int} {v t g : Nat} {ha hb m : Int} (v4 : v < 4) (t4 : t < 4) (ne : v ≠ t) (ea : f (16 + v) = ha) (eb : f (16 + t) = hb) (a4 : ha ≤ 4) (b0 : 0 ≤ hb) (b3 : hb ≤ 3) (em : f (4 * v + (ha - 1).toNat) = m) (hx : x ≠ m) (hc : con f v x) (hl : ∀ u : Nat, u < v → ¬ con f u x) (hg : ha = (g : Int) + 1) : gst (dg f v t ha hb m) x g := by
  have c : con (dg f v t ha hb m) v x := by
    rcases con_dig v4 t4 ne ea eb b0 b3 a4 em v4 hc with c | ⟨c, _⟩
    · exact c
    · exact absurd c hx
  refine ⟨v, v4, c, fun u hu hcu => hl u hu (con_back v4 t4 ne ea eb b0 b3 hx (by omega) hcu), ?_⟩
  unfold dg
  rw [fu_ne (by omega), fu_ne (by omega), fu_eq]
  omega
theorem ru_cg {I I' : Nat → Nat → Int32} (h : hk_ru I) (e1 : pI I' 11 = pI I 11) (e2 : pI I' 12 = pI I 12) (e3 : pI I' 13 = pI I 13) (e4 : pI I' 14 = pI I 14) (e5 : pI I' 150 = pI I 150) (e6 : pI I' 151 = pI I 151) : hk_ru I' := by
  have t : ∀ {o : Nat} {q : qa_B} {i : Nat}, pI I' o = pI I o → qa_in q (I o i) → qa_in q (I' o i) := fun {o q i} e hq => by
    have := congrFun e i
    have this : (I' o i).toInt = (I o i).toInt := this
    unfold qa_in at *
    rw [this]
    exact hq
  have a : ∀ {o : Nat} {i : Nat} {c : Int}, pI I' o = pI I o → (I' o i).toInt = c → (I o i).toInt = c := fun {o i c} e hc => by
    have := congrFun e i
    have this : (I' o i).toInt = (I o i).toInt := this
    rw [← this]
    exact hc
  refine List.forall_mem_cons.mpr ⟨fun i e => t e2 (h _ (by decide) i (a e1 e)), List.forall_mem_cons.mpr ⟨fun i e => t e3 (h _ (by decide) i (a e1 e)), List.forall_mem_cons.mpr ⟨fun i e => t e4 (h _ (by decide) i (a e1 e)), List.forall_mem_cons.mpr ⟨fun i e => t e2 (h _ (by decide) i (a e1 e)), List.forall_mem_cons.mpr ⟨fun i e => t e4 (h _ (by decide) i (a e1 e)), List.forall_mem_cons.mpr ⟨fun i e => t e6 (h _ (by decide) i (a e5 e)), fun _ h => absurd h List.not_mem_nil⟩⟩⟩⟩⟩⟩
