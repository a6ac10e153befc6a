/-! countHeld as a contract of the engine; what holds of the boxes, by what stays -/
/-- the terms at t have no Wide, or one that lies as it was made -/
noncomputable def wS (h : qm_H) (t : Nat) : Prop := h.2.2.2 t 15 = none ∨ ∃ w, (w = 192 ∨ w = 213) ∧ h.2.2.2 t 15 = some w ∧ wd h w
theorem wS_same {h h' : qm_H} {t : Nat} (hw : wS h t) (e1 : h'.1 = h.1) (e2 : h'.2.2.2 = h.2.2.2) : wS h' t := by
  rcases hw with z | ⟨w, z1, z2, z3⟩
  · exact Or.inl (by rw [e2]; exact z)
  · exact Or.inr ⟨w, z1, by rw [e2]; exact z2, wd_same z3 e1 e2⟩
noncomputable def qc_wm : List Nat := (List.range 42).map (192 + ·)
theorem qc_wm_in {o : Nat} (h : qc_wm.contains o = false) : o < 192 ∨ 234 ≤ o := by
  rcases Nat.lt_or_ge o 192 with c | c
  · exact Or.inl c
  · rcases Nat.lt_or_ge o 234 with c2 | c2
    · have : qc_wm.contains o = true := List.contains_iff_mem.mpr (List.mem_map.mpr ⟨o - 192, List.mem_range.mpr (by omega), by omega⟩)
      rw [this] at h
      cases h
    · exact Or.inr c2
/-- may it be called so: the object, and ints within bounds -/
noncomputable def qc_ints (K : qa_K) : List Value → List qa_B → Bool
  | [], [] => true
  | x :: r, b :: bs => (qa_il x && qa_le (qa_bd K x) b) && qc_ints K r bs
  | _, _ => false
noncomputable def qc_pre (o : Nat) (bs : List qa_B) (K : qa_K) (as : List Value) : Bool := match as with
  | .ref t :: r => Nat.beq t o && qc_ints K r bs
  | _ => false
theorem qc_ints_1 {p : List Int32} {K : qa_K} {r r' : List Value} {b : qa_B} {bs : List qa_B} (hs : qa_sat p K) (hg : qa_G p r r') (h : qc_ints K r (b :: bs) = true) : ∃ x t t', r' = .int x :: t' ∧ qa_in b x ∧ qa_G p t t' ∧ qc_ints K t bs = true := by
  cases r with
  | nil => cases h
  | cons a r =>
    obtain ⟨a', t', e1, g1, g2⟩ := hg
    unfold qc_ints at h
    rw [Bool.and_eq_true, Bool.and_eq_true] at h
    obtain ⟨x, e2, bx⟩ := qa_bd_ok hs g1 h.1.1
    subst e2
    exact ⟨x, r, t', e1, qa_le_ok h.1.2 bx, g2, h.2⟩
theorem qc_ints_0 {p : List Int32} {K : qa_K} {r r' : List Value} (hg : qa_G p r r') (h : qc_ints K r [] = true) : r' = [] := by
  cases r with
  | nil => exact hg
  | cons a r => cases h
theorem qc_pre_1 {p : List Int32} {K : qa_K} {o : Nat} {bs : List qa_B} {as as' : List Value} (hg : qa_G p as as') (h : qc_pre o bs K as = true) : ∃ t t', as' = .ref o :: t' ∧ qa_G p t t' ∧ qc_ints K t bs = true := by
  unfold qc_pre at h
  split at h
  · rename_i t r
    obtain ⟨a', t', e1, g1, g2⟩ := hg
    rw [Bool.and_eq_true] at h
    have e := Nat.eq_of_beq_eq_true h.1
    subst e
    have g1 : a' = .ref t := g1
    subst g1
    exact ⟨r, t', e1, g2, h.2⟩
  · cases h
noncomputable def qc_ct (t : Nat) : qa_Ct := (122, qc_pre t [(0, 16), (0, 16)], some qa_full, qc_wm, 22)
/-- countHeld, from any cells -/
theorem hs_held {L : Nat} {xs : Nat → Int32} {d : Nat} {Z : Option Value → qm_H → Prop} {h : qm_H} (h6 : 6 ≤ L) (hH : hk_H h) (hB : hk_B h.2.1) (hr : hk_ru h.2.1) {t : Nat} (ht : t = 29 ∨ t = 111) (hW : wS h t) {x y : Int32} (hx : (0 : Int) ≤ x.toInt ∧ x.toInt ≤ 16) (hy : (0 : Int) ≤ y.toInt ∧ y.toInt ≤ 16) (k : ∀ (v : Int32) (I : Nat → Nat → Int32) (J : Nat → Nat → Int64), hk_B I → (∀ o, qc_wm.contains o = false → ∀ i, I o i = h.2.1 o i) → Z (some (.int v)) (h.1, I, J, h.2.2.2)) : qm_Ru (some (L, xs)) (d + 22) cd_122 (qm_ent 6 [.ref t, .int x, .int y] h) Z := by
  rcases hW with z | ⟨w, z1, z2, z3⟩
  · rcases ht with rfl | rfl
    · exact hs_held29n h6 hH hB hr z hx hy (fun v I J b e => k v I J b (fun o _ i => e o i))
    · exact hs_held111n h6 hH hB hr z hx hy (fun v I J b e => k v I J b (fun o _ i => e o i))
  · rcases ht with rfl | rfl
    · exact hs_held29w h6 hH hB hr (by omega) z3 z2 hx hy (fun v I J b e => k v I J b (fun o ho i => e o (by have := qc_wm_in ho; omega) i))
    · exact hs_held111w h6 hH hB hr (by omega) z3 z2 hx hy (fun v I J b e => k v I J b (fun o ho i => e o (by have := qc_wm_in ho; omega) i))
/-- rules of the cells look at these alone -/
theorem hk_ru_cg {I I' : Nat → Nat → Int32} (h : hk_ru I) (e : ∀ o, [11, 12, 13, 14, 150, 151].contains o = true → ∀ i, I' o i = I o i) : hk_ru I' := by
  intro r hr i
  have key : ∀ r ∈ qa_rules, [11, 12, 13, 14, 150, 151].contains r.1 = true ∧ [11, 12, 13, 14, 150, 151].contains r.2.2.1 = true := by decide +kernel
  obtain ⟨k1, k2⟩ := key r hr
  rw [e _ k1, e _ k2]
  exact h r hr i
theorem v_C_cg9 {I I' : Nat → Nat → Int32} (h : v_C I) (e : ∀ o, [6, 11, 12, 13, 14, 16, 17, 36, 150, 151].contains o = true → ∀ i, I' o i = I o i) : v_C I' := by
  have E : ∀ o, [6, 11, 12, 13, 14, 16, 17, 36, 150, 151].contains o = true → (fun i => (I' o i).toInt) = (fun i => (I o i).toInt) := fun o ho => funext fun i => by rw [e o ho i]
  obtain ⟨⟨h1, h2⟩, h3⟩ := h
  refine ⟨⟨?_, ?_⟩, ?_⟩
  · unfold s_Cf at *
    rw [E 11 rfl, E 12 rfl, E 13 rfl, E 14 rfl, E 36 rfl, E 16 rfl, E 17 rfl, e 6 rfl 0]
    exact h1
  · unfold s_Cb at *
    rw [E 36 rfl]
    exact h2
  · intro i hi
    rw [e 150 rfl i] at hi
    rw [e 151 rfl i]
    exact h3 i hi
/-- the contract holds over cells that stay but for those of a list -/
theorem qc_held {h : qm_H} {mod : List Nat} {t1 t2 t L : Nat} {xs : Nat → Int32} (h6 : 6 ≤ L) (hH : hk_H h) (hr : hk_ru h.2.1) (ht : t = 29 ∨ t = 111) (hW : wS h t) (hm : ∀ o, mod.contains o = false → qc_wm.contains o = false) (hm2 : ∀ o, [11, 12, 13, 14, 150, 151].contains o = true → mod.contains o = false) : ∀ q ∈ [qc_ct t], qa_hc (qa_PC t1 t2 (qc_foot mod)) (qc_S h mod) (some (L, xs)) q := by
  refine List.forall_mem_cons.mpr ⟨?_, fun _ h => absurd h List.not_mem_nil⟩
  intro p K as as' h' d Z hs hp hg hpre hI hd k
  obtain ⟨t0, t0', e1, g1, c1⟩ := qc_pre_1 hg hpre
  obtain ⟨x, t1', t1'', e2, bx, g2, c2⟩ := qc_ints_1 hs g1 c1
  obtain ⟨y, t2', t2'', e3, by_, g3, c3⟩ := qc_ints_1 hs g2 c2
  have e4 := qc_ints_0 g3 c3
  subst e4
  subst e3
  subst e2
  subst e1
  obtain ⟨i1, i2, i3, i4, i5⟩ := hI
  have hd : 22 ≤ d := hd
  obtain ⟨d, rfl⟩ : ∃ e, d = e + 22 := ⟨d - 22, by omega⟩
  have hH' : hk_H h' := by
    refine ⟨fun o q hq => ?_, fun o i w hq => ?_⟩
    · rw [i4.1]
      exact hH.1 o q hq
    · rw [i4.2.1]
      exact hH.2 o i w hq
  have hr' : hk_ru h'.2.1 := hk_ru_cg hr (fun o ho i => i4.2.2 o (hm2 o ho) i)
  refine hs_held h6 hH' i2 hr' ht (wS_same hW i4.1 i4.2.1) bx by_ (fun v I J hB e => ?_)
  refine k (some (.int v)) (h'.1, I, J, h'.2.2.2) ⟨v, rfl, qa_in_full v⟩ ⟨i1, hB, i3, ⟨i4.1, i4.2.1, fun o ho i => ?_⟩, ?_⟩ (fun o ho i => e o ho i)
  · show I o i = h.2.1 o i
    rw [e o (hm o ho) i]
    exact i4.2.2 o ho i
  · intro r hr1 _ _ i ei
    exact hk_ru_cg hr' (fun o ho i => e o (hm o (hm2 o ho)) i) r hr1 i ei
