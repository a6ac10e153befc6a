/-! the small machine's cells in the real heap: own cell k at B + k, the script at b -/
def qm_cv (b B : Nat) (v : Value) : Value := match v with
  | .ref k => .ref (B + k)
  | .retAddr _ => .ref b
  | w => w
def qm_rB (B : Nat) (r : Option Nat) : Option Nat := match r with
  | some k => some (B + k)
  | none => none
theorem qm_cv_rv (b B : Nat) (r : Option Nat) : qm_cv b B (qm_rv r) = va_rf (qm_rB B r) := by cases r <;> rfl
theorem qm_cv_cat (b B : Nat) (v : Value) : (qm_cv b B v).category = v.category := by cases v <;> rfl
theorem qm_cat_cv (b B : Nat) (st : List Value) : ((st.map (qm_cv b B)).map fun v => v.category).sum = qm_cat st := by
  unfold qm_cat
  rw [List.map_map]
  congr 1
  exact List.map_congr_left fun v _ => qm_cv_cat b B v
def qm_fs (b B : Nat) (h : qm_H) (k ci : Nat) : List Value := (List.range (qm_nf ci)).map (fun j => qm_cv b B (qm_tv (qm_tg (qm_ty ci j)) h k j))
def qm_E (aC : Nat → ClassId) (b B : Nat) (h : qm_H) (k : Nat) (q : Nat × Nat) : va_E := match q.1 with
  | 0 => .inl (aC 0, q.2, .inl (h.2.1 k))
  | 1 => .inl (aC 1, q.2, .inl (h.2.1 k))
  | 2 => .inl (aC 2, q.2, .inl (h.2.1 k))
  | 3 => .inl (aC 3, q.2, .inr (.inl (h.2.2.1 k)))
  | 4 => .inl (aC 4, q.2, .inr (.inr (.inr (.inr (fun i => qm_rB B (h.2.2.2 k i))))))
  | ci + 5 => .inr (ci, qm_fs b B h k ci)
def qm_w (aC : Nat → ClassId) (b B : Nat) (h : qm_H) : va_W := (List.range h.1.length).map (fun k => (B + k, qm_E aC b B h k (h.1.getD k (0, 0))))
theorem qm_w_get {aC : Nat → ClassId} {b B : Nat} {h : qm_H} {k : Nat} {q : Nat × Nat} (hk : h.1[k]? = some q) : (qm_w aC b B h)[k]? = some (B + k, qm_E aC b B h k q) := by
  obtain ⟨hl, he⟩ := List.getElem?_eq_some_iff.mp hk
  unfold qm_w
  rw [List.getElem?_map, List.getElem?_range hl]
  simp [List.getD, hk]
theorem qm_w_inv {aC : Nat → ClassId} {b B : Nat} {h : qm_H} {k : Nat} {x : Nat × va_E} (hk : (qm_w aC b B h)[k]? = some x) : ∃ q, h.1[k]? = some q ∧ x = (B + k, qm_E aC b B h k q) := by
  have hl : k < h.1.length := by
    have := (List.getElem?_eq_some_iff.mp hk).1
    unfold qm_w at this
    simpa using this
  have hq : h.1[k]? = some h.1[k] := List.getElem?_eq_getElem hl
  refine ⟨_, hq, ?_⟩
  have := qm_w_get (aC := aC) (b := b) (B := B) hq
  rw [hk] at this
  exact Option.some.inj this
theorem qm_w_D {aC : Nat → ClassId} {b B : Nat} {h : qm_H} : va_D (fun q : Nat => B ≤ q) (qm_w aC b B h) := by
  refine ⟨fun i j p q hi hj e => ?_, fun k q hk => ?_⟩
  · obtain ⟨_, _, rfl⟩ := qm_w_inv hi
    obtain ⟨_, _, rfl⟩ := qm_w_inv hj
    simp at e
    exact e
  · obtain ⟨_, _, rfl⟩ := qm_w_inv hk
    exact Nat.le_add_right B k
theorem qm_up_ne {α : Type} {f : Nat → Nat → α} {k j i : Nat} {v : α} (h : j ≠ k) : qm_up f k i v j = f j := by
  funext i'
  have : Nat.beq j k = false := qm_bne h
  simp [qm_up, this]
theorem qm_up_at {α : Type} {f : Nat → Nat → α} {k i j : Nat} {v : α} : qm_up f k i v k j = if j = i then v else f k j := by
  by_cases h : j = i
  · subst h
    simp [qm_up]
  · have : Nat.beq j i = false := qm_bne h
    simp [qm_up, this, h]
/-- one cell changes -/
theorem qm_w_upd {aC : Nat → ClassId} {b B : Nat} {h h' : qm_H} {k : Nat} {q : Nat × Nat} (hs : h'.1 = h.1) (hk : h.1[k]? = some q) (ho : ∀ j, j ≠ k → ∀ z, qm_E aC b B h' j z = qm_E aC b B h j z) : qm_w aC b B h' = (qm_w aC b B h).set k (B + k, qm_E aC b B h' k q) := by
  have hkl : k < h.1.length := (List.getElem?_eq_some_iff.mp hk).1
  apply List.ext_getElem?
  intro i
  by_cases hi : i = k
  · subst hi
    rw [qm_w_get (h := h') (by rw [hs]; exact hk), List.getElem?_set_self (by unfold qm_w; simpa using hkl)]
  · rw [List.getElem?_set_ne (fun e => hi e.symm)]
    cases hq : h.1[i]? with
    | some z => rw [qm_w_get (h := h') (by rw [hs]; exact hq), qm_w_get hq, ho i hi z]
    | none =>
      have hl : h.1.length ≤ i := List.getElem?_eq_none_iff.mp hq
      rw [List.getElem?_eq_none (by unfold qm_w; simpa [hs] using hl), List.getElem?_eq_none (by unfold qm_w; simpa using hl)]
theorem qm_E_off {aC : Nat → ClassId} {b B : Nat} {h h' : qm_H} {j : Nat} (hI : h'.2.1 j = h.2.1 j) (hJ : h'.2.2.1 j = h.2.2.1 j) (hR : h'.2.2.2 j = h.2.2.2 j) (z : Nat × Nat) : qm_E aC b B h' j z = qm_E aC b B h j z := by
  have ht : ∀ (v : Value) (t : Nat), qm_tv v h' j t = qm_tv v h j t := by
    intro v t
    cases v <;> simp [qm_tv, hI, hJ, hR]
  have hf : ∀ ci, qm_fs b B h' j ci = qm_fs b B h j ci := by
    intro ci
    unfold qm_fs
    exact List.map_congr_left (fun t _ => by rw [ht])
  obtain ⟨z1, z2⟩ := z
  match z1 with
  | 0 => simp [qm_E, hI]
  | 1 => simp [qm_E, hI]
  | 2 => simp [qm_E, hI]
  | 3 => simp [qm_E, hJ]
  | 4 => simp [qm_E, hR]
  | n + 5 => simp [qm_E, hf]
theorem qm_fs_len (b B : Nat) (h : qm_H) (k ci : Nat) : (qm_fs b B h k ci).length = qm_nf ci := by simp [qm_fs]
theorem qm_fs_get {b B : Nat} {h : qm_H} {k ci j : Nat} (hj : j < qm_nf ci) : (qm_fs b B h k ci)[j]? = some (qm_cv b B (qm_tv (qm_tg (qm_ty ci j)) h k j)) := by
  unfold qm_fs
  rw [List.getElem?_map, List.getElem?_range hj]
  rfl
theorem qm_fs_set {b B : Nat} {h h' : qm_H} {k ci j : Nat} {w : Value} (hj : j < qm_nf ci) (hv : qm_tv (qm_tg (qm_ty ci j)) h' k j = w) (ho : ∀ t, t ≠ j → ∀ v, qm_tv v h' k t = qm_tv v h k t) : qm_fs b B h' k ci = (qm_fs b B h k ci).set j (qm_cv b B w) := by
  apply List.ext_getElem?
  intro i
  by_cases hi : i = j
  · subst hi
    rw [qm_fs_get hj, List.getElem?_set_self (by rw [qm_fs_len]; exact hj), hv]
  · rw [List.getElem?_set_ne (fun e => hi e.symm)]
    by_cases hl : i < qm_nf ci
    · rw [qm_fs_get hl, qm_fs_get hl, ho i hi]
    · rw [List.getElem?_eq_none (by rw [qm_fs_len]; omega), List.getElem?_eq_none (by rw [qm_fs_len]; omega)]
/-- the cells h stand in the heap H from B on, and nothing behind them -/
def qm_HI (D : va_G) (aC : Nat → ClassId) (b B : Nat) (h : qm_H) (H : Heap) : Prop :=
  H.size = B + h.1.length ∧ va_P D qm_vc (qm_w aC b B h) H ∧ ∀ k i, h.1.length ≤ k → h.2.1 k i = 0 ∧ h.2.2.1 k i = 0 ∧ h.2.2.2 k i = none
def qm_tys (aC : Nat → ClassId) : List (ClassId × FieldType) := [(aC 0, .int), (aC 1, .byte), (aC 2, .boolean), (aC 3, .long), (aC 4, .array .int)]
def qm_A (B : Nat) : Nat → Prop := fun q => B ≤ q
/-- one cell's contents change -/
theorem qm_HI.set {D : va_G} {aC : Nat → ClassId} {b B : Nat} {h h' : qm_H} {H H1 : Heap} {k : Nat} {q : Nat × Nat} (hH : qm_HI D aC b B h H) (hs : h'.1 = h.1) (hk : h.1[k]? = some q) (hI : ∀ j, j ≠ k → h'.2.1 j = h.2.1 j) (hJ : ∀ j, j ≠ k → h'.2.2.1 j = h.2.2.1 j) (hR : ∀ j, j ≠ k → h'.2.2.2 j = h.2.2.2 j)
    (he : va_at D qm_vc (B + k, qm_E aC b B h' k q) H1) (z : H1.size = H.size) (oq : ∀ x : Nat, x ≠ B + k → H1[x]? = H[x]?) : qm_HI D aC b B h' H1 := by
  obtain ⟨h1, h2, h3⟩ := hH
  have hkl : k < h.1.length := (List.getElem?_eq_some_iff.mp hk).1
  refine ⟨by rw [z, h1, hs], ?_, fun j i hj => ?_⟩
  · rw [qm_w_upd hs hk (fun j hj z => qm_E_off (hI j hj) (hJ j hj) (hR j hj) z)]
    exact h2.set (qm_w_D (aC := aC) (b := b)) (qm_w_get hk) he oq
  · rw [hs] at hj
    have hne : j ≠ k := by omega
    rw [hI j hne, hJ j hne, hR j hne]
    exact h3 j i hj
