/-! locals, and ints copied -/
def qm_fl0 (v : Value) : Bool := match v with
  | .float _ => true
  | _ => false
/-- the values that the locals' list tells, by their places -/
def qm_pr (b B : Nat) (l : List Value) : List (Nat × Value) := (List.range l.length).filterMap (fun i => match l[i]? with
  | some v => bif qm_fl0 v then none else some (i, qm_cv b B v)
  | none => none)
theorem qm_pr_mem {b B : Nat} {l : List Value} {i : Nat} {w : Value} : (i, w) ∈ qm_pr b B l ↔ ∃ v, l[i]? = some v ∧ qm_fl0 v = false ∧ w = qm_cv b B v := by
  unfold qm_pr
  rw [List.mem_filterMap]
  constructor
  · rintro ⟨j, hj, he⟩
    cases hv : l[j]? with
    | none => rw [hv] at he; cases he
    | some v =>
      rw [hv] at he
      cases hf : qm_fl0 v with
      | true => simp [hf] at he
      | false =>
        simp [hf] at he
        obtain ⟨rfl, rfl⟩ := he
        exact ⟨v, hv, hf, rfl⟩
  · rintro ⟨v, hv, hf, rfl⟩
    exact ⟨i, List.mem_range.mpr (List.getElem?_eq_some_iff.mp hv).1, by simp [hv, hf]⟩
/-- the locals' list stands in the frame's locals -/
def qm_LR (b B nL : Nat) (l : List Value) (ls : Array Slot) : Prop := l.length = nL ∧ lv_has ls nL (qm_pr b B l)
theorem qm_LR.at {b B nL : Nat} {l : List Value} {ls : Array Slot} (h : qm_LR b B nL l ls) {i : Nat} {v : Value} (hv : l[i]? = some v) (hf : qm_fl0 v = false) : ls[i]? = some (.val (qm_cv b B v)) := h.2.2.2 (i, qm_cv b B v) (qm_pr_mem.mpr ⟨v, hv, hf, rfl⟩)
theorem qm_s1_len (l : List Value) (i : Nat) (v : Value) : (qm_s1 l i v).length = l.length := by
  unfold qm_s1
  split
  · simp
  · split <;> simp
theorem qm_s1_get {l : List Value} {i j : Nat} {v w : Value} (hj : (qm_s1 l i v)[j]? = some w) (hw : qm_fl0 w = false) : (j = i ∧ w = v) ∨ (j ≠ i ∧ l[j]? = some w ∧ ¬ (j + 1 = i ∧ w.category = 2)) := by
  by_cases e : j = i
  · subst e
    left
    refine ⟨rfl, ?_⟩
    unfold qm_s1 at hj
    split at hj
    · rw [List.getElem?_set] at hj
      simp at hj
      exact hj.2.symm
    · split at hj <;> (rw [List.getElem?_set] at hj; simp at hj; exact hj.2.symm)
  · right
    refine ⟨e, ?_⟩
    unfold qm_s1 at hj
    split at hj
    · rw [List.getElem?_set_ne (fun q => e q.symm)] at hj
      exact ⟨hj, fun q => by omega⟩
    · rename_i t
      split at hj
      · rw [List.getElem?_set_ne (fun q => e q.symm)] at hj
        by_cases e2 : j = t
        · subst e2
          rw [List.getElem?_set] at hj
          simp at hj
          obtain ⟨-, rfl⟩ := hj
          cases hw
        · rw [List.getElem?_set_ne (fun q => e2 q.symm)] at hj
          exact ⟨hj, fun q => e2 (by omega)⟩
      · rw [List.getElem?_set_ne (fun q => e q.symm)] at hj
        by_cases e2 : j = t
        · subst e2
          rw [List.getElem?_set] at hj
          simp at hj
          obtain ⟨-, rfl⟩ := hj
          cases hw
        · rw [List.getElem?_set_ne (fun q => e2 q.symm)] at hj
          exact ⟨hj, fun q => e2 (by omega)⟩
      · rename_i n1 n2
        rw [List.getElem?_set_ne (fun q => e q.symm)] at hj
        refine ⟨hj, fun q => ?_⟩
        have e2 : j = t := by omega
        subst e2
        cases w with
        | long x => exact n1 x hj
        | double x => exact n2 x hj
        | _ => simp [Value.category] at q
theorem qm_LR.s1 {b B nL : Nat} {l : List Value} {ls ls' : Array Slot} {i : Nat} {v : Value} (h : qm_LR b B nL l ls) (h' : lv_has ls' nL ((i, qm_cv b B v) :: (qm_pr b B l).filter (fun q => !(q.1 == i) && !(q.1 + 1 == i && q.2.category == 2)))) : qm_LR b B nL (qm_s1 l i v) ls' := by
  refine ⟨by rw [qm_s1_len]; exact h.1, h'.1, h'.2.1, fun q hq => h'.2.2 q ?_⟩
  obtain ⟨j, w⟩ := q
  obtain ⟨u, hu, hf, rfl⟩ := qm_pr_mem.mp hq
  rcases qm_s1_get hu hf with ⟨rfl, rfl⟩ | ⟨hne, hl, hcat⟩
  · exact List.mem_cons_self
  · refine List.mem_cons_of_mem _ (List.mem_filter.mpr ⟨qm_pr_mem.mpr ⟨u, hl, hf, rfl⟩, ?_⟩)
    rw [qm_cv_cat]
    simp only [Bool.and_eq_true, Bool.not_eq_true', beq_eq_false_iff_ne, ne_eq, Bool.and_eq_false_iff]
    refine ⟨hne, ?_⟩
    by_cases hx : j + 1 = i
    · exact Or.inr (fun hc => hcat ⟨hx, hc⟩)
    · exact Or.inl hx
theorem qm_LR.s2 {b B nL : Nat} {l : List Value} {ls ls' : Array Slot} {i : Nat} {v : Value} (h : qm_LR b B nL l ls) (h' : lv_has ls' nL ((i, qm_cv b B v) :: (qm_pr b B l).filter (fun q => !(q.1 == i) && (!(q.1 == i + 1) && !(q.1 + 1 == i && q.2.category == 2))))) : qm_LR b B nL (qm_s2 l i v) ls' := by
  refine ⟨by unfold qm_s2; rw [List.length_set, qm_s1_len]; exact h.1, h'.1, h'.2.1, fun q hq => h'.2.2 q ?_⟩
  obtain ⟨j, w⟩ := q
  obtain ⟨u, hu, hf, rfl⟩ := qm_pr_mem.mp hq
  unfold qm_s2 at hu
  by_cases hj1 : j = i + 1
  · subst hj1
    rw [List.getElem?_set] at hu
    simp at hu
    obtain ⟨-, rfl⟩ := hu
    cases hf
  · rw [List.getElem?_set_ne (fun q => hj1 q.symm)] at hu
    rcases qm_s1_get hu hf with ⟨rfl, rfl⟩ | ⟨hne, hl, hcat⟩
    · exact List.mem_cons_self
    · refine List.mem_cons_of_mem _ (List.mem_filter.mpr ⟨qm_pr_mem.mpr ⟨u, hl, hf, rfl⟩, ?_⟩)
      rw [qm_cv_cat]
      simp only [Bool.and_eq_true, Bool.not_eq_true', beq_eq_false_iff_ne, ne_eq, Bool.and_eq_false_iff]
      refine ⟨hne, hj1, ?_⟩
      by_cases hx : j + 1 = i
      · exact Or.inr (fun hc => hcat ⟨hx, hc⟩)
      · exact Or.inl hx
/-- at a method's entry -/
theorem qm_la_args {b B : Nat} : ∀ (as : List Value) (k i : Nat) (v : Value), (qm_la as)[i]? = some v → qm_fl0 v = false → (k + i, qm_cv b B v) ∈ lv_args k (as.map (qm_cv b B))
  | [], k, i, v, h, _ => by simp [qm_la] at h
  | a :: r, k, i, v, h, hf => by
    by_cases hc : a.category = 2
    · have hla : qm_la (a :: r) = a :: .float 0 :: qm_la r := by simp [qm_la, hc]
      rw [hla] at h
      rw [List.map_cons, lv_args, qm_cv_cat, if_pos hc]
      match i, h with
      | 0, h =>
        simp at h
        subst h
        exact List.mem_cons_self
      | 1, h =>
        simp at h
        subst h
        cases hf
      | i + 2, h =>
        have h : (qm_la r)[i]? = some v := by simpa using h
        have ih := qm_la_args (b := b) (B := B) r (k + 2) i v h hf
        rw [show k + 2 + i = k + (i + 2) by omega] at ih
        exact List.mem_cons_of_mem _ ih
    · have hb : Nat.beq a.category 2 = false := qm_bne hc
      have hla : qm_la (a :: r) = a :: qm_la r := by simp [qm_la, hb]
      rw [hla] at h
      rw [List.map_cons, lv_args, qm_cv_cat, if_neg hc]
      match i, h with
      | 0, h =>
        simp at h
        subst h
        exact List.mem_cons_self
      | i + 1, h =>
        have h : (qm_la r)[i]? = some v := by simpa using h
        have ih := qm_la_args (b := b) (B := B) r (k + 1) i v h hf
        rw [show k + 1 + i = k + (i + 1) by omega] at ih
        exact List.mem_cons_of_mem _ ih
theorem qm_la_len (b B : Nat) : ∀ as : List Value, (lg_sl (as.map (qm_cv b B))).length = (qm_la as).length
  | [] => rfl
  | a :: r => by
    have ih := qm_la_len b B r
    unfold lg_sl at ih ⊢
    rw [List.map_cons, List.flatMap_cons, List.length_append, ih, qm_cv_cat]
    by_cases hc : a.category = 2
    · have hla : qm_la (a :: r) = a :: .float 0 :: qm_la r := by simp [qm_la, hc]
      rw [if_pos hc, hla]
      simp
      omega
    · have hb : Nat.beq a.category 2 = false := qm_bne hc
      have hla : qm_la (a :: r) = a :: qm_la r := by simp [qm_la, hb]
      rw [if_neg hc, hla]
      simp
      omega
theorem qm_LR_ent {b B nL : Nat} {as : List Value} (hl : (qm_la as).length ≤ nL) (h : qm_H) : qm_LR b B nL (qm_ent nL as h).2.1 ((lg_sl (as.map (qm_cv b B)) ++ List.replicate (nL - (lg_sl (as.map (qm_cv b B))).length) Slot.unset).toArray) := by
  have he := lv_entry (as.map (qm_cv b B)) (n := nL) (by rw [qm_la_len]; exact hl)
  refine ⟨by simp [qm_ent]; omega, he.1, he.2.1, fun q hq => he.2.2 q ?_⟩
  obtain ⟨j, w⟩ := q
  obtain ⟨u, hu, hf, rfl⟩ := qm_pr_mem.mp hq
  have hu : (qm_la as ++ List.replicate (nL - (qm_la as).length) (.float 0))[j]? = some u := hu
  by_cases hj : j < (qm_la as).length
  · rw [List.getElem?_append_left hj] at hu
    have := qm_la_args (b := b) (B := B) as 0 j u hu hf
    rw [Nat.zero_add] at this
    exact this
  · rw [List.getElem?_append_right (by omega), List.getElem?_replicate] at hu
    split at hu
    · cases hu
      cases hf
    · cases hu
section QMC
variable {p : Program} {l : Launch} {e : Env} {R : Room} {s : State} {m : MethodId} {args : Array Value} {below : List Frame} {meth : Method} {c : Code} {H : Heap} {locs : List Loc} {cells slots : Nat} {Q : State → Prop}
variable {cc : ByteArray} {pc : Nat} {ls : Array Slot} {rest : List Value} {D : va_G} {aC : Nat → ClassId} {b B : Nat} {h : qm_H} {H0 : Heap}
theorem qm_r_copy (hexec : p.tables.exec = Jvm.exec) (hb : c.code = cc) (hml : c.maxLocals = ls.size) {own : String} {index : Nat} (hown : s.vm.findClass own = some m.cls) (hlink : (Cond.methodLink own index arraycopyName).before args s = true) (hnat : (Cond.native arraycopyName).before args s = true) (hstat : (Cond.static arraycopyName).before args s = true) (hini : (Cond.initialized "java/lang/System").before args s = true)
    (hK : va_K D qm_vc (qm_tys aC) s) (hH : qm_HI D aC b B h H) (hS : va_S (qm_A B) H0 H locs) {o d n0 n1 : Nat} (ho : h.1[o]? = some (0, n0)) (hd : h.1[d]? = some (0, n1)) {sp dp n : Int32} (h1 : ¬ sp < 0) (h2 : ¬ dp < 0) (h3 : ¬ n < 0) (h4 : sp.toNatClampNeg + n.toNatClampNeg ≤ n0) (h5 : dp.toNatClampNeg + n.toNatClampNeg ≤ n1)
    (hframes : 1 ≤ R.frames) (hlocals : (rest.map fun v => v.category).sum + (nativeFrameWords "java/lang/System" "arraycopy" 5 + 11) ≤ R.locals) (hdg : decode cc pc = .ok (.invokestatic index, 3))
    (kk : ∀ (H1 : Heap) (locs1 : List Loc), qm_HI D aC b B (h.1, qm_cp h.2.1 o sp.toNatClampNeg d dp.toNatClampNeg n.toNatClampNeg, h.2.2.1, h.2.2.2) H1 → va_S (qm_A B) H0 H1 locs1 → W p l e R s m args below meth c H1 locs1 cells slots Q (F0 m (pc + 3) ls rest)) : W p l e R s m args below meth c H locs cells slots Q (F0 m pc ls (.int n :: .int dp :: .ref (B + d) :: .int sp :: .ref (B + o) :: rest)) := by
  have nn : ∀ z : Int32, ¬ z < 0 → z.toInt = (z.toNatClampNeg : Int) := by
    intro z hz
    have hz0 : (0 : Int) ≤ z.toInt := by
      have := Int32.not_lt.mp hz
      simpa using Int32.le_iff_toInt_le.mp this
    show z.toInt = ((z.toInt.toNat : Nat) : Int)
    omega
  have hc0 : H[B + o]? = some (vp_cell (aC 0) (n0, .inl (h.2.1 o))) := hH.2.1 o _ (qm_w_get (aC := aC) (b := b) (B := B) ho)
  have hc1 : H[B + d]? = some (vp_cell (aC 0) (n1, .inl (h.2.1 d))) := hH.2.1 d _ (qm_w_get (aC := aC) (b := b) (B := B) hd)
  obtain ⟨-, k0, hk0, cm0, hkk0⟩ := (hK.2 0 _ rfl).1 n0 (fun j => .int (h.2.1 o j))
  obtain ⟨-, k1, hk1, cm1, hkk1⟩ := (hK.2 0 _ rfl).1 n1 (fun j => .int (h.2.1 d j))
  have hl : B + d < H.size := (Array.getElem?_eq_some_iff.mp hc1).1
  intro T hT X
  obtain ⟨vm', X', step⟩ := X.arraycopy hexec hown hlink hnat hstat hini (src := B + o) (dst := B + d) (cs := vp_cell (aC 0) (n0, .inl (h.2.1 o))) (cd := vp_cell (aC 0) (n1, .inl (h.2.1 d))) (srcPos := sp) (destPos := dp) (n := n) (by rw [hT]; exact hc0) (by rw [hT]; exact hc1)
    (fun _ h => by cases h) (fun _ h => by cases h) (fun h => by cases h) (fun h => by cases h) hk0 hk1 hkk0 hkk1 (by simp [refKind]) h1 h2 h3
    (by rw [nn sp h1, nn n h3]; show ¬ _ > ((arrV (aC 0) n0 (fun j => .int (h.2.1 o j))).slots.size : Int); rw [arrV_size]; omega)
    (by rw [nn dp h2, nn n h3]; show ¬ _ > ((arrV (aC 0) n1 (fun j => .int (h.2.1 d j))).slots.size : Int); rw [arrV_size]; omega)
    (fun vm₁ _ i hi => by
      have e : (vp_cell (aC 0) (n0, .inl (h.2.1 o))).slots.getD (sp.toNatClampNeg + i) .null = .int (h.2.1 o (sp.toNatClampNeg + i)) := by
        show (arrV (aC 0) n0 (fun j => .int (h.2.1 o j))).slots.getD _ _ = _
        rw [Array.getD_eq_getD_getElem?, arrV_read _ _ (by omega)]
        rfl
      rw [e]
      exact ⟨rfl, trivial⟩)
    (g := F0 m pc ls (.int n :: .int dp :: .ref (B + d) :: .int sp :: .ref (B + o) :: rest)) rfl (by rw [hml]) (rest := rest) rfl (by rw [hb]; exact hdg) hframes (by show 2 * 0 + _ + _ ≤ _; omega)
  have e1 : copied (vp_cell (aC 0) (n0, .inl (h.2.1 o))) (vp_cell (aC 0) (n1, .inl (h.2.1 d))) sp dp n = vp_cell (aC 0) (n1, .inl (va_cpy (h.2.1 o) (h.2.1 d) sp.toNatClampNeg dp.toNatClampNeg n.toNatClampNeg)) := va_copied (fun z => .int z) (aC 0) (aC 0) (h.2.1 o) (h.2.1 d) h4
  rw [e1] at X' step
  have hat : qm_cp h.2.1 o sp.toNatClampNeg d dp.toNatClampNeg n.toNatClampNeg d = va_cpy (h.2.1 o) (h.2.1 d) sp.toNatClampNeg dp.toNatClampNeg n.toNatClampNeg := by
    funext i
    have hbb : Nat.beq d d = true := Nat.beq_refl _
    by_cases hi : dp.toNatClampNeg ≤ i ∧ i < dp.toNatClampNeg + n.toNatClampNeg
    · have g1 : Nat.ble dp.toNatClampNeg i = true := Nat.ble_eq_true_of_le hi.1
      have g2 : Nat.blt i (dp.toNatClampNeg + n.toNatClampNeg) = true := Nat.ble_eq_true_of_le hi.2
      simp only [qm_cp, hbb, g1, g2, Bool.and_self, cond_true, va_cpy, if_pos hi]
    · have g3 : (Nat.ble dp.toNatClampNeg i && Nat.blt i (dp.toNatClampNeg + n.toNatClampNeg)) = false := by
        cases g1 : Nat.ble dp.toNatClampNeg i with
        | false => rfl
        | true =>
          cases g2 : Nat.blt i (dp.toNatClampNeg + n.toNatClampNeg) with
          | false => rfl
          | true => exact absurd ⟨Nat.le_of_ble_eq_true g1, Nat.le_of_ble_eq_true g2⟩ hi
      simp only [qm_cp, hbb, g3, Bool.and_false, cond_false, va_cpy, if_neg hi]
  have hne : ∀ j, j ≠ d → qm_cp h.2.1 o sp.toNatClampNeg d dp.toNatClampNeg n.toNatClampNeg j = h.2.1 j := by
    intro j hj
    funext i
    simp only [qm_cp, qm_bne hj, Bool.false_and, cond_false]
  have oq : ∀ q : Nat, q ≠ B + d → (H.setIfInBounds (B + d) (vp_cell (aC 0) (n1, .inl (va_cpy (h.2.1 o) (h.2.1 d) sp.toNatClampNeg dp.toNatClampNeg n.toNatClampNeg))))[q]? = H[q]? := fun q hq => by simp [Array.getElem?_setIfInBounds, Ne.symm hq]
  have hheap : ((T.setVm vm').setCell (B + d) (vp_cell (aC 0) (n1, .inl (va_cpy (h.2.1 o) (h.2.1 d) sp.toNatClampNeg dp.toNatClampNeg n.toNatClampNeg)))).heap = H.setIfInBounds (B + d) (vp_cell (aC 0) (n1, .inl (va_cpy (h.2.1 o) (h.2.1 d) sp.toNatClampNeg dp.toNatClampNeg n.toNatClampNeg))) := by rw [← hT]; rfl
  obtain ⟨t, a1, b1⟩ := kk _ _ (hH.set rfl hd hne (fun j _ => rfl) (fun j _ => rfl) (by
      show (H.setIfInBounds (B + d) _)[B + d]? = some (vp_cell (aC 0) (n1, .inl (qm_cp h.2.1 o sp.toNatClampNeg d dp.toNatClampNeg n.toNatClampNeg d)))
      rw [hat]
      simp [Array.getElem?_setIfInBounds, hl]) (by simp) oq) ⟨by simp; exact hS.1, fun q g1 g2 => by
      rw [oq q (fun e => g2 (by rw [e]; exact Nat.le_add_right B d))]
      exact hS.2.1 q g1 g2, fun q hq => by
      rcases List.mem_append.mp hq with h | h
      · exact hS.2.2 q h
      · obtain ⟨z, -, hz⟩ := List.mem_map.mp h
        rw [← hz]
        exact Nat.le_add_right B d⟩ _ hheap X'
  exact ⟨t, step t a1, b1⟩
end QMC
