/-! rows over the small machine's cells: as the kit's, with the heap's size told -/
section QMR
variable {p : Program} {l : Launch} {e : Env} {R : Room} {s : State} {m : MethodId} {args : Array Value} {below : List Frame} {meth : Method} {c : Code} {H : Heap} {locs : List Loc} {cells slots : Nat} {Q : State → Prop}
variable {cc : ByteArray} {pc : Nat} {ls : Array Slot} {rest : List Value} {D : va_G} {aC : Nat → ClassId} {b B : Nat} {h : qm_H} {H0 : Heap}
theorem qm_r_iast (hexec : p.tables.exec = Jvm.exec) (hb : c.code = cc) (hK : va_K D qm_vc (qm_tys aC) s) (hH : qm_HI D aC b B h H) (hS : va_S (qm_A B) H0 H locs) {o n : Nat} (hk : h.1[o]? = some (0, n)) {i x : Int32} (hin : vp_in i n) (hdg : decode cc pc = .ok (.iastore, 1))
    (kk : ∀ (H1 : Heap) (locs1 : List Loc), qm_HI D aC b B (h.1, qm_up h.2.1 o i.toNatClampNeg x, h.2.2.1, h.2.2.2) H1 → va_S (qm_A B) H0 H1 locs1 → W p l e R s m args below meth c H1 locs1 cells slots Q (F0 m (pc + 1) ls rest)) : W p l e R s m args below meth c H locs cells slots Q (F0 m pc ls (.int x :: .int i :: .ref (B + o) :: rest)) := by
  have ha := hH.2.1 o _ (qm_w_get (aC := aC) (b := b) (B := B) hk)
  refine W.iast hexec hb ha ((hK.2 0 _ rfl).1 n (fun j => .int (h.2.1 o j))) (fun q => by cases q) (by show ¬ (i < 0 ∨ (arrV _ _ _).slots.size ≤ _); rw [arrV_size]; exact hin) rfl rfl hdg fun H1 e z oq => ?_
  refine kk H1 _ (hH.set rfl hk (fun j hj => qm_up_ne hj) (fun j _ => rfl) (fun j _ => rfl) ?_ z oq) (hS.put z oq (Nat.le_add_right B o))
  show H1[B + o]? = some (vp_cell _ _)
  rw [e]
  show some ((vp_cell (aC 0) (n, .inl (h.2.1 o))).setSlot _ _) = _
  rw [vp_cell_i, vp_cell_i, arrV_store]
  congr 2
  funext q
  dsimp only
  rw [qm_up_at]
  by_cases hq : q = i.toNatClampNeg
  · subst hq
    simp [updV]
  · simp [updV, hq]
theorem qm_r_bast (hexec : p.tables.exec = Jvm.exec) (hb : c.code = cc) (hK : va_K D qm_vc (qm_tys aC) s) (hH : qm_HI D aC b B h H) (hS : va_S (qm_A B) H0 H locs) {o n : Nat} (hk : h.1[o]? = some (1, n)) {i x : Int32} (hin : vp_in i n) (hdg : decode cc pc = .ok (.bastore, 1))
    (kk : ∀ (H1 : Heap) (locs1 : List Loc), qm_HI D aC b B (h.1, qm_up h.2.1 o i.toNatClampNeg (vp_nar .byte x), h.2.2.1, h.2.2.2) H1 → va_S (qm_A B) H0 H1 locs1 → W p l e R s m args below meth c H1 locs1 cells slots Q (F0 m (pc + 1) ls rest)) : W p l e R s m args below meth c H locs cells slots Q (F0 m pc ls (.int x :: .int i :: .ref (B + o) :: rest)) := by
  have ha := hH.2.1 o _ (qm_w_get (aC := aC) (b := b) (B := B) hk)
  refine W.bast hexec hb ha ((hK.2 1 _ rfl).1 n (fun j => .int (h.2.1 o j))) (fun q => by cases q) (by show ¬ (i < 0 ∨ (arrV _ _ _).slots.size ≤ _); rw [arrV_size]; exact hin) rfl rfl hdg fun H1 e z oq => ?_
  refine kk H1 _ (hH.set rfl hk (fun j hj => qm_up_ne hj) (fun j _ => rfl) (fun j _ => rfl) ?_ z oq) (hS.put z oq (Nat.le_add_right B o))
  show H1[B + o]? = some (vp_cell _ _)
  rw [e]
  show some ((vp_cell (aC 1) (n, .inl (h.2.1 o))).setSlot _ _) = _
  rw [vp_cell_i, vp_cell_i, arrV_store]
  congr 2
  funext q
  dsimp only
  rw [qm_up_at]
  by_cases hq : q = i.toNatClampNeg
  · subst hq
    simp [updV, vp_nar]
    try rfl
  · simp [updV, hq]
theorem qm_r_zast (hexec : p.tables.exec = Jvm.exec) (hb : c.code = cc) (hK : va_K D qm_vc (qm_tys aC) s) (hH : qm_HI D aC b B h H) (hS : va_S (qm_A B) H0 H locs) {o n : Nat} (hk : h.1[o]? = some (2, n)) {i x : Int32} (hin : vp_in i n) (hdg : decode cc pc = .ok (.bastore, 1))
    (kk : ∀ (H1 : Heap) (locs1 : List Loc), qm_HI D aC b B (h.1, qm_up h.2.1 o i.toNatClampNeg (vp_nar .boolean x), h.2.2.1, h.2.2.2) H1 → va_S (qm_A B) H0 H1 locs1 → W p l e R s m args below meth c H1 locs1 cells slots Q (F0 m (pc + 1) ls rest)) : W p l e R s m args below meth c H locs cells slots Q (F0 m pc ls (.int x :: .int i :: .ref (B + o) :: rest)) := by
  have ha := hH.2.1 o _ (qm_w_get (aC := aC) (b := b) (B := B) hk)
  refine W.zast hexec hb ha ((hK.2 2 _ rfl).1 n (fun j => .int (h.2.1 o j))) (fun q => by cases q) (by show ¬ (i < 0 ∨ (arrV _ _ _).slots.size ≤ _); rw [arrV_size]; exact hin) rfl rfl hdg fun H1 e z oq => ?_
  refine kk H1 _ (hH.set rfl hk (fun j hj => qm_up_ne hj) (fun j _ => rfl) (fun j _ => rfl) ?_ z oq) (hS.put z oq (Nat.le_add_right B o))
  show H1[B + o]? = some (vp_cell _ _)
  rw [e]
  show some ((vp_cell (aC 2) (n, .inl (h.2.1 o))).setSlot _ _) = _
  rw [vp_cell_i, vp_cell_i, arrV_store]
  congr 2
  funext q
  dsimp only
  rw [qm_up_at]
  by_cases hq : q = i.toNatClampNeg
  · subst hq
    simp [updV, vp_nar]
    try rfl
  · simp [updV, hq]
theorem qm_r_last (hexec : p.tables.exec = Jvm.exec) (hb : c.code = cc) (hK : va_K D qm_vc (qm_tys aC) s) (hH : qm_HI D aC b B h H) (hS : va_S (qm_A B) H0 H locs) {o n : Nat} (hk : h.1[o]? = some (3, n)) {i : Int32} {x : Int64} (hin : vp_in i n) (hdg : decode cc pc = .ok (.lastore, 1))
    (kk : ∀ (H1 : Heap) (locs1 : List Loc), qm_HI D aC b B (h.1, h.2.1, qm_up h.2.2.1 o i.toNatClampNeg x, h.2.2.2) H1 → va_S (qm_A B) H0 H1 locs1 → W p l e R s m args below meth c H1 locs1 cells slots Q (F0 m (pc + 1) ls rest)) : W p l e R s m args below meth c H locs cells slots Q (F0 m pc ls (.long x :: .int i :: .ref (B + o) :: rest)) := by
  have ha := hH.2.1 o _ (qm_w_get (aC := aC) (b := b) (B := B) hk)
  refine W.last hexec hb ha ((hK.2 3 _ rfl).1 n (fun j => .long (h.2.2.1 o j))) (fun q => by cases q) (by show ¬ (i < 0 ∨ (arrV _ _ _).slots.size ≤ _); rw [arrV_size]; exact hin) rfl rfl hdg fun H1 e z oq => ?_
  refine kk H1 _ (hH.set rfl hk (fun j _ => rfl) (fun j hj => qm_up_ne hj) (fun j _ => rfl) ?_ z oq) (hS.put z oq (Nat.le_add_right B o))
  show H1[B + o]? = some (vp_cell _ _)
  rw [e]
  show some ((vp_cell (aC 3) (n, .inr (.inl (h.2.2.1 o)))).setSlot _ _) = _
  rw [vp_cell_l, vp_cell_l, arrV_store]
  congr 2
  funext q
  dsimp only
  rw [qm_up_at]
  by_cases hq : q = i.toNatClampNeg
  · subst hq
    simp [updV]
  · simp [updV, hq]
theorem qm_r_aald (hexec : p.tables.exec = Jvm.exec) (hb : c.code = cc) (hK : va_K D qm_vc (qm_tys aC) s) (hH : qm_HI D aC b B h H) {o n : Nat} (hk : h.1[o]? = some (4, n)) {i : Int32} (hin : vp_in i n) (hdg : decode cc pc = .ok (.aaload, 1))
    (kk : W p l e R s m args below meth c H locs cells slots Q (F0 m (pc + 1) ls (qm_cv b B (qm_rv (h.2.2.2 o i.toNatClampNeg)) :: rest))) : W p l e R s m args below meth c H locs cells slots Q (F0 m pc ls (.int i :: .ref (B + o) :: rest)) := by
  have ha := hH.2.1 o _ (qm_w_get (aC := aC) (b := b) (B := B) hk)
  have hlt : i.toNatClampNeg < n := Nat.not_le.mp fun q => hin (Or.inr q)
  rw [qm_cv_rv] at kk
  exact W.aald (v := va_rf (qm_rB B (h.2.2.2 o i.toNatClampNeg))) (ty := .array .int) hexec hb ha ((hK.2 4 _ rfl).1 n (fun j => va_rf (qm_rB B (h.2.2.2 o j)))) rfl (fun q => by cases q) (by show ¬ (i < 0 ∨ (arrV _ _ _).slots.size ≤ _); rw [arrV_size]; exact hin) (by show (arrV _ _ _).slots[_]? = _; rw [arrV_read _ _ hlt]) rfl rfl hdg kk
/-- a field is written -/
theorem qm_r_put (hexec : p.tables.exec = Jvm.exec) (hb : c.code = cc) {own C : String} {T : u_T} {N ci index : Nat} {Ts : List Cond} (hts : ∀ w ∈ Ts, w.before args s = true) (hin : ∀ w ∈ u_ws C T N, w ∈ Ts) (ty0 : Nat → FieldType) (hty : ∀ k, k < N → parseFieldDescriptor (T k).2.2.1 = some (ty0 k)) (hnm : ∀ a, a < N → ∀ b, b < N → a ≠ b → (T a).2.1 ≠ (T b).2.1) (hown : s.vm.findClass own = some m.cls) (hK : va_K D qm_vc (qm_tys aC) s)
    (hH : qm_HI D aC b B h H) (hS0 : va_S (qm_A B) H0 H locs) {o n : Nat} (hk : h.1[o]? = some (ci + 5, n)) (hc : qm_vc[ci]? = some (C, T, N)) {k : Nat} (hkN : k < N) (hlink : (Cond.fieldLink own index (T k).1 (T k).2.1 (T k).2.2.1).before args s = true)
    (hfin : (T k).2.2.2 = true → meth.name = "<init>" ∧ own = (T k).1) {v : Value} (hn : narrow (ty0 k) v = v) (hfit : fits (ty0 k) v = true) {h' : qm_H} (hs : h'.1 = h.1) (hI : ∀ j, j ≠ o → h'.2.1 j = h.2.1 j) (hJ : ∀ j, j ≠ o → h'.2.2.1 j = h.2.2.1 j) (hR : ∀ j, j ≠ o → h'.2.2.2 j = h.2.2.2 j) (hE : qm_fs b B h' o ci = (qm_fs b B h o ci).set k v)
    (hdg : decode cc pc = .ok (.putfield index, 3)) (kk : ∀ (H1 : Heap) (locs1 : List Loc), qm_HI D aC b B h' H1 → va_S (qm_A B) H0 H1 locs1 → W p l e R s m args below meth c H1 locs1 cells slots Q (F0 m (pc + 3) ls rest)) : W p l e R s m args below meth c H locs cells slots Q (F0 m pc ls (v :: .ref (B + o) :: rest)) := by
  have he : (qm_w aC b B h)[o]? = some (B + o, .inr (ci, qm_fs b B h o ci)) := qm_w_get hk
  have hap := va_apart (own := own) hts hin ty0 hty hnm hK hc
  obtain ⟨r, h1, cell, q1, q2, q3, q4⟩ := hH.2.1 o _ he
  have hr : r = (C, T, N) := Option.some.inj (h1.symm.trans hc)
  subst hr
  obtain ⟨hS, hfc, kC, hkC, hkind⟩ := hK.1 ci _ hc
  obtain ⟨cf, kf, fi, f, hi, hsl⟩ := hS k hkN
  have hlay := hts _ (hin _ (u_in_lay hkN))
  have hst := (u_facts hfc hkC (u_lays hts hin hkN) hi).1
  have hnf : qm_nf ci = N := by simp only [qm_nf, hc]
  have hlen : k < (qm_fs b B h o ci).length := by rw [qm_fs_len, hnf]; exact hkN
  have fin : ∀ (H' : Heap), H'[B + o]? = some (cell.setSlot f.slot v) → H'.size = H.size → (∀ q, q ≠ B + o → H'[q]? = H[q]?) → W p l e R s m args below meth c H' (locs ++ [⟨B + o, f.slot⟩]) cells slots Q (F0 m (pc + 3) ls rest) := by
    intro H' e1 e2 e3
    rw [hsl] at e1 ⊢
    refine kk H' _ (hH.set hs hk hI hJ hR ?_ e2 e3) (hS0.put e2 e3 (Nat.le_add_right B o))
    show va_at D qm_vc (B + o, .inr (ci, qm_fs b B h' o ci)) H'
    rw [hE]
    exact ⟨_, hc, t_OB.to (V := updV (vp_V (qm_fs b B h o ci)) k v) ⟨_, e1, q2, q3, t_set q4 hap hkN v⟩ (fun j _ => vp_updV_set hlen v j)⟩
  unfold u_lay at hlay
  by_cases hf : (T k).2.2.2 = true
  · rw [if_pos hf] at hlay
    obtain ⟨hin2, hdecl⟩ := hfin hf
    have hcf : m.cls = cf := by
      obtain ⟨_, _, c', _, _, _, -, -, hf', -, -, -, hown2, -⟩ := Cond.laysFinal_spec hlay
      have e1 : c' = cf := by have := hi.symm.trans hf'; simp at this; exact this.1.symm
      rw [← hdecl] at hown2
      rw [← e1]; exact Option.some.inj (hown.symm.trans hown2)
    have h6 := u_fits hfc hkC hkind (Or.inr hlay) hi (hty k hkN) hn hfit
    exact W.putFinK hexec hb hown hlink hi hst hcf hin2 (by rw [q2]; exact h6) q1 q3 (by rw [hsl]; exact k2_hasslot (q4 k hkN)) rfl rfl hdg fin
  · rw [if_neg hf] at hlay
    have h6 := u_store hfc hkC hkind hlay hi (hty k hkN) hn hfit
    exact W.putK hexec hb (f := f) ⟨hown, hlink, ⟨_, _, _, hi⟩, hst⟩ (by rw [q2]; exact h6) q1 q3 (by rw [hsl]; exact k2_hasslot (q4 k hkN)) rfl rfl hdg fin
end QMR
