/-! new cells, and ints copied -/
theorem qm_w_push {aC : Nat → ClassId} {b B : Nat} {h : qm_H} (q : Nat × Nat) : qm_w aC b B (h.1 ++ [q], h.2) = qm_w aC b B h ++ [(B + h.1.length, qm_E aC b B h h.1.length q)] := by
  have hE : ∀ k z, qm_E aC b B (h.1 ++ [q], h.2) k z = qm_E aC b B h k z := fun k z => qm_E_off rfl rfl rfl z
  have hlen : (qm_w aC b B h).length = h.1.length := by simp [qm_w]
  apply List.ext_getElem?
  intro i
  by_cases hi : i < h.1.length
  · have hq : h.1[i]? = some h.1[i] := List.getElem?_eq_getElem hi
    rw [qm_w_get (h := (h.1 ++ [q], h.2)) (q := h.1[i]) (by rw [List.getElem?_append_left hi]; exact hq), List.getElem?_append_left (by rw [hlen]; exact hi), qm_w_get hq, hE]
  · by_cases he : i = h.1.length
    · subst he
      rw [qm_w_get (h := (h.1 ++ [q], h.2)) (q := q) (by simp), List.getElem?_append_right (by rw [hlen]; exact Nat.le_refl _), hlen, Nat.sub_self, hE]
      rfl
    · rw [List.getElem?_eq_none (by simp [qm_w]; omega), List.getElem?_eq_none (by simp [qm_w]; omega)]
theorem qm_HI.push {D : va_G} {aC : Nat → ClassId} {b B : Nat} {h : qm_H} {H H1 : Heap} {q : Nat × Nat} (hH : qm_HI D aC b B h H) (z : H1.size = H.size + 1) (oq : ∀ x : Nat, x < H.size → H1[x]? = H[x]?) (he : va_at D qm_vc (H.size, qm_E aC b B h h.1.length q) H1) : qm_HI D aC b B (h.1 ++ [q], h.2) H1 := by
  obtain ⟨h1, h2, h3⟩ := hH
  refine ⟨by rw [z, h1]; simp; omega, ?_, fun j i hj => h3 j i (by simp at hj; omega)⟩
  rw [qm_w_push]
  refine (h2.kept (fun k x hx => oq x.1 ((h2 k x hx).lt))).app (fun k x hx => ?_)
  have hz : k < 1 := (List.getElem?_eq_some_iff.mp hx).1
  rw [show k = 0 by omega] at hx
  cases hx
  rw [← h1]
  exact he
theorem qm_S_push {B : Nat} {H0 H H1 : Heap} {locs : List Loc} (hS : va_S (qm_A B) H0 H locs) (z : H.size ≤ H1.size) (oq : ∀ x : Nat, x < H.size → H1[x]? = H[x]?) : va_S (qm_A B) H0 H1 locs :=
  ⟨Nat.le_trans hS.1 z, fun x h1 h2 => (oq x (Nat.lt_of_lt_of_le h1 hS.1)).trans (hS.2.1 x h1 h2), hS.2.2⟩
section QMN
variable {p : Program} {l : Launch} {e : Env} {R : Room} {s : State} {m : MethodId} {args : Array Value} {below : List Frame} {meth : Method} {c : Code} {H : Heap} {locs : List Loc} {cells slots : Nat} {Q : State → Prop}
variable {cc : ByteArray} {pc : Nat} {ls : Array Slot} {rest : List Value} {D : va_G} {aC : Nat → ClassId} {b B : Nat} {h : qm_H} {H0 : Heap}
theorem qm_r_newa (hexec : p.tables.exec = Jvm.exec) (hb : c.code = cc) {atype : ArrayType} {a : Nat} (hat : qm_akind atype = a) (ha4 : a < 4) (harr : (Cond.arrayClass (newarray.typeOf atype)).before args s = true) (hK : va_K D qm_vc (qm_tys aC) s) (hH : qm_HI D aC b B h H) (hS : va_S (qm_A B) H0 H locs)
    {n : Int32} (hn : vp_in n 100000) (hcells : cells + 1 ≤ R.cells) (hslots : slots + n.toNatClampNeg ≤ R.slots) (hdg : decode cc pc = .ok (.newarray atype, 2))
    (kk : ∀ (H1 : Heap), qm_HI D aC b B (h.1 ++ [(a, n.toNatClampNeg)], h.2) H1 → va_S (qm_A B) H0 H1 locs → W p l e R s m args below meth c H1 locs (cells + 1) (slots + n.toNatClampNeg) Q (F0 m (pc + 2) ls (.ref (B + h.1.length) :: rest))) : W p l e R s m args below meth c H locs cells slots Q (F0 m pc ls (.int n :: rest)) := by
  have hn0 : ¬ n < 0 := fun q => hn (Or.inl q)
  have hnl : n.toNatClampNeg < 100000 := Nat.not_le.mp fun q => hn (Or.inr q)
  have z0 : ∀ i, h.2.1 h.1.length i = 0 := fun i => (hH.2.2 _ i (Nat.le_refl _)).1
  have z1 : ∀ i, h.2.2.1 h.1.length i = 0 := fun i => (hH.2.2 _ i (Nat.le_refl _)).2.1
  have f0 : h.2.1 h.1.length = fun _ => 0 := funext z0
  have f1 : h.2.2.1 h.1.length = fun _ => 0 := funext z1
  have hsz := hH.1
  refine va_newaK hexec hb harr rfl hdg rfl hn0 rfl (by cases atype <;> simp [newarray.typeOf, componentBytes] <;> omega) hcells hslots rfl fun H1 cA e1 q1 o1 hAr hNm => ?_
  rw [← hsz] at kk
  refine kk H1 (hH.push q1 o1 ?_) (qm_S_push hS (by omega) o1)
  cases atype with
  | int =>
    subst hat
    show H1[H.size]? = some _
    have ec : cA = aC 0 := Option.some.inj (hNm.symm.trans (hK.2 0 _ rfl).2)
    rw [e1, ec]
    show _ = some (vp_cell (aC 0) (n.toNatClampNeg, .inl (h.2.1 h.1.length)))
    rw [f0]
    rfl
  | byte =>
    subst hat
    show H1[H.size]? = some _
    have ec : cA = aC 1 := Option.some.inj (hNm.symm.trans (hK.2 1 _ rfl).2)
    rw [e1, ec]
    show _ = some (vp_cell (aC 1) (n.toNatClampNeg, .inl (h.2.1 h.1.length)))
    rw [f0]
    rfl
  | boolean =>
    subst hat
    show H1[H.size]? = some _
    have ec : cA = aC 2 := Option.some.inj (hNm.symm.trans (hK.2 2 _ rfl).2)
    rw [e1, ec]
    show _ = some (vp_cell (aC 2) (n.toNatClampNeg, .inl (h.2.1 h.1.length)))
    rw [f0]
    rfl
  | long =>
    subst hat
    show H1[H.size]? = some _
    have ec : cA = aC 3 := Option.some.inj (hNm.symm.trans (hK.2 3 _ rfl).2)
    rw [e1, ec]
    show _ = some (vp_cell (aC 3) (n.toNatClampNeg, .inr (.inl (h.2.2.1 h.1.length))))
    rw [f1]
    rfl
  | _ => subst hat; exact absurd ha4 (by decide)
theorem qm_r_new (hexec : p.tables.exec = Jvm.exec) (hb : c.code = cc) {own C : String} {T : u_T} {N ci index : Nat} {Ts : List Cond} (hts : ∀ w ∈ Ts, w.before args s = true) (hin : ∀ w ∈ u_ws C T N, w ∈ Ts) (hty : ∀ k, k < N → parseFieldDescriptor (T k).2.2.1 = some (qm_ty ci k)) (htok : ∀ k, k < N → qm_tyok (qm_ty ci k) = true) (hown : s.vm.findClass own = some m.cls) (hcl : (Cond.classLink own index C).before args s = true) (hinst : (Cond.instantiable C N).before args s = true) (hini : (Cond.initialized C).before args s = true)
    (hK : va_K D qm_vc (qm_tys aC) s) (hH : qm_HI D aC b B h H) (hS : va_S (qm_A B) H0 H locs) (hc : qm_vc[ci]? = some (C, T, N)) (hcells : cells + 1 ≤ R.cells) (hslots : slots + N ≤ R.slots) (hdg : decode cc pc = .ok (.new index, 3))
    (kk : ∀ (H1 : Heap), qm_HI D aC b B (h.1 ++ [(ci + 5, N)], h.2) H1 → va_S (qm_A B) H0 H1 locs → W p l e R s m args below meth c H1 locs (cells + 1) (slots + N) Q (F0 m (pc + 3) ls (.ref (B + h.1.length) :: rest))) : W p l e R s m args below meth c H locs cells slots Q (F0 m pc ls rest) := by
  have hKn := hK.1 ci _ hc
  have hsz := hH.1
  refine W.newcK hexec hb hown hcl hinst hini rfl hdg hcells hslots hKn.2.1 rfl fun H1 kC hkC e1 z1 o1 => ?_
  rw [← hsz] at kk
  refine kk H1 (hH.push z1 o1 ?_) (qm_S_push hS (by omega) o1)
  refine ⟨_, hc, (u_born (qm_ty ci) hts hin hKn hkC e1 hty).to (fun j hj => ?_)⟩
  have hnf : qm_nf ci = N := by simp only [qm_nf, hc]
  have hg := qm_fs_get (b := b) (B := B) (h := h) (k := h.1.length) (ci := ci) (j := j) (by rw [hnf]; exact hj)
  have hzz := hH.2.2 h.1.length j (Nat.le_refl _)
  show defaultValue (qm_ty ci j) = vp_V (qm_fs b B h h.1.length ci) j
  have hto := htok j hj
  unfold vp_V
  rw [List.getD_eq_getElem?_getD, hg]
  generalize qm_ty ci j = ty at hto ⊢
  cases ty <;> simp [qm_tyok] at hto <;> simp [qm_tg, qm_tv, qm_rv, qm_cv, hzz.1, hzz.2.1, hzz.2.2, defaultValue]
theorem qm_r_mna (hexec : p.tables.exec = Jvm.exec) (hb : c.code = cc) {own : String} {index : Nat} (hown : s.vm.findClass own = some m.cls) (hclink : (Cond.classLink own index ("[" ++ (FieldType.array .int).toString)).before args s = true) (hover : (Cond.arrayOver (.array .int)).before args s = true) (harr : (Cond.arrayClass .int).before args s = true)
    (hK : va_K D qm_vc (qm_tys aC) s) (hH : qm_HI D aC b B h H) (hS : va_S (qm_A B) s.heap H locs) (hBH : B ≤ H.size) {n k : Int32} (hn : vp_in n 1000) (hk : vp_in k 1000) (hcells : cells + (1 + n.toNatClampNeg) ≤ R.cells) (hslots : slots + (n.toNatClampNeg + n.toNatClampNeg * k.toNatClampNeg) ≤ R.slots) (hdg : decode cc pc = .ok (.multianewarray index 2, 4))
    (kk : ∀ (H1 : Heap), qm_HI D aC b B (h.1 ++ ((4, n.toNatClampNeg) :: List.replicate n.toNatClampNeg (0, k.toNatClampNeg)), h.2.1, h.2.2.1, qm_mr h.2.2.2 h.1.length n.toNatClampNeg) H1 → va_S (qm_A B) s.heap H1 locs → W p l e R s m args below meth c H1 locs (cells + 1 + n.toNatClampNeg) (slots + n.toNatClampNeg + n.toNatClampNeg * k.toNatClampNeg) Q (F0 m (pc + 4) ls (.ref (B + h.1.length) :: rest))) : W p l e R s m args below meth c H locs cells slots Q (F0 m pc ls (.int k :: .int n :: rest)) := by
  have hn0 : ¬ n < 0 := fun q => hn (Or.inl q)
  have hk0 : ¬ k < 0 := fun q => hk (Or.inl q)
  have hnl : n.toNatClampNeg < 1000 := Nat.not_le.mp fun q => hn (Or.inr q)
  have hkl : k.toNatClampNeg < 1000 := Nat.not_le.mp fun q => hk (Or.inr q)
  obtain ⟨h1, h2, h3⟩ := hH
  intro T hT Xs
  obtain ⟨vm₁, cA, comp, fA, fC, X', step⟩ := qm_multi Xs hexec hown hclink hover harr (g := F0 m pc ls (.int k :: .int n :: rest)) rfl (by rw [hb]; exact hdg) rfl hn0 hk0 (by omega) (by omega) hcells hslots
  have ec : comp = aC 0 := Option.some.inj (fC.symm.trans (hK.2 0 _ rfl).2)
  have eA : cA = aC 4 := Option.some.inj (fA.symm.trans (hK.2 4 _ rfl).2)
  subst ec
  subst eA
  generalize hN : n.toNatClampNeg = N' at *
  generalize hM : k.toNatClampNeg = K' at *
  generalize hF : qm_mf (T.setVm vm₁) (aC 4) (aC 0) N' K' N' = F at X' step
  have hTh : (T.setVm vm₁).heap = H := hT
  have f1 := qm_mf_size (T.setVm vm₁) (aC 4) (aC 0) N' K' N'
  have f2 := qm_mf_out (T.setVm vm₁) (aC 4) (aC 0) N' K' N'
  rw [hF, hTh] at f1 f2
  have hold : ∀ x : Nat, x < H.size → F.heap[x]? = H[x]? := fun x hx => by
    have := qm_mf_old (T.setVm vm₁) (aC 4) (aC 0) N' K' (a := x) (by rw [hTh]; exact hx) N'
    rw [hF, hTh] at this
    exact this
  have hrow : ∀ j : Nat, j < N' → F.heap[H.size + 1 + j]? = some (arrV (aC 0) K' (fun _ => .int 0)) := fun j hj => by
    have := qm_mf_in (T.setVm vm₁) (aC 4) (aC 0) N' K' N' j hj
    rw [hF, hTh] at this
    exact this
  rw [← h1] at kk
  have hfin : qm_HI D aC b B (h.1 ++ ((4, N') :: List.replicate N' (0, K')), h.2.1, h.2.2.1, qm_mr h.2.2.2 h.1.length N') F.heap := by
    have hmne : ∀ j, j ≠ h.1.length → qm_mr h.2.2.2 h.1.length N' j = h.2.2.2 j := by
      intro j hj
      funext i
      have : Nat.beq j h.1.length = false := qm_bne hj
      simp [qm_mr, this]
    refine ⟨by rw [f1, h1]; simp; omega, fun i x hx => ?_, fun j i hj => ?_⟩
    · obtain ⟨q, hq, rfl⟩ := qm_w_inv hx
      have hq : (h.1 ++ ((4, N') :: List.replicate N' (0, K')))[i]? = some q := hq
      by_cases hl : i < h.1.length
      · rw [List.getElem?_append_left hl] at hq
        have hx0 := h2 i _ (qm_w_get (aC := aC) (b := b) (B := B) hq)
        have hE := qm_E_off (aC := aC) (b := b) (B := B) (h := h) (h' := (h.1 ++ ((4, N') :: List.replicate N' (0, K')), h.2.1, h.2.2.1, qm_mr h.2.2.2 h.1.length N')) (j := i) rfl rfl (hmne i (by omega)) q
        rw [hE]
        exact hx0.kept (hold _ hx0.lt)
      · rw [List.getElem?_append_right (by omega)] at hq
        by_cases he : i = h.1.length
        · subst he
          rw [Nat.sub_self] at hq
          cases hq
          show F.heap[B + h.1.length]? = some _
          rw [← h1, f2]
          unfold qm_mo
          show _ = some (vp_cell (aC 4) (N', .inr (.inr (.inr (.inr (fun i => qm_rB B (qm_mr h.2.2.2 h.1.length N' h.1.length i)))))))
          rw [vp_cell_q]
          congr 2
          funext j
          by_cases hj : j < N'
          · have hbl : Nat.blt j N' = true := Nat.ble_eq_true_of_le hj
            have hbb : Nat.beq h.1.length h.1.length = true := Nat.beq_refl _
            have e9 : H.size + 1 + j = B + (h.1.length + 1 + j) := by omega
            simp only [qm_mr, hbl, hbb, Bool.and_self, cond_true, qm_rB, if_pos hj, e9]
          · have hz := (h3 h.1.length j (Nat.le_refl _)).2.2
            have hbl : Nat.blt j N' = false := by
              cases hb9 : Nat.blt j N' with
              | false => rfl
              | true => exact absurd (Nat.le_of_ble_eq_true hb9) hj
            simp only [qm_mr, hbl, Bool.and_false, cond_false, qm_rB, if_neg hj, hz]
        · obtain ⟨t, ht⟩ : ∃ t, i - h.1.length = t + 1 := ⟨i - h.1.length - 1, by omega⟩
          rw [ht, List.getElem?_cons_succ] at hq
          have htl : t < N' := by
            have := (List.getElem?_eq_some_iff.mp hq).1
            simpa using this
          rw [List.getElem?_replicate, if_pos htl] at hq
          cases hq
          show F.heap[B + i]? = some (vp_cell (aC 0) (K', .inl (h.2.1 i)))
          have hi0 : B + i = H.size + 1 + t := by omega
          rw [hi0, hrow t htl, vp_cell_i]
          have hz : h.2.1 i = fun _ => 0 := funext fun z => (h3 i z (by omega)).1
          rw [hz]
    · have hj : (h.1 ++ ((4, N') :: List.replicate N' (0, K'))).length ≤ j := hj
      have hj' : h.1.length < j := by simp at hj; omega
      refine ⟨(h3 j i (by omega)).1, (h3 j i (by omega)).2.1, ?_⟩
      show qm_mr h.2.2.2 h.1.length N' j i = none
      rw [hmne j (by omega)]
      exact (h3 j i (by omega)).2.2
  have X' := Stand.forget X' (fun y hy => by
    obtain ⟨j, -, rfl⟩ := List.mem_map.mp hy
    show s.heap.size ≤ T.heap.size
    rw [hT]
    exact hS.1)
  obtain ⟨t, a1, b1⟩ := kk F.heap hfin (qm_S_push hS (by omega) hold) F rfl X'
  exact ⟨t, step t (by rw [hT]; exact a1), b1⟩
end QMN
