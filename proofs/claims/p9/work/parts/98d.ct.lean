/-! contracts of methods, by hand -/
noncomputable def s_Cf (I : Nat → Nat → Int32) : Prop := sf (fun i => (I 11 i).toInt) (fun i => (I 12 i).toInt) (fun i => (I 13 i).toInt) (fun i => (I 14 i).toInt) (fun i => (I 36 i).toInt) (fun i => (I 16 i).toInt) (fun i => (I 17 i).toInt) (I 6 0).toInt
noncomputable def s_Cb (I : Nat → Nat → Int32) : Prop := sf_B (fun i => (I 36 i).toInt)
noncomputable def s_C (I : Nat → Nat → Int32) : Prop := s_Cf I ∧ s_Cb I
noncomputable def s_R (I : Nat → Nat → Int32) : Prop := sr (fun i => (I 150 i).toInt) (fun i => (I 151 i).toInt) (fun i => (I 152 i).toInt) (fun i => (I 153 i).toInt) (fun i => (I 154 i).toInt) (I 118 44).toInt
/-- from any cells of which V holds: an answer, cells of which V holds, and but these objects as they were; longs may change -/
noncomputable def hk_ct (V : (Nat → Nat → Int32) → Prop) (hT : qm_H → Prop) (pre : List Value → (Nat → Nat → Int32) → Prop) (j : Nat) (ro : Option qa_B) (mod : List Nat) (dep : Nat) : Prop := ∀ (L : Nat) (xs : Nat → Int32) (d : Nat) (Z : Option Value → qm_H → Prop) (h : qm_H) (as : List Value), 6 ≤ L → hk_H h → hT h → hk_B h.2.1 → V h.2.1 → pre as h.2.1 → dep ≤ d → (∀ (r : Option Value) (I : Nat → Nat → Int32) (J : Nat → Nat → Int64), qa_rO (some ro) r → hk_B I → V I → (∀ o, mod.contains o = false → ∀ i, I o i = h.2.1 o i) → Z r (h.1, I, J, h.2.2.2)) → qm_Ru (some (L, xs)) d (qm_F j).2 (qm_ent (qm_F j).1 as h) Z
/-- a method's run out of its heads, for a caller by hand -/
theorem qc_run {P : qa_P} {S : qm_H → Prop} {L : Nat} {xs : Nat → Int32} {Z : Option Value → qm_H → Prop} {T : List qa_Nd} {CT : List qa_Ct} {ro : Option qa_B} {D j nl d : Nat} {cd : qm_Cd} {las : List Value} {K0 : qa_K} {rk : List (Nat × Nat × Int)} {h : qm_H} (hL : qa_loc P S) (h6 : 6 ≤ L) (hsb : P.2.2.2.2.2 = []) (hC : ∀ q ∈ CT, qa_hc P S (some (L, xs)) q) (hN : ∀ nd ∈ T, qa_nok P CT (some ro) D T nd) (h0 : (j, (0, las, [], K0), [], rk) ∈ T) (hF : qm_F j = (nl, cd)) (hj : Nat.beq j 1000 = false) (p : List Int32) (p0 : p[0]? = some 0) (hs : qa_sat p K0) (hp : qa_hp p K0 h) {as : List Value} (hG : qa_G p las (qm_la as ++ List.replicate (nl - (qm_la as).length) (.float 0))) (hI : qa_Inv P S h) (hd : D ≤ d) (k : ∀ r h', qa_rO (some ro) r → qa_Inv P S h' → Z r h') : qm_Ru (some (L, xs)) d cd (qm_ent nl as h) Z := by
  refine qm_Ru.deep (d0 := D) ?_ hd
  have e0 : (0 : Int32).toInt = 0 := rfl
  have w := qa_nodes (i0 := 0) (qa_loc_K hL) ⟨L, xs, rfl, by omega, by omega, by rw [hsb]; exact qb_nb⟩ hC (fun r h hr hi => k r h hr hi) (fun c => nomatch c) hN _ _ h0 p (qm_ent nl as h) [] D p0 rfl ⟨rfl, hG, rfl, hs, hp, hI⟩ rfl rfl
  unfold qa_run at w
  have e : qm_cod qm_F j = cd := by
    unfold qm_cod
    rw [hj, hF]
    rfl
  rw [e] at w
  exact w
/-- the same cells, but for objects of a list and longs -/
noncomputable def qc_S (h : qm_H) (mod : List Nat) (h' : qm_H) : Prop := h'.1 = h.1 ∧ h'.2.2.2 = h.2.2.2 ∧ ∀ o, mod.contains o = false → ∀ i, h'.2.1 o i = h.2.1 o i
noncomputable def qc_foot (mod : List Nat) : List Nat := (List.range 192).filter fun o => !mod.contains o
theorem qc_loc {h : qm_H} {mod : List Nat} {t1 t2 : Nat} : qa_loc (qa_PC t1 t2 (qc_foot mod)) (qc_S h mod) := by
  intro h' I J e hS
  refine ⟨hS.1, hS.2.1, fun o ho i => ?_⟩
  rw [← hS.2.2 o ho i]
  refine e o i ?_
  by_cases c : o < 192
  · refine Or.inl (List.contains_iff_mem.mpr (List.mem_filter.mpr ⟨List.mem_range.mpr c, ?_⟩))
    rw [ho]
    rfl
  · exact Or.inr (Or.inl (qa_Psh_no (by omega)))
theorem qc_loc0 {h : qm_H} {mod : List Nat} : qa_loc (qa_P0 (qc_foot mod)) (qc_S h mod) := by
  intro h' I J e hS
  refine ⟨hS.1, hS.2.1, fun o ho i => ?_⟩
  rw [← hS.2.2 o ho i]
  refine e o i ?_
  by_cases c : o < 192
  · refine Or.inl (List.contains_iff_mem.mpr (List.mem_filter.mpr ⟨List.mem_range.mpr c, ?_⟩))
    rw [ho]
    rfl
  · exact Or.inr (Or.inl (qa_Psh_no (by omega)))
/-- rules of cells out of what holds -/
noncomputable def hk_ru (I : Nat → Nat → Int32) : Prop := ∀ r ∈ qa_rules, ∀ i, (I r.1 i).toInt = r.2.1 → qa_in r.2.2.2 (I r.2.2.1 i)
theorem hk_ru_of {I : Nat → Nat → Int32} (hC : sf_R (fun i => (I 11 i).toInt) (fun i => (I 12 i).toInt) (fun i => (I 13 i).toInt) (fun i => (I 14 i).toInt)) (hR : ∀ i, (I 150 i).toInt = 2 → 0 ≤ (I 151 i).toInt ∧ (I 151 i).toInt ≤ 15) : hk_ru I := by
  refine List.forall_mem_cons.mpr ⟨fun i e => ((hC i).1 e).1, List.forall_mem_cons.mpr ⟨fun i e => ((hC i).1 e).2.1, List.forall_mem_cons.mpr ⟨fun i e => ((hC i).1 e).2.2, List.forall_mem_cons.mpr ⟨fun i e => ((hC i).2 e).1, List.forall_mem_cons.mpr ⟨fun i e => ((hC i).2 e).2, List.forall_mem_cons.mpr ⟨fun i e => hR i e, fun _ h => absurd h List.not_mem_nil⟩⟩⟩⟩⟩⟩
theorem qa_Inv_of {S : qm_H → Prop} {t1 t2 : Nat} {foot : List Nat} {h : qm_H} (hH : hk_H h) (hT : h.2.2.2 0 9 = some t2 ∧ h.2.2.2 28 2 = some t1) (hB : hk_B h.2.1) (hS : S h) (hr : hk_ru h.2.1) : qa_Inv (qa_PC t1 t2 foot) S h := by
  refine ⟨hH.1, hB, fun o i w e => ?_, hS, fun r hr1 _ _ i e => hr r hr1 i e⟩
  have e : (bif Nat.beq o 0 && Nat.beq i 9 then some (some t2) else (bif Nat.beq o 28 && Nat.beq i 2 then some (some t1) else qa_Rt0 o i)) = some w := e
  cases c1 : Nat.beq o 0 && Nat.beq i 9 with
  | true =>
    rw [c1, cond_true] at e
    rw [Bool.and_eq_true] at c1
    rw [Nat.eq_of_beq_eq_true c1.1, Nat.eq_of_beq_eq_true c1.2, hT.1]
    exact Option.some.inj e
  | false =>
    rw [c1, cond_false] at e
    cases c2 : Nat.beq o 28 && Nat.beq i 2 with
    | true =>
      rw [c2, cond_true] at e
      rw [Bool.and_eq_true] at c2
      rw [Nat.eq_of_beq_eq_true c2.1, Nat.eq_of_beq_eq_true c2.2, hT.2]
      exact Option.some.inj e
    | false =>
      rw [c2, cond_false] at e
      exact hH.2 o i w e
theorem qa_Inv_of0 {S : qm_H → Prop} {foot : List Nat} {h : qm_H} (hH : hk_H h) (hB : hk_B h.2.1) (hS : S h) (hr : hk_ru h.2.1) : qa_Inv (qa_P0 foot) S h := ⟨hH.1, hB, hH.2, hS, fun r hr1 _ _ i e => hr r hr1 i e⟩
