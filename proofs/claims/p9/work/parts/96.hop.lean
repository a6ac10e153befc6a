/-! an op out of its heads -/
/-- where an op begins -/
noncomputable def qb_nd (j : Nat) (rk : List (Nat × Nat × Int)) : qa_Nd := (1000, (qb_pc j, [.retAddr 0, .ref 0, .ref 118, .retAddr 1], [], (1, [(0, 0, 3066)], [], [], [], [])), [], rk)
theorem qb_hop {P : qa_P} {S : qm_H → Prop} {L : Nat} {xs : Nat → Int32} {Z : Option Value → qm_H → Prop} {T : List qa_Nd} {CT : List qa_Ct} {D j : Nat} {rk : List (Nat × Nat × Int)} (hL : qa_locK P S) (hC : ∀ q ∈ CT, qa_hc P S (some (L, xs)) q) (hN : ∀ nd ∈ T, qa_nok P CT none D T nd) (h0 : qb_nd j rk ∈ T) (hl : L ≤ 3072) (i : Int32) (h : qm_H) (i0 : 0 ≤ i.toInt) (i1 : i.toInt + 5 < (L : Int)) (hb : ∀ c, c < 6 → qa_in (P.2.2.2.2.2.getD c qa_full) (xs (i.toInt.toNat + c))) (hI : qa_Inv P S h) (hE : ∀ (h : qm_H) (x : Int32), x.toInt = i.toInt + 6 → qa_Inv P S h → qm_Ru (some (L, xs)) D cd_law (18, qb_l x, [], h) Z) : qm_Ru (some (L, xs)) D cd_law (qb_pc j, qb_l i, [], h) Z := by
  have hs : qa_sat [i] (qb_nd j rk).2.1.2.2.2 := by
    refine ⟨rfl, fun q hq => ?_, fun q hq => ?_, fun q hq => ?_⟩
    · rcases List.mem_cons.mp hq with rfl | hq
      · refine ⟨i, rfl, ?_⟩
        show (0 : Int) ≤ i.toInt ∧ i.toInt ≤ 3066
        omega
      · exact absurd hq List.not_mem_nil
    · exact absurd hq List.not_mem_nil
    · exact absurd hq List.not_mem_nil
  have hp : qa_hp [i] (qb_nd j rk).2.1.2.2.2 h := ⟨fun q hq => absurd hq List.not_mem_nil, fun q hq => absurd hq List.not_mem_nil⟩
  have hg : qa_g [i] (.retAddr 1) (.int i) := ⟨i, rfl, rfl⟩
  have hr : qa_rel P S [i] (qb_nd j rk).2.1 (qb_pc j, qb_l i, [], h) := ⟨rfl, ⟨_, _, rfl, rfl, _, _, rfl, rfl, _, _, rfl, rfl, _, _, rfl, hg, rfl⟩, rfl, hs, hp, hI⟩
  exact qa_nodes (i0 := i) hL ⟨L, xs, rfl, i0, i1, hb⟩ hC (fun _ _ h => absurd h id) (fun _ => hE) hN _ (qb_nd j rk) h0 [i] (qb_pc j, qb_l i, [], h) [] D rfl rfl hr rfl rfl
/-- bounds of ints of which nothing is told -/
theorem qb_nb {xs : Nat → Int32} {n : Nat} : ∀ c, c < 6 → qa_in (([] : List qa_B).getD c qa_full) (xs (n + c)) := fun _ _ => qa_in_full _
