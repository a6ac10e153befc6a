/-! readTokens of the class: what it needs -/
noncomputable def qa_RtR (t o i : Nat) : Option (Option Nat) := bif Nat.beq o 3 && Nat.beq i 3 then some (some t) else qa_Rt0 o i
/-- the reader's terms are those at t -/
noncomputable def qa_PR (t : Nat) (foot : List Nat) : qa_P := (qa_Psh, qa_Ptb, qa_RtR t, foot, qa_rules, [])
theorem qc_locR {h : qm_H} {mod : List Nat} {t : Nat} : qa_loc (qa_PR t (qc_foot mod)) (qc_S h mod) := by
  intro h' I J e hS
  refine ⟨hS.1, hS.2.1, fun o ho i => ?_⟩
  rw [← hS.2.2 o ho i]
  refine e o i ?_
  by_cases c : o < 192
  · refine Or.inl (List.contains_iff_mem.mpr (List.mem_filter.mpr ⟨List.mem_range.mpr c, ?_⟩))
    rw [ho]
    rfl
  · exact Or.inr (Or.inl (qa_Psh_no (by omega)))
theorem qa_Inv_ofR {S : qm_H → Prop} {t : Nat} {foot : List Nat} {h : qm_H} (hH : hk_H h) (hR : h.2.2.2 3 3 = some t) (hB : hk_B h.2.1) (hS : S h) (hr : hk_ru h.2.1) : qa_Inv (qa_PR t foot) S h := by
  refine ⟨hH.1, hB, fun o i w e => ?_, hS, fun r hr1 _ _ i e => hr r hr1 i e⟩
  have e : (bif Nat.beq o 3 && Nat.beq i 3 then some (some t) else qa_Rt0 o i) = some w := e
  cases c1 : Nat.beq o 3 && Nat.beq i 3 with
  | true =>
    rw [c1, cond_true] at e
    rw [Bool.and_eq_true] at c1
    rw [Nat.eq_of_beq_eq_true c1.1, Nat.eq_of_beq_eq_true c1.2, hR]
    exact Option.some.inj e
  | false =>
    rw [c1, cond_false] at e
    exact hH.2 o i w e
/-! the kind of a word: an int from 0 to 26 -/
theorem hk_link {X : Option (Nat × (Nat → Int32))} {d : Nat} {cd : qm_Cd} {Z : Option Value → qm_H → Prop} {p0 p1 p2 p3 p4 p5 p6 pz : Nat} {w x : Int64} {k : Int32} {i1 : Nat} {i2 n4 : Int} {t : List Value} {h : qm_H}
    (f0 : qm_fetch cd p0 = some (p0, p1, .lload_n 0, 0, 0, .null)) (f1 : qm_fetch cd p1 = some (p1, p2, .ldc2_w i1, 0, 0, .long w)) (f2 : qm_fetch cd p2 = some (p2, p3, .lcmp, 0, 0, .null)) (f3 : qm_fetch cd p3 = some (p3, p4, .ifCond .ne i2, pz, 0, .null)) (f4 : qm_fetch cd p4 = some (p4, p5, .bipush n4, 0, 0, .int k)) (f5 : qm_fetch cd p5 = some (p5, p6, .ireturn, 0, 0, .null))
    (k1 : Z (some (.int k)) h) (k2 : qm_Ru X d cd (pz, .long x :: t, [], h) Z) : qm_Ru X d cd (p0, .long x :: t, [], h) Z := by
  refine qm_Ru.nx (c' := (p1, .long x :: t, [.long x], h)) (by unfold qm_step; rw [f0]; rfl) ?_
  refine qm_Ru.nx (c' := (p2, .long x :: t, [.long w, .long x], h)) (by unfold qm_step; rw [f1]; rfl) ?_
  refine qm_Ru.nx (c' := (p3, .long x :: t, [.int (lg_cmp x w)], h)) (by unfold qm_step; rw [f2]; rfl) ?_
  refine qm_Ru.br (b := qm_cz .ne (lg_cmp x w)) (c1 := (pz, .long x :: t, [], h)) (c2 := (p4, .long x :: t, [], h)) (by unfold qm_step; rw [f3]; rfl) (fun _ => k2) (fun _ => ?_)
  refine qm_Ru.nx (c' := (p5, .long x :: t, [.int k], h)) (by unfold qm_step; rw [f4]; rfl) ?_
  exact qm_Ru.rt (v := some (.int k)) (h' := h) (by unfold qm_step; rw [f5]; rfl) k1
theorem hs_kind {X : Option (Nat × (Nat → Int32))} {d : Nat} {Z : Option Value → qm_H → Prop} {x : Int64} {h : qm_H} (k : ∀ v : Int32, qa_in (0, 26) v → Z (some (.int v)) h) : qm_Ru X d cd_382 (qm_ent 7 [.long x] h) Z := by
  show qm_Ru X d cd_382 (0, .long x :: (.float 0 :: ([] ++ List.replicate 5 (.float 0))), [], h) Z
  refine hk_link (p0 := 0) (p1 := 1) (p2 := 4) (p3 := 5) (p4 := 8) (p5 := 9) (p6 := 10) (pz := 10) rfl rfl rfl rfl rfl rfl (k 0 ⟨by decide, by decide⟩) ?_
  refine hk_link (p0 := 10) (p1 := 11) (p2 := 14) (p3 := 15) (p4 := 18) (p5 := 19) (p6 := 20) (pz := 20) rfl rfl rfl rfl rfl rfl (k 1 ⟨by decide, by decide⟩) ?_
  refine hk_link (p0 := 20) (p1 := 21) (p2 := 24) (p3 := 25) (p4 := 28) (p5 := 29) (p6 := 30) (pz := 30) rfl rfl rfl rfl rfl rfl (k 2 ⟨by decide, by decide⟩) ?_
  refine hk_link (p0 := 30) (p1 := 31) (p2 := 34) (p3 := 35) (p4 := 38) (p5 := 39) (p6 := 40) (pz := 40) rfl rfl rfl rfl rfl rfl (k 3 ⟨by decide, by decide⟩) ?_
  refine hk_link (p0 := 40) (p1 := 41) (p2 := 44) (p3 := 45) (p4 := 48) (p5 := 49) (p6 := 50) (pz := 50) rfl rfl rfl rfl rfl rfl (k 4 ⟨by decide, by decide⟩) ?_
  refine hk_link (p0 := 50) (p1 := 51) (p2 := 54) (p3 := 55) (p4 := 58) (p5 := 59) (p6 := 60) (pz := 60) rfl rfl rfl rfl rfl rfl (k 5 ⟨by decide, by decide⟩) ?_
  refine hk_link (p0 := 60) (p1 := 61) (p2 := 64) (p3 := 65) (p4 := 68) (p5 := 69) (p6 := 70) (pz := 70) rfl rfl rfl rfl rfl rfl (k 6 ⟨by decide, by decide⟩) ?_
  refine hk_link (p0 := 70) (p1 := 71) (p2 := 74) (p3 := 75) (p4 := 78) (p5 := 79) (p6 := 80) (pz := 80) rfl rfl rfl rfl rfl rfl (k 7 ⟨by decide, by decide⟩) ?_
  refine hk_link (p0 := 80) (p1 := 81) (p2 := 84) (p3 := 85) (p4 := 88) (p5 := 89) (p6 := 90) (pz := 90) rfl rfl rfl rfl rfl rfl (k 8 ⟨by decide, by decide⟩) ?_
  refine hk_link (p0 := 90) (p1 := 91) (p2 := 94) (p3 := 95) (p4 := 98) (p5 := 99) (p6 := 100) (pz := 100) rfl rfl rfl rfl rfl rfl (k 9 ⟨by decide, by decide⟩) ?_
  refine hk_link (p0 := 100) (p1 := 101) (p2 := 104) (p3 := 105) (p4 := 108) (p5 := 109) (p6 := 110) (pz := 110) rfl rfl rfl rfl rfl rfl (k 10 ⟨by decide, by decide⟩) ?_
  refine hk_link (p0 := 110) (p1 := 111) (p2 := 114) (p3 := 115) (p4 := 118) (p5 := 119) (p6 := 120) (pz := 120) rfl rfl rfl rfl rfl rfl (k 11 ⟨by decide, by decide⟩) ?_
  refine hk_link (p0 := 120) (p1 := 121) (p2 := 124) (p3 := 125) (p4 := 128) (p5 := 129) (p6 := 130) (pz := 130) rfl rfl rfl rfl rfl rfl (k 12 ⟨by decide, by decide⟩) ?_
  refine hk_link (p0 := 130) (p1 := 131) (p2 := 134) (p3 := 135) (p4 := 138) (p5 := 139) (p6 := 140) (pz := 140) rfl rfl rfl rfl rfl rfl (k 13 ⟨by decide, by decide⟩) ?_
  refine hk_link (p0 := 140) (p1 := 141) (p2 := 144) (p3 := 145) (p4 := 148) (p5 := 149) (p6 := 150) (pz := 150) rfl rfl rfl rfl rfl rfl (k 14 ⟨by decide, by decide⟩) ?_
  refine hk_link (p0 := 150) (p1 := 151) (p2 := 154) (p3 := 155) (p4 := 158) (p5 := 159) (p6 := 160) (pz := 160) rfl rfl rfl rfl rfl rfl (k 15 ⟨by decide, by decide⟩) ?_
  refine hk_link (p0 := 160) (p1 := 161) (p2 := 164) (p3 := 165) (p4 := 168) (p5 := 169) (p6 := 170) (pz := 170) rfl rfl rfl rfl rfl rfl (k 16 ⟨by decide, by decide⟩) ?_
  refine hk_link (p0 := 170) (p1 := 171) (p2 := 174) (p3 := 175) (p4 := 178) (p5 := 179) (p6 := 180) (pz := 180) rfl rfl rfl rfl rfl rfl (k 17 ⟨by decide, by decide⟩) ?_
  refine hk_link (p0 := 180) (p1 := 181) (p2 := 184) (p3 := 185) (p4 := 188) (p5 := 189) (p6 := 190) (pz := 190) rfl rfl rfl rfl rfl rfl (k 18 ⟨by decide, by decide⟩) ?_
  refine hk_link (p0 := 190) (p1 := 191) (p2 := 194) (p3 := 195) (p4 := 198) (p5 := 199) (p6 := 200) (pz := 200) rfl rfl rfl rfl rfl rfl (k 19 ⟨by decide, by decide⟩) ?_
  refine hk_link (p0 := 200) (p1 := 201) (p2 := 204) (p3 := 205) (p4 := 208) (p5 := 209) (p6 := 210) (pz := 210) rfl rfl rfl rfl rfl rfl (k 20 ⟨by decide, by decide⟩) ?_
  refine hk_link (p0 := 210) (p1 := 211) (p2 := 214) (p3 := 215) (p4 := 218) (p5 := 219) (p6 := 220) (pz := 220) rfl rfl rfl rfl rfl rfl (k 21 ⟨by decide, by decide⟩) ?_
  refine hk_link (p0 := 220) (p1 := 221) (p2 := 224) (p3 := 225) (p4 := 228) (p5 := 229) (p6 := 230) (pz := 230) rfl rfl rfl rfl rfl rfl (k 22 ⟨by decide, by decide⟩) ?_
  refine hk_link (p0 := 230) (p1 := 231) (p2 := 234) (p3 := 235) (p4 := 238) (p5 := 239) (p6 := 240) (pz := 240) rfl rfl rfl rfl rfl rfl (k 23 ⟨by decide, by decide⟩) ?_
  refine hk_link (p0 := 240) (p1 := 241) (p2 := 244) (p3 := 245) (p4 := 248) (p5 := 249) (p6 := 250) (pz := 250) rfl rfl rfl rfl rfl rfl (k 24 ⟨by decide, by decide⟩) ?_
  refine qm_Ru.nx (c' := (252, .long x :: (.float 0 :: ([] ++ List.replicate 5 (.float 0))), [.int 26], h)) rfl ?_
  exact qm_Ru.rt (v := some (.int 26)) (h' := h) rfl (k 26 ⟨by decide, by decide⟩)
noncomputable def qc_lg (_ : qa_K) (as : List Value) : Bool := match as with
  | [a] => qa_lg a
  | _ => false
noncomputable def qc_kc : qa_Ct := (382, qc_lg, some (0, 26), [], 0)
theorem qc_kind {P : qa_P} {S : qm_H → Prop} {X : Option (Nat × (Nat → Int32))} : ∀ q ∈ [qc_kc], qa_hc P S X q := by
  refine List.forall_mem_cons.mpr ⟨?_, fun _ h => absurd h List.not_mem_nil⟩
  intro p K as as' h d Z hs hp hg hpre hI hd k
  have hpre : qc_lg K as = true := hpre
  match as, hg, hpre with
  | [a], hg, hpre =>
    obtain ⟨a', t', e1, g1, g2⟩ := hg
    have g2 : t' = [] := g2
    obtain ⟨x, ex⟩ := qa_lg_ok g1 hpre
    subst ex
    subst g2
    subst e1
    show qm_Ru X d cd_382 (qm_ent 7 [.long x] h) Z
    exact hs_kind (fun v bv => k (some (.int v)) h ⟨v, rfl, bv⟩ hI (fun _ _ _ => rfl))
