/-! the class's readTokens: that it ends, and what it tells -/
/-- a run, and what given runs tell of its end -/
theorem pp_im {X : Option (Nat × (Nat → Int32))} {d : Nat} {cd : qm_Cd} {c : qm_C} {Z Q2 : Option Value → qm_H → Prop} (g : ∀ fu, qm_Rp fu X cd c Q2) (h : qm_Ru X d cd c (fun r h' => Q2 r h' → Z r h')) : qm_Ru X d cd c Z := (h.both g).mono (fun r h' z => z.1 z.2)
/-- the words of the kinds -/
noncomputable def kwF : Nat → Int64 := fun k => kwL.getD k 0
theorem kwF_nz : ∀ k, k < 25 → kwF k ≠ 0 := by decide +kernel
/-- no later fault: its place is -1 -/
theorem fS_l1 {B : Nat → Int32} {n : Nat} : ∀ (m : Nat) (aw td dp rt nm lf lp b li tr be lt pr pl : Int) (T : Nat → Int64), fS B n m = some (aw, td, dp, rt, nm, lf, lp, b, li, tr, be, lt, pr, pl, T) → lf = 0 → lp = -1
  | 0, aw, td, dp, rt, nm, lf, lp, b, li, tr, be, lt, pr, pl, T, h, h0 => by
    cases h
    rfl
  | m + 1, aw, td, dp, rt, nm, lf, lp, b, li, tr, be, lt, pr, pl, T, h, h0 => by
    have h : (match fS B n m with
      | none => none
      | some (aw, td, dp, rt, nm, lf, lp, b, li, tr, be, lt, pr, pl, T) => (match fz aw (tK B n m) dp rt pr pl m with
        | some _ => none
        | none => some (fN (tK B n m) (tV B n m) (tS B n m) (tM B n m) (aw, td, dp, rt, nm, lf, lp, b, li, tr, be, lt, pr, pl, T)))) = _ := h
    cases hm : fS B n m with
    | none =>
      rw [hm] at h
      cases h
    | some s =>
      obtain ⟨aw0, td0, dp0, rt0, nm0, lf0, lp0, b0, li0, tr0, be0, lt0, pr0, pl0, T0⟩ := s
      have ih := fS_l1 m _ _ _ _ _ _ _ _ _ _ _ _ _ _ _ hm
      rw [hm] at h
      dsimp only at h
      cases hz : fz aw0 (tK B n m) dp0 rt0 pr0 pl0 m with
      | some f =>
        rw [hz] at h
        cases h
      | none =>
        rw [hz] at h
        dsimp only at h
        have h := Option.some.inj h
        unfold fN at h
        injection h with _ h
        injection h with _ h
        injection h with _ h
        injection h with _ h
        injection h with _ h
        injection h with h5 h
        injection h with h6 h
        unfold f5 at h5
        unfold f6 at h6
        split at h6
        · next c =>
          rw [if_pos c] at h5
          split at h5 <;> omega
        · next c =>
          rw [if_neg c] at h5
          exact h6 ▸ ih (h5.trans h0)
theorem tRes_l1 {B : Nat → Int32} {n : Nat} {f fp lf lp b li tr be lt pr pl : Int} (h : tRes B n f fp lf lp b li tr be lt pr pl) (h0 : lf = 0) : lp = -1 := by
  obtain ⟨m, aw, td, dp, rt, nm, T, h1, -⟩ := h
  exact fS_l1 m _ _ _ _ _ _ _ _ _ _ _ _ _ _ _ h1.1 h0
/-- the place that read tells, as the class has it: of the first fault, or of the later one -/
noncomputable def cPl (B : Nat → Int32) (n : Nat) (pv : Int32) : Prop := ∃ f fp lf lp b li tr be lt pr pl : Int, tRes B n f fp lf lp b li tr be lt pr pl ∧ ((f ≠ 0 ∧ pv.toInt = fp) ∨ (f = 0 ∧ pv.toInt = lp))
theorem cPl_eq {B B2 : Nat → Int32} {n : Nat} {st : Nat → Int32} {p r pv bv liv trv bev ltv prv plv : Int32} (hb : ∀ i, i < n → B2 i = B i) (a : cPl B n p) (b : rOut B2 n st r pv bv liv trv bev ltv prv plv) : p = pv := by
  obtain ⟨f, fp, lf, lp, b1, li, tr, be, lt, pr, pl, h1, h2⟩ := a
  obtain ⟨f', fp', lf', lp', b', li', tr', be', lt', pr', pl', g1, g2⟩ := b
  obtain ⟨e1, e2, e3, e4, -⟩ := tRes_uq h1 (tRes_cg hb g1)
  subst e1 e2 e3 e4
  have l1 := tRes_l1 h1
  apply hk_eqi.mpr
  rcases h2 with ⟨c1, c2⟩ | ⟨c1, c2⟩
  · rcases g2 with ⟨d1, d2, d3⟩ | ⟨d1, d2, d3, d4⟩ | ⟨d1, d2, d3, -⟩
    · rw [c2, d3]
    · exact absurd d1 c1
    · exact absurd d1 c1
  · rcases g2 with ⟨d1, d2, d3⟩ | ⟨d1, d2, d3, d4⟩ | ⟨d1, d2, d3, -⟩
    · exact absurd c1 d1
    · rw [c2, d4]
    · rw [c2, d3, l1 d2]
theorem px_rt29 {X : Option (Nat × (Nat → Int32))} {Z : Option Value → qm_H → Prop} {h : qm_H} {fu : Nat} (hH : hk_H h) (hT3 : h.2.2.2 3 3 = some 29) (hB : ∀ i, (-128 : Int) ≤ (h.2.1 2 i).toInt ∧ (h.2.1 2 i).toInt ≤ 127) {n : Int32} (q_n : h.2.1 1 1 = n) (hn : 0 ≤ n.toInt ∧ n.toInt ≤ 2000) (k : ∀ (I : Nat → Nat → Int32) (J : Nat → Nat → Int64) (f sa lfv lpv bv liv trv bev ltv prv plv : Int32) (mi : Nat) (aw td dp rt nm lf lp b li tr be lt pr pl : Int) (T : Nat → Int64), (∀ o, [1, 3, 4, 29, 30, 31, 32].contains o = false → ∀ i, I o i = h.2.1 o i) → (∀ i, [2, 3, 4, 5].contains i = false → I 1 i = h.2.1 1 i) → (∀ i, [5, 6, 7, 8, 9, 10, 11, 12, 13].contains i = false → I 3 i = h.2.1 3 i) → (∀ i, [0, 1, 2, 3, 4, 5, 6, 7, 14].contains i = false → I 29 i = h.2.1 29 i) → (∀ o, [1, 5].contains o = false → ∀ i, J o i = h.2.2.1 o i) → I 1 4 = sa → I 3 12 = lfv → I 3 13 = lpv → I 29 0 = bv → I 29 1 = liv → I 29 2 = trv → I 29 3 = bev → I 29 4 = ltv → I 29 6 = prv → I 29 7 = plv → (lfv.toInt = lf ∧ lpv.toInt = lp ∧ bv.toInt = b ∧ liv.toInt = li ∧ trv.toInt = tr ∧ bev.toInt = be ∧ ltv.toInt = lt ∧ prv.toInt = pr ∧ plv.toInt = pl) → fE (h.2.1 2) n.toInt.toNat mi f.toInt (aw, td, dp, rt, nm, lf, lp, b, li, tr, be, lt, pr, pl, T) → (0 ≤ sa.toInt ∧ sa.toInt.toNat = tS (h.2.1 2) n.toInt.toNat mi) → Z (some (.int f)) (h.1, I, J, h.2.2.2)) (c_p : h.2.1 1 2 = 0) (c_a : h.2.1 3 5 = 0) (c_d : h.2.1 3 8 = 0) (c_m : h.2.1 3 11 = 0) (c_lfv : h.2.1 3 12 = 0) (c_lpv : h.2.1 3 13 = (-1)) (c_bv : h.2.1 29 0 = 3) (c_liv : h.2.1 29 1 = 9999) (c_trv : h.2.1 29 2 = 9999) (c_bev : h.2.1 29 3 = 9999) (c_ltv : h.2.1 29 4 = 99) (c_prv : h.2.1 29 6 = 0) (c_plv : h.2.1 29 7 = 0) : qm_Rp fu X cd_20 (qm_ent 4 [.ref 3] h) Z := by
  refine qm_Rp.go 2 (c' := (2, [.ref 3, .int 0, .float 0, .float 0], [], h)) rfl ?_
  exact px_rtl29 hH hT3 hB q_n hn k fu h.2.1 h.2.2.1 0 0 0 (h.2.1 3 6) 0 (h.2.1 3 9) 0 0 (-1) 3 9999 9999 9999 99 0 0 0 0 0 0 0 0 (-1) 3 9999 9999 9999 99 0 0 (fun _ => 0) (.float 0) (.float 0) (fun _ _ _ => rfl) (fun _ _ => rfl) (fun _ _ => rfl) (fun _ _ => rfl) (fun _ _ _ => rfl) c_p c_a rfl c_d rfl c_m c_lfv c_lpv c_bv c_liv c_trv c_bev c_ltv c_prv c_plv rfl ⟨rfl, fun z => absurd rfl z, rfl, fun z => absurd z (by decide), rfl, rfl, rfl, rfl, rfl, rfl, rfl, rfl, rfl, rfl⟩ (fun y hy => by exfalso; omega) ⟨by decide, hn.1, rfl⟩ (by decide)
noncomputable def qRt29 (h : qm_H) (n : Int32) (r : Option Value) (h' : qm_H) : Prop := ∃ f sa lfv lpv bv liv trv bev ltv prv plv : Int32, r = some (.int f) ∧ h'.2.1 1 4 = sa ∧ h'.2.1 3 12 = lfv ∧ h'.2.1 3 13 = lpv ∧ h'.2.1 29 0 = bv ∧ h'.2.1 29 1 = liv ∧ h'.2.1 29 2 = trv ∧ h'.2.1 29 3 = bev ∧ h'.2.1 29 4 = ltv ∧ h'.2.1 29 6 = prv ∧ h'.2.1 29 7 = plv ∧ tRes (h.2.1 2) n.toInt.toNat f.toInt sa.toInt lfv.toInt lpv.toInt bv.toInt liv.toInt trv.toInt bev.toInt ltv.toInt prv.toInt plv.toInt
theorem qRt29_p1 {h h' : qm_H} {n v : Int32} (q : qRt29 h n (some (.int v)) h') (hv : v.toInt ≠ 0) : cPl (h.2.1 2) n.toInt.toNat (h'.2.1 1 4) := by
  obtain ⟨f, sa, lfv, lpv, bv, liv, trv, bev, ltv, prv, plv, e, q1, q2, q3, -, -, -, -, -, -, -, hr⟩ := q
  cases e
  rw [q1]
  exact ⟨_, _, _, _, _, _, _, _, _, _, _, hr, Or.inl ⟨hv, rfl⟩⟩
theorem qRt29_p0 {h h' : qm_H} {n v : Int32} (q : qRt29 h n (some (.int v)) h') (hv : v.toInt = 0) : cPl (h.2.1 2) n.toInt.toNat (h'.2.1 3 13) := by
  obtain ⟨f, sa, lfv, lpv, bv, liv, trv, bev, ltv, prv, plv, e, q1, q2, q3, -, -, -, -, -, -, -, hr⟩ := q
  cases e
  rw [q3]
  exact ⟨_, _, _, _, _, _, _, _, _, _, _, hr, Or.inr ⟨hv, rfl⟩⟩
theorem hs_rtR29 {L : Nat} {xs : Nat → Int32} {Z : Option Value → qm_H → Prop} {h : qm_H} {d : Nat} (h6 : 6 ≤ L) (hH : hk_H h) (hT3 : h.2.2.2 3 3 = some 29) (hB : hk_B h.2.1) (hr : hk_ru h.2.1) (h35 : h.2.1 3 5 = 0) (hd : 28 ≤ d) {n : Int32} (q_n : h.2.1 1 1 = n) (c_p : h.2.1 1 2 = 0) (c_a : h.2.1 3 5 = 0) (c_d : h.2.1 3 8 = 0) (c_m : h.2.1 3 11 = 0) (c_lfv : h.2.1 3 12 = 0) (c_lpv : h.2.1 3 13 = (-1)) (c_bv : h.2.1 29 0 = 3) (c_liv : h.2.1 29 1 = 9999) (c_trv : h.2.1 29 2 = 9999) (c_bev : h.2.1 29 3 = 9999) (c_ltv : h.2.1 29 4 = 99) (c_prv : h.2.1 29 6 = 0) (c_plv : h.2.1 29 7 = 0) (k : ∀ (v : Int32) (I : Nat → Nat → Int32) (J : Nat → Nat → Int64), qa_in (0, 2) v → hk_B I → (∀ o, qm_rtok29.contains o = false → ∀ i, I o i = h.2.1 o i) → qRt29 h n (some (.int v)) (h.1, I, J, h.2.2.2) → Z (some (.int v)) (h.1, I, J, h.2.2.2)) : qm_Ru (some (L, xs)) d cd_20 (qm_ent 4 [.ref 3] h) Z := by
  have hn : 0 ≤ n.toInt ∧ n.toInt ≤ 2000 := by rw [← q_n]; exact hB 1 1
  refine pp_im (Q2 := qRt29 h n) (fun fu => px_rt29 hH hT3 (fun i => hB 2 i) q_n hn (fun I J f sa lfv lpv bv liv trv bev ltv prv plv mi aw td dp rt nm lf lp b li tr be lt pr pl T _ _ _ _ _ q_sa q_lfv q_lpv q_bv q_liv q_trv q_bev q_ltv q_prv q_plv hl hE hS => ?_) c_p c_a c_d c_m c_lfv c_lpv c_bv c_liv c_trv c_bev c_ltv c_prv c_plv) (hs_rtok29 h6 hH hT3 hB hr h35 hd k)
  obtain ⟨rfl, rfl, rfl, rfl, rfl, rfl, rfl, rfl, rfl⟩ := hl
  exact ⟨f, sa, lfv, lpv, bv, liv, trv, bev, ltv, prv, plv, rfl, q_sa, q_lfv, q_lpv, q_bv, q_liv, q_trv, q_bev, q_ltv, q_prv, q_plv, mi, aw, td, dp, rt, nm, T, hE, by rw [← hS.2]; omega⟩
theorem px_rt111 {X : Option (Nat × (Nat → Int32))} {Z : Option Value → qm_H → Prop} {h : qm_H} {fu : Nat} (hH : hk_H h) (hT3 : h.2.2.2 3 3 = some 111) (hB : ∀ i, (-128 : Int) ≤ (h.2.1 2 i).toInt ∧ (h.2.1 2 i).toInt ≤ 127) {n : Int32} (q_n : h.2.1 1 1 = n) (hn : 0 ≤ n.toInt ∧ n.toInt ≤ 2000) (k : ∀ (I : Nat → Nat → Int32) (J : Nat → Nat → Int64) (f sa lfv lpv bv liv trv bev ltv prv plv : Int32) (mi : Nat) (aw td dp rt nm lf lp b li tr be lt pr pl : Int) (T : Nat → Int64), (∀ o, [1, 3, 4, 111, 112, 113, 114].contains o = false → ∀ i, I o i = h.2.1 o i) → (∀ i, [2, 3, 4, 5].contains i = false → I 1 i = h.2.1 1 i) → (∀ i, [5, 6, 7, 8, 9, 10, 11, 12, 13].contains i = false → I 3 i = h.2.1 3 i) → (∀ i, [0, 1, 2, 3, 4, 5, 6, 7, 14].contains i = false → I 111 i = h.2.1 111 i) → (∀ o, [1, 5].contains o = false → ∀ i, J o i = h.2.2.1 o i) → I 1 4 = sa → I 3 12 = lfv → I 3 13 = lpv → I 111 0 = bv → I 111 1 = liv → I 111 2 = trv → I 111 3 = bev → I 111 4 = ltv → I 111 6 = prv → I 111 7 = plv → (lfv.toInt = lf ∧ lpv.toInt = lp ∧ bv.toInt = b ∧ liv.toInt = li ∧ trv.toInt = tr ∧ bev.toInt = be ∧ ltv.toInt = lt ∧ prv.toInt = pr ∧ plv.toInt = pl) → fE (h.2.1 2) n.toInt.toNat mi f.toInt (aw, td, dp, rt, nm, lf, lp, b, li, tr, be, lt, pr, pl, T) → (0 ≤ sa.toInt ∧ sa.toInt.toNat = tS (h.2.1 2) n.toInt.toNat mi) → Z (some (.int f)) (h.1, I, J, h.2.2.2)) (c_p : h.2.1 1 2 = 0) (c_a : h.2.1 3 5 = 0) (c_d : h.2.1 3 8 = 0) (c_m : h.2.1 3 11 = 0) (c_lfv : h.2.1 3 12 = 0) (c_lpv : h.2.1 3 13 = (-1)) (c_bv : h.2.1 111 0 = 3) (c_liv : h.2.1 111 1 = 9999) (c_trv : h.2.1 111 2 = 9999) (c_bev : h.2.1 111 3 = 9999) (c_ltv : h.2.1 111 4 = 99) (c_prv : h.2.1 111 6 = 0) (c_plv : h.2.1 111 7 = 0) : qm_Rp fu X cd_20 (qm_ent 4 [.ref 3] h) Z := by
  refine qm_Rp.go 2 (c' := (2, [.ref 3, .int 0, .float 0, .float 0], [], h)) rfl ?_
  exact px_rtl111 hH hT3 hB q_n hn k fu h.2.1 h.2.2.1 0 0 0 (h.2.1 3 6) 0 (h.2.1 3 9) 0 0 (-1) 3 9999 9999 9999 99 0 0 0 0 0 0 0 0 (-1) 3 9999 9999 9999 99 0 0 (fun _ => 0) (.float 0) (.float 0) (fun _ _ _ => rfl) (fun _ _ => rfl) (fun _ _ => rfl) (fun _ _ => rfl) (fun _ _ _ => rfl) c_p c_a rfl c_d rfl c_m c_lfv c_lpv c_bv c_liv c_trv c_bev c_ltv c_prv c_plv rfl ⟨rfl, fun z => absurd rfl z, rfl, fun z => absurd z (by decide), rfl, rfl, rfl, rfl, rfl, rfl, rfl, rfl, rfl, rfl⟩ (fun y hy => by exfalso; omega) ⟨by decide, hn.1, rfl⟩ (by decide)
noncomputable def qRt111 (h : qm_H) (n : Int32) (r : Option Value) (h' : qm_H) : Prop := ∃ f sa lfv lpv bv liv trv bev ltv prv plv : Int32, r = some (.int f) ∧ h'.2.1 1 4 = sa ∧ h'.2.1 3 12 = lfv ∧ h'.2.1 3 13 = lpv ∧ h'.2.1 111 0 = bv ∧ h'.2.1 111 1 = liv ∧ h'.2.1 111 2 = trv ∧ h'.2.1 111 3 = bev ∧ h'.2.1 111 4 = ltv ∧ h'.2.1 111 6 = prv ∧ h'.2.1 111 7 = plv ∧ tRes (h.2.1 2) n.toInt.toNat f.toInt sa.toInt lfv.toInt lpv.toInt bv.toInt liv.toInt trv.toInt bev.toInt ltv.toInt prv.toInt plv.toInt
theorem qRt111_p1 {h h' : qm_H} {n v : Int32} (q : qRt111 h n (some (.int v)) h') (hv : v.toInt ≠ 0) : cPl (h.2.1 2) n.toInt.toNat (h'.2.1 1 4) := by
  obtain ⟨f, sa, lfv, lpv, bv, liv, trv, bev, ltv, prv, plv, e, q1, q2, q3, -, -, -, -, -, -, -, hr⟩ := q
  cases e
  rw [q1]
  exact ⟨_, _, _, _, _, _, _, _, _, _, _, hr, Or.inl ⟨hv, rfl⟩⟩
theorem qRt111_p0 {h h' : qm_H} {n v : Int32} (q : qRt111 h n (some (.int v)) h') (hv : v.toInt = 0) : cPl (h.2.1 2) n.toInt.toNat (h'.2.1 3 13) := by
  obtain ⟨f, sa, lfv, lpv, bv, liv, trv, bev, ltv, prv, plv, e, q1, q2, q3, -, -, -, -, -, -, -, hr⟩ := q
  cases e
  rw [q3]
  exact ⟨_, _, _, _, _, _, _, _, _, _, _, hr, Or.inr ⟨hv, rfl⟩⟩
theorem hs_rtR111 {L : Nat} {xs : Nat → Int32} {Z : Option Value → qm_H → Prop} {h : qm_H} {d : Nat} (h6 : 6 ≤ L) (hH : hk_H h) (hT3 : h.2.2.2 3 3 = some 111) (hB : hk_B h.2.1) (hr : hk_ru h.2.1) (h35 : h.2.1 3 5 = 0) (hd : 28 ≤ d) {n : Int32} (q_n : h.2.1 1 1 = n) (c_p : h.2.1 1 2 = 0) (c_a : h.2.1 3 5 = 0) (c_d : h.2.1 3 8 = 0) (c_m : h.2.1 3 11 = 0) (c_lfv : h.2.1 3 12 = 0) (c_lpv : h.2.1 3 13 = (-1)) (c_bv : h.2.1 111 0 = 3) (c_liv : h.2.1 111 1 = 9999) (c_trv : h.2.1 111 2 = 9999) (c_bev : h.2.1 111 3 = 9999) (c_ltv : h.2.1 111 4 = 99) (c_prv : h.2.1 111 6 = 0) (c_plv : h.2.1 111 7 = 0) (k : ∀ (v : Int32) (I : Nat → Nat → Int32) (J : Nat → Nat → Int64), qa_in (0, 2) v → hk_B I → (∀ o, qm_rtok111.contains o = false → ∀ i, I o i = h.2.1 o i) → qRt111 h n (some (.int v)) (h.1, I, J, h.2.2.2) → Z (some (.int v)) (h.1, I, J, h.2.2.2)) : qm_Ru (some (L, xs)) d cd_20 (qm_ent 4 [.ref 3] h) Z := by
  have hn : 0 ≤ n.toInt ∧ n.toInt ≤ 2000 := by rw [← q_n]; exact hB 1 1
  refine pp_im (Q2 := qRt111 h n) (fun fu => px_rt111 hH hT3 (fun i => hB 2 i) q_n hn (fun I J f sa lfv lpv bv liv trv bev ltv prv plv mi aw td dp rt nm lf lp b li tr be lt pr pl T _ _ _ _ _ q_sa q_lfv q_lpv q_bv q_liv q_trv q_bev q_ltv q_prv q_plv hl hE hS => ?_) c_p c_a c_d c_m c_lfv c_lpv c_bv c_liv c_trv c_bev c_ltv c_prv c_plv) (hs_rtok111 h6 hH hT3 hB hr h35 hd k)
  obtain ⟨rfl, rfl, rfl, rfl, rfl, rfl, rfl, rfl, rfl⟩ := hl
  exact ⟨f, sa, lfv, lpv, bv, liv, trv, bev, ltv, prv, plv, rfl, q_sa, q_lfv, q_lpv, q_bv, q_liv, q_trv, q_bev, q_ltv, q_prv, q_plv, mi, aw, td, dp, rt, nm, T, hE, by rw [← hS.2]; omega⟩
/-- the sides behind the reference's read: sd the new one, lv the one in force before -/
noncomputable def rE (sd lv : Nat) (I0 I : Nat → Nat → Int32) (v bv liv trv bev ltv prv plv : Int32) : Prop := (v.toInt = 0 → (I 118 18).toInt = (sd : Int)) ∧ (v.toInt ≠ 0 → (I 118 18).toInt = (lv : Int)) ∧ (I 127 sd = bv ∧ I 128 (3 * sd) = liv ∧ I 128 (3 * sd + 1) = trv ∧ I 128 (3 * sd + 2) = bev ∧ I 129 sd = ltv ∧ I 131 sd = prv ∧ I 132 sd = plv) ∧ (I 127 lv = I0 127 lv ∧ I 128 (3 * lv) = I0 128 (3 * lv) ∧ I 128 (3 * lv + 1) = I0 128 (3 * lv + 1) ∧ I 128 (3 * lv + 2) = I0 128 (3 * lv + 2) ∧ I 129 lv = I0 129 lv ∧ I 131 lv = I0 131 lv ∧ I 132 lv = I0 132 lv) ∧ (v.toInt ≠ 0 → jKp I0 I) ∧ (v.toInt = 0 → jR0 bv I)
noncomputable def qRr (h : qm_H) (r : Option Value) (h' : qm_H) : Prop := ∃ v pv bv liv trv bev ltv prv plv : Int32, r = some (.int v) ∧ h'.2.1 118 17 = pv ∧ rOut (h.2.1 119) (h.2.1 118 2).toInt.toNat (h.2.1 152) v pv bv liv trv bev ltv prv plv ∧ ((h.2.1 118 18).toInt = 0 → rE 1 0 h.2.1 h'.2.1 v bv liv trv bev ltv prv plv) ∧ ((h.2.1 118 18).toInt = 1 → rE 0 1 h.2.1 h'.2.1 v bv liv trv bev ltv prv plv)
theorem pp_rread {X : Option (Nat × (Nat → Int32))} {d : Nat} {Z : Option Value → qm_H → Prop} {h : qm_H} (hH : hk_H h) (hB : hk_B h.2.1) (hK : kJ kwF h) (w : qm_Ru X d cd_248 (qm_ent 2 [.ref 118] h) (fun r h' => qRr h r h' → Z r h')) : qm_Ru X d cd_248 (qm_ent 2 [.ref 118] h) Z := by
  have hn : 0 ≤ (h.2.1 118 2).toInt ∧ (h.2.1 118 2).toInt ≤ 2000 := hB 118 2
  have b18 : 0 ≤ (h.2.1 118 18).toInt ∧ (h.2.1 118 18).toInt ≤ 1 := hB 118 18
  refine pp_im (fun fu => ?_) w
  by_cases c : (h.2.1 118 18).toInt = 0
  · exact px_rread1 hH hB (n := h.2.1 118 2) rfl hn (hk_eqi.mpr (by show _ = (0 : Int); omega)) (fun y hy => hK.2 y hy) (fun I J v pv bv liv trv bev ltv prv plv _ _ f127 f128 f129 f131 f132 _ _ q17 c_bv c_liv c_trv c_bev c_ltv c_prv c_plv s0 s1 j0 j1 ho => ⟨v, pv, bv, liv, trv, bev, ltv, prv, plv, rfl, q17, ho, fun _ => ⟨fun z => (congrArg Int32.toInt (s0 z)).trans (by decide), fun z => (congrArg Int32.toInt (s1 z)).trans (by decide), ⟨c_bv, c_liv, c_trv, c_bev, c_ltv, c_prv, c_plv⟩, ⟨f127 0 rfl, f128 0 rfl, f128 1 rfl, f128 2 rfl, f129 0 rfl, f131 0 rfl, f132 0 rfl⟩, j0, j1⟩, fun z => absurd (c.symm.trans z) (by decide)⟩)
  · exact px_rread0 hH hB (n := h.2.1 118 2) rfl hn (hk_eqi.mpr (by show _ = (1 : Int); omega)) (fun y hy => hK.2 y hy) (fun I J v pv bv liv trv bev ltv prv plv _ _ f127 f128 f129 f131 f132 _ _ q17 c_bv c_liv c_trv c_bev c_ltv c_prv c_plv s0 s1 j0 j1 ho => ⟨v, pv, bv, liv, trv, bev, ltv, prv, plv, rfl, q17, ho, fun z => absurd z c, fun _ => ⟨fun z => (congrArg Int32.toInt (s0 z)).trans (by decide), fun z => (congrArg Int32.toInt (s1 z)).trans (by decide), ⟨c_bv, c_liv, c_trv, c_bev, c_ltv, c_prv, c_plv⟩, ⟨f127 1 rfl, f128 3 rfl, f128 4 rfl, f128 5 rfl, f129 1 rfl, f131 1 rfl, f132 1 rfl⟩, j0, j1⟩⟩)
