section FT
variable {B : Nat → Int32} {n m : Nat} {aw td dp rt nm lf lp b li tr be lt pr pl : Int} {T : Nat → Int64}
theorem fS_t0 (hF : fS B n m = some (0, td, dp, rt, nm, lf, lp, b, li, tr, be, lt, pr, pl, T)) (hk : (tK B n m = 6 ∨ tK B n m = 7)) (h4 : m ≠ 400) (hr : ¬ frm (tK B n m) dp pr pl)  {m2 : Nat} (hm : m2 = m + 1) : fS B n m2 = some (5, tK B n m, dp, rt, nm, lf, lp, b, li, tr, be, lt, pr, pl, T) := by
  subst hm
  exact fS_s hF rfl rfl rfl rfl (by omega) (a0 := 5) (by first | exact fo_0c (by omega)) (by decide) h4 hr (if_pos rfl) (f2_n (by omega)) (f3_n (by omega)) (f4_n (by omega)) ((f5_n (lp := lp) (p := (tS B n m : Int)) (by omega)).1) ((f5_n (by omega)).2) (f7_n (by omega)) (f8_n (by omega)) (f9_n (by omega)) (f10_n (by omega)) (f11_n (by omega)) (f12_n (by omega)) (f13_n (by omega)) (f14_n (by omega))
theorem fS_t1 (hF : fS B n m = some (0, td, dp, rt, nm, lf, lp, b, li, tr, be, lt, pr, pl, T)) (hk : (0 ≤ tK B n m ∧ tK B n m ≤ 4)) (h4 : m ≠ 400) (hr : ¬ frm (tK B n m) dp pr pl)  {m2 : Nat} (hm : m2 = m + 1) : fS B n m2 = some (1, tK B n m, dp, rt, nm, lf, lp, b, li, tr, be, lt, pr, pl, T) := by
  subst hm
  exact fS_s hF rfl rfl rfl rfl (by omega) (a0 := 1) (by first | exact fo_0a (by omega)) (by decide) h4 hr (if_pos rfl) (f2_n (by omega)) (f3_n (by omega)) (f4_n (by omega)) ((f5_n (lp := lp) (p := (tS B n m : Int)) (by omega)).1) ((f5_n (by omega)).2) (f7_n (by omega)) (f8_n (by omega)) (f9_n (by omega)) (f10_n (by omega)) (f11_n (by omega)) (f12_n (by omega)) (f13_n (by omega)) (f14_n (by omega))
theorem fS_t2 (hF : fS B n m = some (0, td, dp, rt, nm, lf, lp, b, li, tr, be, lt, pr, pl, T)) (hk : tK B n m = 5) (h4 : m ≠ 400) (hr : ¬ frm (tK B n m) dp pr pl)  {m2 : Nat} (hm : m2 = m + 1) : fS B n m2 = some (2, tK B n m, dp, rt, nm, lf, lp, b, li, tr, be, lt, pr, pl, T) := by
  subst hm
  exact fS_s hF rfl rfl rfl rfl (by omega) (a0 := 2) (by first | exact fo_0b (by omega)) (by decide) h4 hr (if_pos rfl) (f2_n (by omega)) (f3_n (by omega)) (f4_n (by omega)) ((f5_n (lp := lp) (p := (tS B n m : Int)) (by omega)).1) ((f5_n (by omega)).2) (f7_n (by omega)) (f8_n (by omega)) (f9_n (by omega)) (f10_n (by omega)) (f11_n (by omega)) (f12_n (by omega)) (f13_n (by omega)) (f14_n (by omega))
theorem fS_n1 (hF : fS B n m = some (1, td, dp, rt, nm, lf, lp, b, li, tr, be, lt, pr, pl, T)) (hk : tK B n m = 25) (h4 : m ≠ 400) (hr : ¬ frm (tK B n m) dp pr pl)  {m2 : Nat} (hm : m2 = m + 1) : fS B n m2 = some (4, td, dp, rt, nm, (f5 1 td (tV B n m) (ftw T (tM B n m) nm.toNat) lf), (f6 1 td (tV B n m) (ftw T (tM B n m) nm.toNat) lf lp (tS B n m)), (f7 1 td (tV B n m) b), (f8 1 td (tV B n m) li), (f9 1 td (tV B n m) tr), (f10 1 td (tV B n m) be), (f11 1 td (tV B n m) lt), pr, pl, T) := by
  subst hm
  exact fS_s hF rfl rfl rfl rfl (by omega) (a0 := 4) (by first | exact fo_1a (by omega)) (by decide) h4 hr (f1_n (by omega)) (f2_n (by omega)) (f3_n (by omega)) (f4_n (by omega)) (rfl) (rfl) (rfl) (rfl) (rfl) (rfl) (rfl) (f12_n (by omega)) (f13_n (by omega)) (f14_n (by omega))
theorem fS_n2 (hF : fS B n m = some (2, td, dp, rt, nm, lf, lp, b, li, tr, be, lt, pr, pl, T)) (hk : tK B n m = 25) (h4 : m ≠ 400) (hr : ¬ frm (tK B n m) dp pr pl)  {m2 : Nat} (hm : m2 = m + 1) : fS B n m2 = some (3, td, dp, rt, nm, (f5 2 td (tV B n m) (ftw T (tM B n m) nm.toNat) lf), (f6 2 td (tV B n m) (ftw T (tM B n m) nm.toNat) lf lp (tS B n m)), b, li, tr, be, lt, pr, pl, T) := by
  subst hm
  exact fS_s hF rfl rfl rfl rfl (by omega) (a0 := 3) (by first | exact fo_2a (by omega)) (by decide) h4 hr (f1_n (by omega)) (f2_n (by omega)) (f3_n (by omega)) (f4_n (by omega)) (rfl) (rfl) (f7_n (by omega)) (f8_n (by omega)) (f9_n (by omega)) (f10_n (by omega)) (f11_n (by omega)) (f12_n (by omega)) (f13_n (by omega)) (f14_n (by omega))
theorem fS_n3 (hF : fS B n m = some (3, td, dp, rt, nm, lf, lp, b, li, tr, be, lt, pr, pl, T)) (hk : tK B n m = 25) (h4 : m ≠ 400) (hr : ¬ frm (tK B n m) dp pr pl)  {m2 : Nat} (hm : m2 = m + 1) : fS B n m2 = some (4, td, dp, rt, nm, (f5 3 td (tV B n m) (ftw T (tM B n m) nm.toNat) lf), (f6 3 td (tV B n m) (ftw T (tM B n m) nm.toNat) lf lp (tS B n m)), b, li, tr, be, lt, pr, pl, T) := by
  subst hm
  exact fS_s hF rfl rfl rfl rfl (by omega) (a0 := 4) (by first | exact fo_3a (by omega)) (by decide) h4 hr (f1_n (by omega)) (f2_n (by omega)) (f3_n (by omega)) (f4_n (by omega)) (rfl) (rfl) (f7_n (by omega)) (f8_n (by omega)) (f9_n (by omega)) (f10_n (by omega)) (f11_n (by omega)) (f12_n (by omega)) (f13_n (by omega)) (f14_n (by omega))
theorem fS_s4 (hF : fS B n m = some (4, td, dp, rt, nm, lf, lp, b, li, tr, be, lt, pr, pl, T)) (hk : tK B n m = 27) (h4 : m ≠ 400) (hr : ¬ frm (tK B n m) dp pr pl)  {m2 : Nat} (hm : m2 = m + 1) : fS B n m2 = some (0, td, dp, rt, nm, lf, lp, b, li, tr, be, lt, pr, pl, T) := by
  subst hm
  exact fS_s hF rfl rfl rfl rfl (by omega) (a0 := 0) (by first | exact fo_4a (by omega)) (by decide) h4 hr (f1_n (by omega)) (f2_n (by omega)) (f3_n (by omega)) (f4_n (by omega)) ((f5_n (lp := lp) (p := (tS B n m : Int)) (by omega)).1) ((f5_n (by omega)).2) (f7_n (by omega)) (f8_n (by omega)) (f9_n (by omega)) (f10_n (by omega)) (f11_n (by omega)) (f12_n (by omega)) (f13_n (by omega)) (f14_n (by omega))
theorem fS_t5 (hF : fS B n m = some (5, td, dp, rt, nm, lf, lp, b, li, tr, be, lt, pr, pl, T)) (hk : tK B n m = 26) (h4 : m ≠ 400) (hr : ¬ frm (tK B n m) dp pr pl)  {m2 : Nat} (hm : m2 = m + 1) : fS B n m2 = some (6, td, dp, rt, nm + 1, (f5 5 td (tV B n m) (ftw T (tM B n m) nm.toNat) lf), (f6 5 td (tV B n m) (ftw T (tM B n m) nm.toNat) lf lp (tS B n m)), b, li, tr, be, lt, pr, pl, (f14 5 nm T (tM B n m))) := by
  subst hm
  exact fS_s hF rfl rfl rfl rfl (by omega) (a0 := 6) (by first | exact fo_5a (by omega)) (by decide) h4 hr (f1_n (by omega)) (f2_n (by omega)) (f3_n (by omega)) (if_pos rfl) (rfl) (rfl) (f7_n (by omega)) (f8_n (by omega)) (f9_n (by omega)) (f10_n (by omega)) (f11_n (by omega)) (f12_n (by omega)) (f13_n (by omega)) (rfl)
theorem fS_t6 (hF : fS B n m = some (6, td, dp, rt, nm, lf, lp, b, li, tr, be, lt, pr, pl, T)) (hk : tK B n m = 8) (h4 : m ≠ 400) (hr : ¬ frm (tK B n m) dp pr pl)  {m2 : Nat} (hm : m2 = m + 1) : fS B n m2 = some (7, td, dp, 0, nm, lf, lp, b, li, tr, be, lt, pr, pl, T) := by
  subst hm
  exact fS_s hF rfl rfl rfl rfl (by omega) (a0 := 7) (by first | exact fo_6a (by omega)) (by decide) h4 hr (f1_n (by omega)) (f2_n (by omega)) ((by unfold f3; (repeat' split) <;> omega)) (f4_n (by omega)) ((f5_n (lp := lp) (p := (tS B n m : Int)) (by omega)).1) ((f5_n (by omega)).2) (f7_n (by omega)) (f8_n (by omega)) (f9_n (by omega)) (f10_n (by omega)) (f11_n (by omega)) (f12_n (by omega)) (f13_n (by omega)) (f14_n (by omega))
theorem fS_o9 (hF : fS B n m = some (9, td, dp, rt, nm, lf, lp, b, li, tr, be, lt, pr, pl, T)) (hk : (tK B n m = 9 ∨ tK B n m = 10)) (h4 : m ≠ 400) (hr : ¬ frm (tK B n m) dp pr pl) (hd : dp = 0) (hr1 : rt = 1) {m2 : Nat} (hm : m2 = m + 1) : fS B n m2 = some (7, td, dp, 0, nm, lf, lp, b, li, tr, be, lt, pr, pl, T) := by
  subst hm
  exact fS_s hF rfl rfl rfl rfl (by omega) (a0 := 7) (by first | exact fo_9d (by omega)) (by decide) h4 hr (f1_n (by omega)) (f2_n (by omega)) ((by unfold f3; (repeat' split) <;> omega)) (f4_n (by omega)) ((f5_n (lp := lp) (p := (tS B n m : Int)) (by omega)).1) ((f5_n (by omega)).2) (f7_n (by omega)) (f8_n (by omega)) (f9_n (by omega)) (f10_n (by omega)) (f11_n (by omega)) (f12_n (by omega)) (f13_n (by omega)) (f14_n (by omega))
theorem fS_s9 (hF : fS B n m = some (9, td, dp, rt, nm, lf, lp, b, li, tr, be, lt, pr, pl, T)) (hk : tK B n m = 27) (h4 : m ≠ 400) (hr : ¬ frm (tK B n m) dp pr pl) (hd : dp = 0) (hr1 : rt = 1) {m2 : Nat} (hm : m2 = m + 1) : fS B n m2 = some (0, td, dp, rt, nm, lf, lp, b, li, tr, be, lt, (f12 9 td (tK B n m) pr), (f13 9 td (tK B n m) pl), T) := by
  subst hm
  exact fS_s hF rfl rfl rfl rfl (by omega) (a0 := 0) (by first | exact fo_9e (by omega)) (by decide) h4 hr (f1_n (by omega)) (f2_n (by omega)) ((by unfold f3; (repeat' split) <;> omega)) (f4_n (by omega)) ((f5_n (lp := lp) (p := (tS B n m : Int)) (by omega)).1) ((f5_n (by omega)).2) (f7_n (by omega)) (f8_n (by omega)) (f9_n (by omega)) (f10_n (by omega)) (f11_n (by omega)) (rfl) (rfl) (f14_n (by omega))
end FT
/-- a later fault was told at an earlier token -/
theorem fS_lp {B : Nat → Int32} {n : Nat} : ∀ (m : Nat) (aw td dp rt nm lf lp b li tr be lt pr pl : Int) (T : Nat → Int64), fS B n m = some (aw, td, dp, rt, nm, lf, lp, b, li, tr, be, lt, pr, pl, T) → lf ≠ 0 → lp < tS B n m
  | 0, aw, td, dp, rt, nm, lf, lp, b, li, tr, be, lt, pr, pl, T, h, h0 => by
    cases h
    exact absurd rfl h0
  | m + 1, aw, td, dp, rt, nm, lf, lp, b, li, tr, be, lt, pr, pl, T, h, h0 => by
    have hp := fS_p (by rw [h]; exact fun z => nomatch z)
    have h37 := tS_lt hp.1
    have h : (match fS B n m with
      | none => none
      | some (aw, td, dp, rt, nm, lf, lp, b, li, tr, be, lt, pr, pl, T) => (match fz aw (tK B n m) dp rt pr pl m with
        | some _ => none
        | none => some (fN (tK B n m) (tV B n m) (tS B n m) (tM B n m) (aw, td, dp, rt, nm, lf, lp, b, li, tr, be, lt, pr, pl, T)))) = _ := h
    cases hm : fS B n m with
    | none =>
      rw [hm] at h
      cases h
    | some s =>
      obtain ⟨aw0, td0, dp0, rt0, nm0, lf0, lp0, b0, li0, tr0, be0, lt0, pr0, pl0, T0⟩ := s
      have ih := fS_lp m _ _ _ _ _ _ _ _ _ _ _ _ _ _ _ hm
      rw [hm] at h
      dsimp only at h
      cases hz : fz aw0 (tK B n m) dp0 rt0 pr0 pl0 m with
      | some f =>
        rw [hz] at h
        cases h
      | none =>
        rw [hz] at h
        dsimp only at h
        have h := Option.some.inj h
        unfold fN at h
        injection h with _ h
        injection h with _ h
        injection h with _ h
        injection h with _ h
        injection h with _ h
        injection h with h5 h
        injection h with h6 h
        unfold f5 at h5
        unfold f6 at h6
        split at h6
        · omega
        · next c =>
          rw [if_neg c] at h5
          have := ih (by omega)
          omega
set_option maxHeartbeats 20000000 in
theorem px_nm {X : Option (Nat × (Nat → Int32))} {Z : Option Value → qm_H → Prop} {h : qm_H} (hH : hk_H h) {r tk nv p : Int32} {x : Int64} {l4 : Value} {lf lp : Int} {fu0 : Nat} (q_nv : h.2.1 118 20 = nv) (q_f : h.2.1 118 13 = 0) (q_p : h.2.1 122 tk.toInt.toNat = p) (q_x : h.2.2.1 124 tk.toInt.toNat = x) (hlf : lf = 0 ∨ lf = 3 ∨ lf = 5) (hlp : lf ≠ 0 → lp < p.toInt) (hnv : 0 ≤ nv.toInt ∧ nv.toInt ≤ 16) (k : ∀ g, g ≤ fu0 → ∀ (I : Nat → Nat → Int32) (ws wp : Int32) (l3 : Value), (∀ o, [118].contains o = false → ∀ i, I o i = h.2.1 o i) → (∀ i, [15, 16].contains i = false → I 118 i = h.2.1 118 i) → I 118 15 = ws → I 118 16 = wp → ws.toInt = (if lf = 0 ∧ ftw (h.2.2.1 126) x nv.toInt.toNat = true then 3 else lf) → (ws.toInt ≠ 0 → wp.toInt = (if lf = 0 ∧ ftw (h.2.2.1 126) x nv.toInt.toNat = true then p.toInt else lp)) → qm_Rp g X cd_262 (59, [.ref 118, .int r, .int tk, l3, l4], [], (h.1, I, h.2.2.1, h.2.2.2)) Z) : ∀ (fu : Nat) (I : Nat → Nat → Int32) (ws wp y3 : Int32), (fu ≤ fu0) → ((∀ o, [118].contains o = false → ∀ i, I o i = h.2.1 o i)) → ((∀ i, [15, 16].contains i = false → I 118 i = h.2.1 118 i)) → (I 118 15 = ws) → (I 118 16 = wp) → (0 ≤ y3.toInt ∧ y3.toInt ≤ nv.toInt) → (ws.toInt = (if lf = 0 ∧ ftw (h.2.2.1 126) x y3.toInt.toNat = true then 3 else lf)) → (ws.toInt ≠ 0 → wp.toInt = (if lf = 0 ∧ ftw (h.2.2.1 126) x y3.toInt.toNat = true then p.toInt else lp)) → qm_Rp fu X cd_262 (16, [.ref 118, .int r, .int tk, .int y3, l4], [], (h.1, I, h.2.2.1, h.2.2.2)) Z := by
  intro fu
  induction fu using Nat.strongRecOn with
  | ind fu ih =>
    intro I ws wp y3 hfu e e8 q_ws q_wp hy hw hp
    have hwb : 0 ≤ ws.toInt ∧ ws.toInt ≤ 5 := by split at hw <;> omega
    have kz0 : (0 : Int32).toInt = 0 := rfl
    have kz1 : (1 : Int32).toInt = 1 := rfl
    have kz2 : (2 : Int32).toInt = 2 := rfl
    have kz3 : (3 : Int32).toInt = 3 := rfl
    have kz4 : (4 : Int32).toInt = 4 := rfl
    have kz5 : (5 : Int32).toInt = 5 := rfl
    have kz6 : (6 : Int32).toInt = 6 := rfl
    have kz7 : (7 : Int32).toInt = 7 := rfl
    have kz8 : (8 : Int32).toInt = 8 := rfl
    have kz9 : (9 : Int32).toInt = 9 := rfl
    have kzm1 : ((-1) : Int32).toInt = (-1) := rfl
    have kzm2 : ((-2) : Int32).toInt = (-2) := rfl
    have kzm3 : ((-3) : Int32).toInt = (-3) := rfl
    refine qm_Rp.go1 1 (c' := (18, [.ref 118, .int r, .int tk, .int y3, l4], [.ref 118, .int y3], (h.1, I, h.2.2.1, h.2.2.2))) rfl (fun g hg => ?_)
    refine hp_geti (v := nv) rfl (hH.1 118 (17, 105) rfl) rfl (show (I) 118 20 = _ from ((e8 20 rfl).trans q_nv)) ?_
    refine qm_Rp.go 0 (c' := (21, [.ref 118, .int r, .int tk, .int y3, l4], [.int nv, .int y3], (h.1, I, h.2.2.1, h.2.2.2))) rfl ?_
    refine hp_cge (ix := y3.toInt) (iy := nv.toInt) rfl rfl rfl (fun z1 => ?_) (fun z1 => ?_)
    · refine qm_Rp.go 0 (c' := (59, [.ref 118, .int r, .int tk, .int y3, l4], [], (h.1, I, h.2.2.1, h.2.2.2))) rfl ?_
      exact k g (by omega) I ws wp _ e e8 q_ws q_wp (by rw [show nv.toInt.toNat = y3.toInt.toNat by omega]; exact hw) (by rw [show nv.toInt.toNat = y3.toInt.toNat by omega]; exact hp)
    · refine qm_Rp.go 1 (c' := (25, [.ref 118, .int r, .int tk, .int y3, l4], [.ref 118], (h.1, I, h.2.2.1, h.2.2.2))) rfl ?_
      refine hp_geti (v := 0) rfl (hH.1 118 (17, 105) rfl) rfl (show (I) 118 13 = _ from ((e8 13 rfl).trans q_f)) ?_
      refine qm_Rp.go 2 (c' := (32, [.ref 118, .int r, .int tk, .int y3, l4], [.ref 118], (h.1, I, h.2.2.1, h.2.2.2))) rfl ?_
      refine hp_getr rfl (hH.1 118 (17, 105) rfl) rfl (hH.2 118 21 (some 126) rfl) ?_
      refine qm_Rp.go 1 (c' := (36, [.ref 118, .int r, .int tk, .int y3, l4], [.int y3, .ref 126], (h.1, I, h.2.2.1, h.2.2.2))) rfl ?_
      obtain ⟨w2, q_w2⟩ : ∃ v_, h.2.2.1 126 y3.toInt.toNat = v_ := ⟨_, rfl⟩
      refine hp_lal (v := w2) rfl (hH.1 126 (3, 16) rfl) (show (h.2.2.1) 126 y3.toInt.toNat = _ from q_w2) (fun ia_2 ib_2 => ?_)
      refine qm_Rp.go 0 (c' := (37, [.ref 118, .int r, .int tk, .int y3, l4], [.long w2], (h.1, I, h.2.2.1, h.2.2.2))) rfl ?_
      refine qm_Rp.go 1 (c' := (38, [.ref 118, .int r, .int tk, .int y3, l4], [.ref 118, .long w2], (h.1, I, h.2.2.1, h.2.2.2))) rfl ?_
      refine hp_getr rfl (hH.1 118 (17, 105) rfl) rfl (hH.2 118 8 (some 124) rfl) ?_
      refine qm_Rp.go 1 (c' := (42, [.ref 118, .int r, .int tk, .int y3, l4], [.int tk, .ref 124, .long w2], (h.1, I, h.2.2.1, h.2.2.2))) rfl ?_
      refine hp_lal (v := x) rfl (hH.1 124 (3, 403) rfl) (show (h.2.2.1) 124 tk.toInt.toNat = _ from q_x) (fun ia_3 ib_3 => ?_)
      refine qm_Rp.go 1 (c' := (44, [.ref 118, .int r, .int tk, .int y3, l4], [.int (lg_cmp w2 x)], (h.1, I, h.2.2.1, h.2.2.2))) rfl ?_
      obtain ⟨v5, q_v5⟩ : ∃ v_, (lg_cmp w2 x) = v_ := ⟨_, rfl⟩
      rw [q_v5]
      refine hp_zne (ix := v5.toInt) rfl rfl (fun z6 => ?_) (fun z6 => ?_)
      · refine qm_Rp.go 1 (c' := (56, [.ref 118, .int r, .int tk, .int (y3 + 1), l4], [], (h.1, I, h.2.2.1, h.2.2.2))) rfl ?_
        obtain ⟨v7, q_v7, e_v7⟩ := hk_add (x := y3) (y := 1) (a := y3.toInt) (b := 1) rfl rfl (by omega) (by omega)
        rw [q_v7]
        refine qm_Rp.go 1 (c' := (16, [.ref 118, .int r, .int tk, .int v7, l4], [], (h.1, I, h.2.2.1, h.2.2.2))) rfl ?_
        have eF : ftw (h.2.2.1 126) x v7.toInt.toNat = (ftw (h.2.2.1 126) x y3.toInt.toNat || decide (h.2.2.1 126 y3.toInt.toNat = x)) := by rw [show v7.toInt.toNat = y3.toInt.toNat + 1 by omega]; rfl
        have eD : decide (h.2.2.1 126 y3.toInt.toNat = x) = false := decide_eq_false (by rw [q_w2]; exact kw_n q_v5 (by omega))
        rw [eD, Bool.or_false] at eF
        refine ih g (by omega) (I) ws wp v7 (by omega) (fun o ho i => ((e o (hk_ms rfl ho) i).trans rfl)) (fun i hi => ((e8 i (hk_ms rfl hi)).trans rfl)) q_ws q_wp (by omega) ?_ ?_
        · rw [eF]; exact hw
        · rw [eF]; exact hp
      · refine qm_Rp.go 0 (c' := (47, [.ref 118, .int r, .int tk, .int y3, l4], [], (h.1, I, h.2.2.1, h.2.2.2))) rfl ?_
        refine qm_Rp.go 3 (c' := (50, [.ref 118, .int r, .int tk, .int y3, l4], [.int tk, .int 3, .ref 118], (h.1, I, h.2.2.1, h.2.2.2))) rfl ?_
        refine hp_inv (o := 118) (r := []) (as := [.ref 118, .int 3, .int tk]) rfl rfl (hH.1 118 (17, 105) rfl) rfl rfl rfl ?_
        refine qm_Rp.go 1 (c' := (1, [.ref 118, .int 3, .int tk, .float 0], [.ref 118], (h.1, I, h.2.2.1, h.2.2.2))) rfl ?_
        refine hp_getr rfl (hH.1 118 (17, 105) rfl) rfl (hH.2 118 6 (some 122) rfl) ?_
        refine qm_Rp.go 1 (c' := (5, [.ref 118, .int 3, .int tk, .float 0], [.int tk, .ref 122], (h.1, I, h.2.2.1, h.2.2.2))) rfl ?_
        refine hp_ial (v := p) rfl (hH.1 122 (0, 403) rfl) (show (I) 122 tk.toInt.toNat = _ from ((e 122 rfl tk.toInt.toNat).trans q_p)) (fun ia_7 ib_7 => ?_)
        refine qm_Rp.go 2 (c' := (8, [.ref 118, .int 3, .int tk, .int p], [.ref 118], (h.1, I, h.2.2.1, h.2.2.2))) rfl ?_
        refine hp_geti (v := 0) rfl (hH.1 118 (17, 105) rfl) rfl (show (I) 118 13 = _ from ((e8 13 rfl).trans q_f)) ?_
        refine qm_Rp.go 2 (c' := (15, [.ref 118, .int 3, .int tk, .int p], [.ref 118], (h.1, I, h.2.2.1, h.2.2.2))) rfl ?_
        refine hp_geti (v := ws) rfl (hH.1 118 (17, 105) rfl) rfl q_ws ?_
        refine qm_Rp.go 0 (c' := (18, [.ref 118, .int 3, .int tk, .int p], [.int ws], (h.1, I, h.2.2.1, h.2.2.2))) rfl ?_
        refine hp_zeq (ix := ws.toInt) rfl rfl (fun z9 => ?_) (fun z9 => ?_)
        · refine qm_Rp.go 2 (c' := (48, [.ref 118, .int 3, .int tk, .int p], [.int 3, .ref 118], (h.1, I, h.2.2.1, h.2.2.2))) rfl ?_
          refine hp_puti rfl (hH.1 118 (17, 105) rfl) rfl ?_
          refine qm_Rp.go 2 (c' := (53, [.ref 118, .int 3, .int tk, .int p], [.int p, .ref 118], (h.1, qm_up I 118 15 3, h.2.2.1, h.2.2.2))) rfl ?_
          refine hp_puti rfl (hH.1 118 (17, 105) rfl) rfl ?_
          refine qm_Rp.go 0 (c' := (56, [.ref 118, .int 3, .int tk, .int p], [], (h.1, qm_up (qm_up I 118 15 3) 118 16 p, h.2.2.1, h.2.2.2))) rfl ?_
          refine qm_Rp.rt (v := none) (h' := (h.1, qm_up (qm_up I 118 15 3) 118 16 p, h.2.2.1, h.2.2.2)) rfl ?_
          refine qm_Rp.go 1 (c' := (56, [.ref 118, .int r, .int tk, .int (y3 + 1), l4], [], (h.1, qm_up (qm_up I 118 15 3) 118 16 p, h.2.2.1, h.2.2.2))) rfl ?_
          obtain ⟨v10, q_v10, e_v10⟩ := hk_add (x := y3) (y := 1) (a := y3.toInt) (b := 1) rfl rfl (by omega) (by omega)
          rw [q_v10]
          refine qm_Rp.go 1 (c' := (16, [.ref 118, .int r, .int tk, .int v10, l4], [], (h.1, qm_up (qm_up I 118 15 3) 118 16 p, h.2.2.1, h.2.2.2))) rfl ?_
          have eF : ftw (h.2.2.1 126) x v10.toInt.toNat = (ftw (h.2.2.1 126) x y3.toInt.toNat || decide (h.2.2.1 126 y3.toInt.toNat = x)) := by rw [show v10.toInt.toNat = y3.toInt.toNat + 1 by omega]; rfl
          have eD : decide (h.2.2.1 126 y3.toInt.toNat = x) = true := decide_eq_true (by rw [q_w2]; exact kw_y q_v5 (by omega))
          rw [eD, Bool.or_true] at eF
          refine ih g (by omega) (qm_up (qm_up I 118 15 3) 118 16 p) 3 p v10 (by omega) (fun o ho i => ((hk_mod ho rfl).trans ((hk_mod ho rfl).trans ((e o (hk_ms rfl ho) i).trans rfl)))) (fun i hi => ((hk_neq (fun z => by subst z; cases hi)).trans ((hk_neq (fun z => by subst z; cases hi)).trans ((e8 i (hk_ms rfl hi)).trans rfl)))) (show (qm_up (qm_up I 118 15 3) 118 16 p) 118 15 = _ from ((hk_neq (by decide)).trans (hk_same))) (show (qm_up (qm_up I 118 15 3) 118 16 p) 118 16 = _ from (hk_same)) (by omega) ?_ ?_
          · rw [eF]; by_cases c9 : lf = 0
            · rw [if_pos ⟨c9, rfl⟩]; (try (rw [c9] at hw)); split at hw <;> omega
            · rw [if_neg (fun z => c9 z.1)]; rw [if_neg (fun z => c9 z.1)] at hw; omega
          · intro z9; rw [eF]; by_cases c9 : lf = 0
            · rw [if_pos ⟨c9, rfl⟩]; (try (split at hw <;> split at hp <;> omega))
            · rw [if_neg (fun z => c9 z.1)]; rw [if_neg (fun z => c9 z.1)] at hw hp; omega
        · refine qm_Rp.go 2 (c' := (23, [.ref 118, .int 3, .int tk, .int p], [.ref 118, .int p], (h.1, I, h.2.2.1, h.2.2.2))) rfl ?_
          refine hp_geti (v := wp) rfl (hH.1 118 (17, 105) rfl) rfl q_wp ?_
          refine qm_Rp.go 0 (c' := (26, [.ref 118, .int 3, .int tk, .int p], [.int wp, .int p], (h.1, I, h.2.2.1, h.2.2.2))) rfl ?_
          refine hp_cgt (ix := p.toInt) (iy := wp.toInt) rfl rfl rfl (fun z11 => ?_) (fun z11 => ?_)
          · refine qm_Rp.go 0 (c' := (45, [.ref 118, .int 3, .int tk, .int p], [], (h.1, I, h.2.2.1, h.2.2.2))) rfl ?_
            refine qm_Rp.rt (v := none) (h' := (h.1, I, h.2.2.1, h.2.2.2)) rfl ?_
            refine qm_Rp.go 1 (c' := (56, [.ref 118, .int r, .int tk, .int (y3 + 1), l4], [], (h.1, I, h.2.2.1, h.2.2.2))) rfl ?_
            obtain ⟨v12, q_v12, e_v12⟩ := hk_add (x := y3) (y := 1) (a := y3.toInt) (b := 1) rfl rfl (by omega) (by omega)
            rw [q_v12]
            refine qm_Rp.go 1 (c' := (16, [.ref 118, .int r, .int tk, .int v12, l4], [], (h.1, I, h.2.2.1, h.2.2.2))) rfl ?_
            have eF : ftw (h.2.2.1 126) x v12.toInt.toNat = (ftw (h.2.2.1 126) x y3.toInt.toNat || decide (h.2.2.1 126 y3.toInt.toNat = x)) := by rw [show v12.toInt.toNat = y3.toInt.toNat + 1 by omega]; rfl
            have eD : decide (h.2.2.1 126 y3.toInt.toNat = x) = true := decide_eq_true (by rw [q_w2]; exact kw_y q_v5 (by omega))
            rw [eD, Bool.or_true] at eF
            refine ih g (by omega) (I) ws wp v12 (by omega) (fun o ho i => ((e o (hk_ms rfl ho) i).trans rfl)) (fun i hi => ((e8 i (hk_ms rfl hi)).trans rfl)) q_ws q_wp (by omega) ?_ ?_
            · rw [eF]; by_cases c9 : lf = 0
              · rw [if_pos ⟨c9, rfl⟩]; (try (rw [c9] at hw)); split at hw <;> omega
              · rw [if_neg (fun z => c9 z.1)]; rw [if_neg (fun z => c9 z.1)] at hw; omega
            · intro z9; rw [eF]; by_cases c9 : lf = 0
              · rw [if_pos ⟨c9, rfl⟩]; (try (split at hw <;> split at hp <;> omega))
              · rw [if_neg (fun z => c9 z.1)]; rw [if_neg (fun z => c9 z.1)] at hw hp; omega
          · refine qm_Rp.go 0 (c' := (29, [.ref 118, .int 3, .int tk, .int p], [], (h.1, I, h.2.2.1, h.2.2.2))) rfl ?_
            have hq9 : lf = 0 ∧ ws.toInt = 3 ∧ wp.toInt = p.toInt := by
              have hp := hp (by omega)
              by_cases c9 : lf = 0
              · split at hw <;> split at hp <;> omega
              · exfalso; rw [if_neg (fun z => c9 z.1)] at hp; have := hlp c9; omega
            refine qm_Rp.go 2 (c' := (31, [.ref 118, .int 3, .int tk, .int p], [.ref 118, .int p], (h.1, I, h.2.2.1, h.2.2.2))) rfl ?_
            refine hp_geti (v := wp) rfl (hH.1 118 (17, 105) rfl) rfl q_wp ?_
            refine qm_Rp.go 0 (c' := (34, [.ref 118, .int 3, .int tk, .int p], [.int wp, .int p], (h.1, I, h.2.2.1, h.2.2.2))) rfl ?_
            refine hp_cne (ix := p.toInt) (iy := wp.toInt) rfl rfl rfl (fun z13 => by exfalso; omega) (fun z13 => ?_)
            refine qm_Rp.go 2 (c' := (39, [.ref 118, .int 3, .int tk, .int p], [.ref 118, .int 3], (h.1, I, h.2.2.1, h.2.2.2))) rfl ?_
            refine hp_geti (v := ws) rfl (hH.1 118 (17, 105) rfl) rfl q_ws ?_
            refine qm_Rp.go 0 (c' := (42, [.ref 118, .int 3, .int tk, .int p], [.int ws, .int 3], (h.1, I, h.2.2.1, h.2.2.2))) rfl ?_
            refine hp_clt (ix := 3) (iy := ws.toInt) rfl rfl rfl (fun z14 => by exfalso; omega) (fun z14 => ?_)
            refine qm_Rp.go 0 (c' := (45, [.ref 118, .int 3, .int tk, .int p], [], (h.1, I, h.2.2.1, h.2.2.2))) rfl ?_
            refine qm_Rp.rt (v := none) (h' := (h.1, I, h.2.2.1, h.2.2.2)) rfl ?_
            refine qm_Rp.go 1 (c' := (56, [.ref 118, .int r, .int tk, .int (y3 + 1), l4], [], (h.1, I, h.2.2.1, h.2.2.2))) rfl ?_
            obtain ⟨v15, q_v15, e_v15⟩ := hk_add (x := y3) (y := 1) (a := y3.toInt) (b := 1) rfl rfl (by omega) (by omega)
            rw [q_v15]
            refine qm_Rp.go 1 (c' := (16, [.ref 118, .int r, .int tk, .int v15, l4], [], (h.1, I, h.2.2.1, h.2.2.2))) rfl ?_
            have eF : ftw (h.2.2.1 126) x v15.toInt.toNat = (ftw (h.2.2.1 126) x y3.toInt.toNat || decide (h.2.2.1 126 y3.toInt.toNat = x)) := by rw [show v15.toInt.toNat = y3.toInt.toNat + 1 by omega]; rfl
            have eD : decide (h.2.2.1 126 y3.toInt.toNat = x) = true := decide_eq_true (by rw [q_w2]; exact kw_y q_v5 (by omega))
            rw [eD, Bool.or_true] at eF
            refine ih g (by omega) (I) ws wp v15 (by omega) (fun o ho i => ((e o (hk_ms rfl ho) i).trans rfl)) (fun i hi => ((e8 i (hk_ms rfl hi)).trans rfl)) q_ws q_wp (by omega) ?_ ?_
            · rw [eF]; by_cases c9 : lf = 0
              · rw [if_pos ⟨c9, rfl⟩]; (try (rw [c9] at hw)); split at hw <;> omega
              · rw [if_neg (fun z => c9 z.1)]; rw [if_neg (fun z => c9 z.1)] at hw; omega
            · intro z9; rw [eF]; by_cases c9 : lf = 0
              · rw [if_pos ⟨c9, rfl⟩]; (try (split at hw <;> split at hp <;> omega))
              · rw [if_neg (fun z => c9 z.1)]; rw [if_neg (fun z => c9 z.1)] at hw hp; omega
