/-! the reference's reading of tokens, in given runs -/
/-- a fault that ends the text, and its place -/
noncomputable def rfin (B : Nat → Int32) (n : Nat) (f fp : Int32) : Prop := (1 ≤ f.toInt ∧ f.toInt ≤ 2) ∧ ∃ (m : Nat) (s : fSt), fE B n m f.toInt s ∧ fp.toInt = tS B n m
theorem fS_p {B : Nat → Int32} {n m : Nat} (h : fS B n (m + 1) ≠ none) : tK B n m ≠ 37 ∧ fS B n m ≠ none := by
  cases hm : fS B n m with
  | none => exact absurd (fS_no hm (Nat.le_succ m)) h
  | some s =>
    obtain ⟨aw, td, dp, rt, nm, lf, lp, b, li, tr, be, lt, pr, pl, T⟩ := s
    refine ⟨fun e => h ?_, fun z => nomatch z⟩
    by_cases c : aw = 0
    · exact fE_no (fE_0 hm e c)
    · exact fE_no (fE_1 hm e c)
theorem fS_37 {B : Nat → Int32} {n : Nat} : ∀ {m : Nat}, fS B n m ≠ none → ∀ z, z < m → tK B n z ≠ 37
  | 0, _, z, hz => absurd hz (Nat.not_lt_zero z)
  | m + 1, h, z, hz => by
    obtain ⟨h1, h2⟩ := fS_p h
    by_cases c : z = m
    · rw [c]
      exact h1
    · exact fS_37 h2 z (by omega)
/-- the rows hold the tokens, as far as a text goes -/
noncomputable def rAll (B : Nat → Int32) (n : Nat) (I : Nat → Nat → Int32) (J : Nat → Nat → Int64) : Prop := ∀ y, y ≤ 400 → (∀ z, z < y → tK B n z ≠ 37) → rA B n (I 121) (I 122) (I 123) (J 124) (y + 1)
/-- the token at m, as the rows tell it -/
noncomputable def rTk (B : Nat → Int32) (n m : Nat) (k : Int32) : Prop := (0 ≤ tK B n m ∧ tK B n m ≤ 38) ∧ k.toInt = rkd (tK B n m)
theorem rTk_P {B : Nat → Int32} {n m : Nat} {k : Int32} {P Q : Int → Prop} (h : rTk B n m k) (hd : ∀ d : Nat, d < 39 → P (rkd d) → Q d) (hp : P k.toInt) : Q (tK B n m) := by
  obtain ⟨h1, h2⟩ := h
  rw [h2] at hp
  have e : ((tK B n m).toNat : Int) = tK B n m := by omega
  have := hd (tK B n m).toNat (by omega)
  rw [e] at this
  exact this hp
theorem rAll_at {B : Nat → Int32} {n m : Nat} {I : Nat → Nat → Int32} {J : Nat → Nat → Int64} (hA : rAll B n I J) {s : fSt} (hF : fS B n m = some s) {k p : Int32} (qk : I 121 m = k) (qp : I 122 m = p) : rTk B n m k ∧ p.toInt = tS B n m ∧ m ≤ 400 := by
  have h4 : m ≤ 400 := by
    obtain ⟨aw, td, dp, rt, nm, lf, lp, b, li, tr, be, lt, pr, pl, T⟩ := s
    exact fS_le hF
  have h := hA m h4 (fS_37 (by rw [hF]; exact fun z => nomatch z)) m (by omega)
  obtain ⟨h1, h2, -, -⟩ := h
  rw [qk] at h1
  rw [qp] at h2
  exact ⟨⟨tK_b, h1⟩, h2, h4⟩
noncomputable def hid (P : Prop) : Prop := P
theorem rAll_v {B : Nat → Int32} {n m : Nat} {I : Nat → Nat → Int32} {J : Nat → Nat → Int64} (hA : rAll B n I J) {s : fSt} (hF : fS B n m = some s) {v : Int32} (qv : I 123 m = v) (hk : tK B n m = 25) : v.toInt = tV B n m := by
  have h4 : m ≤ 400 := by
    obtain ⟨aw, td, dp, rt, nm, lf, lp, b, li, tr, be, lt, pr, pl, T⟩ := s
    exact fS_le hF
  have h := (hA m h4 (fS_37 (by rw [hF]; exact fun z => nomatch z)) m (by omega)).2.2.1 hk
  rw [qv] at h
  exact h
theorem rAll_n {B : Nat → Int32} {n m : Nat} {I : Nat → Nat → Int32} {J : Nat → Nat → Int64} (hA : rAll B n I J) {s : fSt} (hF : fS B n m = some s) {x : Int64} (qx : J 124 m = x) (hk : tK B n m = 26) : tM B n m = x := by
  have h4 : m ≤ 400 := by
    obtain ⟨aw, td, dp, rt, nm, lf, lp, b, li, tr, be, lt, pr, pl, T⟩ := s
    exact fS_le hF
  have h := (hA m h4 (fS_37 (by rw [hF]; exact fun z => nomatch z)) m (by omega)).2.2.2 hk
  rw [qx] at h
  exact h.symm
section FE
variable {B : Nat → Int32} {n m : Nat} {aw td dp rt nm lf lp b li tr be lt pr pl : Int} {T : Nat → Int64}
theorem fE_x (hF : fS B n m = some (aw, td, dp, rt, nm, lf, lp, b, li, tr, be, lt, pr, pl, T)) (h : (tK B n m = 37 → aw ≠ 0) ∧ (tK B n m ≠ 37 → fo aw (tK B n m) dp rt = -1)) {f fp : Int32} (hf : f.toInt = 1) (hp : fp.toInt = tS B n m) : rfin B n f fp := by
  refine ⟨by omega, m, (aw, td, dp, rt, nm, lf, lp, b, li, tr, be, lt, pr, pl, T), ?_, hp⟩
  rw [hf]
  by_cases c : tK B n m = 37
  · exact fE_1 hF c (h.1 c)
  · exact fE_s hF rfl c (h.2 c)
theorem fE_y (hF : fS B n m = some (aw, td, dp, rt, nm, lf, lp, b, li, tr, be, lt, pr, pl, T)) (h : tK B n m ≠ 37 ∧ fo aw (tK B n m) dp rt ≠ -1) (hr : m = 400 ∨ frm (tK B n m) dp pr pl) {f fp : Int32} (hf : f.toInt = 2) (hp : fp.toInt = tS B n m) : rfin B n f fp := by
  refine ⟨by omega, m, (aw, td, dp, rt, nm, lf, lp, b, li, tr, be, lt, pr, pl, T), ?_, hp⟩
  rw [hf]
  exact fE_2 hF rfl h.1 rfl h.2 hr
/-- a step in a condition leaves all but what is awaited, the open ones, the side -/
theorem fS_c (hF : fS B n m = some (aw, td, dp, rt, nm, lf, lp, b, li, tr, be, lt, pr, pl, T)) {a0 d2 r2 : Int} (ha : 7 ≤ aw) (h37 : tK B n m ≠ 37) (h27 : tK B n m ≠ 27) (e0 : fo aw (tK B n m) dp rt = a0) (h0 : a0 ≠ -1) (h4 : m ≠ 400) (hr : ¬ frm (tK B n m) dp pr pl) (e2 : f2 aw dp (tK B n m) = d2) (e3 : f3 aw rt (tK B n m) = r2) {m2 : Nat} (hm : m2 = m + 1) : fS B n m2 = some (a0, td, d2, r2, nm, lf, lp, b, li, tr, be, lt, pr, pl, T) := by
  subst hm
  exact fS_s hF rfl rfl rfl rfl h37 e0 h0 h4 hr (f1_n (by omega)) e2 e3 (f4_n (by omega)) (f5_n (lp := lp) (p := (tS B n m : Int)) (by omega)).1 (f5_n (by omega)).2 (f7_n (by omega)) (f8_n (by omega)) (f9_n (by omega)) (f10_n (by omega)) (f11_n (by omega)) (f12_n (by omega)) (f13_n (by omega)) (f14_n (by omega))
end FE
theorem px_go {X : Option (Nat × (Nat → Int32))} {Z : Option Value → qm_H → Prop} {h : qm_H} {fu : Nat} (hH : hk_H h) {t : Int32} (q_t : h.2.1 118 11 = t) (q_f : h.2.1 118 13 = 0) (ht : 0 ≤ t.toInt ∧ t.toInt ≤ 400) (k4 : ∀ fp : Int32, h.2.1 122 t.toInt.toNat = fp → t.toInt = 400 → Z none (h.1, qm_up (qm_up h.2.1 118 13 2) 118 14 fp, h.2.2.1, h.2.2.2)) (kn : ∀ t2 : Int32, t2.toInt = t.toInt + 1 → t.toInt ≠ 400 → Z none (h.1, qm_up h.2.1 118 11 t2, h.2.2.1, h.2.2.2)) : qm_Rp fu X cd_257 (qm_ent 1 [.ref 118] h) Z := by
  refine qm_Rp.go 0 (c' := (0, [.ref 118], [], h)) rfl ?_
  have kz0 : (0 : Int32).toInt = 0 := rfl
  have kz1 : (1 : Int32).toInt = 1 := rfl
  have kz2 : (2 : Int32).toInt = 2 := rfl
  have kz3 : (3 : Int32).toInt = 3 := rfl
  have kz4 : (4 : Int32).toInt = 4 := rfl
  have kz5 : (5 : Int32).toInt = 5 := rfl
  have kz6 : (6 : Int32).toInt = 6 := rfl
  have kz7 : (7 : Int32).toInt = 7 := rfl
  have kz8 : (8 : Int32).toInt = 8 := rfl
  have kz9 : (9 : Int32).toInt = 9 := rfl
  have kzm1 : ((-1) : Int32).toInt = (-1) := rfl
  have kzm2 : ((-2) : Int32).toInt = (-2) := rfl
  have kzm3 : ((-3) : Int32).toInt = (-3) := rfl
  refine qm_Rp.go 1 (c' := (1, [.ref 118], [.ref 118], h)) rfl ?_
  refine hp_geti (v := t) rfl (hH.1 118 (17, 105) rfl) rfl q_t ?_
  refine qm_Rp.go 1 (c' := (7, [.ref 118], [.int 400, .int t], h)) rfl ?_
  refine hp_cne (ix := t.toInt) (iy := 400) rfl rfl rfl (fun z1 => ?_) (fun z1 => ?_)
  · refine qm_Rp.go 2 (c' := (20, [.ref 118], [.ref 118, .ref 118], h)) rfl ?_
    refine hp_geti (v := t) rfl (hH.1 118 (17, 105) rfl) rfl q_t ?_
    refine qm_Rp.go 2 (c' := (25, [.ref 118], [.int (t + 1), .ref 118], h)) rfl ?_
    obtain ⟨v2, q_v2, e_v2⟩ := hk_add (x := t) (y := 1) (a := t.toInt) (b := 1) rfl rfl (by omega) (by omega)
    rw [q_v2]
    refine hp_puti rfl (hH.1 118 (17, 105) rfl) rfl ?_
    refine qm_Rp.go 0 (c' := (28, [.ref 118], [], (h.1, qm_up h.2.1 118 11 v2, h.2.2.1, h.2.2.2))) rfl ?_
    refine qm_Rp.rt (v := none) (h' := (h.1, qm_up h.2.1 118 11 v2, h.2.2.1, h.2.2.2)) rfl ?_
    exact kn v2 (by omega) (by omega)
  · refine qm_Rp.go 2 (c' := (12, [.ref 118], [.int 2, .ref 118], h)) rfl ?_
    refine hp_inv (o := 118) (r := []) (as := [.ref 118, .int 2]) rfl rfl (hH.1 118 (17, 105) rfl) rfl rfl rfl ?_
    refine qm_Rp.go 1 (c' := (1, [.ref 118, .int 2], [.ref 118], h)) rfl ?_
    refine hp_geti (v := 0) rfl (hH.1 118 (17, 105) rfl) rfl q_f ?_
    refine qm_Rp.go 3 (c' := (10, [.ref 118, .int 2], [.int 2, .ref 118], h)) rfl ?_
    refine hp_puti rfl (hH.1 118 (17, 105) rfl) rfl ?_
    refine qm_Rp.go 2 (c' := (15, [.ref 118, .int 2], [.ref 118, .ref 118], (h.1, qm_up h.2.1 118 13 2, h.2.2.1, h.2.2.2))) rfl ?_
    refine hp_getr rfl (hH.1 118 (17, 105) rfl) rfl (hH.2 118 6 (some 122) rfl) ?_
    refine qm_Rp.go 1 (c' := (19, [.ref 118, .int 2], [.ref 118, .ref 122, .ref 118], (h.1, qm_up h.2.1 118 13 2, h.2.2.1, h.2.2.2))) rfl ?_
    refine hp_geti (v := t) rfl (hH.1 118 (17, 105) rfl) rfl (show (qm_up h.2.1 118 13 2) 118 11 = _ from ((hk_neq (by decide)).trans q_t)) ?_
    refine qm_Rp.go 0 (c' := (22, [.ref 118, .int 2], [.int t, .ref 122, .ref 118], (h.1, qm_up h.2.1 118 13 2, h.2.2.1, h.2.2.2))) rfl ?_
    obtain ⟨v3, q_v3⟩ : ∃ v_, h.2.1 122 t.toInt.toNat = v_ := ⟨_, rfl⟩
    refine hp_ial (v := v3) rfl (hH.1 122 (0, 403) rfl) (show (qm_up h.2.1 118 13 2) 122 t.toInt.toNat = _ from ((hk_ot rfl).trans q_v3)) (fun ia_3 ib_3 => ?_)
    refine qm_Rp.go 0 (c' := (23, [.ref 118, .int 2], [.int v3, .ref 118], (h.1, qm_up h.2.1 118 13 2, h.2.2.1, h.2.2.2))) rfl ?_
    refine hp_puti rfl (hH.1 118 (17, 105) rfl) rfl ?_
    refine qm_Rp.go 0 (c' := (26, [.ref 118, .int 2], [], (h.1, qm_up (qm_up h.2.1 118 13 2) 118 14 v3, h.2.2.1, h.2.2.2))) rfl ?_
    refine qm_Rp.rt (v := none) (h' := (h.1, qm_up (qm_up h.2.1 118 13 2) 118 14 v3, h.2.2.1, h.2.2.2)) rfl ?_
    refine qm_Rp.go 1 (c' := (28, [.ref 118], [], (h.1, qm_up (qm_up h.2.1 118 13 2) 118 14 v3, h.2.2.1, h.2.2.2))) rfl ?_
    refine qm_Rp.rt (v := none) (h' := (h.1, qm_up (qm_up h.2.1 118 13 2) 118 14 v3, h.2.2.1, h.2.2.2)) rfl ?_
    exact k4 v3 q_v3 (by omega)
theorem px_gof {X : Option (Nat × (Nat → Int32))} {Z : Option Value → qm_H → Prop} {h : qm_H} {fu : Nat} (hH : hk_H h) {f : Int32} (q_f : h.2.1 118 13 = f) (hf : 1 ≤ f.toInt ∧ f.toInt ≤ 2) (k : ∀ I : Nat → Nat → Int32, (∀ o, [118].contains o = false → ∀ i, I o i = h.2.1 o i) → (∀ i, [11].contains i = false → I 118 i = h.2.1 118 i) → Z none (h.1, I, h.2.2.1, h.2.2.2)) : qm_Rp fu X cd_257 (qm_ent 1 [.ref 118] h) Z := by
  refine qm_Rp.go 0 (c' := (0, [.ref 118], [], h)) rfl ?_
  have kz0 : (0 : Int32).toInt = 0 := rfl
  have kz1 : (1 : Int32).toInt = 1 := rfl
  have kz2 : (2 : Int32).toInt = 2 := rfl
  have kz3 : (3 : Int32).toInt = 3 := rfl
  have kz4 : (4 : Int32).toInt = 4 := rfl
  have kz5 : (5 : Int32).toInt = 5 := rfl
  have kz6 : (6 : Int32).toInt = 6 := rfl
  have kz7 : (7 : Int32).toInt = 7 := rfl
  have kz8 : (8 : Int32).toInt = 8 := rfl
  have kz9 : (9 : Int32).toInt = 9 := rfl
  have kzm1 : ((-1) : Int32).toInt = (-1) := rfl
  have kzm2 : ((-2) : Int32).toInt = (-2) := rfl
  have kzm3 : ((-3) : Int32).toInt = (-3) := rfl
  refine qm_Rp.go 1 (c' := (1, [.ref 118], [.ref 118], h)) rfl ?_
  obtain ⟨v1, q_v1⟩ : ∃ v_, h.2.1 118 11 = v_ := ⟨_, rfl⟩
  refine hp_geti (v := v1) rfl (hH.1 118 (17, 105) rfl) rfl q_v1 ?_
  refine qm_Rp.go 1 (c' := (7, [.ref 118], [.int 400, .int v1], h)) rfl ?_
  refine hp_cne (ix := v1.toInt) (iy := 400) rfl rfl rfl (fun z2 => ?_) (fun z2 => ?_)
  · refine qm_Rp.go 2 (c' := (20, [.ref 118], [.ref 118, .ref 118], h)) rfl ?_
    refine hp_geti (v := v1) rfl (hH.1 118 (17, 105) rfl) rfl q_v1 ?_
    refine qm_Rp.go 2 (c' := (25, [.ref 118], [.int (v1 + 1), .ref 118], h)) rfl ?_
    obtain ⟨v3, q_v3⟩ : ∃ v_, (v1 + 1) = v_ := ⟨_, rfl⟩
    rw [q_v3]
    refine hp_puti rfl (hH.1 118 (17, 105) rfl) rfl ?_
    refine qm_Rp.go 0 (c' := (28, [.ref 118], [], (h.1, qm_up h.2.1 118 11 v3, h.2.2.1, h.2.2.2))) rfl ?_
    refine qm_Rp.rt (v := none) (h' := (h.1, qm_up h.2.1 118 11 v3, h.2.2.1, h.2.2.2)) rfl ?_
    exact k (qm_up h.2.1 118 11 v3) (fun o ho i => hk_mod ho rfl) (fun i hi => hk_neq (fun z => by subst z; cases hi))
  · refine qm_Rp.go 2 (c' := (12, [.ref 118], [.int 2, .ref 118], h)) rfl ?_
    refine hp_inv (o := 118) (r := []) (as := [.ref 118, .int 2]) rfl rfl (hH.1 118 (17, 105) rfl) rfl rfl rfl ?_
    refine qm_Rp.go 1 (c' := (1, [.ref 118, .int 2], [.ref 118], h)) rfl ?_
    refine hp_geti (v := f) rfl (hH.1 118 (17, 105) rfl) rfl q_f ?_
    refine qm_Rp.go 0 (c' := (4, [.ref 118, .int 2], [.int f], h)) rfl ?_
    refine hp_zle (ix := f.toInt) rfl rfl (fun z4 => by exfalso; omega) (fun z4 => ?_)
    refine qm_Rp.go 0 (c' := (7, [.ref 118, .int 2], [], h)) rfl ?_
    refine qm_Rp.rt (v := none) (h' := h) rfl ?_
    refine qm_Rp.go 1 (c' := (28, [.ref 118], [], h)) rfl ?_
    refine qm_Rp.rt (v := none) (h' := h) rfl ?_
    exact k (h.2.1) (fun o ho i => rfl) (fun i hi => rfl)
set_option maxHeartbeats 20000000 in
theorem px_col {X : Option (Nat × (Nat → Int32))} {Z : Option Value → qm_H → Prop} {h : qm_H} (hH : hk_H h) {s : Int32} (k : ∀ I : Nat → Nat → Int32, (∀ o, [118, 141, 142].contains o = false → ∀ i, I o i = h.2.1 o i) → (∀ i, [37, 41].contains i = false → I 118 i = h.2.1 118 i) → Z none (h.1, I, h.2.2.1, h.2.2.2)) : ∀ (fu : Nat) (I : Nat → Nat → Int32), ((∀ o, [118, 141, 142].contains o = false → ∀ i, I o i = h.2.1 o i)) → ((∀ i, [37, 41].contains i = false → I 118 i = h.2.1 118 i)) → ∀ l2 : Value, qm_Rp fu X cd_267 (0, [.ref 118, .int s, l2], [], (h.1, I, h.2.2.1, h.2.2.2)) Z := by
  intro fu
  induction fu using Nat.strongRecOn with
  | ind fu ih =>
    intro I e e8 l2
    have kz0 : (0 : Int32).toInt = 0 := rfl
    have kz1 : (1 : Int32).toInt = 1 := rfl
    have kz2 : (2 : Int32).toInt = 2 := rfl
    have kz3 : (3 : Int32).toInt = 3 := rfl
    have kz4 : (4 : Int32).toInt = 4 := rfl
    have kz5 : (5 : Int32).toInt = 5 := rfl
    have kz6 : (6 : Int32).toInt = 6 := rfl
    have kz7 : (7 : Int32).toInt = 7 := rfl
    have kz8 : (8 : Int32).toInt = 8 := rfl
    have kz9 : (9 : Int32).toInt = 9 := rfl
    have kzm1 : ((-1) : Int32).toInt = (-1) := rfl
    have kzm2 : ((-2) : Int32).toInt = (-2) := rfl
    have kzm3 : ((-3) : Int32).toInt = (-3) := rfl
    refine qm_Rp.go1 0 (c' := (1, [.ref 118, .int s, l2], [.ref 118], (h.1, I, h.2.2.1, h.2.2.2))) rfl (fun g hg => ?_)
    obtain ⟨v1, q_v1⟩ : ∃ v_, I 118 41 = v_ := ⟨_, rfl⟩
    refine hp_geti (v := v1) rfl (hH.1 118 (17, 105) rfl) rfl q_v1 ?_
    refine qm_Rp.go 0 (c' := (4, [.ref 118, .int s, l2], [.int v1], (h.1, I, h.2.2.1, h.2.2.2))) rfl ?_
    refine hp_zle (ix := v1.toInt) rfl rfl (fun z2 => ?_) (fun z2 => ?_)
    · refine qm_Rp.go 0 (c' := (81, [.ref 118, .int s, l2], [], (h.1, I, h.2.2.1, h.2.2.2))) rfl ?_
      refine qm_Rp.rt (v := none) (h' := (h.1, I, h.2.2.1, h.2.2.2)) rfl ?_
      exact k (I) (fun o ho i => ((e o (hk_ms rfl ho) i).trans rfl)) (fun i hi => ((e8 i (hk_ms rfl hi)).trans rfl))
    · refine qm_Rp.go 1 (c' := (8, [.ref 118, .int s, l2], [.ref 118], (h.1, I, h.2.2.1, h.2.2.2))) rfl ?_
      refine hp_getr rfl (hH.1 118 (17, 105) rfl) rfl (hH.2 118 40 (some 143) rfl) ?_
      refine qm_Rp.go 1 (c' := (12, [.ref 118, .int s, l2], [.ref 118, .ref 143], (h.1, I, h.2.2.1, h.2.2.2))) rfl ?_
      refine hp_geti (v := v1) rfl (hH.1 118 (17, 105) rfl) rfl q_v1 ?_
      refine qm_Rp.go 2 (c' := (17, [.ref 118, .int s, l2], [.int (v1 - 1), .ref 143], (h.1, I, h.2.2.1, h.2.2.2))) rfl ?_
      have := hk_rng v1
      obtain ⟨v3, q_v3, e_v3⟩ := hk_sub (x := v1) (y := 1) (a := v1.toInt) (b := 1) rfl rfl (by omega) (by omega)
      rw [q_v3]
      obtain ⟨v4, q_v4⟩ : ∃ v_, h.2.1 143 v3.toInt.toNat = v_ := ⟨_, rfl⟩
      refine hp_ial (v := v4) rfl (hH.1 143 (0, 64) rfl) (show (I) 143 v3.toInt.toNat = _ from ((e 143 rfl v3.toInt.toNat).trans q_v4)) (fun ia_4 ib_4 => ?_)
      refine qm_Rp.go 3 (c' := (22, [.ref 118, .int s, .int v4], [.int 6, .int v4], (h.1, I, h.2.2.1, h.2.2.2))) rfl ?_
      refine hp_ceq (ix := v4.toInt) (iy := 6) rfl rfl rfl (fun z6 => ?_) (fun z6 => ?_)
      · refine qm_Rp.go 0 (c' := (41, [.ref 118, .int s, .int v4], [], (h.1, I, h.2.2.1, h.2.2.2))) rfl ?_
        refine qm_Rp.rt (v := none) (h' := (h.1, I, h.2.2.1, h.2.2.2)) rfl ?_
        exact k (I) (fun o ho i => ((e o (hk_ms rfl ho) i).trans rfl)) (fun i hi => ((e8 i (hk_ms rfl hi)).trans rfl))
      · refine qm_Rp.go 1 (c' := (26, [.ref 118, .int s, .int v4], [.int s], (h.1, I, h.2.2.1, h.2.2.2))) rfl ?_
        refine hp_zeq (ix := s.toInt) rfl rfl (fun z7 => ?_) (fun z7 => ?_)
        · refine qm_Rp.go 2 (c' := (44, [.ref 118, .int s, .int v4], [.ref 118, .ref 118], (h.1, I, h.2.2.1, h.2.2.2))) rfl ?_
          refine hp_geti (v := v1) rfl (hH.1 118 (17, 105) rfl) rfl q_v1 ?_
          refine qm_Rp.go 2 (c' := (49, [.ref 118, .int s, .int v4], [.int (v1 - 1), .ref 118], (h.1, I, h.2.2.1, h.2.2.2))) rfl ?_
          rw [q_v3]
          refine hp_puti rfl (hH.1 118 (17, 105) rfl) rfl ?_
          refine qm_Rp.go 3 (c' := (56, [.ref 118, .int s, .int v4], [.int 8, .int v4, .ref 118], (h.1, qm_up I 118 41 v3, h.2.2.1, h.2.2.2))) rfl ?_
          refine hp_cne (ix := v4.toInt) (iy := 8) rfl rfl rfl (fun z8 => ?_) (fun z8 => ?_)
          · refine qm_Rp.go 2 (c' := (66, [.ref 118, .int s, .int v4], [.int 9, .int v4, .ref 118], (h.1, qm_up I 118 41 v3, h.2.2.1, h.2.2.2))) rfl ?_
            refine hp_cne (ix := v4.toInt) (iy := 9) rfl rfl rfl (fun z9 => ?_) (fun z9 => ?_)
            · refine qm_Rp.go 2 (c' := (75, [.ref 118, .int s, .int v4], [.int 0, .int 4, .ref 118], (h.1, qm_up I 118 41 v3, h.2.2.1, h.2.2.2))) rfl ?_
              refine hp_inv (o := 118) (r := []) (as := [.ref 118, .int 4, .int 0]) rfl rfl (hH.1 118 (17, 105) rfl) rfl rfl rfl ?_
              refine qm_Rp.go 1 (c' := (1, [.ref 118, .int 4, .int 0], [.ref 118], (h.1, qm_up I 118 41 v3, h.2.2.1, h.2.2.2))) rfl ?_
              refine hp_getr rfl (hH.1 118 (17, 105) rfl) rfl (hH.2 118 38 (some 141) rfl) ?_
              refine qm_Rp.go 1 (c' := (5, [.ref 118, .int 4, .int 0], [.ref 118, .ref 141], (h.1, qm_up I 118 41 v3, h.2.2.1, h.2.2.2))) rfl ?_
              obtain ⟨v10, q_v10⟩ : ∃ v_, I 118 37 = v_ := ⟨_, rfl⟩
              refine hp_geti (v := v10) rfl (hH.1 118 (17, 105) rfl) rfl (show (qm_up I 118 41 v3) 118 37 = _ from ((hk_neq (by decide)).trans q_v10)) ?_
              refine qm_Rp.go 1 (c' := (9, [.ref 118, .int 4, .int 0], [.int 4, .int v10, .ref 141], (h.1, qm_up I 118 41 v3, h.2.2.1, h.2.2.2))) rfl ?_
              refine hp_ias rfl (hH.1 141 (0, 840) rfl) (fun ia_10 ib_10 => ?_)
              refine qm_Rp.go 1 (c' := (11, [.ref 118, .int 4, .int 0], [.ref 118], (h.1, qm_up (qm_up I 118 41 v3) 141 v10.toInt.toNat 4, h.2.2.1, h.2.2.2))) rfl ?_
              refine hp_getr rfl (hH.1 118 (17, 105) rfl) rfl (hH.2 118 39 (some 142) rfl) ?_
              refine qm_Rp.go 1 (c' := (15, [.ref 118, .int 4, .int 0], [.ref 118, .ref 142], (h.1, qm_up (qm_up I 118 41 v3) 141 v10.toInt.toNat 4, h.2.2.1, h.2.2.2))) rfl ?_
              refine hp_geti (v := v10) rfl (hH.1 118 (17, 105) rfl) rfl (show (qm_up (qm_up I 118 41 v3) 141 v10.toInt.toNat 4) 118 37 = _ from ((hk_ot rfl).trans ((hk_neq (by decide)).trans q_v10))) ?_
              refine qm_Rp.go 1 (c' := (19, [.ref 118, .int 4, .int 0], [.int 0, .int v10, .ref 142], (h.1, qm_up (qm_up I 118 41 v3) 141 v10.toInt.toNat 4, h.2.2.1, h.2.2.2))) rfl ?_
              refine hp_ias rfl (hH.1 142 (0, 840) rfl) (fun ia_11 ib_11 => ?_)
              refine qm_Rp.go 2 (c' := (22, [.ref 118, .int 4, .int 0], [.ref 118, .ref 118], (h.1, qm_up (qm_up (qm_up I 118 41 v3) 141 v10.toInt.toNat 4) 142 v10.toInt.toNat 0, h.2.2.1, h.2.2.2))) rfl ?_
              refine hp_geti (v := v10) rfl (hH.1 118 (17, 105) rfl) rfl (show (qm_up (qm_up (qm_up I 118 41 v3) 141 v10.toInt.toNat 4) 142 v10.toInt.toNat 0) 118 37 = _ from ((hk_ot rfl).trans ((hk_ot rfl).trans ((hk_neq (by decide)).trans q_v10)))) ?_
              refine qm_Rp.go 2 (c' := (27, [.ref 118, .int 4, .int 0], [.int (v10 + 1), .ref 118], (h.1, qm_up (qm_up (qm_up I 118 41 v3) 141 v10.toInt.toNat 4) 142 v10.toInt.toNat 0, h.2.2.1, h.2.2.2))) rfl ?_
              obtain ⟨v13, q_v13, e_v13⟩ := hk_add (x := v10) (y := 1) (a := v10.toInt) (b := 1) rfl rfl (by omega) (by omega)
              rw [q_v13]
              refine hp_puti rfl (hH.1 118 (17, 105) rfl) rfl ?_
              refine qm_Rp.go 0 (c' := (30, [.ref 118, .int 4, .int 0], [], (h.1, qm_up (qm_up (qm_up (qm_up I 118 41 v3) 141 v10.toInt.toNat 4) 142 v10.toInt.toNat 0) 118 37 v13, h.2.2.1, h.2.2.2))) rfl ?_
              refine qm_Rp.rt (v := none) (h' := (h.1, qm_up (qm_up (qm_up (qm_up I 118 41 v3) 141 v10.toInt.toNat 4) 142 v10.toInt.toNat 0) 118 37 v13, h.2.2.1, h.2.2.2)) rfl ?_
              refine qm_Rp.go 1 (c' := (0, [.ref 118, .int s, .int v4], [], (h.1, qm_up (qm_up (qm_up (qm_up I 118 41 v3) 141 v10.toInt.toNat 4) 142 v10.toInt.toNat 0) 118 37 v13, h.2.2.1, h.2.2.2))) rfl ?_
              exact ih g (by omega) (qm_up (qm_up (qm_up (qm_up I 118 41 v3) 141 v10.toInt.toNat 4) 142 v10.toInt.toNat 0) 118 37 v13) (fun o ho i => ((hk_mod ho rfl).trans ((hk_mod ho rfl).trans ((hk_mod ho rfl).trans ((hk_mod ho rfl).trans ((e o (hk_ms rfl ho) i).trans rfl)))))) (fun i hi => ((hk_neq (fun z => by subst z; cases hi)).trans ((hk_ot rfl).trans ((hk_ot rfl).trans ((hk_neq (fun z => by subst z; cases hi)).trans ((e8 i (hk_ms rfl hi)).trans rfl)))))) _
            · refine qm_Rp.go 3 (c' := (75, [.ref 118, .int s, .int v4], [.int 0, .int 3, .ref 118], (h.1, qm_up I 118 41 v3, h.2.2.1, h.2.2.2))) rfl ?_
              refine hp_inv (o := 118) (r := []) (as := [.ref 118, .int 3, .int 0]) rfl rfl (hH.1 118 (17, 105) rfl) rfl rfl rfl ?_
              refine qm_Rp.go 1 (c' := (1, [.ref 118, .int 3, .int 0], [.ref 118], (h.1, qm_up I 118 41 v3, h.2.2.1, h.2.2.2))) rfl ?_
              refine hp_getr rfl (hH.1 118 (17, 105) rfl) rfl (hH.2 118 38 (some 141) rfl) ?_
              refine qm_Rp.go 1 (c' := (5, [.ref 118, .int 3, .int 0], [.ref 118, .ref 141], (h.1, qm_up I 118 41 v3, h.2.2.1, h.2.2.2))) rfl ?_
              obtain ⟨v14, q_v14⟩ : ∃ v_, I 118 37 = v_ := ⟨_, rfl⟩
              refine hp_geti (v := v14) rfl (hH.1 118 (17, 105) rfl) rfl (show (qm_up I 118 41 v3) 118 37 = _ from ((hk_neq (by decide)).trans q_v14)) ?_
              refine qm_Rp.go 1 (c' := (9, [.ref 118, .int 3, .int 0], [.int 3, .int v14, .ref 141], (h.1, qm_up I 118 41 v3, h.2.2.1, h.2.2.2))) rfl ?_
              refine hp_ias rfl (hH.1 141 (0, 840) rfl) (fun ia_14 ib_14 => ?_)
              refine qm_Rp.go 1 (c' := (11, [.ref 118, .int 3, .int 0], [.ref 118], (h.1, qm_up (qm_up I 118 41 v3) 141 v14.toInt.toNat 3, h.2.2.1, h.2.2.2))) rfl ?_
              refine hp_getr rfl (hH.1 118 (17, 105) rfl) rfl (hH.2 118 39 (some 142) rfl) ?_
              refine qm_Rp.go 1 (c' := (15, [.ref 118, .int 3, .int 0], [.ref 118, .ref 142], (h.1, qm_up (qm_up I 118 41 v3) 141 v14.toInt.toNat 3, h.2.2.1, h.2.2.2))) rfl ?_
              refine hp_geti (v := v14) rfl (hH.1 118 (17, 105) rfl) rfl (show (qm_up (qm_up I 118 41 v3) 141 v14.toInt.toNat 3) 118 37 = _ from ((hk_ot rfl).trans ((hk_neq (by decide)).trans q_v14))) ?_
              refine qm_Rp.go 1 (c' := (19, [.ref 118, .int 3, .int 0], [.int 0, .int v14, .ref 142], (h.1, qm_up (qm_up I 118 41 v3) 141 v14.toInt.toNat 3, h.2.2.1, h.2.2.2))) rfl ?_
              refine hp_ias rfl (hH.1 142 (0, 840) rfl) (fun ia_15 ib_15 => ?_)
              refine qm_Rp.go 2 (c' := (22, [.ref 118, .int 3, .int 0], [.ref 118, .ref 118], (h.1, qm_up (qm_up (qm_up I 118 41 v3) 141 v14.toInt.toNat 3) 142 v14.toInt.toNat 0, h.2.2.1, h.2.2.2))) rfl ?_
              refine hp_geti (v := v14) rfl (hH.1 118 (17, 105) rfl) rfl (show (qm_up (qm_up (qm_up I 118 41 v3) 141 v14.toInt.toNat 3) 142 v14.toInt.toNat 0) 118 37 = _ from ((hk_ot rfl).trans ((hk_ot rfl).trans ((hk_neq (by decide)).trans q_v14)))) ?_
              refine qm_Rp.go 2 (c' := (27, [.ref 118, .int 3, .int 0], [.int (v14 + 1), .ref 118], (h.1, qm_up (qm_up (qm_up I 118 41 v3) 141 v14.toInt.toNat 3) 142 v14.toInt.toNat 0, h.2.2.1, h.2.2.2))) rfl ?_
              obtain ⟨v17, q_v17, e_v17⟩ := hk_add (x := v14) (y := 1) (a := v14.toInt) (b := 1) rfl rfl (by omega) (by omega)
              rw [q_v17]
              refine hp_puti rfl (hH.1 118 (17, 105) rfl) rfl ?_
              refine qm_Rp.go 0 (c' := (30, [.ref 118, .int 3, .int 0], [], (h.1, qm_up (qm_up (qm_up (qm_up I 118 41 v3) 141 v14.toInt.toNat 3) 142 v14.toInt.toNat 0) 118 37 v17, h.2.2.1, h.2.2.2))) rfl ?_
              refine qm_Rp.rt (v := none) (h' := (h.1, qm_up (qm_up (qm_up (qm_up I 118 41 v3) 141 v14.toInt.toNat 3) 142 v14.toInt.toNat 0) 118 37 v17, h.2.2.1, h.2.2.2)) rfl ?_
              refine qm_Rp.go 1 (c' := (0, [.ref 118, .int s, .int v4], [], (h.1, qm_up (qm_up (qm_up (qm_up I 118 41 v3) 141 v14.toInt.toNat 3) 142 v14.toInt.toNat 0) 118 37 v17, h.2.2.1, h.2.2.2))) rfl ?_
              exact ih g (by omega) (qm_up (qm_up (qm_up (qm_up I 118 41 v3) 141 v14.toInt.toNat 3) 142 v14.toInt.toNat 0) 118 37 v17) (fun o ho i => ((hk_mod ho rfl).trans ((hk_mod ho rfl).trans ((hk_mod ho rfl).trans ((hk_mod ho rfl).trans ((e o (hk_ms rfl ho) i).trans rfl)))))) (fun i hi => ((hk_neq (fun z => by subst z; cases hi)).trans ((hk_ot rfl).trans ((hk_ot rfl).trans ((hk_neq (fun z => by subst z; cases hi)).trans ((e8 i (hk_ms rfl hi)).trans rfl)))))) _
          · refine qm_Rp.go 3 (c' := (75, [.ref 118, .int s, .int v4], [.int 0, .int 2, .ref 118], (h.1, qm_up I 118 41 v3, h.2.2.1, h.2.2.2))) rfl ?_
            refine hp_inv (o := 118) (r := []) (as := [.ref 118, .int 2, .int 0]) rfl rfl (hH.1 118 (17, 105) rfl) rfl rfl rfl ?_
            refine qm_Rp.go 1 (c' := (1, [.ref 118, .int 2, .int 0], [.ref 118], (h.1, qm_up I 118 41 v3, h.2.2.1, h.2.2.2))) rfl ?_
            refine hp_getr rfl (hH.1 118 (17, 105) rfl) rfl (hH.2 118 38 (some 141) rfl) ?_
            refine qm_Rp.go 1 (c' := (5, [.ref 118, .int 2, .int 0], [.ref 118, .ref 141], (h.1, qm_up I 118 41 v3, h.2.2.1, h.2.2.2))) rfl ?_
            obtain ⟨v18, q_v18⟩ : ∃ v_, I 118 37 = v_ := ⟨_, rfl⟩
            refine hp_geti (v := v18) rfl (hH.1 118 (17, 105) rfl) rfl (show (qm_up I 118 41 v3) 118 37 = _ from ((hk_neq (by decide)).trans q_v18)) ?_
            refine qm_Rp.go 1 (c' := (9, [.ref 118, .int 2, .int 0], [.int 2, .int v18, .ref 141], (h.1, qm_up I 118 41 v3, h.2.2.1, h.2.2.2))) rfl ?_
            refine hp_ias rfl (hH.1 141 (0, 840) rfl) (fun ia_18 ib_18 => ?_)
            refine qm_Rp.go 1 (c' := (11, [.ref 118, .int 2, .int 0], [.ref 118], (h.1, qm_up (qm_up I 118 41 v3) 141 v18.toInt.toNat 2, h.2.2.1, h.2.2.2))) rfl ?_
            refine hp_getr rfl (hH.1 118 (17, 105) rfl) rfl (hH.2 118 39 (some 142) rfl) ?_
            refine qm_Rp.go 1 (c' := (15, [.ref 118, .int 2, .int 0], [.ref 118, .ref 142], (h.1, qm_up (qm_up I 118 41 v3) 141 v18.toInt.toNat 2, h.2.2.1, h.2.2.2))) rfl ?_
            refine hp_geti (v := v18) rfl (hH.1 118 (17, 105) rfl) rfl (show (qm_up (qm_up I 118 41 v3) 141 v18.toInt.toNat 2) 118 37 = _ from ((hk_ot rfl).trans ((hk_neq (by decide)).trans q_v18))) ?_
            refine qm_Rp.go 1 (c' := (19, [.ref 118, .int 2, .int 0], [.int 0, .int v18, .ref 142], (h.1, qm_up (qm_up I 118 41 v3) 141 v18.toInt.toNat 2, h.2.2.1, h.2.2.2))) rfl ?_
            refine hp_ias rfl (hH.1 142 (0, 840) rfl) (fun ia_19 ib_19 => ?_)
            refine qm_Rp.go 2 (c' := (22, [.ref 118, .int 2, .int 0], [.ref 118, .ref 118], (h.1, qm_up (qm_up (qm_up I 118 41 v3) 141 v18.toInt.toNat 2) 142 v18.toInt.toNat 0, h.2.2.1, h.2.2.2))) rfl ?_
            refine hp_geti (v := v18) rfl (hH.1 118 (17, 105) rfl) rfl (show (qm_up (qm_up (qm_up I 118 41 v3) 141 v18.toInt.toNat 2) 142 v18.toInt.toNat 0) 118 37 = _ from ((hk_ot rfl).trans ((hk_ot rfl).trans ((hk_neq (by decide)).trans q_v18)))) ?_
            refine qm_Rp.go 2 (c' := (27, [.ref 118, .int 2, .int 0], [.int (v18 + 1), .ref 118], (h.1, qm_up (qm_up (qm_up I 118 41 v3) 141 v18.toInt.toNat 2) 142 v18.toInt.toNat 0, h.2.2.1, h.2.2.2))) rfl ?_
            obtain ⟨v21, q_v21, e_v21⟩ := hk_add (x := v18) (y := 1) (a := v18.toInt) (b := 1) rfl rfl (by omega) (by omega)
            rw [q_v21]
            refine hp_puti rfl (hH.1 118 (17, 105) rfl) rfl ?_
            refine qm_Rp.go 0 (c' := (30, [.ref 118, .int 2, .int 0], [], (h.1, qm_up (qm_up (qm_up (qm_up I 118 41 v3) 141 v18.toInt.toNat 2) 142 v18.toInt.toNat 0) 118 37 v21, h.2.2.1, h.2.2.2))) rfl ?_
            refine qm_Rp.rt (v := none) (h' := (h.1, qm_up (qm_up (qm_up (qm_up I 118 41 v3) 141 v18.toInt.toNat 2) 142 v18.toInt.toNat 0) 118 37 v21, h.2.2.1, h.2.2.2)) rfl ?_
            refine qm_Rp.go 1 (c' := (0, [.ref 118, .int s, .int v4], [], (h.1, qm_up (qm_up (qm_up (qm_up I 118 41 v3) 141 v18.toInt.toNat 2) 142 v18.toInt.toNat 0) 118 37 v21, h.2.2.1, h.2.2.2))) rfl ?_
            exact ih g (by omega) (qm_up (qm_up (qm_up (qm_up I 118 41 v3) 141 v18.toInt.toNat 2) 142 v18.toInt.toNat 0) 118 37 v21) (fun o ho i => ((hk_mod ho rfl).trans ((hk_mod ho rfl).trans ((hk_mod ho rfl).trans ((hk_mod ho rfl).trans ((e o (hk_ms rfl ho) i).trans rfl)))))) (fun i hi => ((hk_neq (fun z => by subst z; cases hi)).trans ((hk_ot rfl).trans ((hk_ot rfl).trans ((hk_neq (fun z => by subst z; cases hi)).trans ((e8 i (hk_ms rfl hi)).trans rfl)))))) _
        · refine qm_Rp.go 2 (c' := (32, [.ref 118, .int s, .int v4], [.int 8, .int v4], (h.1, I, h.2.2.1, h.2.2.2))) rfl ?_
          refine hp_ceq (ix := v4.toInt) (iy := 8) rfl rfl rfl (fun z22 => ?_) (fun z22 => ?_)
          · refine qm_Rp.go 0 (c' := (41, [.ref 118, .int s, .int v4], [], (h.1, I, h.2.2.1, h.2.2.2))) rfl ?_
            refine qm_Rp.rt (v := none) (h' := (h.1, I, h.2.2.1, h.2.2.2)) rfl ?_
            exact k (I) (fun o ho i => ((e o (hk_ms rfl ho) i).trans rfl)) (fun i hi => ((e8 i (hk_ms rfl hi)).trans rfl))
          · refine qm_Rp.go 2 (c' := (38, [.ref 118, .int s, .int v4], [.int 9, .int v4], (h.1, I, h.2.2.1, h.2.2.2))) rfl ?_
            refine hp_cne (ix := v4.toInt) (iy := 9) rfl rfl rfl (fun z23 => ?_) (fun z23 => ?_)
            · refine qm_Rp.go 2 (c' := (44, [.ref 118, .int s, .int v4], [.ref 118, .ref 118], (h.1, I, h.2.2.1, h.2.2.2))) rfl ?_
              refine hp_geti (v := v1) rfl (hH.1 118 (17, 105) rfl) rfl q_v1 ?_
              refine qm_Rp.go 2 (c' := (49, [.ref 118, .int s, .int v4], [.int (v1 - 1), .ref 118], (h.1, I, h.2.2.1, h.2.2.2))) rfl ?_
              rw [q_v3]
              refine hp_puti rfl (hH.1 118 (17, 105) rfl) rfl ?_
              refine qm_Rp.go 3 (c' := (56, [.ref 118, .int s, .int v4], [.int 8, .int v4, .ref 118], (h.1, qm_up I 118 41 v3, h.2.2.1, h.2.2.2))) rfl ?_
              refine hp_cne (ix := v4.toInt) (iy := 8) rfl rfl rfl (fun z24 => ?_) (fun z24 => by exfalso; omega)
              refine qm_Rp.go 2 (c' := (66, [.ref 118, .int s, .int v4], [.int 9, .int v4, .ref 118], (h.1, qm_up I 118 41 v3, h.2.2.1, h.2.2.2))) rfl ?_
              refine hp_cne (ix := v4.toInt) (iy := 9) rfl rfl rfl (fun z25 => ?_) (fun z25 => by exfalso; omega)
              refine qm_Rp.go 2 (c' := (75, [.ref 118, .int s, .int v4], [.int 0, .int 4, .ref 118], (h.1, qm_up I 118 41 v3, h.2.2.1, h.2.2.2))) rfl ?_
              refine hp_inv (o := 118) (r := []) (as := [.ref 118, .int 4, .int 0]) rfl rfl (hH.1 118 (17, 105) rfl) rfl rfl rfl ?_
              refine qm_Rp.go 1 (c' := (1, [.ref 118, .int 4, .int 0], [.ref 118], (h.1, qm_up I 118 41 v3, h.2.2.1, h.2.2.2))) rfl ?_
              refine hp_getr rfl (hH.1 118 (17, 105) rfl) rfl (hH.2 118 38 (some 141) rfl) ?_
              refine qm_Rp.go 1 (c' := (5, [.ref 118, .int 4, .int 0], [.ref 118, .ref 141], (h.1, qm_up I 118 41 v3, h.2.2.1, h.2.2.2))) rfl ?_
              obtain ⟨v26, q_v26⟩ : ∃ v_, I 118 37 = v_ := ⟨_, rfl⟩
              refine hp_geti (v := v26) rfl (hH.1 118 (17, 105) rfl) rfl (show (qm_up I 118 41 v3) 118 37 = _ from ((hk_neq (by decide)).trans q_v26)) ?_
              refine qm_Rp.go 1 (c' := (9, [.ref 118, .int 4, .int 0], [.int 4, .int v26, .ref 141], (h.1, qm_up I 118 41 v3, h.2.2.1, h.2.2.2))) rfl ?_
              refine hp_ias rfl (hH.1 141 (0, 840) rfl) (fun ia_26 ib_26 => ?_)
              refine qm_Rp.go 1 (c' := (11, [.ref 118, .int 4, .int 0], [.ref 118], (h.1, qm_up (qm_up I 118 41 v3) 141 v26.toInt.toNat 4, h.2.2.1, h.2.2.2))) rfl ?_
              refine hp_getr rfl (hH.1 118 (17, 105) rfl) rfl (hH.2 118 39 (some 142) rfl) ?_
              refine qm_Rp.go 1 (c' := (15, [.ref 118, .int 4, .int 0], [.ref 118, .ref 142], (h.1, qm_up (qm_up I 118 41 v3) 141 v26.toInt.toNat 4, h.2.2.1, h.2.2.2))) rfl ?_
              refine hp_geti (v := v26) rfl (hH.1 118 (17, 105) rfl) rfl (show (qm_up (qm_up I 118 41 v3) 141 v26.toInt.toNat 4) 118 37 = _ from ((hk_ot rfl).trans ((hk_neq (by decide)).trans q_v26))) ?_
              refine qm_Rp.go 1 (c' := (19, [.ref 118, .int 4, .int 0], [.int 0, .int v26, .ref 142], (h.1, qm_up (qm_up I 118 41 v3) 141 v26.toInt.toNat 4, h.2.2.1, h.2.2.2))) rfl ?_
              refine hp_ias rfl (hH.1 142 (0, 840) rfl) (fun ia_27 ib_27 => ?_)
              refine qm_Rp.go 2 (c' := (22, [.ref 118, .int 4, .int 0], [.ref 118, .ref 118], (h.1, qm_up (qm_up (qm_up I 118 41 v3) 141 v26.toInt.toNat 4) 142 v26.toInt.toNat 0, h.2.2.1, h.2.2.2))) rfl ?_
              refine hp_geti (v := v26) rfl (hH.1 118 (17, 105) rfl) rfl (show (qm_up (qm_up (qm_up I 118 41 v3) 141 v26.toInt.toNat 4) 142 v26.toInt.toNat 0) 118 37 = _ from ((hk_ot rfl).trans ((hk_ot rfl).trans ((hk_neq (by decide)).trans q_v26)))) ?_
              refine qm_Rp.go 2 (c' := (27, [.ref 118, .int 4, .int 0], [.int (v26 + 1), .ref 118], (h.1, qm_up (qm_up (qm_up I 118 41 v3) 141 v26.toInt.toNat 4) 142 v26.toInt.toNat 0, h.2.2.1, h.2.2.2))) rfl ?_
              obtain ⟨v29, q_v29, e_v29⟩ := hk_add (x := v26) (y := 1) (a := v26.toInt) (b := 1) rfl rfl (by omega) (by omega)
              rw [q_v29]
              refine hp_puti rfl (hH.1 118 (17, 105) rfl) rfl ?_
              refine qm_Rp.go 0 (c' := (30, [.ref 118, .int 4, .int 0], [], (h.1, qm_up (qm_up (qm_up (qm_up I 118 41 v3) 141 v26.toInt.toNat 4) 142 v26.toInt.toNat 0) 118 37 v29, h.2.2.1, h.2.2.2))) rfl ?_
              refine qm_Rp.rt (v := none) (h' := (h.1, qm_up (qm_up (qm_up (qm_up I 118 41 v3) 141 v26.toInt.toNat 4) 142 v26.toInt.toNat 0) 118 37 v29, h.2.2.1, h.2.2.2)) rfl ?_
              refine qm_Rp.go 1 (c' := (0, [.ref 118, .int s, .int v4], [], (h.1, qm_up (qm_up (qm_up (qm_up I 118 41 v3) 141 v26.toInt.toNat 4) 142 v26.toInt.toNat 0) 118 37 v29, h.2.2.1, h.2.2.2))) rfl ?_
              exact ih g (by omega) (qm_up (qm_up (qm_up (qm_up I 118 41 v3) 141 v26.toInt.toNat 4) 142 v26.toInt.toNat 0) 118 37 v29) (fun o ho i => ((hk_mod ho rfl).trans ((hk_mod ho rfl).trans ((hk_mod ho rfl).trans ((hk_mod ho rfl).trans ((e o (hk_ms rfl ho) i).trans rfl)))))) (fun i hi => ((hk_neq (fun z => by subst z; cases hi)).trans ((hk_ot rfl).trans ((hk_ot rfl).trans ((hk_neq (fun z => by subst z; cases hi)).trans ((e8 i (hk_ms rfl hi)).trans rfl)))))) _
            · refine qm_Rp.go 0 (c' := (41, [.ref 118, .int s, .int v4], [], (h.1, I, h.2.2.1, h.2.2.2))) rfl ?_
              refine qm_Rp.rt (v := none) (h' := (h.1, I, h.2.2.1, h.2.2.2)) rfl ?_
              exact k (I) (fun o ho i => ((e o (hk_ms rfl ho) i).trans rfl)) (fun i hi => ((e8 i (hk_ms rfl hi)).trans rfl))
theorem px_co {X : Option (Nat × (Nat → Int32))} {Z : Option Value → qm_H → Prop} {h : qm_H} {fu : Nat} (hH : hk_H h) {s : Int32} (k : ∀ I : Nat → Nat → Int32, (∀ o, [118, 141, 142].contains o = false → ∀ i, I o i = h.2.1 o i) → (∀ i, [37, 41].contains i = false → I 118 i = h.2.1 118 i) → Z none (h.1, I, h.2.2.1, h.2.2.2)) : qm_Rp fu X cd_267 (qm_ent 3 [.ref 118, .int s] h) Z := px_col hH k fu h.2.1 (fun _ _ _ => rfl) (fun _ _ => rfl) _
