/-! the reference's ship, in given runs -/
theorem wF_1 {p : Int → Int → Int} {wt wh sp : Nat → Int} {b : Nat} (h : wh b = 1) : wF p wt wh sp b = p (wt b) (sp b) := if_pos h
theorem wF_0 {p : Int → Int → Int} {wt wh sp : Nat → Int} {b : Nat} (h : ¬ wh b = 1) : wF p wt wh sp b = 0 := if_neg h
theorem bnS_st {B al : Int} {f : Nat → Int} {c c2 s s2 hh : Int} (hs : s = bnS B al f c.toNat) (h1 : hh = nS f c2.toNat) (h2 : s2 = s + (B * hh - (c + 1) * al)) (hc : c2 = c + 1) (h0 : 0 ≤ c) : s2 = bnS B al f c2.toNat := by
  have e : c2.toNat = c.toNat + 1 := by omega
  rw [e] at h1 ⊢
  show s2 = bnS B al f c.toNat + (B * nS f (c.toNat + 1) - ((c.toNat : Int) + 1) * al)
  rw [← hs, ← h1, show ((c.toNat : Int)) = c by omega]
  exact h2
theorem bnM_1 {B al : Int} {f : Nat → Int} {c c2 s2 m r : Int} (hm : m = bnM B al f c.toNat) (hs : s2 = bnS B al f c2.toNat) (hr : r = ab s2) (hl : m < r) (hc : c2 = c + 1) (h0 : 0 ≤ c) : r = bnM B al f c2.toNat := by
  have e : c2.toNat = c.toNat + 1 := by omega
  rw [e] at hs ⊢
  show r = (if bnM B al f c.toNat < ab (bnS B al f (c.toNat + 1)) then ab (bnS B al f (c.toNat + 1)) else bnM B al f c.toNat)
  rw [← hs, ← hm, ← hr, if_pos hl]
theorem bnM_0 {B al : Int} {f : Nat → Int} {c c2 s2 m r : Int} (hm : m = bnM B al f c.toNat) (hs : s2 = bnS B al f c2.toNat) (hr : r = ab s2) (hl : ¬ m < r) (hc : c2 = c + 1) (h0 : 0 ≤ c) : m = bnM B al f c2.toNat := by
  have e : c2.toNat = c.toNat + 1 := by omega
  rw [e] at hs ⊢
  show m = (if bnM B al f c.toNat < ab (bnS B al f (c.toNat + 1)) then ab (bnS B al f (c.toNat + 1)) else bnM B al f c.toNat)
  rw [← hs, ← hm, ← hr, if_neg hl]
theorem bnM_m {B al : Int} {f : Nat → Int} {c c2 s2 m r x : Int} (hm : m = bnM B al f c.toNat) (hs : s2 = bnS B al f c2.toNat) (hr : r = ab s2) (hx : x = if m < r then r else m) (hc : c2 = c + 1) (h0 : 0 ≤ c) : x = bnM B al f c2.toNat := by
  by_cases hl : m < r
  · rw [if_pos hl] at hx
    rw [hx]
    exact bnM_1 hm hs hr hl hc h0
  · rw [if_neg hl] at hx
    rw [hx]
    exact bnM_0 hm hs hr hl hc h0
theorem fu_in {f : Nat → Int} {b : Nat} {v p q : Int} (h : ∀ x, p ≤ f x ∧ f x ≤ q) (hv : p ≤ v ∧ v ≤ q) (x : Nat) : p ≤ fu_up f b v x ∧ fu_up f b v x ≤ q := by
  by_cases e : x = b
  · subst e
    rw [fu_eq]
    exact hv
  · rw [fu_ne e]
    exact h x
theorem px_bare {X : Option (Nat × (Nat → Int32))} {Z : Option Value → qm_H → Prop} {h : qm_H} {fu : Nat} {v : Int32} (hv : -2147483647 ≤ v.toInt) (k : ∀ r : Int32, r.toInt = ab v.toInt → Z (some (.int r)) h) : qm_Rp fu X cd_294 (qm_ent 1 [.int v] h) Z := by
  refine qm_Rp.go 0 (c' := (0, [.int v], [], h)) rfl ?_
  have kz0 : (0 : Int32).toInt = 0 := rfl
  have kz1 : (1 : Int32).toInt = 1 := rfl
  have kz2 : (2 : Int32).toInt = 2 := rfl
  have kz3 : (3 : Int32).toInt = 3 := rfl
  have kz4 : (4 : Int32).toInt = 4 := rfl
  have kz5 : (5 : Int32).toInt = 5 := rfl
  have kz6 : (6 : Int32).toInt = 6 := rfl
  have kz7 : (7 : Int32).toInt = 7 := rfl
  have kz8 : (8 : Int32).toInt = 8 := rfl
  have kz9 : (9 : Int32).toInt = 9 := rfl
  have kzm1 : ((-1) : Int32).toInt = (-1) := rfl
  have kzm2 : ((-2) : Int32).toInt = (-2) := rfl
  have kzm3 : ((-3) : Int32).toInt = (-3) := rfl
  refine qm_Rp.go 1 (c' := (1, [.int v], [.int v], h)) rfl ?_
  refine hp_zge (ix := v.toInt) rfl rfl (fun z1 => ?_) (fun z1 => ?_)
  · refine qm_Rp.go 1 (c' := (10, [.int v], [.int v], h)) rfl ?_
    refine qm_Rp.rt (v := (some (.int v))) (h' := h) rfl ?_
    exact k v (by unfold ab; split <;> omega)
  · refine qm_Rp.go 2 (c' := (6, [.int v], [.int (-v)], h)) rfl ?_
    obtain ⟨v2, q_v2, e_v2⟩ := hk_neg (x := v) (a := v.toInt) rfl (by omega)
    rw [q_v2]
    refine qm_Rp.go 1 (c' := (10, [.int v], [.int v2], h)) rfl ?_
    refine qm_Rp.rt (v := (some (.int v2))) (h' := h) rfl ?_
    exact k v2 (by unfold ab; split <;> omega)
set_option maxHeartbeats 20000000 in
theorem px_lstl {X : Option (Nat × (Nat → Int32))} {Z : Option Value → qm_H → Prop} {h : qm_H} (hH : hk_H h) {n : Int32} (q_n : h.2.1 118 44 = n) (hn : 0 ≤ n.toInt ∧ n.toInt ≤ 30) (hw : ∀ b, 0 ≤ pI h.2.1 146 b ∧ pI h.2.1 146 b ≤ 40) (hs : ∀ b, 0 ≤ pI h.2.1 151 b ∧ pI h.2.1 151 b ≤ 79) {fu0 : Nat} (k : ∀ s : Int32, s.toInt = zL (pI h.2.1 146) (pI h.2.1 150) (pI h.2.1 151) n.toInt.toNat → Z (some (.int s)) h) : ∀ (fu : Nat) (s b : Int32), (fu ≤ fu0) → (0 ≤ b.toInt ∧ b.toInt ≤ n.toInt) → (s.toInt = nS (wF pL (pI h.2.1 146) (pI h.2.1 150) (pI h.2.1 151)) b.toInt.toNat) → qm_Rp fu X cd_289 (4, [.ref 118, .int s, .int b], [], h) Z := by
  intro fu
  induction fu using Nat.strongRecOn with
  | ind fu ih =>
    intro s b hfu hb hq
    have kz0 : (0 : Int32).toInt = 0 := rfl
    have kz1 : (1 : Int32).toInt = 1 := rfl
    have kz2 : (2 : Int32).toInt = 2 := rfl
    have kz3 : (3 : Int32).toInt = 3 := rfl
    have kz4 : (4 : Int32).toInt = 4 := rfl
    have kz5 : (5 : Int32).toInt = 5 := rfl
    have kz6 : (6 : Int32).toInt = 6 := rfl
    have kz7 : (7 : Int32).toInt = 7 := rfl
    have kz8 : (8 : Int32).toInt = 8 := rfl
    have kz9 : (9 : Int32).toInt = 9 := rfl
    have kzm1 : ((-1) : Int32).toInt = (-1) := rfl
    have kzm2 : ((-2) : Int32).toInt = (-2) := rfl
    have kzm3 : ((-3) : Int32).toInt = (-3) := rfl
    have bs := wF_in (p := pL) (wt := (pI h.2.1 146)) (wh := (pI h.2.1 150)) (sp := (pI h.2.1 151)) (n := b.toInt.toNat) (u := -120) (v := 120) (by omega) (fun x _ _ => pL_in (hw x))
    rw [← hq] at bs
    refine qm_Rp.go1 1 (c' := (6, [.ref 118, .int s, .int b], [.ref 118, .int b], h)) rfl (fun g hg => ?_)
    refine hp_geti (v := n) rfl (hH.1 118 (17, 105) rfl) rfl q_n ?_
    refine qm_Rp.go 0 (c' := (9, [.ref 118, .int s, .int b], [.int n, .int b], h)) rfl ?_
    refine hp_cge (ix := b.toInt) (iy := n.toInt) rfl rfl rfl (fun z1 => ?_) (fun z1 => ?_)
    · refine qm_Rp.go 1 (c' := (43, [.ref 118, .int s, .int b], [.int s], h)) rfl ?_
      refine qm_Rp.rt (v := (some (.int s))) (h' := h) rfl ?_
      exact k s (by rw [hq, show b.toInt.toNat = n.toInt.toNat by omega]; rfl)
    · refine qm_Rp.go 1 (c' := (13, [.ref 118, .int s, .int b], [.ref 118], h)) rfl ?_
      refine hp_getr rfl (hH.1 118 (17, 105) rfl) rfl (hH.2 118 49 (some 150) rfl) ?_
      refine qm_Rp.go 1 (c' := (17, [.ref 118, .int s, .int b], [.int b, .ref 150], h)) rfl ?_
      obtain ⟨v2, q_v2⟩ : ∃ v_, h.2.1 150 b.toInt.toNat = v_ := ⟨_, rfl⟩
      refine hp_ial (v := v2) rfl (hH.1 150 (0, 30) rfl) q_v2 (fun ia_2 ib_2 => ?_)
      refine qm_Rp.go 0 (c' := (18, [.ref 118, .int s, .int b], [.int v2], h)) rfl ?_
      refine qm_Rp.go 1 (c' := (19, [.ref 118, .int s, .int b], [.int 1, .int v2], h)) rfl ?_
      refine hp_cne (ix := v2.toInt) (iy := 1) rfl rfl rfl (fun z4 => ?_) (fun z4 => ?_)
      · refine qm_Rp.go 1 (c' := (39, [.ref 118, .int s, .int (b + 1)], [], h)) rfl ?_
        obtain ⟨v5, q_v5, e_v5⟩ := hk_add (x := b) (y := 1) (a := b.toInt) (b := 1) rfl rfl (by omega) (by omega)
        rw [q_v5]
        refine qm_Rp.go 1 (c' := (4, [.ref 118, .int s, .int v5], [], h)) rfl ?_
        exact ih g hg s v5 (Nat.le_trans (Nat.le_of_lt hg) hfu) (by omega) (nS_s0 (z := 0) hq (wF_0 (by show ¬ (h.2.1 150 b.toInt.toNat).toInt = 1; rw [q_v2]; omega)).symm (by omega) (by omega) (by omega))
      · refine qm_Rp.go 4 (c' := (26, [.ref 118, .int s, .int b], [.ref 118, .int b, .ref 118, .int s], h)) rfl ?_
        refine hp_getr rfl (hH.1 118 (17, 105) rfl) rfl (hH.2 118 50 (some 151) rfl) ?_
        refine qm_Rp.go 1 (c' := (30, [.ref 118, .int s, .int b], [.int b, .ref 151, .int b, .ref 118, .int s], h)) rfl ?_
        obtain ⟨v6, q_v6⟩ : ∃ v_, h.2.1 151 b.toInt.toNat = v_ := ⟨_, rfl⟩
        have b_v6 : (0 : Int) ≤ v6.toInt ∧ v6.toInt ≤ 79 := by rw [← q_v6]; exact hs (b.toInt.toNat)
        refine hp_ial (v := v6) rfl (hH.1 151 (0, 30) rfl) q_v6 (fun ia_6 ib_6 => ?_)
        refine qm_Rp.go 0 (c' := (31, [.ref 118, .int s, .int b], [.int v6, .int b, .ref 118, .int s], h)) rfl ?_
        refine hp_inv (o := 118) (r := [.int s]) (as := [.ref 118, .int b, .int v6]) rfl rfl (hH.1 118 (17, 105) rfl) rfl rfl rfl ?_
        refine qm_Rp.go 1 (c' := (1, [.ref 118, .int b, .int v6], [.ref 118], h)) rfl ?_
        refine hp_getr rfl (hH.1 118 (17, 105) rfl) rfl (hH.2 118 45 (some 146) rfl) ?_
        refine qm_Rp.go 1 (c' := (5, [.ref 118, .int b, .int v6], [.int b, .ref 146], h)) rfl ?_
        obtain ⟨v8, q_v8⟩ : ∃ v_, h.2.1 146 b.toInt.toNat = v_ := ⟨_, rfl⟩
        have b_v8 : (0 : Int) ≤ v8.toInt ∧ v8.toInt ≤ 40 := by rw [← q_v8]; exact hw (b.toInt.toNat)
        refine hp_ial (v := v8) rfl (hH.1 146 (0, 30) rfl) q_v8 (fun ia_8 ib_8 => ?_)
        refine qm_Rp.go 4 (c' := (10, [.ref 118, .int b, .int v6], [.int (v6 / 4), .int 2, .int v8], h)) rfl ?_
        obtain ⟨v10, q_v10, e_v10⟩ := hk_div (x := v6) (y := 4) (a := v6.toInt) (b := 4) rfl rfl (by omega) (by omega)
        rw [q_v10]
        refine qm_Rp.go 2 (c' := (12, [.ref 118, .int b, .int v6], [.int (v10 - v10 / 4 * 4), .int 2, .int v8], h)) rfl ?_
        obtain ⟨v11, q_v11, e_v11⟩ := hk_rem (x := v10) (y := 4) (a := v10.toInt) (b := 4) rfl rfl (by omega) (by omega)
        rw [q_v11]
        refine qm_Rp.go 1 (c' := (13, [.ref 118, .int b, .int v6], [.int (2 * v11), .int v8], h)) rfl ?_
        obtain ⟨v12, q_v12, e_v12⟩ := hk_mul (x := 2) (y := v11) (a := 2) (b := v11.toInt) rfl rfl (by omega) (by omega)
        rw [q_v12]
        refine qm_Rp.go 2 (c' := (15, [.ref 118, .int b, .int v6], [.int (v12 - 3), .int v8], h)) rfl ?_
        obtain ⟨v13, q_v13, e_v13⟩ := hk_sub (x := v12) (y := 3) (a := v12.toInt) (b := 3) rfl rfl (by omega) (by omega)
        rw [q_v13]
        refine qm_Rp.go 1 (c' := (16, [.ref 118, .int b, .int v6], [.int (v8 * v13)], h)) rfl ?_
        have m_v14 := zm_bd (x := v8.toInt) (y := v13.toInt) (u := 40) (p := 3) (q := 3) (by omega) (by omega) (by omega) (by omega) (by omega) (by omega)
        obtain ⟨v14, q_v14, e_v14⟩ := hk_mul (x := v8) (y := v13) (a := v8.toInt) (b := v13.toInt) rfl rfl (by omega) (by omega)
        rw [q_v14]
        refine qm_Rp.rt (v := (some (.int v14))) (h' := h) rfl ?_
        refine qm_Rp.go 1 (c' := (35, [.ref 118, .int s, .int b], [.int (s + v14)], h)) rfl ?_
        obtain ⟨v15, q_v15, e_v15⟩ := hk_add (x := s) (y := v14) (a := s.toInt) (b := v14.toInt) rfl rfl (by omega) (by omega)
        rw [q_v15]
        refine qm_Rp.go 2 (c' := (39, [.ref 118, .int v15, .int (b + 1)], [], h)) rfl ?_
        obtain ⟨v16, q_v16, e_v16⟩ := hk_add (x := b) (y := 1) (a := b.toInt) (b := 1) rfl rfl (by omega) (by omega)
        rw [q_v16]
        refine qm_Rp.go 1 (c' := (4, [.ref 118, .int v15, .int v16], [], h)) rfl ?_
        exact ih g hg v15 v16 (Nat.le_trans (Nat.le_of_lt hg) hfu) (by omega) (nS_s0 (z := v14.toInt) hq (by rw [wF_1 (by show (h.2.1 150 b.toInt.toNat).toInt = 1; rw [q_v2]; omega)]; show _ = (h.2.1 146 b.toInt.toNat).toInt * (2 * ((h.2.1 151 b.toInt.toNat).toInt / 4 % 4) - 3); rw [q_v8, q_v6, e_v14, e_v13, e_v12, e_v11, e_v10]) e_v15 (by omega) (by omega))
theorem px_lst {X : Option (Nat × (Nat → Int32))} {Z : Option Value → qm_H → Prop} {h : qm_H} {fu : Nat} (hH : hk_H h) {n : Int32} {w wh sp : Nat → Int} (eW : pI h.2.1 146 = w) (eH : pI h.2.1 150 = wh) (eS : pI h.2.1 151 = sp) (q_n : h.2.1 118 44 = n) (hn : 0 ≤ n.toInt ∧ n.toInt ≤ 30) (hw : ∀ b, 0 ≤ w b ∧ w b ≤ 40) (hs : ∀ b, 0 ≤ sp b ∧ sp b ≤ 79) (k : ∀ s : Int32, s.toInt = zL w wh sp n.toInt.toNat → Z (some (.int s)) h) : qm_Rp fu X cd_289 (qm_ent 3 [.ref 118] h) Z := by
  subst eW eH eS
  refine qm_Rp.go 4 (c' := (4, [.ref 118, .int 0, .int 0], [], h)) rfl ?_
  exact px_lstl hH q_n hn hw hs k fu 0 0 (Nat.le_refl _) ⟨by decide, by rw [show (0 : Int32).toInt = 0 from rfl]; exact hn.1⟩ rfl
set_option maxHeartbeats 20000000 in
theorem px_trml {X : Option (Nat × (Nat → Int32))} {Z : Option Value → qm_H → Prop} {h : qm_H} (hH : hk_H h) {n : Int32} (q_n : h.2.1 118 44 = n) (hn : 0 ≤ n.toInt ∧ n.toInt ≤ 30) (hw : ∀ b, 0 ≤ pI h.2.1 146 b ∧ pI h.2.1 146 b ≤ 40) (hs : ∀ b, 0 ≤ pI h.2.1 151 b ∧ pI h.2.1 151 b ≤ 79) {lv B : Int32} (q_lv : h.2.1 118 18 = lv) (hlv : 0 ≤ lv.toInt ∧ lv.toInt ≤ 1) (q_B : h.2.1 127 lv.toInt.toNat = B) (hB : 1 ≤ B.toInt ∧ B.toInt ≤ 5) {fu0 : Nat} (k : ∀ s : Int32, s.toInt = zT B.toInt (pI h.2.1 146) (pI h.2.1 150) (pI h.2.1 151) n.toInt.toNat → Z (some (.int s)) h) : ∀ (fu : Nat) (s b : Int32), (fu ≤ fu0) → (0 ≤ b.toInt ∧ b.toInt ≤ n.toInt) → (s.toInt = nS (wF (pT B.toInt) (pI h.2.1 146) (pI h.2.1 150) (pI h.2.1 151)) b.toInt.toNat) → qm_Rp fu X cd_291 (4, [.ref 118, .int s, .int b], [], h) Z := by
  intro fu
  induction fu using Nat.strongRecOn with
  | ind fu ih =>
    intro s b hfu hb hq
    have kz0 : (0 : Int32).toInt = 0 := rfl
    have kz1 : (1 : Int32).toInt = 1 := rfl
    have kz2 : (2 : Int32).toInt = 2 := rfl
    have kz3 : (3 : Int32).toInt = 3 := rfl
    have kz4 : (4 : Int32).toInt = 4 := rfl
    have kz5 : (5 : Int32).toInt = 5 := rfl
    have kz6 : (6 : Int32).toInt = 6 := rfl
    have kz7 : (7 : Int32).toInt = 7 := rfl
    have kz8 : (8 : Int32).toInt = 8 := rfl
    have kz9 : (9 : Int32).toInt = 9 := rfl
    have kzm1 : ((-1) : Int32).toInt = (-1) := rfl
    have kzm2 : ((-2) : Int32).toInt = (-2) := rfl
    have kzm3 : ((-3) : Int32).toInt = (-3) := rfl
    have bs := wF_in (p := (pT B.toInt)) (wt := (pI h.2.1 146)) (wh := (pI h.2.1 150)) (sp := (pI h.2.1 151)) (n := b.toInt.toNat) (u := -400) (v := 400) (by omega) (fun x _ _ => pT_in (by omega) (hw x) (hs x))
    rw [← hq] at bs
    refine qm_Rp.go1 1 (c' := (6, [.ref 118, .int s, .int b], [.ref 118, .int b], h)) rfl (fun g hg => ?_)
    refine hp_geti (v := n) rfl (hH.1 118 (17, 105) rfl) rfl q_n ?_
    refine qm_Rp.go 0 (c' := (9, [.ref 118, .int s, .int b], [.int n, .int b], h)) rfl ?_
    refine hp_cge (ix := b.toInt) (iy := n.toInt) rfl rfl rfl (fun z1 => ?_) (fun z1 => ?_)
    · refine qm_Rp.go 1 (c' := (62, [.ref 118, .int s, .int b], [.int s], h)) rfl ?_
      refine qm_Rp.rt (v := (some (.int s))) (h' := h) rfl ?_
      exact k s (by rw [hq, show b.toInt.toNat = n.toInt.toNat by omega]; rfl)
    · refine qm_Rp.go 1 (c' := (13, [.ref 118, .int s, .int b], [.ref 118], h)) rfl ?_
      refine hp_getr rfl (hH.1 118 (17, 105) rfl) rfl (hH.2 118 49 (some 150) rfl) ?_
      refine qm_Rp.go 1 (c' := (17, [.ref 118, .int s, .int b], [.int b, .ref 150], h)) rfl ?_
      obtain ⟨v2, q_v2⟩ : ∃ v_, h.2.1 150 b.toInt.toNat = v_ := ⟨_, rfl⟩
      refine hp_ial (v := v2) rfl (hH.1 150 (0, 30) rfl) q_v2 (fun ia_2 ib_2 => ?_)
      refine qm_Rp.go 0 (c' := (18, [.ref 118, .int s, .int b], [.int v2], h)) rfl ?_
      refine qm_Rp.go 1 (c' := (19, [.ref 118, .int s, .int b], [.int 1, .int v2], h)) rfl ?_
      refine hp_cne (ix := v2.toInt) (iy := 1) rfl rfl rfl (fun z4 => ?_) (fun z4 => ?_)
      · refine qm_Rp.go 1 (c' := (58, [.ref 118, .int s, .int (b + 1)], [], h)) rfl ?_
        obtain ⟨v5, q_v5, e_v5⟩ := hk_add (x := b) (y := 1) (a := b.toInt) (b := 1) rfl rfl (by omega) (by omega)
        rw [q_v5]
        refine qm_Rp.go 1 (c' := (4, [.ref 118, .int s, .int v5], [], h)) rfl ?_
        exact ih g hg s v5 (Nat.le_trans (Nat.le_of_lt hg) hfu) (by omega) (nS_s0 (z := 0) hq (wF_0 (by show ¬ (h.2.1 150 b.toInt.toNat).toInt = 1; rw [q_v2]; omega)).symm (by omega) (by omega) (by omega))
      · refine qm_Rp.go 2 (c' := (24, [.ref 118, .int s, .int b], [.ref 118, .int s], h)) rfl ?_
        refine hp_getr rfl (hH.1 118 (17, 105) rfl) rfl (hH.2 118 45 (some 146) rfl) ?_
        refine qm_Rp.go 1 (c' := (28, [.ref 118, .int s, .int b], [.int b, .ref 146, .int s], h)) rfl ?_
        obtain ⟨v6, q_v6⟩ : ∃ v_, h.2.1 146 b.toInt.toNat = v_ := ⟨_, rfl⟩
        have b_v6 : (0 : Int) ≤ v6.toInt ∧ v6.toInt ≤ 40 := by rw [← q_v6]; exact hw (b.toInt.toNat)
        refine hp_ial (v := v6) rfl (hH.1 146 (0, 30) rfl) q_v6 (fun ia_6 ib_6 => ?_)
        refine qm_Rp.go 2 (c' := (31, [.ref 118, .int s, .int b], [.ref 118, .int 2, .int v6, .int s], h)) rfl ?_
        refine hp_getr rfl (hH.1 118 (17, 105) rfl) rfl (hH.2 118 50 (some 151) rfl) ?_
        refine qm_Rp.go 1 (c' := (35, [.ref 118, .int s, .int b], [.int b, .ref 151, .int 2, .int v6, .int s], h)) rfl ?_
        obtain ⟨v8, q_v8⟩ : ∃ v_, h.2.1 151 b.toInt.toNat = v_ := ⟨_, rfl⟩
        have b_v8 : (0 : Int) ≤ v8.toInt ∧ v8.toInt ≤ 79 := by rw [← q_v8]; exact hs (b.toInt.toNat)
        refine hp_ial (v := v8) rfl (hH.1 151 (0, 30) rfl) q_v8 (fun ia_8 ib_8 => ?_)
        refine qm_Rp.go 2 (c' := (39, [.ref 118, .int s, .int b], [.int (v8 / 16), .int 2, .int v6, .int s], h)) rfl ?_
        obtain ⟨v10, q_v10, e_v10⟩ := hk_div (x := v8) (y := 16) (a := v8.toInt) (b := 16) rfl rfl (by omega) (by omega)
        rw [q_v10]
        refine qm_Rp.go 1 (c' := (40, [.ref 118, .int s, .int b], [.int (2 * v10), .int v6, .int s], h)) rfl ?_
        obtain ⟨v11, q_v11, e_v11⟩ := hk_mul (x := 2) (y := v10) (a := 2) (b := v10.toInt) rfl rfl (by omega) (by omega)
        rw [q_v11]
        refine qm_Rp.go 2 (c' := (42, [.ref 118, .int s, .int b], [.int (v11 + 1), .int v6, .int s], h)) rfl ?_
        obtain ⟨v12, q_v12, e_v12⟩ := hk_add (x := v11) (y := 1) (a := v11.toInt) (b := 1) rfl rfl (by omega) (by omega)
        rw [q_v12]
        refine qm_Rp.go 1 (c' := (43, [.ref 118, .int s, .int b], [.ref 118, .int v12, .int v6, .int s], h)) rfl ?_
        refine hp_getr rfl (hH.1 118 (17, 105) rfl) rfl (hH.2 118 22 (some 127) rfl) ?_
        refine qm_Rp.go 1 (c' := (47, [.ref 118, .int s, .int b], [.ref 118, .ref 127, .int v12, .int v6, .int s], h)) rfl ?_
        refine hp_geti (v := lv) rfl (hH.1 118 (17, 105) rfl) rfl q_lv ?_
        refine qm_Rp.go 0 (c' := (50, [.ref 118, .int s, .int b], [.int lv, .ref 127, .int v12, .int v6, .int s], h)) rfl ?_
        refine hp_ial (v := B) rfl (hH.1 127 (0, 2) rfl) q_B (fun ia_12 ib_12 => ?_)
        refine qm_Rp.go 1 (c' := (52, [.ref 118, .int s, .int b], [.int (v12 - B), .int v6, .int s], h)) rfl ?_
        obtain ⟨v14, q_v14, e_v14⟩ := hk_sub (x := v12) (y := B) (a := v12.toInt) (b := B.toInt) rfl rfl (by omega) (by omega)
        rw [q_v14]
        refine qm_Rp.go 1 (c' := (53, [.ref 118, .int s, .int b], [.int (v6 * v14), .int s], h)) rfl ?_
        have m_v15 := zm_bd (x := v6.toInt) (y := v14.toInt) (u := 40) (p := 4) (q := 8) (by omega) (by omega) (by omega) (by omega) (by omega) (by omega)
        obtain ⟨v15, q_v15, e_v15⟩ := hk_mul (x := v6) (y := v14) (a := v6.toInt) (b := v14.toInt) rfl rfl (by omega) (by omega)
        rw [q_v15]
        refine qm_Rp.go 1 (c' := (54, [.ref 118, .int s, .int b], [.int (s + v15)], h)) rfl ?_
        obtain ⟨v16, q_v16, e_v16⟩ := hk_add (x := s) (y := v15) (a := s.toInt) (b := v15.toInt) rfl rfl (by omega) (by omega)
        rw [q_v16]
        refine qm_Rp.go 2 (c' := (58, [.ref 118, .int v16, .int (b + 1)], [], h)) rfl ?_
        obtain ⟨v17, q_v17, e_v17⟩ := hk_add (x := b) (y := 1) (a := b.toInt) (b := 1) rfl rfl (by omega) (by omega)
        rw [q_v17]
        refine qm_Rp.go 1 (c' := (4, [.ref 118, .int v16, .int v17], [], h)) rfl ?_
        exact ih g hg v16 v17 (Nat.le_trans (Nat.le_of_lt hg) hfu) (by omega) (nS_s0 (z := v15.toInt) hq (by rw [wF_1 (by show (h.2.1 150 b.toInt.toNat).toInt = 1; rw [q_v2]; omega)]; show _ = (h.2.1 146 b.toInt.toNat).toInt * (2 * ((h.2.1 151 b.toInt.toNat).toInt / 16) + 1 - B.toInt); rw [q_v6, q_v8, e_v15, e_v14, e_v12, e_v11, e_v10]) e_v16 (by omega) (by omega))
theorem px_trm {X : Option (Nat × (Nat → Int32))} {Z : Option Value → qm_H → Prop} {h : qm_H} {fu : Nat} (hH : hk_H h) {n : Int32} {w wh sp : Nat → Int} (eW : pI h.2.1 146 = w) (eH : pI h.2.1 150 = wh) (eS : pI h.2.1 151 = sp) (q_n : h.2.1 118 44 = n) (hn : 0 ≤ n.toInt ∧ n.toInt ≤ 30) (hw : ∀ b, 0 ≤ w b ∧ w b ≤ 40) (hs : ∀ b, 0 ≤ sp b ∧ sp b ≤ 79) {lv B : Int32} (q_lv : h.2.1 118 18 = lv) (hlv : 0 ≤ lv.toInt ∧ lv.toInt ≤ 1) (q_B : h.2.1 127 lv.toInt.toNat = B) (hB : 1 ≤ B.toInt ∧ B.toInt ≤ 5) (k : ∀ s : Int32, s.toInt = zT B.toInt w wh sp n.toInt.toNat → Z (some (.int s)) h) : qm_Rp fu X cd_291 (qm_ent 3 [.ref 118] h) Z := by
  subst eW eH eS
  refine qm_Rp.go 4 (c' := (4, [.ref 118, .int 0, .int 0], [], h)) rfl ?_
  exact px_trml hH q_n hn hw hs q_lv hlv q_B hB k fu 0 0 (Nat.le_refl _) ⟨by decide, by rw [show (0 : Int32).toInt = 0 from rfl]; exact hn.1⟩ rfl
set_option maxHeartbeats 20000000 in
theorem px_alnl {X : Option (Nat × (Nat → Int32))} {Z : Option Value → qm_H → Prop} {h : qm_H} (hH : hk_H h) {n : Int32} (q_n : h.2.1 118 44 = n) (hn : 0 ≤ n.toInt ∧ n.toInt ≤ 30) (hw : ∀ b, 0 ≤ pI h.2.1 146 b ∧ pI h.2.1 146 b ≤ 40) (hs : ∀ b, 0 ≤ pI h.2.1 151 b ∧ pI h.2.1 151 b ≤ 79) {fu0 : Nat} (k : ∀ s : Int32, s.toInt = zA (pI h.2.1 146) (pI h.2.1 150) (pI h.2.1 151) n.toInt.toNat → Z (some (.int s)) h) : ∀ (fu : Nat) (s b : Int32), (fu ≤ fu0) → (0 ≤ b.toInt ∧ b.toInt ≤ n.toInt) → (s.toInt = nS (wF pA (pI h.2.1 146) (pI h.2.1 150) (pI h.2.1 151)) b.toInt.toNat) → qm_Rp fu X cd_293 (4, [.ref 118, .int s, .int b], [], h) Z := by
  intro fu
  induction fu using Nat.strongRecOn with
  | ind fu ih =>
    intro s b hfu hb hq
    have kz0 : (0 : Int32).toInt = 0 := rfl
    have kz1 : (1 : Int32).toInt = 1 := rfl
    have kz2 : (2 : Int32).toInt = 2 := rfl
    have kz3 : (3 : Int32).toInt = 3 := rfl
    have kz4 : (4 : Int32).toInt = 4 := rfl
    have kz5 : (5 : Int32).toInt = 5 := rfl
    have kz6 : (6 : Int32).toInt = 6 := rfl
    have kz7 : (7 : Int32).toInt = 7 := rfl
    have kz8 : (8 : Int32).toInt = 8 := rfl
    have kz9 : (9 : Int32).toInt = 9 := rfl
    have kzm1 : ((-1) : Int32).toInt = (-1) := rfl
    have kzm2 : ((-2) : Int32).toInt = (-2) := rfl
    have kzm3 : ((-3) : Int32).toInt = (-3) := rfl
    have bs := wF_in (p := pA) (wt := (pI h.2.1 146)) (wh := (pI h.2.1 150)) (sp := (pI h.2.1 151)) (n := b.toInt.toNat) (u := 0) (v := 40) (by omega) (fun x _ _ => pA_in (s := pI h.2.1 151 x) (hw x))
    rw [← hq] at bs
    refine qm_Rp.go1 1 (c' := (6, [.ref 118, .int s, .int b], [.ref 118, .int b], h)) rfl (fun g hg => ?_)
    refine hp_geti (v := n) rfl (hH.1 118 (17, 105) rfl) rfl q_n ?_
    refine qm_Rp.go 0 (c' := (9, [.ref 118, .int s, .int b], [.int n, .int b], h)) rfl ?_
    refine hp_cge (ix := b.toInt) (iy := n.toInt) rfl rfl rfl (fun z1 => ?_) (fun z1 => ?_)
    · refine qm_Rp.go 1 (c' := (38, [.ref 118, .int s, .int b], [.int s], h)) rfl ?_
      refine qm_Rp.rt (v := (some (.int s))) (h' := h) rfl ?_
      exact k s (by rw [hq, show b.toInt.toNat = n.toInt.toNat by omega]; rfl)
    · refine qm_Rp.go 1 (c' := (13, [.ref 118, .int s, .int b], [.ref 118], h)) rfl ?_
      refine hp_getr rfl (hH.1 118 (17, 105) rfl) rfl (hH.2 118 49 (some 150) rfl) ?_
      refine qm_Rp.go 1 (c' := (17, [.ref 118, .int s, .int b], [.int b, .ref 150], h)) rfl ?_
      obtain ⟨v2, q_v2⟩ : ∃ v_, h.2.1 150 b.toInt.toNat = v_ := ⟨_, rfl⟩
      refine hp_ial (v := v2) rfl (hH.1 150 (0, 30) rfl) q_v2 (fun ia_2 ib_2 => ?_)
      refine qm_Rp.go 0 (c' := (18, [.ref 118, .int s, .int b], [.int v2], h)) rfl ?_
      refine qm_Rp.go 1 (c' := (19, [.ref 118, .int s, .int b], [.int 1, .int v2], h)) rfl ?_
      refine hp_cne (ix := v2.toInt) (iy := 1) rfl rfl rfl (fun z4 => ?_) (fun z4 => ?_)
      · refine qm_Rp.go 1 (c' := (34, [.ref 118, .int s, .int (b + 1)], [], h)) rfl ?_
        obtain ⟨v5, q_v5, e_v5⟩ := hk_add (x := b) (y := 1) (a := b.toInt) (b := 1) rfl rfl (by omega) (by omega)
        rw [q_v5]
        refine qm_Rp.go 1 (c' := (4, [.ref 118, .int s, .int v5], [], h)) rfl ?_
        exact ih g hg s v5 (Nat.le_trans (Nat.le_of_lt hg) hfu) (by omega) (nS_s0 (z := 0) hq (wF_0 (by show ¬ (h.2.1 150 b.toInt.toNat).toInt = 1; rw [q_v2]; omega)).symm (by omega) (by omega) (by omega))
      · refine qm_Rp.go 2 (c' := (24, [.ref 118, .int s, .int b], [.ref 118, .int s], h)) rfl ?_
        refine hp_getr rfl (hH.1 118 (17, 105) rfl) rfl (hH.2 118 45 (some 146) rfl) ?_
        refine qm_Rp.go 1 (c' := (28, [.ref 118, .int s, .int b], [.int b, .ref 146, .int s], h)) rfl ?_
        obtain ⟨v6, q_v6⟩ : ∃ v_, h.2.1 146 b.toInt.toNat = v_ := ⟨_, rfl⟩
        have b_v6 : (0 : Int) ≤ v6.toInt ∧ v6.toInt ≤ 40 := by rw [← q_v6]; exact hw (b.toInt.toNat)
        refine hp_ial (v := v6) rfl (hH.1 146 (0, 30) rfl) q_v6 (fun ia_6 ib_6 => ?_)
        refine qm_Rp.go 1 (c' := (30, [.ref 118, .int s, .int b], [.int (s + v6)], h)) rfl ?_
        obtain ⟨v8, q_v8, e_v8⟩ := hk_add (x := s) (y := v6) (a := s.toInt) (b := v6.toInt) rfl rfl (by omega) (by omega)
        rw [q_v8]
        refine qm_Rp.go 2 (c' := (34, [.ref 118, .int v8, .int (b + 1)], [], h)) rfl ?_
        obtain ⟨v9, q_v9, e_v9⟩ := hk_add (x := b) (y := 1) (a := b.toInt) (b := 1) rfl rfl (by omega) (by omega)
        rw [q_v9]
        refine qm_Rp.go 1 (c' := (4, [.ref 118, .int v8, .int v9], [], h)) rfl ?_
        exact ih g hg v8 v9 (Nat.le_trans (Nat.le_of_lt hg) hfu) (by omega) (nS_s0 (z := v6.toInt) hq (by rw [wF_1 (by show (h.2.1 150 b.toInt.toNat).toInt = 1; rw [q_v2]; omega)]; show _ = (h.2.1 146 b.toInt.toNat).toInt; rw [q_v6]) e_v8 (by omega) (by omega))
theorem px_aln {X : Option (Nat × (Nat → Int32))} {Z : Option Value → qm_H → Prop} {h : qm_H} {fu : Nat} (hH : hk_H h) {n : Int32} {w wh sp : Nat → Int} (eW : pI h.2.1 146 = w) (eH : pI h.2.1 150 = wh) (eS : pI h.2.1 151 = sp) (q_n : h.2.1 118 44 = n) (hn : 0 ≤ n.toInt ∧ n.toInt ≤ 30) (hw : ∀ b, 0 ≤ w b ∧ w b ≤ 40) (hs : ∀ b, 0 ≤ sp b ∧ sp b ≤ 79) (k : ∀ s : Int32, s.toInt = zA w wh sp n.toInt.toNat → Z (some (.int s)) h) : qm_Rp fu X cd_293 (qm_ent 3 [.ref 118] h) Z := by
  subst eW eH eS
  refine qm_Rp.go 4 (c' := (4, [.ref 118, .int 0, .int 0], [], h)) rfl ?_
  exact px_alnl hH q_n hn hw hs k fu 0 0 (Nat.le_refl _) ⟨by decide, by rw [show (0 : Int32).toInt = 0 from rfl]; exact hn.1⟩ rfl
set_option maxHeartbeats 20000000 in
theorem px_bnb {X : Option (Nat × (Nat → Int32))} {Z : Option Value → qm_H → Prop} {h : qm_H} (hH : hk_H h) {n B : Int32} (q_n : h.2.1 118 44 = n) (hn : 0 ≤ n.toInt ∧ n.toInt ≤ 30) (hw : ∀ b, 0 ≤ pI h.2.1 146 b ∧ pI h.2.1 146 b ≤ 40) (hs : ∀ b, 0 ≤ pI h.2.1 151 b ∧ pI h.2.1 151 b ≤ 79) {fu0 : Nat} (k : ∀ g, g ≤ fu0 → ∀ (I : Nat → Nat → Int32) (b : Int32), (∀ o, [155].contains o = false → ∀ i, I o i = h.2.1 o i) → (∀ c : Nat, c < 5 → (I 155 c).toInt = zB (pI h.2.1 146) (pI h.2.1 150) (pI h.2.1 151) n.toInt.toNat c) → qm_Rp g X cd_292 (79, [.ref 118, .int B, .int b, .float 0, .float 0, .float 0, .float 0], [], (h.1, I, h.2.2.1, h.2.2.2)) Z) : ∀ (fu : Nat) (I : Nat → Nat → Int32) (b : Int32), (fu ≤ fu0) → ((∀ o, [155].contains o = false → ∀ i, I o i = h.2.1 o i)) → (0 ≤ b.toInt ∧ b.toInt ≤ n.toInt) → (∀ c : Nat, c < 5 → (I 155 c).toInt = zB (pI h.2.1 146) (pI h.2.1 150) (pI h.2.1 151) b.toInt.toNat c) → qm_Rp fu X cd_292 (32, [.ref 118, .int B, .int b, .float 0, .float 0, .float 0, .float 0], [], (h.1, I, h.2.2.1, h.2.2.2)) Z := by
  intro fu
  induction fu using Nat.strongRecOn with
  | ind fu ih =>
    intro I b hfu e hb ha
    have kz0 : (0 : Int32).toInt = 0 := rfl
    have kz1 : (1 : Int32).toInt = 1 := rfl
    have kz2 : (2 : Int32).toInt = 2 := rfl
    have kz3 : (3 : Int32).toInt = 3 := rfl
    have kz4 : (4 : Int32).toInt = 4 := rfl
    have kz5 : (5 : Int32).toInt = 5 := rfl
    have kz6 : (6 : Int32).toInt = 6 := rfl
    have kz7 : (7 : Int32).toInt = 7 := rfl
    have kz8 : (8 : Int32).toInt = 8 := rfl
    have kz9 : (9 : Int32).toInt = 9 := rfl
    have kzm1 : ((-1) : Int32).toInt = (-1) := rfl
    have kzm2 : ((-2) : Int32).toInt = (-2) := rfl
    have kzm3 : ((-3) : Int32).toInt = (-3) := rfl
    refine qm_Rp.go1 1 (c' := (34, [.ref 118, .int B, .int b, .float 0, .float 0, .float 0, .float 0], [.ref 118, .int b], (h.1, I, h.2.2.1, h.2.2.2))) rfl (fun g hg => ?_)
    refine hp_geti (v := n) rfl (hH.1 118 (17, 105) rfl) rfl (show (I) 118 44 = _ from ((e 118 rfl 44).trans q_n)) ?_
    refine qm_Rp.go 0 (c' := (37, [.ref 118, .int B, .int b, .float 0, .float 0, .float 0, .float 0], [.int n, .int b], (h.1, I, h.2.2.1, h.2.2.2))) rfl ?_
    refine hp_cge (ix := b.toInt) (iy := n.toInt) rfl rfl rfl (fun z1 => ?_) (fun z1 => ?_)
    · refine qm_Rp.go 0 (c' := (79, [.ref 118, .int B, .int b, .float 0, .float 0, .float 0, .float 0], [], (h.1, I, h.2.2.1, h.2.2.2))) rfl ?_
      exact k g (Nat.le_trans (Nat.le_of_lt hg) hfu) I b e (fun c hc => by rw [ha c hc, show b.toInt.toNat = n.toInt.toNat by omega])
    · refine qm_Rp.go 1 (c' := (41, [.ref 118, .int B, .int b, .float 0, .float 0, .float 0, .float 0], [.ref 118], (h.1, I, h.2.2.1, h.2.2.2))) rfl ?_
      refine hp_getr rfl (hH.1 118 (17, 105) rfl) rfl (hH.2 118 49 (some 150) rfl) ?_
      refine qm_Rp.go 1 (c' := (45, [.ref 118, .int B, .int b, .float 0, .float 0, .float 0, .float 0], [.int b, .ref 150], (h.1, I, h.2.2.1, h.2.2.2))) rfl ?_
      obtain ⟨v2, q_v2⟩ : ∃ v_, h.2.1 150 b.toInt.toNat = v_ := ⟨_, rfl⟩
      refine hp_ial (v := v2) rfl (hH.1 150 (0, 30) rfl) (show (I) 150 b.toInt.toNat = _ from ((e 150 rfl b.toInt.toNat).trans q_v2)) (fun ia_2 ib_2 => ?_)
      refine qm_Rp.go 0 (c' := (46, [.ref 118, .int B, .int b, .float 0, .float 0, .float 0, .float 0], [.int v2], (h.1, I, h.2.2.1, h.2.2.2))) rfl ?_
      refine qm_Rp.go 1 (c' := (47, [.ref 118, .int B, .int b, .float 0, .float 0, .float 0, .float 0], [.int 1, .int v2], (h.1, I, h.2.2.1, h.2.2.2))) rfl ?_
      refine hp_cne (ix := v2.toInt) (iy := 1) rfl rfl rfl (fun z4 => ?_) (fun z4 => ?_)
      · refine qm_Rp.go 1 (c' := (76, [.ref 118, .int B, .int (b + 1), .float 0, .float 0, .float 0, .float 0], [], (h.1, I, h.2.2.1, h.2.2.2))) rfl ?_
        obtain ⟨v5, q_v5, e_v5⟩ := hk_add (x := b) (y := 1) (a := b.toInt) (b := 1) rfl rfl (by omega) (by omega)
        rw [q_v5]
        refine qm_Rp.go 1 (c' := (32, [.ref 118, .int B, .int v5, .float 0, .float 0, .float 0, .float 0], [], (h.1, I, h.2.2.1, h.2.2.2))) rfl ?_
        refine ih g hg (I) v5 (Nat.le_trans (Nat.le_of_lt hg) hfu) (fun o ho i => ((e o (hk_ms rfl ho) i).trans rfl)) (by omega) (fun c hc => ?_)
        exact nS_s0 (z := 0) (ha c hc) (wF_0 (by show ¬ (h.2.1 150 b.toInt.toNat).toInt = 1; rw [q_v2]; omega)).symm (by omega) (by omega) (by omega)
      · refine qm_Rp.go 1 (c' := (51, [.ref 118, .int B, .int b, .float 0, .float 0, .float 0, .float 0], [.ref 118], (h.1, I, h.2.2.1, h.2.2.2))) rfl ?_
        refine hp_getr rfl (hH.1 118 (17, 105) rfl) rfl (hH.2 118 55 (some 155) rfl) ?_
        refine qm_Rp.go 1 (c' := (55, [.ref 118, .int B, .int b, .float 0, .float 0, .float 0, .float 0], [.ref 118, .ref 155], (h.1, I, h.2.2.1, h.2.2.2))) rfl ?_
        refine hp_getr rfl (hH.1 118 (17, 105) rfl) rfl (hH.2 118 50 (some 151) rfl) ?_
        refine qm_Rp.go 1 (c' := (59, [.ref 118, .int B, .int b, .float 0, .float 0, .float 0, .float 0], [.int b, .ref 151, .ref 155], (h.1, I, h.2.2.1, h.2.2.2))) rfl ?_
        obtain ⟨v6, q_v6⟩ : ∃ v_, h.2.1 151 b.toInt.toNat = v_ := ⟨_, rfl⟩
        have b_v6 : (0 : Int) ≤ v6.toInt ∧ v6.toInt ≤ 79 := by rw [← q_v6]; exact hs (b.toInt.toNat)
        refine hp_ial (v := v6) rfl (hH.1 151 (0, 30) rfl) (show (I) 151 b.toInt.toNat = _ from ((e 151 rfl b.toInt.toNat).trans q_v6)) (fun ia_6 ib_6 => ?_)
        refine qm_Rp.go 2 (c' := (63, [.ref 118, .int B, .int b, .float 0, .float 0, .float 0, .float 0], [.int (v6 / 16), .ref 155], (h.1, I, h.2.2.1, h.2.2.2))) rfl ?_
        obtain ⟨v8, q_v8, e_v8⟩ := hk_div (x := v6) (y := 16) (a := v6.toInt) (b := 16) rfl rfl (by omega) (by omega)
        rw [q_v8]
        refine qm_Rp.go 1 (c' := (64, [.ref 118, .int B, .int b, .float 0, .float 0, .float 0, .float 0], [.int v8, .ref 155, .int v8, .ref 155], (h.1, I, h.2.2.1, h.2.2.2))) rfl ?_
        obtain ⟨v9, q_v9⟩ : ∃ v_, I 155 v8.toInt.toNat = v_ := ⟨_, rfl⟩
        refine hp_ial (v := v9) rfl (hH.1 155 (0, 5) rfl) q_v9 (fun ia_9 ib_9 => ?_)
        refine qm_Rp.go 0 (c' := (65, [.ref 118, .int B, .int b, .float 0, .float 0, .float 0, .float 0], [.int v9, .int v8, .ref 155], (h.1, I, h.2.2.1, h.2.2.2))) rfl ?_
        have c_v9 := ha v8.toInt.toNat (by omega)
        rw [q_v9] at c_v9
        have b_v9 := zB_in (w := (pI h.2.1 146)) (wh := (pI h.2.1 150)) (sp := (pI h.2.1 151)) (n := b.toInt.toNat) (c := v8.toInt.toNat) hw (by omega)
        rw [← c_v9] at b_v9
        refine qm_Rp.go 1 (c' := (66, [.ref 118, .int B, .int b, .float 0, .float 0, .float 0, .float 0], [.ref 118, .int v9, .int v8, .ref 155], (h.1, I, h.2.2.1, h.2.2.2))) rfl ?_
        refine hp_getr rfl (hH.1 118 (17, 105) rfl) rfl (hH.2 118 45 (some 146) rfl) ?_
        refine qm_Rp.go 1 (c' := (70, [.ref 118, .int B, .int b, .float 0, .float 0, .float 0, .float 0], [.int b, .ref 146, .int v9, .int v8, .ref 155], (h.1, I, h.2.2.1, h.2.2.2))) rfl ?_
        obtain ⟨v11, q_v11⟩ : ∃ v_, h.2.1 146 b.toInt.toNat = v_ := ⟨_, rfl⟩
        have b_v11 : (0 : Int) ≤ v11.toInt ∧ v11.toInt ≤ 40 := by rw [← q_v11]; exact hw (b.toInt.toNat)
        refine hp_ial (v := v11) rfl (hH.1 146 (0, 30) rfl) (show (I) 146 b.toInt.toNat = _ from ((e 146 rfl b.toInt.toNat).trans q_v11)) (fun ia_11 ib_11 => ?_)
        refine qm_Rp.go 1 (c' := (72, [.ref 118, .int B, .int b, .float 0, .float 0, .float 0, .float 0], [.int (v9 + v11), .int v8, .ref 155], (h.1, I, h.2.2.1, h.2.2.2))) rfl ?_
        obtain ⟨v13, q_v13, e_v13⟩ := hk_add (x := v9) (y := v11) (a := v9.toInt) (b := v11.toInt) rfl rfl (by omega) (by omega)
        rw [q_v13]
        refine hp_ias rfl (hH.1 155 (0, 5) rfl) (fun ia_13 ib_13 => ?_)
        refine qm_Rp.go 1 (c' := (76, [.ref 118, .int B, .int (b + 1), .float 0, .float 0, .float 0, .float 0], [], (h.1, qm_up I 155 v8.toInt.toNat v13, h.2.2.1, h.2.2.2))) rfl ?_
        obtain ⟨v15, q_v15, e_v15⟩ := hk_add (x := b) (y := 1) (a := b.toInt) (b := 1) rfl rfl (by omega) (by omega)
        rw [q_v15]
        refine qm_Rp.go 1 (c' := (32, [.ref 118, .int B, .int v15, .float 0, .float 0, .float 0, .float 0], [], (h.1, qm_up I 155 v8.toInt.toNat v13, h.2.2.1, h.2.2.2))) rfl ?_
        refine ih g hg (qm_up I 155 v8.toInt.toNat v13) v15 (Nat.le_trans (Nat.le_of_lt hg) hfu) (fun o ho i => ((hk_mod ho rfl).trans ((e o (hk_ms rfl ho) i).trans rfl))) (by omega) (fun c hc => ?_)
        have hq1 : wF (pB (c : Int)) (pI h.2.1 146) (pI h.2.1 150) (pI h.2.1 151) b.toInt.toNat = pB (c : Int) v11.toInt v6.toInt := by rw [wF_1 (by show (h.2.1 150 b.toInt.toNat).toInt = 1; rw [q_v2]; omega)]; show pB _ (h.2.1 146 b.toInt.toNat).toInt (h.2.1 151 b.toInt.toNat).toInt = _; rw [q_v11, q_v6]
        refine nS_s0 (z := pB (c : Int) v11.toInt v6.toInt) (ha c hc) hq1.symm ?_ (by omega) (by omega)
        have hha := ha c hc
        unfold pB
        by_cases cc : c = v8.toInt.toNat
        · subst cc; rw [if_pos (by omega), show (qm_up I 155 v8.toInt.toNat v13) 155 v8.toInt.toNat = v13 from hk_same]; omega
        · rw [if_neg (by omega), show (qm_up I 155 v8.toInt.toNat v13) 155 c = I 155 c from hk_neq cc]; omega
set_option maxHeartbeats 20000000 in
theorem px_bnc {X : Option (Nat × (Nat → Int32))} {Z : Option Value → qm_H → Prop} {h : qm_H} (hH : hk_H h) {n B al : Int32} {w wh sp : Nat → Int} (hn : 0 ≤ n.toInt ∧ n.toInt ≤ 30) (hB : 1 ≤ B.toInt ∧ B.toInt ≤ 5) (hw : ∀ b, 0 ≤ w b ∧ w b ≤ 40) (ha : al.toInt = zA w wh sp n.toInt.toNat) (hf : ∀ c : Nat, c < 5 → (h.2.1 155 c).toInt = (zB w wh sp n.toInt.toNat) c) {fu0 : Nat} (k : ∀ r : Int32, r.toInt = zD B.toInt w wh sp n.toInt.toNat → Z (some (.int r)) h) : ∀ (fu : Nat) (u s m c : Int32), (fu ≤ fu0) → (0 ≤ c.toInt ∧ c.toInt + 1 ≤ B.toInt) → (u.toInt = nS (zB w wh sp n.toInt.toNat) c.toInt.toNat) → (s.toInt = bnS B.toInt al.toInt (zB w wh sp n.toInt.toNat) c.toInt.toNat) → (m.toInt = bnM B.toInt al.toInt (zB w wh sp n.toInt.toNat) c.toInt.toNat) → qm_Rp fu X cd_292 (95, [.ref 118, .int B, .int al, .int u, .int s, .int m, .int c], [], h) Z := by
  intro fu
  induction fu using Nat.strongRecOn with
  | ind fu ih =>
    intro u s m c hfu hc h1 h2 h3
    have kz0 : (0 : Int32).toInt = 0 := rfl
    have kz1 : (1 : Int32).toInt = 1 := rfl
    have kz2 : (2 : Int32).toInt = 2 := rfl
    have kz3 : (3 : Int32).toInt = 3 := rfl
    have kz4 : (4 : Int32).toInt = 4 := rfl
    have kz5 : (5 : Int32).toInt = 5 := rfl
    have kz6 : (6 : Int32).toInt = 6 := rfl
    have kz7 : (7 : Int32).toInt = 7 := rfl
    have kz8 : (8 : Int32).toInt = 8 := rfl
    have kz9 : (9 : Int32).toInt = 9 := rfl
    have kzm1 : ((-1) : Int32).toInt = (-1) := rfl
    have kzm2 : ((-2) : Int32).toInt = (-2) := rfl
    have kzm3 : ((-3) : Int32).toInt = (-3) := rfl
    have ba := zA_in (w := w) (wh := wh) (sp := sp) (n := n.toInt.toNat) hw (by omega)
    rw [← ha] at ba
    have hu : ∀ i, i ≤ 5 → -8000 ≤ nS (zB w wh sp n.toInt.toNat) i ∧ nS (zB w wh sp n.toInt.toNat) i ≤ 8000 := fun i hi => by have z := zBs_in (w := w) (wh := wh) (sp := sp) (n := n.toInt.toNat) (i := i) hw (by omega) hi; omega
    have b1 := zBs_in (w := w) (wh := wh) (sp := sp) (n := n.toInt.toNat) (i := c.toInt.toNat) hw (by omega) (by omega)
    rw [← show _ = nS _ _ from h1] at b1
    have b2 := bnS_in (B := B.toInt) (al := al.toInt) (f := (zB w wh sp n.toInt.toNat)) (c := c.toInt.toNat) (by omega) (by omega) (by omega) (fun i hi => hu i (by omega))
    rw [← h2] at b2
    have b3 := bnM_in (B := B.toInt) (al := al.toInt) (f := (zB w wh sp n.toInt.toNat)) (c := c.toInt.toNat) (by omega) (by omega) (by omega) (fun i hi => hu i (by omega))
    rw [← h3] at b3
    refine qm_Rp.go1 2 (c' := (99, [.ref 118, .int B, .int al, .int u, .int s, .int m, .int c], [.int (c + 1)], h)) rfl (fun g hg => ?_)
    obtain ⟨v1, q_v1, e_v1⟩ := hk_add (x := c) (y := 1) (a := c.toInt) (b := 1) rfl rfl (by omega) (by omega)
    rw [q_v1]
    refine qm_Rp.go 1 (c' := (100, [.ref 118, .int B, .int al, .int u, .int s, .int m, .int c], [.int B, .int v1], h)) rfl ?_
    refine hp_cge (ix := v1.toInt) (iy := B.toInt) rfl rfl rfl (fun z2 => ?_) (fun z2 => ?_)
    · refine qm_Rp.go 1 (c' := (153, [.ref 118, .int B, .int al, .int u, .int s, .int m, .int c], [.int m], h)) rfl ?_
      refine qm_Rp.rt (v := (some (.int m))) (h' := h) rfl ?_
      exact k m (by rw [h3, ha, show c.toInt.toNat = (B.toInt - 1).toNat by omega]; rfl)
    · refine qm_Rp.go 2 (c' := (105, [.ref 118, .int B, .int al, .int u, .int s, .int m, .int c], [.ref 118, .int u], h)) rfl ?_
      refine hp_getr rfl (hH.1 118 (17, 105) rfl) rfl (hH.2 118 55 (some 155) rfl) ?_
      refine qm_Rp.go 1 (c' := (110, [.ref 118, .int B, .int al, .int u, .int s, .int m, .int c], [.int c, .ref 155, .int u], h)) rfl ?_
      obtain ⟨v3, q_v3⟩ : ∃ v_, h.2.1 155 c.toInt.toNat = v_ := ⟨_, rfl⟩
      refine hp_ial (v := v3) rfl (hH.1 155 (0, 5) rfl) q_v3 (fun ia_3 ib_3 => ?_)
      refine qm_Rp.go 0 (c' := (111, [.ref 118, .int B, .int al, .int u, .int s, .int m, .int c], [.int v3, .int u], h)) rfl ?_
      have c_v3 := hf c.toInt.toNat (by omega)
      rw [q_v3] at c_v3
      have b_v3 := zB_in (w := w) (wh := wh) (sp := sp) (n := n.toInt.toNat) (c := c.toInt.toNat) hw (by omega)
      rw [← c_v3] at b_v3
      refine qm_Rp.go 1 (c' := (112, [.ref 118, .int B, .int al, .int u, .int s, .int m, .int c], [.int (u + v3)], h)) rfl ?_
      obtain ⟨v5, q_v5, e_v5⟩ := hk_add (x := u) (y := v3) (a := u.toInt) (b := v3.toInt) rfl rfl (by omega) (by omega)
      rw [q_v5]
      refine qm_Rp.go 5 (c' := (118, [.ref 118, .int B, .int al, .int v5, .int s, .int m, .int c], [.int (B * v5), .int s], h)) rfl ?_
      have m_v6 := zm_bd (x := B.toInt) (y := v5.toInt) (u := 5) (p := 0) (q := 7200) (by omega) (by omega) (by omega) (by omega) (by omega) (by omega)
      obtain ⟨v6, q_v6, e_v6⟩ := hk_mul (x := B) (y := v5) (a := B.toInt) (b := v5.toInt) rfl rfl (by omega) (by omega)
      rw [q_v6]
      refine qm_Rp.go 3 (c' := (122, [.ref 118, .int B, .int al, .int v5, .int s, .int m, .int c], [.int (c + 1), .int v6, .int s], h)) rfl ?_
      rw [q_v1]
      refine qm_Rp.go 2 (c' := (124, [.ref 118, .int B, .int al, .int v5, .int s, .int m, .int c], [.int (v1 * al), .int v6, .int s], h)) rfl ?_
      have m_v7 := zm_bd (x := v1.toInt) (y := al.toInt) (u := 4) (p := 0) (q := 1200) (by omega) (by omega) (by omega) (by omega) (by omega) (by omega)
      obtain ⟨v7, q_v7, e_v7⟩ := hk_mul (x := v1) (y := al) (a := v1.toInt) (b := al.toInt) rfl rfl (by omega) (by omega)
      rw [q_v7]
      refine qm_Rp.go 1 (c' := (125, [.ref 118, .int B, .int al, .int v5, .int s, .int m, .int c], [.int (v6 - v7), .int s], h)) rfl ?_
      obtain ⟨v8, q_v8, e_v8⟩ := hk_sub (x := v6) (y := v7) (a := v6.toInt) (b := v7.toInt) rfl rfl (by omega) (by omega)
      rw [q_v8]
      refine qm_Rp.go 1 (c' := (126, [.ref 118, .int B, .int al, .int v5, .int s, .int m, .int c], [.int (s + v8)], h)) rfl ?_
      obtain ⟨v9, q_v9, e_v9⟩ := hk_add (x := s) (y := v8) (a := s.toInt) (b := v8.toInt) rfl rfl (by omega) (by omega)
      rw [q_v9]
      refine qm_Rp.go 2 (c' := (130, [.ref 118, .int B, .int al, .int v5, .int v9, .int m, .int c], [.int v9], h)) rfl ?_
      refine qm_Rp.call (j := 294) (as := [.int v9]) (c' := (133, [.ref 118, .int B, .int al, .int v5, .int v9, .int m, .int c], [], h)) rfl rfl (px_bare (by omega) (fun r10 e_r10 => ?_))
      have b_r10 := ab_in (z := v9.toInt) (m := 436000) (by omega) (by omega)
      refine qm_Rp.go 0 (c' := (133, [.ref 118, .int B, .int al, .int v5, .int v9, .int m, .int c], [.int r10], h)) rfl ?_
      refine qm_Rp.go 1 (c' := (135, [.ref 118, .int B, .int al, .int v5, .int v9, .int m, .int c], [.int m, .int r10], h)) rfl ?_
      refine hp_cle (ix := r10.toInt) (iy := m.toInt) rfl rfl rfl (fun z11 => ?_) (fun z11 => ?_)
      · refine qm_Rp.go 1 (c' := (148, [.ref 118, .int B, .int al, .int v5, .int v9, .int m, .int (c + 1)], [], h)) rfl ?_
        rw [q_v1]
        refine qm_Rp.go 1 (c' := (95, [.ref 118, .int B, .int al, .int v5, .int v9, .int m, .int v1], [], h)) rfl ?_
        have hu2 : v5.toInt = nS (zB w wh sp n.toInt.toNat) v1.toInt.toNat := nS_s0 h1 c_v3 e_v5 (by omega) (by omega)
        have hs2 : v9.toInt = bnS B.toInt al.toInt (zB w wh sp n.toInt.toNat) v1.toInt.toNat := bnS_st h2 hu2 (by rw [e_v9, e_v8, e_v6, e_v7, e_v1]) (by omega) (by omega)
        exact ih g hg v5 v9 m v1 (Nat.le_trans (Nat.le_of_lt hg) hfu) (by omega) hu2 hs2 (bnM_0 h3 hs2 e_r10 (by omega) (by omega) (by omega))
      · refine qm_Rp.go 1 (c' := (140, [.ref 118, .int B, .int al, .int v5, .int v9, .int m, .int c], [.int v9], h)) rfl ?_
        refine qm_Rp.call (j := 294) (as := [.int v9]) (c' := (143, [.ref 118, .int B, .int al, .int v5, .int v9, .int m, .int c], [], h)) rfl rfl (px_bare (by omega) (fun r12 e_r12 => ?_))
        have b_r12 := ab_in (z := v9.toInt) (m := 436000) (by omega) (by omega)
        refine qm_Rp.go 2 (c' := (148, [.ref 118, .int B, .int al, .int v5, .int v9, .int r12, .int (c + 1)], [], h)) rfl ?_
        rw [q_v1]
        refine qm_Rp.go 1 (c' := (95, [.ref 118, .int B, .int al, .int v5, .int v9, .int r12, .int v1], [], h)) rfl ?_
        have hu2 : v5.toInt = nS (zB w wh sp n.toInt.toNat) v1.toInt.toNat := nS_s0 h1 c_v3 e_v5 (by omega) (by omega)
        have hs2 : v9.toInt = bnS B.toInt al.toInt (zB w wh sp n.toInt.toNat) v1.toInt.toNat := bnS_st h2 hu2 (by rw [e_v9, e_v8, e_v6, e_v7, e_v1]) (by omega) (by omega)
        exact ih g hg v5 v9 r12 v1 (Nat.le_trans (Nat.le_of_lt hg) hfu) (by omega) hu2 hs2 (bnM_1 h3 hs2 e_r12 (by omega) (by omega) (by omega))
theorem px_bnd {X : Option (Nat × (Nat → Int32))} {Z : Option Value → qm_H → Prop} {h : qm_H} {fu : Nat} (hH : hk_H h) {n : Int32} {w wh sp : Nat → Int} (eW : pI h.2.1 146 = w) (eH : pI h.2.1 150 = wh) (eS : pI h.2.1 151 = sp) (q_n : h.2.1 118 44 = n) (hn : 0 ≤ n.toInt ∧ n.toInt ≤ 30) (hw : ∀ b, 0 ≤ w b ∧ w b ≤ 40) (hs : ∀ b, 0 ≤ sp b ∧ sp b ≤ 79) {lv B : Int32} (q_lv : h.2.1 118 18 = lv) (hlv : 0 ≤ lv.toInt ∧ lv.toInt ≤ 1) (q_B : h.2.1 127 lv.toInt.toNat = B) (hB : 1 ≤ B.toInt ∧ B.toInt ≤ 5) (k : ∀ (I : Nat → Nat → Int32) (r : Int32), (∀ o, [155].contains o = false → ∀ i, I o i = h.2.1 o i) → r.toInt = zD B.toInt w wh sp n.toInt.toNat → Z (some (.int r)) (h.1, I, h.2.2.1, h.2.2.2)) : qm_Rp fu X cd_292 (qm_ent 7 [.ref 118] h) Z := by
  subst eW eH eS
  refine qm_Rp.go 0 (c' := (0, [.ref 118, .float 0, .float 0, .float 0, .float 0, .float 0, .float 0], [], h)) rfl ?_
  have kz0 : (0 : Int32).toInt = 0 := rfl
  have kz1 : (1 : Int32).toInt = 1 := rfl
  have kz2 : (2 : Int32).toInt = 2 := rfl
  have kz3 : (3 : Int32).toInt = 3 := rfl
  have kz4 : (4 : Int32).toInt = 4 := rfl
  have kz5 : (5 : Int32).toInt = 5 := rfl
  have kz6 : (6 : Int32).toInt = 6 := rfl
  have kz7 : (7 : Int32).toInt = 7 := rfl
  have kz8 : (8 : Int32).toInt = 8 := rfl
  have kz9 : (9 : Int32).toInt = 9 := rfl
  have kzm1 : ((-1) : Int32).toInt = (-1) := rfl
  have kzm2 : ((-2) : Int32).toInt = (-2) := rfl
  have kzm3 : ((-3) : Int32).toInt = (-3) := rfl
  refine qm_Rp.go 1 (c' := (1, [.ref 118, .float 0, .float 0, .float 0, .float 0, .float 0, .float 0], [.ref 118], h)) rfl ?_
  refine hp_getr rfl (hH.1 118 (17, 105) rfl) rfl (hH.2 118 22 (some 127) rfl) ?_
  refine qm_Rp.go 1 (c' := (5, [.ref 118, .float 0, .float 0, .float 0, .float 0, .float 0, .float 0], [.ref 118, .ref 127], h)) rfl ?_
  refine hp_geti (v := lv) rfl (hH.1 118 (17, 105) rfl) rfl q_lv ?_
  refine qm_Rp.go 0 (c' := (8, [.ref 118, .float 0, .float 0, .float 0, .float 0, .float 0, .float 0], [.int lv, .ref 127], h)) rfl ?_
  refine hp_ial (v := B) rfl (hH.1 127 (0, 2) rfl) q_B (fun ia_0 ib_0 => ?_)
  refine qm_Rp.go 7 (c' := (18, [.ref 118, .int B, .int 0, .float 0, .float 0, .float 0, .float 0], [.ref 118], h)) rfl ?_
  refine hp_getr rfl (hH.1 118 (17, 105) rfl) rfl (hH.2 118 55 (some 155) rfl) ?_
  refine qm_Rp.go 2 (c' := (23, [.ref 118, .int B, .int 0, .float 0, .float 0, .float 0, .float 0], [.int 0, .int 0, .ref 155], h)) rfl ?_
  refine hp_ias rfl (hH.1 155 (0, 5) rfl) (fun ia_1 ib_1 => ?_)
  refine qm_Rp.go 6 (c' := (18, [.ref 118, .int B, .int 1, .float 0, .float 0, .float 0, .float 0], [.ref 118], (h.1, qm_up h.2.1 155 0 0, h.2.2.1, h.2.2.2))) rfl ?_
  refine hp_getr rfl (hH.1 118 (17, 105) rfl) rfl (hH.2 118 55 (some 155) rfl) ?_
  refine qm_Rp.go 2 (c' := (23, [.ref 118, .int B, .int 1, .float 0, .float 0, .float 0, .float 0], [.int 0, .int 1, .ref 155], (h.1, qm_up h.2.1 155 0 0, h.2.2.1, h.2.2.2))) rfl ?_
  refine hp_ias rfl (hH.1 155 (0, 5) rfl) (fun ia_2 ib_2 => ?_)
  refine qm_Rp.go 6 (c' := (18, [.ref 118, .int B, .int 2, .float 0, .float 0, .float 0, .float 0], [.ref 118], (h.1, qm_up (qm_up h.2.1 155 0 0) 155 1 0, h.2.2.1, h.2.2.2))) rfl ?_
  refine hp_getr rfl (hH.1 118 (17, 105) rfl) rfl (hH.2 118 55 (some 155) rfl) ?_
  refine qm_Rp.go 2 (c' := (23, [.ref 118, .int B, .int 2, .float 0, .float 0, .float 0, .float 0], [.int 0, .int 2, .ref 155], (h.1, qm_up (qm_up h.2.1 155 0 0) 155 1 0, h.2.2.1, h.2.2.2))) rfl ?_
  refine hp_ias rfl (hH.1 155 (0, 5) rfl) (fun ia_3 ib_3 => ?_)
  refine qm_Rp.go 6 (c' := (18, [.ref 118, .int B, .int 3, .float 0, .float 0, .float 0, .float 0], [.ref 118], (h.1, qm_up (qm_up (qm_up h.2.1 155 0 0) 155 1 0) 155 2 0, h.2.2.1, h.2.2.2))) rfl ?_
  refine hp_getr rfl (hH.1 118 (17, 105) rfl) rfl (hH.2 118 55 (some 155) rfl) ?_
  refine qm_Rp.go 2 (c' := (23, [.ref 118, .int B, .int 3, .float 0, .float 0, .float 0, .float 0], [.int 0, .int 3, .ref 155], (h.1, qm_up (qm_up (qm_up h.2.1 155 0 0) 155 1 0) 155 2 0, h.2.2.1, h.2.2.2))) rfl ?_
  refine hp_ias rfl (hH.1 155 (0, 5) rfl) (fun ia_4 ib_4 => ?_)
  refine qm_Rp.go 6 (c' := (18, [.ref 118, .int B, .int 4, .float 0, .float 0, .float 0, .float 0], [.ref 118], (h.1, qm_up (qm_up (qm_up (qm_up h.2.1 155 0 0) 155 1 0) 155 2 0) 155 3 0, h.2.2.1, h.2.2.2))) rfl ?_
  refine hp_getr rfl (hH.1 118 (17, 105) rfl) rfl (hH.2 118 55 (some 155) rfl) ?_
  refine qm_Rp.go 2 (c' := (23, [.ref 118, .int B, .int 4, .float 0, .float 0, .float 0, .float 0], [.int 0, .int 4, .ref 155], (h.1, qm_up (qm_up (qm_up (qm_up h.2.1 155 0 0) 155 1 0) 155 2 0) 155 3 0, h.2.2.1, h.2.2.2))) rfl ?_
  refine hp_ias rfl (hH.1 155 (0, 5) rfl) (fun ia_5 ib_5 => ?_)
  refine qm_Rp.go 7 (c' := (32, [.ref 118, .int B, .int 0, .float 0, .float 0, .float 0, .float 0], [], (h.1, qm_up (qm_up (qm_up (qm_up (qm_up h.2.1 155 0 0) 155 1 0) 155 2 0) 155 3 0) 155 4 0, h.2.2.1, h.2.2.2))) rfl ?_
  refine px_bnb hH q_n hn hw hs (fun g2 hg2 I b e ha => ?_) fu (qm_up (qm_up (qm_up (qm_up (qm_up h.2.1 155 0 0) 155 1 0) 155 2 0) 155 3 0) 155 4 0) 0 (Nat.le_refl _) (fun o ho i => ((hk_mod ho rfl).trans ((hk_mod ho rfl).trans ((hk_mod ho rfl).trans ((hk_mod ho rfl).trans ((hk_mod ho rfl).trans rfl)))))) (by omega) (fun c hc => ?_)
  · refine qm_Rp.go 1 (c' := (80, [.ref 118, .int B, .int b, .float 0, .float 0, .float 0, .float 0], [.ref 118], (h.1, I, h.2.2.1, h.2.2.2))) rfl ?_
    refine hp_inv (o := 118) (r := []) (as := [.ref 118]) rfl rfl (hH.1 118 (17, 105) rfl) rfl rfl rfl (px_aln (h := (h.1, I, h.2.2.1, h.2.2.2)) hH (w := (pI h.2.1 146)) (wh := (pI h.2.1 150)) (sp := (pI h.2.1 151)) (funext fun i => congrArg Int32.toInt ((e 146 rfl i).trans rfl)) (funext fun i => congrArg Int32.toInt ((e 150 rfl i).trans rfl)) (funext fun i => congrArg Int32.toInt ((e 151 rfl i).trans rfl)) (show (I) 118 44 = _ from ((e 118 rfl 44).trans q_n)) hn hw hs (fun al7 e_al7 => ?_))
    refine qm_Rp.go 9 (c' := (95, [.ref 118, .int B, .int al7, .int 0, .int 0, .int 0, .int 0], [], (h.1, I, h.2.2.1, h.2.2.2))) rfl ?_
    exact px_bnc (h := (h.1, I, h.2.2.1, h.2.2.2)) hH hn hB hw e_al7 (fun c hc => ha c hc) (fun r e_r => k I r e e_r) _ 0 0 0 0 (Nat.le_refl _) ⟨by decide, by omega⟩ rfl rfl rfl
  · show _ = (0 : Int)
    rcases (show c = 0 ∨ c = 1 ∨ c = 2 ∨ c = 3 ∨ c = 4 by omega) with rfl | rfl | rfl | rfl | rfl <;> rfl
theorem px_looks0 {X : Option (Nat × (Nat → Int32))} {Z : Option Value → qm_H → Prop} {h : qm_H} {fu : Nat} (hH : hk_H h) {n : Int32} {w wh sp : Nat → Int} (eW : pI h.2.1 146 = w) (eH : pI h.2.1 150 = wh) (eS : pI h.2.1 151 = sp) (q_n : h.2.1 118 44 = n) (hn : 0 ≤ n.toInt ∧ n.toInt ≤ 30) (hw : ∀ b, 0 ≤ w b ∧ w b ≤ 40) (hs : ∀ b, 0 ≤ sp b ∧ sp b ≤ 79) {B : Int32} (q_lv : h.2.1 118 18 = 0) (q_B : h.2.1 127 0 = B) (hB : 1 ≤ B.toInt ∧ B.toInt ≤ 5) (k : ∀ (I : Nat → Nat → Int32), (∀ o, [155, 156].contains o = false → ∀ i, I o i = h.2.1 o i) → (I 156 0).toInt = ab (zL w wh sp n.toInt.toNat) → (I 156 1).toInt = ab (zT B.toInt w wh sp n.toInt.toNat) → (I 156 2).toInt = zD B.toInt w wh sp n.toInt.toNat → Z none (h.1, I, h.2.2.1, h.2.2.2)) : qm_Rp fu X cd_287 (qm_ent 2 [.ref 118] h) Z := by
  refine qm_Rp.go 0 (c' := (0, [.ref 118, .float 0], [], h)) rfl ?_
  have kz0 : (0 : Int32).toInt = 0 := rfl
  have kz1 : (1 : Int32).toInt = 1 := rfl
  have kz2 : (2 : Int32).toInt = 2 := rfl
  have kz3 : (3 : Int32).toInt = 3 := rfl
  have kz4 : (4 : Int32).toInt = 4 := rfl
  have kz5 : (5 : Int32).toInt = 5 := rfl
  have kz6 : (6 : Int32).toInt = 6 := rfl
  have kz7 : (7 : Int32).toInt = 7 := rfl
  have kz8 : (8 : Int32).toInt = 8 := rfl
  have kz9 : (9 : Int32).toInt = 9 := rfl
  have kzm1 : ((-1) : Int32).toInt = (-1) := rfl
  have kzm2 : ((-2) : Int32).toInt = (-2) := rfl
  have kzm3 : ((-3) : Int32).toInt = (-3) := rfl
  refine qm_Rp.go 6 (c' := (8, [.ref 118, .int 0], [.ref 118], h)) rfl ?_
  refine hp_getr rfl (hH.1 118 (17, 105) rfl) rfl (hH.2 118 56 (some 156) rfl) ?_
  refine qm_Rp.go 3 (c' := (14, [.ref 118, .int 0], [.int 0, .ref 118, .int 0, .ref 156], h)) rfl ?_
  refine hp_inv (o := 118) (r := [.int 0, .ref 156]) (as := [.ref 118, .int 0]) rfl rfl (hH.1 118 (17, 105) rfl) rfl rfl rfl ?_
  refine qm_Rp.go 3 (c' := (5, [.ref 118, .int 0], [.ref 118], h)) rfl ?_
  refine hp_inv (o := 118) (r := []) (as := [.ref 118]) rfl rfl (hH.1 118 (17, 105) rfl) rfl rfl rfl (px_lst (h := h) hH eW eH eS q_n hn hw hs (fun r1 e_r1 => ?_))
  have b_r1 := zL_in (w := w) (wh := wh) (sp := sp) hw (show n.toInt.toNat ≤ 30 by omega)
  rw [← e_r1] at b_r1
  refine qm_Rp.go 1 (c' := (27, [.ref 118, .int 0], [.int r1], h)) rfl ?_
  refine qm_Rp.rt (v := (some (.int r1))) (h' := h) rfl ?_
  refine qm_Rp.go 0 (c' := (17, [.ref 118, .int 0], [.int r1, .int 0, .ref 156], h)) rfl ?_
  refine qm_Rp.call (j := 294) (as := [.int r1]) (c' := (20, [.ref 118, .int 0], [.int 0, .ref 156], h)) rfl rfl (px_bare (by omega) (fun a2 e_a2 => ?_))
  have b_a2 := ab_in (z := r1.toInt) (m := 3600) (by omega) (by omega)
  rw [e_r1] at e_a2
  rw [e_r1] at b_a2
  refine qm_Rp.go 0 (c' := (20, [.ref 118, .int 0], [.int a2, .int 0, .ref 156], h)) rfl ?_
  refine hp_ias rfl (hH.1 156 (0, 3) rfl) (fun ia_2 ib_2 => ?_)
  refine qm_Rp.go 6 (c' := (8, [.ref 118, .int 1], [.ref 118], (h.1, qm_up h.2.1 156 0 a2, h.2.2.1, h.2.2.2))) rfl ?_
  refine hp_getr rfl (hH.1 118 (17, 105) rfl) rfl (hH.2 118 56 (some 156) rfl) ?_
  refine qm_Rp.go 3 (c' := (14, [.ref 118, .int 1], [.int 1, .ref 118, .int 1, .ref 156], (h.1, qm_up h.2.1 156 0 a2, h.2.2.1, h.2.2.2))) rfl ?_
  refine hp_inv (o := 118) (r := [.int 1, .ref 156]) (as := [.ref 118, .int 1]) rfl rfl (hH.1 118 (17, 105) rfl) rfl rfl rfl ?_
  refine qm_Rp.go 6 (c' := (17, [.ref 118, .int 1], [.ref 118], (h.1, qm_up h.2.1 156 0 a2, h.2.2.1, h.2.2.2))) rfl ?_
  refine hp_inv (o := 118) (r := []) (as := [.ref 118]) rfl rfl (hH.1 118 (17, 105) rfl) rfl rfl rfl (px_trm (h := (h.1, qm_up h.2.1 156 0 a2, h.2.2.1, h.2.2.2)) hH ((funext fun i => congrArg Int32.toInt ((hk_ot rfl).trans rfl)).trans eW) ((funext fun i => congrArg Int32.toInt ((hk_ot rfl).trans rfl)).trans eH) ((funext fun i => congrArg Int32.toInt ((hk_ot rfl).trans rfl)).trans eS) (show (qm_up h.2.1 156 0 a2) 118 44 = _ from ((hk_ot rfl).trans q_n)) hn hw hs (lv := 0) (show (qm_up h.2.1 156 0 a2) 118 18 = _ from ((hk_ot rfl).trans q_lv)) ⟨by decide, by decide⟩ (show (qm_up h.2.1 156 0 a2) 127 0 = _ from ((hk_ot rfl).trans q_B)) hB (fun r4 e_r4 => ?_))
  have b_r4 := zT_in (B := B.toInt) (w := w) (wh := wh) (sp := sp) (by omega) hw hs (show n.toInt.toNat ≤ 30 by omega)
  rw [← e_r4] at b_r4
  refine qm_Rp.go 1 (c' := (27, [.ref 118, .int 1], [.int r4], (h.1, qm_up h.2.1 156 0 a2, h.2.2.1, h.2.2.2))) rfl ?_
  refine qm_Rp.rt (v := (some (.int r4))) (h' := (h.1, qm_up h.2.1 156 0 a2, h.2.2.1, h.2.2.2)) rfl ?_
  refine qm_Rp.go 0 (c' := (17, [.ref 118, .int 1], [.int r4, .int 1, .ref 156], (h.1, qm_up h.2.1 156 0 a2, h.2.2.1, h.2.2.2))) rfl ?_
  refine qm_Rp.call (j := 294) (as := [.int r4]) (c' := (20, [.ref 118, .int 1], [.int 1, .ref 156], (h.1, qm_up h.2.1 156 0 a2, h.2.2.1, h.2.2.2))) rfl rfl (px_bare (by omega) (fun a5 e_a5 => ?_))
  have b_a5 := ab_in (z := r4.toInt) (m := 12000) (by omega) (by omega)
  rw [e_r4] at e_a5
  rw [e_r4] at b_a5
  refine qm_Rp.go 0 (c' := (20, [.ref 118, .int 1], [.int a5, .int 1, .ref 156], (h.1, qm_up h.2.1 156 0 a2, h.2.2.1, h.2.2.2))) rfl ?_
  refine hp_ias rfl (hH.1 156 (0, 3) rfl) (fun ia_5 ib_5 => ?_)
  refine qm_Rp.go 6 (c' := (8, [.ref 118, .int 2], [.ref 118], (h.1, qm_up (qm_up h.2.1 156 0 a2) 156 1 a5, h.2.2.1, h.2.2.2))) rfl ?_
  refine hp_getr rfl (hH.1 118 (17, 105) rfl) rfl (hH.2 118 56 (some 156) rfl) ?_
  refine qm_Rp.go 3 (c' := (14, [.ref 118, .int 2], [.int 2, .ref 118, .int 2, .ref 156], (h.1, qm_up (qm_up h.2.1 156 0 a2) 156 1 a5, h.2.2.1, h.2.2.2))) rfl ?_
  refine hp_inv (o := 118) (r := [.int 2, .ref 156]) (as := [.ref 118, .int 2]) rfl rfl (hH.1 118 (17, 105) rfl) rfl rfl rfl ?_
  refine qm_Rp.go 6 (c' := (24, [.ref 118, .int 2], [.ref 118], (h.1, qm_up (qm_up h.2.1 156 0 a2) 156 1 a5, h.2.2.1, h.2.2.2))) rfl ?_
  refine hp_inv (o := 118) (r := []) (as := [.ref 118]) rfl rfl (hH.1 118 (17, 105) rfl) rfl rfl rfl (px_bnd (h := (h.1, qm_up (qm_up h.2.1 156 0 a2) 156 1 a5, h.2.2.1, h.2.2.2)) hH ((funext fun i => congrArg Int32.toInt ((hk_ot rfl).trans ((hk_ot rfl).trans rfl))).trans eW) ((funext fun i => congrArg Int32.toInt ((hk_ot rfl).trans ((hk_ot rfl).trans rfl))).trans eH) ((funext fun i => congrArg Int32.toInt ((hk_ot rfl).trans ((hk_ot rfl).trans rfl))).trans eS) (show (qm_up (qm_up h.2.1 156 0 a2) 156 1 a5) 118 44 = _ from ((hk_ot rfl).trans ((hk_ot rfl).trans q_n))) hn hw hs (lv := 0) (show (qm_up (qm_up h.2.1 156 0 a2) 156 1 a5) 118 18 = _ from ((hk_ot rfl).trans ((hk_ot rfl).trans q_lv))) ⟨by decide, by decide⟩ (show (qm_up (qm_up h.2.1 156 0 a2) 156 1 a5) 127 0 = _ from ((hk_ot rfl).trans ((hk_ot rfl).trans q_B))) hB (fun I8 r7 e_I8 e_r7 => ?_))
  have e_I8 : ∀ o, [155].contains o = false → ∀ i, I8 o i = (qm_up (qm_up h.2.1 156 0 a2) 156 1 a5) o i := e_I8
  have b_r7 := zD_in (B := B.toInt) (w := w) (wh := wh) (sp := sp) hB hw (show n.toInt.toNat ≤ 30 by omega)
  rw [← e_r7] at b_r7
  refine qm_Rp.go 0 (c' := (27, [.ref 118, .int 2], [.int r7], (h.1, I8, h.2.2.1, h.2.2.2))) rfl ?_
  refine qm_Rp.rt (v := (some (.int r7))) (h' := (h.1, I8, h.2.2.1, h.2.2.2)) rfl ?_
  refine qm_Rp.go 0 (c' := (17, [.ref 118, .int 2], [.int r7, .int 2, .ref 156], (h.1, I8, h.2.2.1, h.2.2.2))) rfl ?_
  refine qm_Rp.call (j := 294) (as := [.int r7]) (c' := (20, [.ref 118, .int 2], [.int 2, .ref 156], (h.1, I8, h.2.2.1, h.2.2.2))) rfl rfl (px_bare (by omega) (fun a9 e_a9 => ?_))
  have b_a9 := ab_in (z := r7.toInt) (m := 400000) (by omega) (by omega)
  rw [ab_0 (z := r7.toInt) (by omega)] at e_a9
  rw [e_r7] at e_a9
  rw [e_r7] at b_a9
  refine qm_Rp.go 0 (c' := (20, [.ref 118, .int 2], [.int a9, .int 2, .ref 156], (h.1, I8, h.2.2.1, h.2.2.2))) rfl ?_
  refine hp_ias rfl (hH.1 156 (0, 3) rfl) (fun ia_9 ib_9 => ?_)
  refine qm_Rp.go 5 (c' := (27, [.ref 118, .int 3], [], (h.1, qm_up I8 156 2 a9, h.2.2.1, h.2.2.2))) rfl ?_
  refine qm_Rp.rt (v := none) (h' := (h.1, qm_up I8 156 2 a9, h.2.2.1, h.2.2.2)) rfl ?_
  exact k (qm_up I8 156 2 a9) (fun o ho i => ((hk_mod ho rfl).trans ((e_I8 o (hk_ms rfl ho) i).trans ((hk_mod ho rfl).trans ((hk_mod ho rfl).trans rfl))))) (by rw [(show (qm_up I8 156 2 a9) 156 0 = _ from ((hk_neq (by decide)).trans ((e_I8 156 rfl 0).trans ((hk_neq (by decide)).trans (hk_same)))))]; exact e_a2) (by rw [(show (qm_up I8 156 2 a9) 156 1 = _ from ((hk_neq (by decide)).trans ((e_I8 156 rfl 1).trans (hk_same))))]; exact e_a5) (by rw [(show (qm_up I8 156 2 a9) 156 2 = _ from (hk_same))]; exact e_a9)
theorem px_looks1 {X : Option (Nat × (Nat → Int32))} {Z : Option Value → qm_H → Prop} {h : qm_H} {fu : Nat} (hH : hk_H h) {n : Int32} {w wh sp : Nat → Int} (eW : pI h.2.1 146 = w) (eH : pI h.2.1 150 = wh) (eS : pI h.2.1 151 = sp) (q_n : h.2.1 118 44 = n) (hn : 0 ≤ n.toInt ∧ n.toInt ≤ 30) (hw : ∀ b, 0 ≤ w b ∧ w b ≤ 40) (hs : ∀ b, 0 ≤ sp b ∧ sp b ≤ 79) {B : Int32} (q_lv : h.2.1 118 18 = 1) (q_B : h.2.1 127 1 = B) (hB : 1 ≤ B.toInt ∧ B.toInt ≤ 5) (k : ∀ (I : Nat → Nat → Int32), (∀ o, [155, 156].contains o = false → ∀ i, I o i = h.2.1 o i) → (I 156 0).toInt = ab (zL w wh sp n.toInt.toNat) → (I 156 1).toInt = ab (zT B.toInt w wh sp n.toInt.toNat) → (I 156 2).toInt = zD B.toInt w wh sp n.toInt.toNat → Z none (h.1, I, h.2.2.1, h.2.2.2)) : qm_Rp fu X cd_287 (qm_ent 2 [.ref 118] h) Z := by
  refine qm_Rp.go 0 (c' := (0, [.ref 118, .float 0], [], h)) rfl ?_
  have kz0 : (0 : Int32).toInt = 0 := rfl
  have kz1 : (1 : Int32).toInt = 1 := rfl
  have kz2 : (2 : Int32).toInt = 2 := rfl
  have kz3 : (3 : Int32).toInt = 3 := rfl
  have kz4 : (4 : Int32).toInt = 4 := rfl
  have kz5 : (5 : Int32).toInt = 5 := rfl
  have kz6 : (6 : Int32).toInt = 6 := rfl
  have kz7 : (7 : Int32).toInt = 7 := rfl
  have kz8 : (8 : Int32).toInt = 8 := rfl
  have kz9 : (9 : Int32).toInt = 9 := rfl
  have kzm1 : ((-1) : Int32).toInt = (-1) := rfl
  have kzm2 : ((-2) : Int32).toInt = (-2) := rfl
  have kzm3 : ((-3) : Int32).toInt = (-3) := rfl
  refine qm_Rp.go 6 (c' := (8, [.ref 118, .int 0], [.ref 118], h)) rfl ?_
  refine hp_getr rfl (hH.1 118 (17, 105) rfl) rfl (hH.2 118 56 (some 156) rfl) ?_
  refine qm_Rp.go 3 (c' := (14, [.ref 118, .int 0], [.int 0, .ref 118, .int 0, .ref 156], h)) rfl ?_
  refine hp_inv (o := 118) (r := [.int 0, .ref 156]) (as := [.ref 118, .int 0]) rfl rfl (hH.1 118 (17, 105) rfl) rfl rfl rfl ?_
  refine qm_Rp.go 3 (c' := (5, [.ref 118, .int 0], [.ref 118], h)) rfl ?_
  refine hp_inv (o := 118) (r := []) (as := [.ref 118]) rfl rfl (hH.1 118 (17, 105) rfl) rfl rfl rfl (px_lst (h := h) hH eW eH eS q_n hn hw hs (fun r1 e_r1 => ?_))
  have b_r1 := zL_in (w := w) (wh := wh) (sp := sp) hw (show n.toInt.toNat ≤ 30 by omega)
  rw [← e_r1] at b_r1
  refine qm_Rp.go 1 (c' := (27, [.ref 118, .int 0], [.int r1], h)) rfl ?_
  refine qm_Rp.rt (v := (some (.int r1))) (h' := h) rfl ?_
  refine qm_Rp.go 0 (c' := (17, [.ref 118, .int 0], [.int r1, .int 0, .ref 156], h)) rfl ?_
  refine qm_Rp.call (j := 294) (as := [.int r1]) (c' := (20, [.ref 118, .int 0], [.int 0, .ref 156], h)) rfl rfl (px_bare (by omega) (fun a2 e_a2 => ?_))
  have b_a2 := ab_in (z := r1.toInt) (m := 3600) (by omega) (by omega)
  rw [e_r1] at e_a2
  rw [e_r1] at b_a2
  refine qm_Rp.go 0 (c' := (20, [.ref 118, .int 0], [.int a2, .int 0, .ref 156], h)) rfl ?_
  refine hp_ias rfl (hH.1 156 (0, 3) rfl) (fun ia_2 ib_2 => ?_)
  refine qm_Rp.go 6 (c' := (8, [.ref 118, .int 1], [.ref 118], (h.1, qm_up h.2.1 156 0 a2, h.2.2.1, h.2.2.2))) rfl ?_
  refine hp_getr rfl (hH.1 118 (17, 105) rfl) rfl (hH.2 118 56 (some 156) rfl) ?_
  refine qm_Rp.go 3 (c' := (14, [.ref 118, .int 1], [.int 1, .ref 118, .int 1, .ref 156], (h.1, qm_up h.2.1 156 0 a2, h.2.2.1, h.2.2.2))) rfl ?_
  refine hp_inv (o := 118) (r := [.int 1, .ref 156]) (as := [.ref 118, .int 1]) rfl rfl (hH.1 118 (17, 105) rfl) rfl rfl rfl ?_
  refine qm_Rp.go 6 (c' := (17, [.ref 118, .int 1], [.ref 118], (h.1, qm_up h.2.1 156 0 a2, h.2.2.1, h.2.2.2))) rfl ?_
  refine hp_inv (o := 118) (r := []) (as := [.ref 118]) rfl rfl (hH.1 118 (17, 105) rfl) rfl rfl rfl (px_trm (h := (h.1, qm_up h.2.1 156 0 a2, h.2.2.1, h.2.2.2)) hH ((funext fun i => congrArg Int32.toInt ((hk_ot rfl).trans rfl)).trans eW) ((funext fun i => congrArg Int32.toInt ((hk_ot rfl).trans rfl)).trans eH) ((funext fun i => congrArg Int32.toInt ((hk_ot rfl).trans rfl)).trans eS) (show (qm_up h.2.1 156 0 a2) 118 44 = _ from ((hk_ot rfl).trans q_n)) hn hw hs (lv := 1) (show (qm_up h.2.1 156 0 a2) 118 18 = _ from ((hk_ot rfl).trans q_lv)) ⟨by decide, by decide⟩ (show (qm_up h.2.1 156 0 a2) 127 1 = _ from ((hk_ot rfl).trans q_B)) hB (fun r4 e_r4 => ?_))
  have b_r4 := zT_in (B := B.toInt) (w := w) (wh := wh) (sp := sp) (by omega) hw hs (show n.toInt.toNat ≤ 30 by omega)
  rw [← e_r4] at b_r4
  refine qm_Rp.go 1 (c' := (27, [.ref 118, .int 1], [.int r4], (h.1, qm_up h.2.1 156 0 a2, h.2.2.1, h.2.2.2))) rfl ?_
  refine qm_Rp.rt (v := (some (.int r4))) (h' := (h.1, qm_up h.2.1 156 0 a2, h.2.2.1, h.2.2.2)) rfl ?_
  refine qm_Rp.go 0 (c' := (17, [.ref 118, .int 1], [.int r4, .int 1, .ref 156], (h.1, qm_up h.2.1 156 0 a2, h.2.2.1, h.2.2.2))) rfl ?_
  refine qm_Rp.call (j := 294) (as := [.int r4]) (c' := (20, [.ref 118, .int 1], [.int 1, .ref 156], (h.1, qm_up h.2.1 156 0 a2, h.2.2.1, h.2.2.2))) rfl rfl (px_bare (by omega) (fun a5 e_a5 => ?_))
  have b_a5 := ab_in (z := r4.toInt) (m := 12000) (by omega) (by omega)
  rw [e_r4] at e_a5
  rw [e_r4] at b_a5
  refine qm_Rp.go 0 (c' := (20, [.ref 118, .int 1], [.int a5, .int 1, .ref 156], (h.1, qm_up h.2.1 156 0 a2, h.2.2.1, h.2.2.2))) rfl ?_
  refine hp_ias rfl (hH.1 156 (0, 3) rfl) (fun ia_5 ib_5 => ?_)
  refine qm_Rp.go 6 (c' := (8, [.ref 118, .int 2], [.ref 118], (h.1, qm_up (qm_up h.2.1 156 0 a2) 156 1 a5, h.2.2.1, h.2.2.2))) rfl ?_
  refine hp_getr rfl (hH.1 118 (17, 105) rfl) rfl (hH.2 118 56 (some 156) rfl) ?_
  refine qm_Rp.go 3 (c' := (14, [.ref 118, .int 2], [.int 2, .ref 118, .int 2, .ref 156], (h.1, qm_up (qm_up h.2.1 156 0 a2) 156 1 a5, h.2.2.1, h.2.2.2))) rfl ?_
  refine hp_inv (o := 118) (r := [.int 2, .ref 156]) (as := [.ref 118, .int 2]) rfl rfl (hH.1 118 (17, 105) rfl) rfl rfl rfl ?_
  refine qm_Rp.go 6 (c' := (24, [.ref 118, .int 2], [.ref 118], (h.1, qm_up (qm_up h.2.1 156 0 a2) 156 1 a5, h.2.2.1, h.2.2.2))) rfl ?_
  refine hp_inv (o := 118) (r := []) (as := [.ref 118]) rfl rfl (hH.1 118 (17, 105) rfl) rfl rfl rfl (px_bnd (h := (h.1, qm_up (qm_up h.2.1 156 0 a2) 156 1 a5, h.2.2.1, h.2.2.2)) hH ((funext fun i => congrArg Int32.toInt ((hk_ot rfl).trans ((hk_ot rfl).trans rfl))).trans eW) ((funext fun i => congrArg Int32.toInt ((hk_ot rfl).trans ((hk_ot rfl).trans rfl))).trans eH) ((funext fun i => congrArg Int32.toInt ((hk_ot rfl).trans ((hk_ot rfl).trans rfl))).trans eS) (show (qm_up (qm_up h.2.1 156 0 a2) 156 1 a5) 118 44 = _ from ((hk_ot rfl).trans ((hk_ot rfl).trans q_n))) hn hw hs (lv := 1) (show (qm_up (qm_up h.2.1 156 0 a2) 156 1 a5) 118 18 = _ from ((hk_ot rfl).trans ((hk_ot rfl).trans q_lv))) ⟨by decide, by decide⟩ (show (qm_up (qm_up h.2.1 156 0 a2) 156 1 a5) 127 1 = _ from ((hk_ot rfl).trans ((hk_ot rfl).trans q_B))) hB (fun I8 r7 e_I8 e_r7 => ?_))
  have e_I8 : ∀ o, [155].contains o = false → ∀ i, I8 o i = (qm_up (qm_up h.2.1 156 0 a2) 156 1 a5) o i := e_I8
  have b_r7 := zD_in (B := B.toInt) (w := w) (wh := wh) (sp := sp) hB hw (show n.toInt.toNat ≤ 30 by omega)
  rw [← e_r7] at b_r7
  refine qm_Rp.go 0 (c' := (27, [.ref 118, .int 2], [.int r7], (h.1, I8, h.2.2.1, h.2.2.2))) rfl ?_
  refine qm_Rp.rt (v := (some (.int r7))) (h' := (h.1, I8, h.2.2.1, h.2.2.2)) rfl ?_
  refine qm_Rp.go 0 (c' := (17, [.ref 118, .int 2], [.int r7, .int 2, .ref 156], (h.1, I8, h.2.2.1, h.2.2.2))) rfl ?_
  refine qm_Rp.call (j := 294) (as := [.int r7]) (c' := (20, [.ref 118, .int 2], [.int 2, .ref 156], (h.1, I8, h.2.2.1, h.2.2.2))) rfl rfl (px_bare (by omega) (fun a9 e_a9 => ?_))
  have b_a9 := ab_in (z := r7.toInt) (m := 400000) (by omega) (by omega)
  rw [ab_0 (z := r7.toInt) (by omega)] at e_a9
  rw [e_r7] at e_a9
  rw [e_r7] at b_a9
  refine qm_Rp.go 0 (c' := (20, [.ref 118, .int 2], [.int a9, .int 2, .ref 156], (h.1, I8, h.2.2.1, h.2.2.2))) rfl ?_
  refine hp_ias rfl (hH.1 156 (0, 3) rfl) (fun ia_9 ib_9 => ?_)
  refine qm_Rp.go 5 (c' := (27, [.ref 118, .int 3], [], (h.1, qm_up I8 156 2 a9, h.2.2.1, h.2.2.2))) rfl ?_
  refine qm_Rp.rt (v := none) (h' := (h.1, qm_up I8 156 2 a9, h.2.2.1, h.2.2.2)) rfl ?_
  exact k (qm_up I8 156 2 a9) (fun o ho i => ((hk_mod ho rfl).trans ((e_I8 o (hk_ms rfl ho) i).trans ((hk_mod ho rfl).trans ((hk_mod ho rfl).trans rfl))))) (by rw [(show (qm_up I8 156 2 a9) 156 0 = _ from ((hk_neq (by decide)).trans ((e_I8 156 rfl 0).trans ((hk_neq (by decide)).trans (hk_same)))))]; exact e_a2) (by rw [(show (qm_up I8 156 2 a9) 156 1 = _ from ((hk_neq (by decide)).trans ((e_I8 156 rfl 1).trans (hk_same))))]; exact e_a5) (by rw [(show (qm_up I8 156 2 a9) 156 2 = _ from (hk_same))]; exact e_a9)
theorem px_mayb0 {X : Option (Nat × (Nat → Int32))} {Z : Option Value → qm_H → Prop} {h : qm_H} {fu : Nat} (hH : hk_H h) {n : Int32} {w wh sp : Nat → Int} (eW : pI h.2.1 146 = w) (eH : pI h.2.1 150 = wh) (eS : pI h.2.1 151 = sp) (q_n : h.2.1 118 44 = n) (hn : 0 ≤ n.toInt ∧ n.toInt ≤ 30) (hw : ∀ b, 0 ≤ w b ∧ w b ≤ 40) (hs : ∀ b, 0 ≤ sp b ∧ sp b ≤ 79) {B : Int32} (q_lv : h.2.1 118 18 = 0) (q_B : h.2.1 127 0 = B) (hB : 1 ≤ B.toInt ∧ B.toInt ≤ 5) {g0 g1 g2 : Int32} (q_g0 : h.2.1 128 0 = g0) (q_g1 : h.2.1 128 1 = g1) (q_g2 : h.2.1 128 2 = g2) {p0 p1 p2 : Int32} (q_p0 : h.2.1 156 0 = p0) (q_p1 : h.2.1 156 1 = p1) (q_p2 : h.2.1 156 2 = p2) (k : ∀ (I : Nat → Nat → Int32) (r : Int32), (∀ o, [155].contains o = false → ∀ i, I o i = h.2.1 o i) → (r.toInt = 1 ∧ mayP B.toInt g0.toInt g1.toInt g2.toInt p0.toInt p1.toInt p2.toInt w wh sp n.toInt.toNat ∨ r.toInt = 0 ∧ ¬ mayP B.toInt g0.toInt g1.toInt g2.toInt p0.toInt p1.toInt p2.toInt w wh sp n.toInt.toNat) → Z (some (.int r)) (h.1, I, h.2.2.1, h.2.2.2)) : qm_Rp fu X cd_296 (qm_ent 2 [.ref 118] h) Z := by
  refine qm_Rp.go 0 (c' := (0, [.ref 118, .float 0], [], h)) rfl ?_
  have kz0 : (0 : Int32).toInt = 0 := rfl
  have kz1 : (1 : Int32).toInt = 1 := rfl
  have kz2 : (2 : Int32).toInt = 2 := rfl
  have kz3 : (3 : Int32).toInt = 3 := rfl
  have kz4 : (4 : Int32).toInt = 4 := rfl
  have kz5 : (5 : Int32).toInt = 5 := rfl
  have kz6 : (6 : Int32).toInt = 6 := rfl
  have kz7 : (7 : Int32).toInt = 7 := rfl
  have kz8 : (8 : Int32).toInt = 8 := rfl
  have kz9 : (9 : Int32).toInt = 9 := rfl
  have kzm1 : ((-1) : Int32).toInt = (-1) := rfl
  have kzm2 : ((-2) : Int32).toInt = (-2) := rfl
  have kzm3 : ((-3) : Int32).toInt = (-3) := rfl
  refine qm_Rp.go 1 (c' := (1, [.ref 118, .float 0], [.ref 118], h)) rfl ?_
  refine hp_inv (o := 118) (r := []) (as := [.ref 118]) rfl rfl (hH.1 118 (17, 105) rfl) rfl rfl rfl ?_
  refine qm_Rp.go 7 (c' := (9, [.ref 118, .int 0], [.int 0, .ref 118], h)) rfl ?_
  refine hp_inv (o := 118) (r := []) (as := [.ref 118, .int 0]) rfl rfl (hH.1 118 (17, 105) rfl) rfl rfl rfl ?_
  refine qm_Rp.go 3 (c' := (5, [.ref 118, .int 0], [.ref 118], h)) rfl ?_
  refine hp_inv (o := 118) (r := []) (as := [.ref 118]) rfl rfl (hH.1 118 (17, 105) rfl) rfl rfl rfl (px_lst (h := h) hH eW eH eS q_n hn hw hs (fun r1 e_r1 => ?_))
  have b_r1 := zL_in (w := w) (wh := wh) (sp := sp) hw (show n.toInt.toNat ≤ 30 by omega)
  rw [← e_r1] at b_r1
  refine qm_Rp.go 1 (c' := (27, [.ref 118, .int 0], [.int r1], h)) rfl ?_
  refine qm_Rp.rt (v := (some (.int r1))) (h' := h) rfl ?_
  refine qm_Rp.go 0 (c' := (12, [.ref 118, .int 0], [.int r1], h)) rfl ?_
  refine qm_Rp.call (j := 294) (as := [.int r1]) (c' := (15, [.ref 118, .int 0], [], h)) rfl rfl (px_bare (by omega) (fun a2 e_a2 => ?_))
  have b_a2 := ab_in (z := r1.toInt) (m := 3600) (by omega) (by omega)
  rw [e_r1] at e_a2
  rw [e_r1] at b_a2
  refine qm_Rp.go 1 (c' := (16, [.ref 118, .int 0], [.ref 118, .int a2], h)) rfl ?_
  refine hp_getr rfl (hH.1 118 (17, 105) rfl) rfl (hH.2 118 23 (some 128) rfl) ?_
  refine qm_Rp.go 2 (c' := (21, [.ref 118, .int 0], [.ref 118, .int 3, .ref 128, .int a2], h)) rfl ?_
  refine hp_geti (v := 0) rfl (hH.1 118 (17, 105) rfl) rfl q_lv ?_
  refine qm_Rp.go 3 (c' := (27, [.ref 118, .int 0], [.int 0, .ref 128, .int a2], h)) rfl ?_
  refine hp_ial (v := g0) rfl (hH.1 128 (0, 6) rfl) q_g0 (fun ia_2 ib_2 => ?_)
  refine qm_Rp.go 0 (c' := (28, [.ref 118, .int 0], [.int g0, .int a2], h)) rfl ?_
  refine hp_cle (ix := a2.toInt) (iy := g0.toInt) rfl rfl rfl (fun z4 => ?_) (fun z4 => ?_)
  · refine qm_Rp.go 7 (c' := (9, [.ref 118, .int 1], [.int 1, .ref 118], h)) rfl ?_
    refine hp_inv (o := 118) (r := []) (as := [.ref 118, .int 1]) rfl rfl (hH.1 118 (17, 105) rfl) rfl rfl rfl ?_
    refine qm_Rp.go 6 (c' := (17, [.ref 118, .int 1], [.ref 118], h)) rfl ?_
    refine hp_inv (o := 118) (r := []) (as := [.ref 118]) rfl rfl (hH.1 118 (17, 105) rfl) rfl rfl rfl (px_trm (h := h) hH eW eH eS q_n hn hw hs (lv := 0) q_lv ⟨by decide, by decide⟩ q_B hB (fun r5 e_r5 => ?_))
    have b_r5 := zT_in (B := B.toInt) (w := w) (wh := wh) (sp := sp) (by omega) hw hs (show n.toInt.toNat ≤ 30 by omega)
    rw [← e_r5] at b_r5
    refine qm_Rp.go 1 (c' := (27, [.ref 118, .int 1], [.int r5], h)) rfl ?_
    refine qm_Rp.rt (v := (some (.int r5))) (h' := h) rfl ?_
    refine qm_Rp.go 0 (c' := (12, [.ref 118, .int 1], [.int r5], h)) rfl ?_
    refine qm_Rp.call (j := 294) (as := [.int r5]) (c' := (15, [.ref 118, .int 1], [], h)) rfl rfl (px_bare (by omega) (fun a6 e_a6 => ?_))
    have b_a6 := ab_in (z := r5.toInt) (m := 12000) (by omega) (by omega)
    rw [e_r5] at e_a6
    rw [e_r5] at b_a6
    refine qm_Rp.go 1 (c' := (16, [.ref 118, .int 1], [.ref 118, .int a6], h)) rfl ?_
    refine hp_getr rfl (hH.1 118 (17, 105) rfl) rfl (hH.2 118 23 (some 128) rfl) ?_
    refine qm_Rp.go 2 (c' := (21, [.ref 118, .int 1], [.ref 118, .int 3, .ref 128, .int a6], h)) rfl ?_
    refine hp_geti (v := 0) rfl (hH.1 118 (17, 105) rfl) rfl q_lv ?_
    refine qm_Rp.go 3 (c' := (27, [.ref 118, .int 1], [.int 1, .ref 128, .int a6], h)) rfl ?_
    refine hp_ial (v := g1) rfl (hH.1 128 (0, 6) rfl) q_g1 (fun ia_6 ib_6 => ?_)
    refine qm_Rp.go 0 (c' := (28, [.ref 118, .int 1], [.int g1, .int a6], h)) rfl ?_
    refine hp_cle (ix := a6.toInt) (iy := g1.toInt) rfl rfl rfl (fun z8 => ?_) (fun z8 => ?_)
    · refine qm_Rp.go 7 (c' := (9, [.ref 118, .int 2], [.int 2, .ref 118], h)) rfl ?_
      refine hp_inv (o := 118) (r := []) (as := [.ref 118, .int 2]) rfl rfl (hH.1 118 (17, 105) rfl) rfl rfl rfl ?_
      refine qm_Rp.go 6 (c' := (24, [.ref 118, .int 2], [.ref 118], h)) rfl ?_
      refine hp_inv (o := 118) (r := []) (as := [.ref 118]) rfl rfl (hH.1 118 (17, 105) rfl) rfl rfl rfl (px_bnd (h := h) hH eW eH eS q_n hn hw hs (lv := 0) q_lv ⟨by decide, by decide⟩ q_B hB (fun I10 r9 e_I10 e_r9 => ?_))
      have e_I10 : ∀ o, [155].contains o = false → ∀ i, I10 o i = (h.2.1) o i := e_I10
      have b_r9 := zD_in (B := B.toInt) (w := w) (wh := wh) (sp := sp) hB hw (show n.toInt.toNat ≤ 30 by omega)
      rw [← e_r9] at b_r9
      refine qm_Rp.go 0 (c' := (27, [.ref 118, .int 2], [.int r9], (h.1, I10, h.2.2.1, h.2.2.2))) rfl ?_
      refine qm_Rp.rt (v := (some (.int r9))) (h' := (h.1, I10, h.2.2.1, h.2.2.2)) rfl ?_
      refine qm_Rp.go 0 (c' := (12, [.ref 118, .int 2], [.int r9], (h.1, I10, h.2.2.1, h.2.2.2))) rfl ?_
      refine qm_Rp.call (j := 294) (as := [.int r9]) (c' := (15, [.ref 118, .int 2], [], (h.1, I10, h.2.2.1, h.2.2.2))) rfl rfl (px_bare (by omega) (fun a11 e_a11 => ?_))
      have b_a11 := ab_in (z := r9.toInt) (m := 400000) (by omega) (by omega)
      rw [ab_0 (z := r9.toInt) (by omega)] at e_a11
      rw [e_r9] at e_a11
      rw [e_r9] at b_a11
      refine qm_Rp.go 1 (c' := (16, [.ref 118, .int 2], [.ref 118, .int a11], (h.1, I10, h.2.2.1, h.2.2.2))) rfl ?_
      refine hp_getr rfl (hH.1 118 (17, 105) rfl) rfl (hH.2 118 23 (some 128) rfl) ?_
      refine qm_Rp.go 2 (c' := (21, [.ref 118, .int 2], [.ref 118, .int 3, .ref 128, .int a11], (h.1, I10, h.2.2.1, h.2.2.2))) rfl ?_
      refine hp_geti (v := 0) rfl (hH.1 118 (17, 105) rfl) rfl (show (I10) 118 18 = _ from ((e_I10 118 rfl 18).trans q_lv)) ?_
      refine qm_Rp.go 3 (c' := (27, [.ref 118, .int 2], [.int 2, .ref 128, .int a11], (h.1, I10, h.2.2.1, h.2.2.2))) rfl ?_
      refine hp_ial (v := g2) rfl (hH.1 128 (0, 6) rfl) (show (I10) 128 2 = _ from ((e_I10 128 rfl 2).trans q_g2)) (fun ia_11 ib_11 => ?_)
      refine qm_Rp.go 0 (c' := (28, [.ref 118, .int 2], [.int g2, .int a11], (h.1, I10, h.2.2.1, h.2.2.2))) rfl ?_
      refine hp_cle (ix := a11.toInt) (iy := g2.toInt) rfl rfl rfl (fun z13 => ?_) (fun z13 => ?_)
      · refine qm_Rp.go 6 (c' := (40, [.ref 118, .int 3], [.int 1], (h.1, I10, h.2.2.1, h.2.2.2))) rfl ?_
        refine qm_Rp.rt (v := (some (.int 1))) (h' := (h.1, I10, h.2.2.1, h.2.2.2)) rfl ?_
        refine qm_Rp.go 2 (c' := (8, [.ref 118, .float 0], [.int 1], (h.1, I10, h.2.2.1, h.2.2.2))) rfl ?_
        refine qm_Rp.rt (v := (some (.int 1))) (h' := (h.1, I10, h.2.2.1, h.2.2.2)) rfl ?_
        exact k (I10) 1 (fun o ho i => ((e_I10 o (hk_ms rfl ho) i).trans rfl)) (Or.inl ⟨rfl, by unfold mayP; omega⟩)
      · refine qm_Rp.go 1 (c' := (32, [.ref 118, .int 2], [.int 0], (h.1, I10, h.2.2.1, h.2.2.2))) rfl ?_
        refine qm_Rp.rt (v := (some (.int 0))) (h' := (h.1, I10, h.2.2.1, h.2.2.2)) rfl ?_
        refine qm_Rp.go 8 (c' := (18, [.ref 118, .int 0], [.int 0, .ref 118], (h.1, I10, h.2.2.1, h.2.2.2))) rfl ?_
        refine hp_inv (o := 118) (r := []) (as := [.ref 118, .int 0]) rfl rfl (hH.1 118 (17, 105) rfl) rfl rfl rfl ?_
        refine qm_Rp.go 3 (c' := (5, [.ref 118, .int 0], [.ref 118], (h.1, I10, h.2.2.1, h.2.2.2))) rfl ?_
        refine hp_inv (o := 118) (r := []) (as := [.ref 118]) rfl rfl (hH.1 118 (17, 105) rfl) rfl rfl rfl (px_lst (h := (h.1, I10, h.2.2.1, h.2.2.2)) hH ((funext fun i => congrArg Int32.toInt ((e_I10 146 rfl i).trans rfl)).trans eW) ((funext fun i => congrArg Int32.toInt ((e_I10 150 rfl i).trans rfl)).trans eH) ((funext fun i => congrArg Int32.toInt ((e_I10 151 rfl i).trans rfl)).trans eS) (show (I10) 118 44 = _ from ((e_I10 118 rfl 44).trans q_n)) hn hw hs (fun r14 e_r14 => ?_))
        have b_r14 := zL_in (w := w) (wh := wh) (sp := sp) hw (show n.toInt.toNat ≤ 30 by omega)
        rw [← e_r14] at b_r14
        refine qm_Rp.go 1 (c' := (27, [.ref 118, .int 0], [.int r14], (h.1, I10, h.2.2.1, h.2.2.2))) rfl ?_
        refine qm_Rp.rt (v := (some (.int r14))) (h' := (h.1, I10, h.2.2.1, h.2.2.2)) rfl ?_
        refine qm_Rp.go 0 (c' := (21, [.ref 118, .int 0], [.int r14], (h.1, I10, h.2.2.1, h.2.2.2))) rfl ?_
        refine qm_Rp.call (j := 294) (as := [.int r14]) (c' := (24, [.ref 118, .int 0], [], (h.1, I10, h.2.2.1, h.2.2.2))) rfl rfl (px_bare (by omega) (fun a15 e_a15 => ?_))
        have b_a15 := ab_in (z := r14.toInt) (m := 3600) (by omega) (by omega)
        rw [e_r14] at e_a15
        rw [e_r14] at b_a15
        refine qm_Rp.go 1 (c' := (25, [.ref 118, .int 0], [.ref 118, .int a15], (h.1, I10, h.2.2.1, h.2.2.2))) rfl ?_
        refine hp_getr rfl (hH.1 118 (17, 105) rfl) rfl (hH.2 118 56 (some 156) rfl) ?_
        refine qm_Rp.go 1 (c' := (29, [.ref 118, .int 0], [.int 0, .ref 156, .int a15], (h.1, I10, h.2.2.1, h.2.2.2))) rfl ?_
        refine hp_ial (v := p0) rfl (hH.1 156 (0, 3) rfl) (show (I10) 156 0 = _ from ((e_I10 156 rfl 0).trans q_p0)) (fun ia_15 ib_15 => ?_)
        refine qm_Rp.go 0 (c' := (30, [.ref 118, .int 0], [.int p0, .int a15], (h.1, I10, h.2.2.1, h.2.2.2))) rfl ?_
        refine hp_cle (ix := a15.toInt) (iy := p0.toInt) rfl rfl rfl (fun z17 => ?_) (fun z17 => ?_)
        · refine qm_Rp.go 7 (c' := (18, [.ref 118, .int 1], [.int 1, .ref 118], (h.1, I10, h.2.2.1, h.2.2.2))) rfl ?_
          refine hp_inv (o := 118) (r := []) (as := [.ref 118, .int 1]) rfl rfl (hH.1 118 (17, 105) rfl) rfl rfl rfl ?_
          refine qm_Rp.go 6 (c' := (17, [.ref 118, .int 1], [.ref 118], (h.1, I10, h.2.2.1, h.2.2.2))) rfl ?_
          refine hp_inv (o := 118) (r := []) (as := [.ref 118]) rfl rfl (hH.1 118 (17, 105) rfl) rfl rfl rfl (px_trm (h := (h.1, I10, h.2.2.1, h.2.2.2)) hH ((funext fun i => congrArg Int32.toInt ((e_I10 146 rfl i).trans rfl)).trans eW) ((funext fun i => congrArg Int32.toInt ((e_I10 150 rfl i).trans rfl)).trans eH) ((funext fun i => congrArg Int32.toInt ((e_I10 151 rfl i).trans rfl)).trans eS) (show (I10) 118 44 = _ from ((e_I10 118 rfl 44).trans q_n)) hn hw hs (lv := 0) (show (I10) 118 18 = _ from ((e_I10 118 rfl 18).trans q_lv)) ⟨by decide, by decide⟩ (show (I10) 127 0 = _ from ((e_I10 127 rfl 0).trans q_B)) hB (fun r18 e_r18 => ?_))
          have b_r18 := zT_in (B := B.toInt) (w := w) (wh := wh) (sp := sp) (by omega) hw hs (show n.toInt.toNat ≤ 30 by omega)
          rw [← e_r18] at b_r18
          refine qm_Rp.go 1 (c' := (27, [.ref 118, .int 1], [.int r18], (h.1, I10, h.2.2.1, h.2.2.2))) rfl ?_
          refine qm_Rp.rt (v := (some (.int r18))) (h' := (h.1, I10, h.2.2.1, h.2.2.2)) rfl ?_
          refine qm_Rp.go 0 (c' := (21, [.ref 118, .int 1], [.int r18], (h.1, I10, h.2.2.1, h.2.2.2))) rfl ?_
          refine qm_Rp.call (j := 294) (as := [.int r18]) (c' := (24, [.ref 118, .int 1], [], (h.1, I10, h.2.2.1, h.2.2.2))) rfl rfl (px_bare (by omega) (fun a19 e_a19 => ?_))
          have b_a19 := ab_in (z := r18.toInt) (m := 12000) (by omega) (by omega)
          rw [e_r18] at e_a19
          rw [e_r18] at b_a19
          refine qm_Rp.go 1 (c' := (25, [.ref 118, .int 1], [.ref 118, .int a19], (h.1, I10, h.2.2.1, h.2.2.2))) rfl ?_
          refine hp_getr rfl (hH.1 118 (17, 105) rfl) rfl (hH.2 118 56 (some 156) rfl) ?_
          refine qm_Rp.go 1 (c' := (29, [.ref 118, .int 1], [.int 1, .ref 156, .int a19], (h.1, I10, h.2.2.1, h.2.2.2))) rfl ?_
          refine hp_ial (v := p1) rfl (hH.1 156 (0, 3) rfl) (show (I10) 156 1 = _ from ((e_I10 156 rfl 1).trans q_p1)) (fun ia_19 ib_19 => ?_)
          refine qm_Rp.go 0 (c' := (30, [.ref 118, .int 1], [.int p1, .int a19], (h.1, I10, h.2.2.1, h.2.2.2))) rfl ?_
          refine hp_cle (ix := a19.toInt) (iy := p1.toInt) rfl rfl rfl (fun z21 => ?_) (fun z21 => ?_)
          · refine qm_Rp.go 7 (c' := (18, [.ref 118, .int 2], [.int 2, .ref 118], (h.1, I10, h.2.2.1, h.2.2.2))) rfl ?_
            refine hp_inv (o := 118) (r := []) (as := [.ref 118, .int 2]) rfl rfl (hH.1 118 (17, 105) rfl) rfl rfl rfl ?_
            refine qm_Rp.go 6 (c' := (24, [.ref 118, .int 2], [.ref 118], (h.1, I10, h.2.2.1, h.2.2.2))) rfl ?_
            refine hp_inv (o := 118) (r := []) (as := [.ref 118]) rfl rfl (hH.1 118 (17, 105) rfl) rfl rfl rfl (px_bnd (h := (h.1, I10, h.2.2.1, h.2.2.2)) hH ((funext fun i => congrArg Int32.toInt ((e_I10 146 rfl i).trans rfl)).trans eW) ((funext fun i => congrArg Int32.toInt ((e_I10 150 rfl i).trans rfl)).trans eH) ((funext fun i => congrArg Int32.toInt ((e_I10 151 rfl i).trans rfl)).trans eS) (show (I10) 118 44 = _ from ((e_I10 118 rfl 44).trans q_n)) hn hw hs (lv := 0) (show (I10) 118 18 = _ from ((e_I10 118 rfl 18).trans q_lv)) ⟨by decide, by decide⟩ (show (I10) 127 0 = _ from ((e_I10 127 rfl 0).trans q_B)) hB (fun I23 r22 e_I23 e_r22 => ?_))
            have e_I23 : ∀ o, [155].contains o = false → ∀ i, I23 o i = (I10) o i := e_I23
            have b_r22 := zD_in (B := B.toInt) (w := w) (wh := wh) (sp := sp) hB hw (show n.toInt.toNat ≤ 30 by omega)
            rw [← e_r22] at b_r22
            refine qm_Rp.go 0 (c' := (27, [.ref 118, .int 2], [.int r22], (h.1, I23, h.2.2.1, h.2.2.2))) rfl ?_
            refine qm_Rp.rt (v := (some (.int r22))) (h' := (h.1, I23, h.2.2.1, h.2.2.2)) rfl ?_
            refine qm_Rp.go 0 (c' := (21, [.ref 118, .int 2], [.int r22], (h.1, I23, h.2.2.1, h.2.2.2))) rfl ?_
            refine qm_Rp.call (j := 294) (as := [.int r22]) (c' := (24, [.ref 118, .int 2], [], (h.1, I23, h.2.2.1, h.2.2.2))) rfl rfl (px_bare (by omega) (fun a24 e_a24 => ?_))
            have b_a24 := ab_in (z := r22.toInt) (m := 400000) (by omega) (by omega)
            rw [ab_0 (z := r22.toInt) (by omega)] at e_a24
            rw [e_r22] at e_a24
            rw [e_r22] at b_a24
            refine qm_Rp.go 1 (c' := (25, [.ref 118, .int 2], [.ref 118, .int a24], (h.1, I23, h.2.2.1, h.2.2.2))) rfl ?_
            refine hp_getr rfl (hH.1 118 (17, 105) rfl) rfl (hH.2 118 56 (some 156) rfl) ?_
            refine qm_Rp.go 1 (c' := (29, [.ref 118, .int 2], [.int 2, .ref 156, .int a24], (h.1, I23, h.2.2.1, h.2.2.2))) rfl ?_
            refine hp_ial (v := p2) rfl (hH.1 156 (0, 3) rfl) (show (I23) 156 2 = _ from ((e_I23 156 rfl 2).trans ((e_I10 156 rfl 2).trans q_p2))) (fun ia_24 ib_24 => ?_)
            refine qm_Rp.go 0 (c' := (30, [.ref 118, .int 2], [.int p2, .int a24], (h.1, I23, h.2.2.1, h.2.2.2))) rfl ?_
            refine hp_cle (ix := a24.toInt) (iy := p2.toInt) rfl rfl rfl (fun z26 => ?_) (fun z26 => ?_)
            · refine qm_Rp.go 6 (c' := (42, [.ref 118, .int 3], [.int 1], (h.1, I23, h.2.2.1, h.2.2.2))) rfl ?_
              refine qm_Rp.rt (v := (some (.int 1))) (h' := (h.1, I23, h.2.2.1, h.2.2.2)) rfl ?_
              exact k (I23) 1 (fun o ho i => ((e_I23 o (hk_ms rfl ho) i).trans ((e_I10 o (hk_ms rfl ho) i).trans rfl))) (Or.inl ⟨rfl, by unfold mayP; omega⟩)
            · refine qm_Rp.go 1 (c' := (34, [.ref 118, .int 2], [.int 0], (h.1, I23, h.2.2.1, h.2.2.2))) rfl ?_
              refine qm_Rp.rt (v := (some (.int 0))) (h' := (h.1, I23, h.2.2.1, h.2.2.2)) rfl ?_
              exact k (I23) 0 (fun o ho i => ((e_I23 o (hk_ms rfl ho) i).trans ((e_I10 o (hk_ms rfl ho) i).trans rfl))) (Or.inr ⟨rfl, by unfold mayP; omega⟩)
          · refine qm_Rp.go 1 (c' := (34, [.ref 118, .int 1], [.int 0], (h.1, I10, h.2.2.1, h.2.2.2))) rfl ?_
            refine qm_Rp.rt (v := (some (.int 0))) (h' := (h.1, I10, h.2.2.1, h.2.2.2)) rfl ?_
            exact k (I10) 0 (fun o ho i => ((e_I10 o (hk_ms rfl ho) i).trans rfl)) (Or.inr ⟨rfl, by unfold mayP; omega⟩)
        · refine qm_Rp.go 1 (c' := (34, [.ref 118, .int 0], [.int 0], (h.1, I10, h.2.2.1, h.2.2.2))) rfl ?_
          refine qm_Rp.rt (v := (some (.int 0))) (h' := (h.1, I10, h.2.2.1, h.2.2.2)) rfl ?_
          exact k (I10) 0 (fun o ho i => ((e_I10 o (hk_ms rfl ho) i).trans rfl)) (Or.inr ⟨rfl, by unfold mayP; omega⟩)
    · refine qm_Rp.go 1 (c' := (32, [.ref 118, .int 1], [.int 0], h)) rfl ?_
      refine qm_Rp.rt (v := (some (.int 0))) (h' := h) rfl ?_
      refine qm_Rp.go 8 (c' := (18, [.ref 118, .int 0], [.int 0, .ref 118], h)) rfl ?_
      refine hp_inv (o := 118) (r := []) (as := [.ref 118, .int 0]) rfl rfl (hH.1 118 (17, 105) rfl) rfl rfl rfl ?_
      refine qm_Rp.go 3 (c' := (5, [.ref 118, .int 0], [.ref 118], h)) rfl ?_
      refine hp_inv (o := 118) (r := []) (as := [.ref 118]) rfl rfl (hH.1 118 (17, 105) rfl) rfl rfl rfl (px_lst (h := h) hH eW eH eS q_n hn hw hs (fun r27 e_r27 => ?_))
      have b_r27 := zL_in (w := w) (wh := wh) (sp := sp) hw (show n.toInt.toNat ≤ 30 by omega)
      rw [← e_r27] at b_r27
      refine qm_Rp.go 1 (c' := (27, [.ref 118, .int 0], [.int r27], h)) rfl ?_
      refine qm_Rp.rt (v := (some (.int r27))) (h' := h) rfl ?_
      refine qm_Rp.go 0 (c' := (21, [.ref 118, .int 0], [.int r27], h)) rfl ?_
      refine qm_Rp.call (j := 294) (as := [.int r27]) (c' := (24, [.ref 118, .int 0], [], h)) rfl rfl (px_bare (by omega) (fun a28 e_a28 => ?_))
      have b_a28 := ab_in (z := r27.toInt) (m := 3600) (by omega) (by omega)
      rw [e_r27] at e_a28
      rw [e_r27] at b_a28
      refine qm_Rp.go 1 (c' := (25, [.ref 118, .int 0], [.ref 118, .int a28], h)) rfl ?_
      refine hp_getr rfl (hH.1 118 (17, 105) rfl) rfl (hH.2 118 56 (some 156) rfl) ?_
      refine qm_Rp.go 1 (c' := (29, [.ref 118, .int 0], [.int 0, .ref 156, .int a28], h)) rfl ?_
      refine hp_ial (v := p0) rfl (hH.1 156 (0, 3) rfl) q_p0 (fun ia_28 ib_28 => ?_)
      refine qm_Rp.go 0 (c' := (30, [.ref 118, .int 0], [.int p0, .int a28], h)) rfl ?_
      refine hp_cle (ix := a28.toInt) (iy := p0.toInt) rfl rfl rfl (fun z30 => ?_) (fun z30 => ?_)
      · refine qm_Rp.go 7 (c' := (18, [.ref 118, .int 1], [.int 1, .ref 118], h)) rfl ?_
        refine hp_inv (o := 118) (r := []) (as := [.ref 118, .int 1]) rfl rfl (hH.1 118 (17, 105) rfl) rfl rfl rfl ?_
        refine qm_Rp.go 6 (c' := (17, [.ref 118, .int 1], [.ref 118], h)) rfl ?_
        refine hp_inv (o := 118) (r := []) (as := [.ref 118]) rfl rfl (hH.1 118 (17, 105) rfl) rfl rfl rfl (px_trm (h := h) hH eW eH eS q_n hn hw hs (lv := 0) q_lv ⟨by decide, by decide⟩ q_B hB (fun r31 e_r31 => ?_))
        have b_r31 := zT_in (B := B.toInt) (w := w) (wh := wh) (sp := sp) (by omega) hw hs (show n.toInt.toNat ≤ 30 by omega)
        rw [← e_r31] at b_r31
        refine qm_Rp.go 1 (c' := (27, [.ref 118, .int 1], [.int r31], h)) rfl ?_
        refine qm_Rp.rt (v := (some (.int r31))) (h' := h) rfl ?_
        refine qm_Rp.go 0 (c' := (21, [.ref 118, .int 1], [.int r31], h)) rfl ?_
        refine qm_Rp.call (j := 294) (as := [.int r31]) (c' := (24, [.ref 118, .int 1], [], h)) rfl rfl (px_bare (by omega) (fun a32 e_a32 => ?_))
        have b_a32 := ab_in (z := r31.toInt) (m := 12000) (by omega) (by omega)
        rw [e_r31] at e_a32
        rw [e_r31] at b_a32
        refine qm_Rp.go 1 (c' := (25, [.ref 118, .int 1], [.ref 118, .int a32], h)) rfl ?_
        refine hp_getr rfl (hH.1 118 (17, 105) rfl) rfl (hH.2 118 56 (some 156) rfl) ?_
        refine qm_Rp.go 1 (c' := (29, [.ref 118, .int 1], [.int 1, .ref 156, .int a32], h)) rfl ?_
        refine hp_ial (v := p1) rfl (hH.1 156 (0, 3) rfl) q_p1 (fun ia_32 ib_32 => ?_)
        refine qm_Rp.go 0 (c' := (30, [.ref 118, .int 1], [.int p1, .int a32], h)) rfl ?_
        refine hp_cle (ix := a32.toInt) (iy := p1.toInt) rfl rfl rfl (fun z34 => ?_) (fun z34 => ?_)
        · refine qm_Rp.go 7 (c' := (18, [.ref 118, .int 2], [.int 2, .ref 118], h)) rfl ?_
          refine hp_inv (o := 118) (r := []) (as := [.ref 118, .int 2]) rfl rfl (hH.1 118 (17, 105) rfl) rfl rfl rfl ?_
          refine qm_Rp.go 6 (c' := (24, [.ref 118, .int 2], [.ref 118], h)) rfl ?_
          refine hp_inv (o := 118) (r := []) (as := [.ref 118]) rfl rfl (hH.1 118 (17, 105) rfl) rfl rfl rfl (px_bnd (h := h) hH eW eH eS q_n hn hw hs (lv := 0) q_lv ⟨by decide, by decide⟩ q_B hB (fun I36 r35 e_I36 e_r35 => ?_))
          have e_I36 : ∀ o, [155].contains o = false → ∀ i, I36 o i = (h.2.1) o i := e_I36
          have b_r35 := zD_in (B := B.toInt) (w := w) (wh := wh) (sp := sp) hB hw (show n.toInt.toNat ≤ 30 by omega)
          rw [← e_r35] at b_r35
          refine qm_Rp.go 0 (c' := (27, [.ref 118, .int 2], [.int r35], (h.1, I36, h.2.2.1, h.2.2.2))) rfl ?_
          refine qm_Rp.rt (v := (some (.int r35))) (h' := (h.1, I36, h.2.2.1, h.2.2.2)) rfl ?_
          refine qm_Rp.go 0 (c' := (21, [.ref 118, .int 2], [.int r35], (h.1, I36, h.2.2.1, h.2.2.2))) rfl ?_
          refine qm_Rp.call (j := 294) (as := [.int r35]) (c' := (24, [.ref 118, .int 2], [], (h.1, I36, h.2.2.1, h.2.2.2))) rfl rfl (px_bare (by omega) (fun a37 e_a37 => ?_))
          have b_a37 := ab_in (z := r35.toInt) (m := 400000) (by omega) (by omega)
          rw [ab_0 (z := r35.toInt) (by omega)] at e_a37
          rw [e_r35] at e_a37
          rw [e_r35] at b_a37
          refine qm_Rp.go 1 (c' := (25, [.ref 118, .int 2], [.ref 118, .int a37], (h.1, I36, h.2.2.1, h.2.2.2))) rfl ?_
          refine hp_getr rfl (hH.1 118 (17, 105) rfl) rfl (hH.2 118 56 (some 156) rfl) ?_
          refine qm_Rp.go 1 (c' := (29, [.ref 118, .int 2], [.int 2, .ref 156, .int a37], (h.1, I36, h.2.2.1, h.2.2.2))) rfl ?_
          refine hp_ial (v := p2) rfl (hH.1 156 (0, 3) rfl) (show (I36) 156 2 = _ from ((e_I36 156 rfl 2).trans q_p2)) (fun ia_37 ib_37 => ?_)
          refine qm_Rp.go 0 (c' := (30, [.ref 118, .int 2], [.int p2, .int a37], (h.1, I36, h.2.2.1, h.2.2.2))) rfl ?_
          refine hp_cle (ix := a37.toInt) (iy := p2.toInt) rfl rfl rfl (fun z39 => ?_) (fun z39 => ?_)
          · refine qm_Rp.go 6 (c' := (42, [.ref 118, .int 3], [.int 1], (h.1, I36, h.2.2.1, h.2.2.2))) rfl ?_
            refine qm_Rp.rt (v := (some (.int 1))) (h' := (h.1, I36, h.2.2.1, h.2.2.2)) rfl ?_
            exact k (I36) 1 (fun o ho i => ((e_I36 o (hk_ms rfl ho) i).trans rfl)) (Or.inl ⟨rfl, by unfold mayP; omega⟩)
          · refine qm_Rp.go 1 (c' := (34, [.ref 118, .int 2], [.int 0], (h.1, I36, h.2.2.1, h.2.2.2))) rfl ?_
            refine qm_Rp.rt (v := (some (.int 0))) (h' := (h.1, I36, h.2.2.1, h.2.2.2)) rfl ?_
            exact k (I36) 0 (fun o ho i => ((e_I36 o (hk_ms rfl ho) i).trans rfl)) (Or.inr ⟨rfl, by unfold mayP; omega⟩)
        · refine qm_Rp.go 1 (c' := (34, [.ref 118, .int 1], [.int 0], h)) rfl ?_
          refine qm_Rp.rt (v := (some (.int 0))) (h' := h) rfl ?_
          exact k (h.2.1) 0 (fun o ho i => rfl) (Or.inr ⟨rfl, by unfold mayP; omega⟩)
      · refine qm_Rp.go 1 (c' := (34, [.ref 118, .int 0], [.int 0], h)) rfl ?_
        refine qm_Rp.rt (v := (some (.int 0))) (h' := h) rfl ?_
        exact k (h.2.1) 0 (fun o ho i => rfl) (Or.inr ⟨rfl, by unfold mayP; omega⟩)
  · refine qm_Rp.go 1 (c' := (32, [.ref 118, .int 0], [.int 0], h)) rfl ?_
    refine qm_Rp.rt (v := (some (.int 0))) (h' := h) rfl ?_
    refine qm_Rp.go 8 (c' := (18, [.ref 118, .int 0], [.int 0, .ref 118], h)) rfl ?_
    refine hp_inv (o := 118) (r := []) (as := [.ref 118, .int 0]) rfl rfl (hH.1 118 (17, 105) rfl) rfl rfl rfl ?_
    refine qm_Rp.go 3 (c' := (5, [.ref 118, .int 0], [.ref 118], h)) rfl ?_
    refine hp_inv (o := 118) (r := []) (as := [.ref 118]) rfl rfl (hH.1 118 (17, 105) rfl) rfl rfl rfl (px_lst (h := h) hH eW eH eS q_n hn hw hs (fun r40 e_r40 => ?_))
    have b_r40 := zL_in (w := w) (wh := wh) (sp := sp) hw (show n.toInt.toNat ≤ 30 by omega)
    rw [← e_r40] at b_r40
    refine qm_Rp.go 1 (c' := (27, [.ref 118, .int 0], [.int r40], h)) rfl ?_
    refine qm_Rp.rt (v := (some (.int r40))) (h' := h) rfl ?_
    refine qm_Rp.go 0 (c' := (21, [.ref 118, .int 0], [.int r40], h)) rfl ?_
    refine qm_Rp.call (j := 294) (as := [.int r40]) (c' := (24, [.ref 118, .int 0], [], h)) rfl rfl (px_bare (by omega) (fun a41 e_a41 => ?_))
    have b_a41 := ab_in (z := r40.toInt) (m := 3600) (by omega) (by omega)
    rw [e_r40] at e_a41
    rw [e_r40] at b_a41
    refine qm_Rp.go 1 (c' := (25, [.ref 118, .int 0], [.ref 118, .int a41], h)) rfl ?_
    refine hp_getr rfl (hH.1 118 (17, 105) rfl) rfl (hH.2 118 56 (some 156) rfl) ?_
    refine qm_Rp.go 1 (c' := (29, [.ref 118, .int 0], [.int 0, .ref 156, .int a41], h)) rfl ?_
    refine hp_ial (v := p0) rfl (hH.1 156 (0, 3) rfl) q_p0 (fun ia_41 ib_41 => ?_)
    refine qm_Rp.go 0 (c' := (30, [.ref 118, .int 0], [.int p0, .int a41], h)) rfl ?_
    refine hp_cle (ix := a41.toInt) (iy := p0.toInt) rfl rfl rfl (fun z43 => ?_) (fun z43 => ?_)
    · refine qm_Rp.go 7 (c' := (18, [.ref 118, .int 1], [.int 1, .ref 118], h)) rfl ?_
      refine hp_inv (o := 118) (r := []) (as := [.ref 118, .int 1]) rfl rfl (hH.1 118 (17, 105) rfl) rfl rfl rfl ?_
      refine qm_Rp.go 6 (c' := (17, [.ref 118, .int 1], [.ref 118], h)) rfl ?_
      refine hp_inv (o := 118) (r := []) (as := [.ref 118]) rfl rfl (hH.1 118 (17, 105) rfl) rfl rfl rfl (px_trm (h := h) hH eW eH eS q_n hn hw hs (lv := 0) q_lv ⟨by decide, by decide⟩ q_B hB (fun r44 e_r44 => ?_))
      have b_r44 := zT_in (B := B.toInt) (w := w) (wh := wh) (sp := sp) (by omega) hw hs (show n.toInt.toNat ≤ 30 by omega)
      rw [← e_r44] at b_r44
      refine qm_Rp.go 1 (c' := (27, [.ref 118, .int 1], [.int r44], h)) rfl ?_
      refine qm_Rp.rt (v := (some (.int r44))) (h' := h) rfl ?_
      refine qm_Rp.go 0 (c' := (21, [.ref 118, .int 1], [.int r44], h)) rfl ?_
      refine qm_Rp.call (j := 294) (as := [.int r44]) (c' := (24, [.ref 118, .int 1], [], h)) rfl rfl (px_bare (by omega) (fun a45 e_a45 => ?_))
      have b_a45 := ab_in (z := r44.toInt) (m := 12000) (by omega) (by omega)
      rw [e_r44] at e_a45
      rw [e_r44] at b_a45
      refine qm_Rp.go 1 (c' := (25, [.ref 118, .int 1], [.ref 118, .int a45], h)) rfl ?_
      refine hp_getr rfl (hH.1 118 (17, 105) rfl) rfl (hH.2 118 56 (some 156) rfl) ?_
      refine qm_Rp.go 1 (c' := (29, [.ref 118, .int 1], [.int 1, .ref 156, .int a45], h)) rfl ?_
      refine hp_ial (v := p1) rfl (hH.1 156 (0, 3) rfl) q_p1 (fun ia_45 ib_45 => ?_)
      refine qm_Rp.go 0 (c' := (30, [.ref 118, .int 1], [.int p1, .int a45], h)) rfl ?_
      refine hp_cle (ix := a45.toInt) (iy := p1.toInt) rfl rfl rfl (fun z47 => ?_) (fun z47 => ?_)
      · refine qm_Rp.go 7 (c' := (18, [.ref 118, .int 2], [.int 2, .ref 118], h)) rfl ?_
        refine hp_inv (o := 118) (r := []) (as := [.ref 118, .int 2]) rfl rfl (hH.1 118 (17, 105) rfl) rfl rfl rfl ?_
        refine qm_Rp.go 6 (c' := (24, [.ref 118, .int 2], [.ref 118], h)) rfl ?_
        refine hp_inv (o := 118) (r := []) (as := [.ref 118]) rfl rfl (hH.1 118 (17, 105) rfl) rfl rfl rfl (px_bnd (h := h) hH eW eH eS q_n hn hw hs (lv := 0) q_lv ⟨by decide, by decide⟩ q_B hB (fun I49 r48 e_I49 e_r48 => ?_))
        have e_I49 : ∀ o, [155].contains o = false → ∀ i, I49 o i = (h.2.1) o i := e_I49
        have b_r48 := zD_in (B := B.toInt) (w := w) (wh := wh) (sp := sp) hB hw (show n.toInt.toNat ≤ 30 by omega)
        rw [← e_r48] at b_r48
        refine qm_Rp.go 0 (c' := (27, [.ref 118, .int 2], [.int r48], (h.1, I49, h.2.2.1, h.2.2.2))) rfl ?_
        refine qm_Rp.rt (v := (some (.int r48))) (h' := (h.1, I49, h.2.2.1, h.2.2.2)) rfl ?_
        refine qm_Rp.go 0 (c' := (21, [.ref 118, .int 2], [.int r48], (h.1, I49, h.2.2.1, h.2.2.2))) rfl ?_
        refine qm_Rp.call (j := 294) (as := [.int r48]) (c' := (24, [.ref 118, .int 2], [], (h.1, I49, h.2.2.1, h.2.2.2))) rfl rfl (px_bare (by omega) (fun a50 e_a50 => ?_))
        have b_a50 := ab_in (z := r48.toInt) (m := 400000) (by omega) (by omega)
        rw [ab_0 (z := r48.toInt) (by omega)] at e_a50
        rw [e_r48] at e_a50
        rw [e_r48] at b_a50
        refine qm_Rp.go 1 (c' := (25, [.ref 118, .int 2], [.ref 118, .int a50], (h.1, I49, h.2.2.1, h.2.2.2))) rfl ?_
        refine hp_getr rfl (hH.1 118 (17, 105) rfl) rfl (hH.2 118 56 (some 156) rfl) ?_
        refine qm_Rp.go 1 (c' := (29, [.ref 118, .int 2], [.int 2, .ref 156, .int a50], (h.1, I49, h.2.2.1, h.2.2.2))) rfl ?_
        refine hp_ial (v := p2) rfl (hH.1 156 (0, 3) rfl) (show (I49) 156 2 = _ from ((e_I49 156 rfl 2).trans q_p2)) (fun ia_50 ib_50 => ?_)
        refine qm_Rp.go 0 (c' := (30, [.ref 118, .int 2], [.int p2, .int a50], (h.1, I49, h.2.2.1, h.2.2.2))) rfl ?_
        refine hp_cle (ix := a50.toInt) (iy := p2.toInt) rfl rfl rfl (fun z52 => ?_) (fun z52 => ?_)
        · refine qm_Rp.go 6 (c' := (42, [.ref 118, .int 3], [.int 1], (h.1, I49, h.2.2.1, h.2.2.2))) rfl ?_
          refine qm_Rp.rt (v := (some (.int 1))) (h' := (h.1, I49, h.2.2.1, h.2.2.2)) rfl ?_
          exact k (I49) 1 (fun o ho i => ((e_I49 o (hk_ms rfl ho) i).trans rfl)) (Or.inl ⟨rfl, by unfold mayP; omega⟩)
        · refine qm_Rp.go 1 (c' := (34, [.ref 118, .int 2], [.int 0], (h.1, I49, h.2.2.1, h.2.2.2))) rfl ?_
          refine qm_Rp.rt (v := (some (.int 0))) (h' := (h.1, I49, h.2.2.1, h.2.2.2)) rfl ?_
          exact k (I49) 0 (fun o ho i => ((e_I49 o (hk_ms rfl ho) i).trans rfl)) (Or.inr ⟨rfl, by unfold mayP; omega⟩)
      · refine qm_Rp.go 1 (c' := (34, [.ref 118, .int 1], [.int 0], h)) rfl ?_
        refine qm_Rp.rt (v := (some (.int 0))) (h' := h) rfl ?_
        exact k (h.2.1) 0 (fun o ho i => rfl) (Or.inr ⟨rfl, by unfold mayP; omega⟩)
    · refine qm_Rp.go 1 (c' := (34, [.ref 118, .int 0], [.int 0], h)) rfl ?_
      refine qm_Rp.rt (v := (some (.int 0))) (h' := h) rfl ?_
      exact k (h.2.1) 0 (fun o ho i => rfl) (Or.inr ⟨rfl, by unfold mayP; omega⟩)
theorem px_mayb1 {X : Option (Nat × (Nat → Int32))} {Z : Option Value → qm_H → Prop} {h : qm_H} {fu : Nat} (hH : hk_H h) {n : Int32} {w wh sp : Nat → Int} (eW : pI h.2.1 146 = w) (eH : pI h.2.1 150 = wh) (eS : pI h.2.1 151 = sp) (q_n : h.2.1 118 44 = n) (hn : 0 ≤ n.toInt ∧ n.toInt ≤ 30) (hw : ∀ b, 0 ≤ w b ∧ w b ≤ 40) (hs : ∀ b, 0 ≤ sp b ∧ sp b ≤ 79) {B : Int32} (q_lv : h.2.1 118 18 = 1) (q_B : h.2.1 127 1 = B) (hB : 1 ≤ B.toInt ∧ B.toInt ≤ 5) {g0 g1 g2 : Int32} (q_g0 : h.2.1 128 3 = g0) (q_g1 : h.2.1 128 4 = g1) (q_g2 : h.2.1 128 5 = g2) {p0 p1 p2 : Int32} (q_p0 : h.2.1 156 0 = p0) (q_p1 : h.2.1 156 1 = p1) (q_p2 : h.2.1 156 2 = p2) (k : ∀ (I : Nat → Nat → Int32) (r : Int32), (∀ o, [155].contains o = false → ∀ i, I o i = h.2.1 o i) → (r.toInt = 1 ∧ mayP B.toInt g0.toInt g1.toInt g2.toInt p0.toInt p1.toInt p2.toInt w wh sp n.toInt.toNat ∨ r.toInt = 0 ∧ ¬ mayP B.toInt g0.toInt g1.toInt g2.toInt p0.toInt p1.toInt p2.toInt w wh sp n.toInt.toNat) → Z (some (.int r)) (h.1, I, h.2.2.1, h.2.2.2)) : qm_Rp fu X cd_296 (qm_ent 2 [.ref 118] h) Z := by
  refine qm_Rp.go 0 (c' := (0, [.ref 118, .float 0], [], h)) rfl ?_
  have kz0 : (0 : Int32).toInt = 0 := rfl
  have kz1 : (1 : Int32).toInt = 1 := rfl
  have kz2 : (2 : Int32).toInt = 2 := rfl
  have kz3 : (3 : Int32).toInt = 3 := rfl
  have kz4 : (4 : Int32).toInt = 4 := rfl
  have kz5 : (5 : Int32).toInt = 5 := rfl
  have kz6 : (6 : Int32).toInt = 6 := rfl
  have kz7 : (7 : Int32).toInt = 7 := rfl
  have kz8 : (8 : Int32).toInt = 8 := rfl
  have kz9 : (9 : Int32).toInt = 9 := rfl
  have kzm1 : ((-1) : Int32).toInt = (-1) := rfl
  have kzm2 : ((-2) : Int32).toInt = (-2) := rfl
  have kzm3 : ((-3) : Int32).toInt = (-3) := rfl
  refine qm_Rp.go 1 (c' := (1, [.ref 118, .float 0], [.ref 118], h)) rfl ?_
  refine hp_inv (o := 118) (r := []) (as := [.ref 118]) rfl rfl (hH.1 118 (17, 105) rfl) rfl rfl rfl ?_
  refine qm_Rp.go 7 (c' := (9, [.ref 118, .int 0], [.int 0, .ref 118], h)) rfl ?_
  refine hp_inv (o := 118) (r := []) (as := [.ref 118, .int 0]) rfl rfl (hH.1 118 (17, 105) rfl) rfl rfl rfl ?_
  refine qm_Rp.go 3 (c' := (5, [.ref 118, .int 0], [.ref 118], h)) rfl ?_
  refine hp_inv (o := 118) (r := []) (as := [.ref 118]) rfl rfl (hH.1 118 (17, 105) rfl) rfl rfl rfl (px_lst (h := h) hH eW eH eS q_n hn hw hs (fun r1 e_r1 => ?_))
  have b_r1 := zL_in (w := w) (wh := wh) (sp := sp) hw (show n.toInt.toNat ≤ 30 by omega)
  rw [← e_r1] at b_r1
  refine qm_Rp.go 1 (c' := (27, [.ref 118, .int 0], [.int r1], h)) rfl ?_
  refine qm_Rp.rt (v := (some (.int r1))) (h' := h) rfl ?_
  refine qm_Rp.go 0 (c' := (12, [.ref 118, .int 0], [.int r1], h)) rfl ?_
  refine qm_Rp.call (j := 294) (as := [.int r1]) (c' := (15, [.ref 118, .int 0], [], h)) rfl rfl (px_bare (by omega) (fun a2 e_a2 => ?_))
  have b_a2 := ab_in (z := r1.toInt) (m := 3600) (by omega) (by omega)
  rw [e_r1] at e_a2
  rw [e_r1] at b_a2
  refine qm_Rp.go 1 (c' := (16, [.ref 118, .int 0], [.ref 118, .int a2], h)) rfl ?_
  refine hp_getr rfl (hH.1 118 (17, 105) rfl) rfl (hH.2 118 23 (some 128) rfl) ?_
  refine qm_Rp.go 2 (c' := (21, [.ref 118, .int 0], [.ref 118, .int 3, .ref 128, .int a2], h)) rfl ?_
  refine hp_geti (v := 1) rfl (hH.1 118 (17, 105) rfl) rfl q_lv ?_
  refine qm_Rp.go 3 (c' := (27, [.ref 118, .int 0], [.int 3, .ref 128, .int a2], h)) rfl ?_
  refine hp_ial (v := g0) rfl (hH.1 128 (0, 6) rfl) q_g0 (fun ia_2 ib_2 => ?_)
  refine qm_Rp.go 0 (c' := (28, [.ref 118, .int 0], [.int g0, .int a2], h)) rfl ?_
  refine hp_cle (ix := a2.toInt) (iy := g0.toInt) rfl rfl rfl (fun z4 => ?_) (fun z4 => ?_)
  · refine qm_Rp.go 7 (c' := (9, [.ref 118, .int 1], [.int 1, .ref 118], h)) rfl ?_
    refine hp_inv (o := 118) (r := []) (as := [.ref 118, .int 1]) rfl rfl (hH.1 118 (17, 105) rfl) rfl rfl rfl ?_
    refine qm_Rp.go 6 (c' := (17, [.ref 118, .int 1], [.ref 118], h)) rfl ?_
    refine hp_inv (o := 118) (r := []) (as := [.ref 118]) rfl rfl (hH.1 118 (17, 105) rfl) rfl rfl rfl (px_trm (h := h) hH eW eH eS q_n hn hw hs (lv := 1) q_lv ⟨by decide, by decide⟩ q_B hB (fun r5 e_r5 => ?_))
    have b_r5 := zT_in (B := B.toInt) (w := w) (wh := wh) (sp := sp) (by omega) hw hs (show n.toInt.toNat ≤ 30 by omega)
    rw [← e_r5] at b_r5
    refine qm_Rp.go 1 (c' := (27, [.ref 118, .int 1], [.int r5], h)) rfl ?_
    refine qm_Rp.rt (v := (some (.int r5))) (h' := h) rfl ?_
    refine qm_Rp.go 0 (c' := (12, [.ref 118, .int 1], [.int r5], h)) rfl ?_
    refine qm_Rp.call (j := 294) (as := [.int r5]) (c' := (15, [.ref 118, .int 1], [], h)) rfl rfl (px_bare (by omega) (fun a6 e_a6 => ?_))
    have b_a6 := ab_in (z := r5.toInt) (m := 12000) (by omega) (by omega)
    rw [e_r5] at e_a6
    rw [e_r5] at b_a6
    refine qm_Rp.go 1 (c' := (16, [.ref 118, .int 1], [.ref 118, .int a6], h)) rfl ?_
    refine hp_getr rfl (hH.1 118 (17, 105) rfl) rfl (hH.2 118 23 (some 128) rfl) ?_
    refine qm_Rp.go 2 (c' := (21, [.ref 118, .int 1], [.ref 118, .int 3, .ref 128, .int a6], h)) rfl ?_
    refine hp_geti (v := 1) rfl (hH.1 118 (17, 105) rfl) rfl q_lv ?_
    refine qm_Rp.go 3 (c' := (27, [.ref 118, .int 1], [.int 4, .ref 128, .int a6], h)) rfl ?_
    refine hp_ial (v := g1) rfl (hH.1 128 (0, 6) rfl) q_g1 (fun ia_6 ib_6 => ?_)
    refine qm_Rp.go 0 (c' := (28, [.ref 118, .int 1], [.int g1, .int a6], h)) rfl ?_
    refine hp_cle (ix := a6.toInt) (iy := g1.toInt) rfl rfl rfl (fun z8 => ?_) (fun z8 => ?_)
    · refine qm_Rp.go 7 (c' := (9, [.ref 118, .int 2], [.int 2, .ref 118], h)) rfl ?_
      refine hp_inv (o := 118) (r := []) (as := [.ref 118, .int 2]) rfl rfl (hH.1 118 (17, 105) rfl) rfl rfl rfl ?_
      refine qm_Rp.go 6 (c' := (24, [.ref 118, .int 2], [.ref 118], h)) rfl ?_
      refine hp_inv (o := 118) (r := []) (as := [.ref 118]) rfl rfl (hH.1 118 (17, 105) rfl) rfl rfl rfl (px_bnd (h := h) hH eW eH eS q_n hn hw hs (lv := 1) q_lv ⟨by decide, by decide⟩ q_B hB (fun I10 r9 e_I10 e_r9 => ?_))
      have e_I10 : ∀ o, [155].contains o = false → ∀ i, I10 o i = (h.2.1) o i := e_I10
      have b_r9 := zD_in (B := B.toInt) (w := w) (wh := wh) (sp := sp) hB hw (show n.toInt.toNat ≤ 30 by omega)
      rw [← e_r9] at b_r9
      refine qm_Rp.go 0 (c' := (27, [.ref 118, .int 2], [.int r9], (h.1, I10, h.2.2.1, h.2.2.2))) rfl ?_
      refine qm_Rp.rt (v := (some (.int r9))) (h' := (h.1, I10, h.2.2.1, h.2.2.2)) rfl ?_
      refine qm_Rp.go 0 (c' := (12, [.ref 118, .int 2], [.int r9], (h.1, I10, h.2.2.1, h.2.2.2))) rfl ?_
      refine qm_Rp.call (j := 294) (as := [.int r9]) (c' := (15, [.ref 118, .int 2], [], (h.1, I10, h.2.2.1, h.2.2.2))) rfl rfl (px_bare (by omega) (fun a11 e_a11 => ?_))
      have b_a11 := ab_in (z := r9.toInt) (m := 400000) (by omega) (by omega)
      rw [ab_0 (z := r9.toInt) (by omega)] at e_a11
      rw [e_r9] at e_a11
      rw [e_r9] at b_a11
      refine qm_Rp.go 1 (c' := (16, [.ref 118, .int 2], [.ref 118, .int a11], (h.1, I10, h.2.2.1, h.2.2.2))) rfl ?_
      refine hp_getr rfl (hH.1 118 (17, 105) rfl) rfl (hH.2 118 23 (some 128) rfl) ?_
      refine qm_Rp.go 2 (c' := (21, [.ref 118, .int 2], [.ref 118, .int 3, .ref 128, .int a11], (h.1, I10, h.2.2.1, h.2.2.2))) rfl ?_
      refine hp_geti (v := 1) rfl (hH.1 118 (17, 105) rfl) rfl (show (I10) 118 18 = _ from ((e_I10 118 rfl 18).trans q_lv)) ?_
      refine qm_Rp.go 3 (c' := (27, [.ref 118, .int 2], [.int 5, .ref 128, .int a11], (h.1, I10, h.2.2.1, h.2.2.2))) rfl ?_
      refine hp_ial (v := g2) rfl (hH.1 128 (0, 6) rfl) (show (I10) 128 5 = _ from ((e_I10 128 rfl 5).trans q_g2)) (fun ia_11 ib_11 => ?_)
      refine qm_Rp.go 0 (c' := (28, [.ref 118, .int 2], [.int g2, .int a11], (h.1, I10, h.2.2.1, h.2.2.2))) rfl ?_
      refine hp_cle (ix := a11.toInt) (iy := g2.toInt) rfl rfl rfl (fun z13 => ?_) (fun z13 => ?_)
      · refine qm_Rp.go 6 (c' := (40, [.ref 118, .int 3], [.int 1], (h.1, I10, h.2.2.1, h.2.2.2))) rfl ?_
        refine qm_Rp.rt (v := (some (.int 1))) (h' := (h.1, I10, h.2.2.1, h.2.2.2)) rfl ?_
        refine qm_Rp.go 2 (c' := (8, [.ref 118, .float 0], [.int 1], (h.1, I10, h.2.2.1, h.2.2.2))) rfl ?_
        refine qm_Rp.rt (v := (some (.int 1))) (h' := (h.1, I10, h.2.2.1, h.2.2.2)) rfl ?_
        exact k (I10) 1 (fun o ho i => ((e_I10 o (hk_ms rfl ho) i).trans rfl)) (Or.inl ⟨rfl, by unfold mayP; omega⟩)
      · refine qm_Rp.go 1 (c' := (32, [.ref 118, .int 2], [.int 0], (h.1, I10, h.2.2.1, h.2.2.2))) rfl ?_
        refine qm_Rp.rt (v := (some (.int 0))) (h' := (h.1, I10, h.2.2.1, h.2.2.2)) rfl ?_
        refine qm_Rp.go 8 (c' := (18, [.ref 118, .int 0], [.int 0, .ref 118], (h.1, I10, h.2.2.1, h.2.2.2))) rfl ?_
        refine hp_inv (o := 118) (r := []) (as := [.ref 118, .int 0]) rfl rfl (hH.1 118 (17, 105) rfl) rfl rfl rfl ?_
        refine qm_Rp.go 3 (c' := (5, [.ref 118, .int 0], [.ref 118], (h.1, I10, h.2.2.1, h.2.2.2))) rfl ?_
        refine hp_inv (o := 118) (r := []) (as := [.ref 118]) rfl rfl (hH.1 118 (17, 105) rfl) rfl rfl rfl (px_lst (h := (h.1, I10, h.2.2.1, h.2.2.2)) hH ((funext fun i => congrArg Int32.toInt ((e_I10 146 rfl i).trans rfl)).trans eW) ((funext fun i => congrArg Int32.toInt ((e_I10 150 rfl i).trans rfl)).trans eH) ((funext fun i => congrArg Int32.toInt ((e_I10 151 rfl i).trans rfl)).trans eS) (show (I10) 118 44 = _ from ((e_I10 118 rfl 44).trans q_n)) hn hw hs (fun r14 e_r14 => ?_))
        have b_r14 := zL_in (w := w) (wh := wh) (sp := sp) hw (show n.toInt.toNat ≤ 30 by omega)
        rw [← e_r14] at b_r14
        refine qm_Rp.go 1 (c' := (27, [.ref 118, .int 0], [.int r14], (h.1, I10, h.2.2.1, h.2.2.2))) rfl ?_
        refine qm_Rp.rt (v := (some (.int r14))) (h' := (h.1, I10, h.2.2.1, h.2.2.2)) rfl ?_
        refine qm_Rp.go 0 (c' := (21, [.ref 118, .int 0], [.int r14], (h.1, I10, h.2.2.1, h.2.2.2))) rfl ?_
        refine qm_Rp.call (j := 294) (as := [.int r14]) (c' := (24, [.ref 118, .int 0], [], (h.1, I10, h.2.2.1, h.2.2.2))) rfl rfl (px_bare (by omega) (fun a15 e_a15 => ?_))
        have b_a15 := ab_in (z := r14.toInt) (m := 3600) (by omega) (by omega)
        rw [e_r14] at e_a15
        rw [e_r14] at b_a15
        refine qm_Rp.go 1 (c' := (25, [.ref 118, .int 0], [.ref 118, .int a15], (h.1, I10, h.2.2.1, h.2.2.2))) rfl ?_
        refine hp_getr rfl (hH.1 118 (17, 105) rfl) rfl (hH.2 118 56 (some 156) rfl) ?_
        refine qm_Rp.go 1 (c' := (29, [.ref 118, .int 0], [.int 0, .ref 156, .int a15], (h.1, I10, h.2.2.1, h.2.2.2))) rfl ?_
        refine hp_ial (v := p0) rfl (hH.1 156 (0, 3) rfl) (show (I10) 156 0 = _ from ((e_I10 156 rfl 0).trans q_p0)) (fun ia_15 ib_15 => ?_)
        refine qm_Rp.go 0 (c' := (30, [.ref 118, .int 0], [.int p0, .int a15], (h.1, I10, h.2.2.1, h.2.2.2))) rfl ?_
        refine hp_cle (ix := a15.toInt) (iy := p0.toInt) rfl rfl rfl (fun z17 => ?_) (fun z17 => ?_)
        · refine qm_Rp.go 7 (c' := (18, [.ref 118, .int 1], [.int 1, .ref 118], (h.1, I10, h.2.2.1, h.2.2.2))) rfl ?_
          refine hp_inv (o := 118) (r := []) (as := [.ref 118, .int 1]) rfl rfl (hH.1 118 (17, 105) rfl) rfl rfl rfl ?_
          refine qm_Rp.go 6 (c' := (17, [.ref 118, .int 1], [.ref 118], (h.1, I10, h.2.2.1, h.2.2.2))) rfl ?_
          refine hp_inv (o := 118) (r := []) (as := [.ref 118]) rfl rfl (hH.1 118 (17, 105) rfl) rfl rfl rfl (px_trm (h := (h.1, I10, h.2.2.1, h.2.2.2)) hH ((funext fun i => congrArg Int32.toInt ((e_I10 146 rfl i).trans rfl)).trans eW) ((funext fun i => congrArg Int32.toInt ((e_I10 150 rfl i).trans rfl)).trans eH) ((funext fun i => congrArg Int32.toInt ((e_I10 151 rfl i).trans rfl)).trans eS) (show (I10) 118 44 = _ from ((e_I10 118 rfl 44).trans q_n)) hn hw hs (lv := 1) (show (I10) 118 18 = _ from ((e_I10 118 rfl 18).trans q_lv)) ⟨by decide, by decide⟩ (show (I10) 127 1 = _ from ((e_I10 127 rfl 1).trans q_B)) hB (fun r18 e_r18 => ?_))
          have b_r18 := zT_in (B := B.toInt) (w := w) (wh := wh) (sp := sp) (by omega) hw hs (show n.toInt.toNat ≤ 30 by omega)
          rw [← e_r18] at b_r18
          refine qm_Rp.go 1 (c' := (27, [.ref 118, .int 1], [.int r18], (h.1, I10, h.2.2.1, h.2.2.2))) rfl ?_
          refine qm_Rp.rt (v := (some (.int r18))) (h' := (h.1, I10, h.2.2.1, h.2.2.2)) rfl ?_
          refine qm_Rp.go 0 (c' := (21, [.ref 118, .int 1], [.int r18], (h.1, I10, h.2.2.1, h.2.2.2))) rfl ?_
          refine qm_Rp.call (j := 294) (as := [.int r18]) (c' := (24, [.ref 118, .int 1], [], (h.1, I10, h.2.2.1, h.2.2.2))) rfl rfl (px_bare (by omega) (fun a19 e_a19 => ?_))
          have b_a19 := ab_in (z := r18.toInt) (m := 12000) (by omega) (by omega)
          rw [e_r18] at e_a19
          rw [e_r18] at b_a19
          refine qm_Rp.go 1 (c' := (25, [.ref 118, .int 1], [.ref 118, .int a19], (h.1, I10, h.2.2.1, h.2.2.2))) rfl ?_
          refine hp_getr rfl (hH.1 118 (17, 105) rfl) rfl (hH.2 118 56 (some 156) rfl) ?_
          refine qm_Rp.go 1 (c' := (29, [.ref 118, .int 1], [.int 1, .ref 156, .int a19], (h.1, I10, h.2.2.1, h.2.2.2))) rfl ?_
          refine hp_ial (v := p1) rfl (hH.1 156 (0, 3) rfl) (show (I10) 156 1 = _ from ((e_I10 156 rfl 1).trans q_p1)) (fun ia_19 ib_19 => ?_)
          refine qm_Rp.go 0 (c' := (30, [.ref 118, .int 1], [.int p1, .int a19], (h.1, I10, h.2.2.1, h.2.2.2))) rfl ?_
          refine hp_cle (ix := a19.toInt) (iy := p1.toInt) rfl rfl rfl (fun z21 => ?_) (fun z21 => ?_)
          · refine qm_Rp.go 7 (c' := (18, [.ref 118, .int 2], [.int 2, .ref 118], (h.1, I10, h.2.2.1, h.2.2.2))) rfl ?_
            refine hp_inv (o := 118) (r := []) (as := [.ref 118, .int 2]) rfl rfl (hH.1 118 (17, 105) rfl) rfl rfl rfl ?_
            refine qm_Rp.go 6 (c' := (24, [.ref 118, .int 2], [.ref 118], (h.1, I10, h.2.2.1, h.2.2.2))) rfl ?_
            refine hp_inv (o := 118) (r := []) (as := [.ref 118]) rfl rfl (hH.1 118 (17, 105) rfl) rfl rfl rfl (px_bnd (h := (h.1, I10, h.2.2.1, h.2.2.2)) hH ((funext fun i => congrArg Int32.toInt ((e_I10 146 rfl i).trans rfl)).trans eW) ((funext fun i => congrArg Int32.toInt ((e_I10 150 rfl i).trans rfl)).trans eH) ((funext fun i => congrArg Int32.toInt ((e_I10 151 rfl i).trans rfl)).trans eS) (show (I10) 118 44 = _ from ((e_I10 118 rfl 44).trans q_n)) hn hw hs (lv := 1) (show (I10) 118 18 = _ from ((e_I10 118 rfl 18).trans q_lv)) ⟨by decide, by decide⟩ (show (I10) 127 1 = _ from ((e_I10 127 rfl 1).trans q_B)) hB (fun I23 r22 e_I23 e_r22 => ?_))
            have e_I23 : ∀ o, [155].contains o = false → ∀ i, I23 o i = (I10) o i := e_I23
            have b_r22 := zD_in (B := B.toInt) (w := w) (wh := wh) (sp := sp) hB hw (show n.toInt.toNat ≤ 30 by omega)
            rw [← e_r22] at b_r22
            refine qm_Rp.go 0 (c' := (27, [.ref 118, .int 2], [.int r22], (h.1, I23, h.2.2.1, h.2.2.2))) rfl ?_
            refine qm_Rp.rt (v := (some (.int r22))) (h' := (h.1, I23, h.2.2.1, h.2.2.2)) rfl ?_
            refine qm_Rp.go 0 (c' := (21, [.ref 118, .int 2], [.int r22], (h.1, I23, h.2.2.1, h.2.2.2))) rfl ?_
            refine qm_Rp.call (j := 294) (as := [.int r22]) (c' := (24, [.ref 118, .int 2], [], (h.1, I23, h.2.2.1, h.2.2.2))) rfl rfl (px_bare (by omega) (fun a24 e_a24 => ?_))
            have b_a24 := ab_in (z := r22.toInt) (m := 400000) (by omega) (by omega)
            rw [ab_0 (z := r22.toInt) (by omega)] at e_a24
            rw [e_r22] at e_a24
            rw [e_r22] at b_a24
            refine qm_Rp.go 1 (c' := (25, [.ref 118, .int 2], [.ref 118, .int a24], (h.1, I23, h.2.2.1, h.2.2.2))) rfl ?_
            refine hp_getr rfl (hH.1 118 (17, 105) rfl) rfl (hH.2 118 56 (some 156) rfl) ?_
            refine qm_Rp.go 1 (c' := (29, [.ref 118, .int 2], [.int 2, .ref 156, .int a24], (h.1, I23, h.2.2.1, h.2.2.2))) rfl ?_
            refine hp_ial (v := p2) rfl (hH.1 156 (0, 3) rfl) (show (I23) 156 2 = _ from ((e_I23 156 rfl 2).trans ((e_I10 156 rfl 2).trans q_p2))) (fun ia_24 ib_24 => ?_)
            refine qm_Rp.go 0 (c' := (30, [.ref 118, .int 2], [.int p2, .int a24], (h.1, I23, h.2.2.1, h.2.2.2))) rfl ?_
            refine hp_cle (ix := a24.toInt) (iy := p2.toInt) rfl rfl rfl (fun z26 => ?_) (fun z26 => ?_)
            · refine qm_Rp.go 6 (c' := (42, [.ref 118, .int 3], [.int 1], (h.1, I23, h.2.2.1, h.2.2.2))) rfl ?_
              refine qm_Rp.rt (v := (some (.int 1))) (h' := (h.1, I23, h.2.2.1, h.2.2.2)) rfl ?_
              exact k (I23) 1 (fun o ho i => ((e_I23 o (hk_ms rfl ho) i).trans ((e_I10 o (hk_ms rfl ho) i).trans rfl))) (Or.inl ⟨rfl, by unfold mayP; omega⟩)
            · refine qm_Rp.go 1 (c' := (34, [.ref 118, .int 2], [.int 0], (h.1, I23, h.2.2.1, h.2.2.2))) rfl ?_
              refine qm_Rp.rt (v := (some (.int 0))) (h' := (h.1, I23, h.2.2.1, h.2.2.2)) rfl ?_
              exact k (I23) 0 (fun o ho i => ((e_I23 o (hk_ms rfl ho) i).trans ((e_I10 o (hk_ms rfl ho) i).trans rfl))) (Or.inr ⟨rfl, by unfold mayP; omega⟩)
          · refine qm_Rp.go 1 (c' := (34, [.ref 118, .int 1], [.int 0], (h.1, I10, h.2.2.1, h.2.2.2))) rfl ?_
            refine qm_Rp.rt (v := (some (.int 0))) (h' := (h.1, I10, h.2.2.1, h.2.2.2)) rfl ?_
            exact k (I10) 0 (fun o ho i => ((e_I10 o (hk_ms rfl ho) i).trans rfl)) (Or.inr ⟨rfl, by unfold mayP; omega⟩)
        · refine qm_Rp.go 1 (c' := (34, [.ref 118, .int 0], [.int 0], (h.1, I10, h.2.2.1, h.2.2.2))) rfl ?_
          refine qm_Rp.rt (v := (some (.int 0))) (h' := (h.1, I10, h.2.2.1, h.2.2.2)) rfl ?_
          exact k (I10) 0 (fun o ho i => ((e_I10 o (hk_ms rfl ho) i).trans rfl)) (Or.inr ⟨rfl, by unfold mayP; omega⟩)
    · refine qm_Rp.go 1 (c' := (32, [.ref 118, .int 1], [.int 0], h)) rfl ?_
      refine qm_Rp.rt (v := (some (.int 0))) (h' := h) rfl ?_
      refine qm_Rp.go 8 (c' := (18, [.ref 118, .int 0], [.int 0, .ref 118], h)) rfl ?_
      refine hp_inv (o := 118) (r := []) (as := [.ref 118, .int 0]) rfl rfl (hH.1 118 (17, 105) rfl) rfl rfl rfl ?_
      refine qm_Rp.go 3 (c' := (5, [.ref 118, .int 0], [.ref 118], h)) rfl ?_
      refine hp_inv (o := 118) (r := []) (as := [.ref 118]) rfl rfl (hH.1 118 (17, 105) rfl) rfl rfl rfl (px_lst (h := h) hH eW eH eS q_n hn hw hs (fun r27 e_r27 => ?_))
      have b_r27 := zL_in (w := w) (wh := wh) (sp := sp) hw (show n.toInt.toNat ≤ 30 by omega)
      rw [← e_r27] at b_r27
      refine qm_Rp.go 1 (c' := (27, [.ref 118, .int 0], [.int r27], h)) rfl ?_
      refine qm_Rp.rt (v := (some (.int r27))) (h' := h) rfl ?_
      refine qm_Rp.go 0 (c' := (21, [.ref 118, .int 0], [.int r27], h)) rfl ?_
      refine qm_Rp.call (j := 294) (as := [.int r27]) (c' := (24, [.ref 118, .int 0], [], h)) rfl rfl (px_bare (by omega) (fun a28 e_a28 => ?_))
      have b_a28 := ab_in (z := r27.toInt) (m := 3600) (by omega) (by omega)
      rw [e_r27] at e_a28
      rw [e_r27] at b_a28
      refine qm_Rp.go 1 (c' := (25, [.ref 118, .int 0], [.ref 118, .int a28], h)) rfl ?_
      refine hp_getr rfl (hH.1 118 (17, 105) rfl) rfl (hH.2 118 56 (some 156) rfl) ?_
      refine qm_Rp.go 1 (c' := (29, [.ref 118, .int 0], [.int 0, .ref 156, .int a28], h)) rfl ?_
      refine hp_ial (v := p0) rfl (hH.1 156 (0, 3) rfl) q_p0 (fun ia_28 ib_28 => ?_)
      refine qm_Rp.go 0 (c' := (30, [.ref 118, .int 0], [.int p0, .int a28], h)) rfl ?_
      refine hp_cle (ix := a28.toInt) (iy := p0.toInt) rfl rfl rfl (fun z30 => ?_) (fun z30 => ?_)
      · refine qm_Rp.go 7 (c' := (18, [.ref 118, .int 1], [.int 1, .ref 118], h)) rfl ?_
        refine hp_inv (o := 118) (r := []) (as := [.ref 118, .int 1]) rfl rfl (hH.1 118 (17, 105) rfl) rfl rfl rfl ?_
        refine qm_Rp.go 6 (c' := (17, [.ref 118, .int 1], [.ref 118], h)) rfl ?_
        refine hp_inv (o := 118) (r := []) (as := [.ref 118]) rfl rfl (hH.1 118 (17, 105) rfl) rfl rfl rfl (px_trm (h := h) hH eW eH eS q_n hn hw hs (lv := 1) q_lv ⟨by decide, by decide⟩ q_B hB (fun r31 e_r31 => ?_))
        have b_r31 := zT_in (B := B.toInt) (w := w) (wh := wh) (sp := sp) (by omega) hw hs (show n.toInt.toNat ≤ 30 by omega)
        rw [← e_r31] at b_r31
        refine qm_Rp.go 1 (c' := (27, [.ref 118, .int 1], [.int r31], h)) rfl ?_
        refine qm_Rp.rt (v := (some (.int r31))) (h' := h) rfl ?_
        refine qm_Rp.go 0 (c' := (21, [.ref 118, .int 1], [.int r31], h)) rfl ?_
        refine qm_Rp.call (j := 294) (as := [.int r31]) (c' := (24, [.ref 118, .int 1], [], h)) rfl rfl (px_bare (by omega) (fun a32 e_a32 => ?_))
        have b_a32 := ab_in (z := r31.toInt) (m := 12000) (by omega) (by omega)
        rw [e_r31] at e_a32
        rw [e_r31] at b_a32
        refine qm_Rp.go 1 (c' := (25, [.ref 118, .int 1], [.ref 118, .int a32], h)) rfl ?_
        refine hp_getr rfl (hH.1 118 (17, 105) rfl) rfl (hH.2 118 56 (some 156) rfl) ?_
        refine qm_Rp.go 1 (c' := (29, [.ref 118, .int 1], [.int 1, .ref 156, .int a32], h)) rfl ?_
        refine hp_ial (v := p1) rfl (hH.1 156 (0, 3) rfl) q_p1 (fun ia_32 ib_32 => ?_)
        refine qm_Rp.go 0 (c' := (30, [.ref 118, .int 1], [.int p1, .int a32], h)) rfl ?_
        refine hp_cle (ix := a32.toInt) (iy := p1.toInt) rfl rfl rfl (fun z34 => ?_) (fun z34 => ?_)
        · refine qm_Rp.go 7 (c' := (18, [.ref 118, .int 2], [.int 2, .ref 118], h)) rfl ?_
          refine hp_inv (o := 118) (r := []) (as := [.ref 118, .int 2]) rfl rfl (hH.1 118 (17, 105) rfl) rfl rfl rfl ?_
          refine qm_Rp.go 6 (c' := (24, [.ref 118, .int 2], [.ref 118], h)) rfl ?_
          refine hp_inv (o := 118) (r := []) (as := [.ref 118]) rfl rfl (hH.1 118 (17, 105) rfl) rfl rfl rfl (px_bnd (h := h) hH eW eH eS q_n hn hw hs (lv := 1) q_lv ⟨by decide, by decide⟩ q_B hB (fun I36 r35 e_I36 e_r35 => ?_))
          have e_I36 : ∀ o, [155].contains o = false → ∀ i, I36 o i = (h.2.1) o i := e_I36
          have b_r35 := zD_in (B := B.toInt) (w := w) (wh := wh) (sp := sp) hB hw (show n.toInt.toNat ≤ 30 by omega)
          rw [← e_r35] at b_r35
          refine qm_Rp.go 0 (c' := (27, [.ref 118, .int 2], [.int r35], (h.1, I36, h.2.2.1, h.2.2.2))) rfl ?_
          refine qm_Rp.rt (v := (some (.int r35))) (h' := (h.1, I36, h.2.2.1, h.2.2.2)) rfl ?_
          refine qm_Rp.go 0 (c' := (21, [.ref 118, .int 2], [.int r35], (h.1, I36, h.2.2.1, h.2.2.2))) rfl ?_
          refine qm_Rp.call (j := 294) (as := [.int r35]) (c' := (24, [.ref 118, .int 2], [], (h.1, I36, h.2.2.1, h.2.2.2))) rfl rfl (px_bare (by omega) (fun a37 e_a37 => ?_))
          have b_a37 := ab_in (z := r35.toInt) (m := 400000) (by omega) (by omega)
          rw [ab_0 (z := r35.toInt) (by omega)] at e_a37
          rw [e_r35] at e_a37
          rw [e_r35] at b_a37
          refine qm_Rp.go 1 (c' := (25, [.ref 118, .int 2], [.ref 118, .int a37], (h.1, I36, h.2.2.1, h.2.2.2))) rfl ?_
          refine hp_getr rfl (hH.1 118 (17, 105) rfl) rfl (hH.2 118 56 (some 156) rfl) ?_
          refine qm_Rp.go 1 (c' := (29, [.ref 118, .int 2], [.int 2, .ref 156, .int a37], (h.1, I36, h.2.2.1, h.2.2.2))) rfl ?_
          refine hp_ial (v := p2) rfl (hH.1 156 (0, 3) rfl) (show (I36) 156 2 = _ from ((e_I36 156 rfl 2).trans q_p2)) (fun ia_37 ib_37 => ?_)
          refine qm_Rp.go 0 (c' := (30, [.ref 118, .int 2], [.int p2, .int a37], (h.1, I36, h.2.2.1, h.2.2.2))) rfl ?_
          refine hp_cle (ix := a37.toInt) (iy := p2.toInt) rfl rfl rfl (fun z39 => ?_) (fun z39 => ?_)
          · refine qm_Rp.go 6 (c' := (42, [.ref 118, .int 3], [.int 1], (h.1, I36, h.2.2.1, h.2.2.2))) rfl ?_
            refine qm_Rp.rt (v := (some (.int 1))) (h' := (h.1, I36, h.2.2.1, h.2.2.2)) rfl ?_
            exact k (I36) 1 (fun o ho i => ((e_I36 o (hk_ms rfl ho) i).trans rfl)) (Or.inl ⟨rfl, by unfold mayP; omega⟩)
          · refine qm_Rp.go 1 (c' := (34, [.ref 118, .int 2], [.int 0], (h.1, I36, h.2.2.1, h.2.2.2))) rfl ?_
            refine qm_Rp.rt (v := (some (.int 0))) (h' := (h.1, I36, h.2.2.1, h.2.2.2)) rfl ?_
            exact k (I36) 0 (fun o ho i => ((e_I36 o (hk_ms rfl ho) i).trans rfl)) (Or.inr ⟨rfl, by unfold mayP; omega⟩)
        · refine qm_Rp.go 1 (c' := (34, [.ref 118, .int 1], [.int 0], h)) rfl ?_
          refine qm_Rp.rt (v := (some (.int 0))) (h' := h) rfl ?_
          exact k (h.2.1) 0 (fun o ho i => rfl) (Or.inr ⟨rfl, by unfold mayP; omega⟩)
      · refine qm_Rp.go 1 (c' := (34, [.ref 118, .int 0], [.int 0], h)) rfl ?_
        refine qm_Rp.rt (v := (some (.int 0))) (h' := h) rfl ?_
        exact k (h.2.1) 0 (fun o ho i => rfl) (Or.inr ⟨rfl, by unfold mayP; omega⟩)
  · refine qm_Rp.go 1 (c' := (32, [.ref 118, .int 0], [.int 0], h)) rfl ?_
    refine qm_Rp.rt (v := (some (.int 0))) (h' := h) rfl ?_
    refine qm_Rp.go 8 (c' := (18, [.ref 118, .int 0], [.int 0, .ref 118], h)) rfl ?_
    refine hp_inv (o := 118) (r := []) (as := [.ref 118, .int 0]) rfl rfl (hH.1 118 (17, 105) rfl) rfl rfl rfl ?_
    refine qm_Rp.go 3 (c' := (5, [.ref 118, .int 0], [.ref 118], h)) rfl ?_
    refine hp_inv (o := 118) (r := []) (as := [.ref 118]) rfl rfl (hH.1 118 (17, 105) rfl) rfl rfl rfl (px_lst (h := h) hH eW eH eS q_n hn hw hs (fun r40 e_r40 => ?_))
    have b_r40 := zL_in (w := w) (wh := wh) (sp := sp) hw (show n.toInt.toNat ≤ 30 by omega)
    rw [← e_r40] at b_r40
    refine qm_Rp.go 1 (c' := (27, [.ref 118, .int 0], [.int r40], h)) rfl ?_
    refine qm_Rp.rt (v := (some (.int r40))) (h' := h) rfl ?_
    refine qm_Rp.go 0 (c' := (21, [.ref 118, .int 0], [.int r40], h)) rfl ?_
    refine qm_Rp.call (j := 294) (as := [.int r40]) (c' := (24, [.ref 118, .int 0], [], h)) rfl rfl (px_bare (by omega) (fun a41 e_a41 => ?_))
    have b_a41 := ab_in (z := r40.toInt) (m := 3600) (by omega) (by omega)
    rw [e_r40] at e_a41
    rw [e_r40] at b_a41
    refine qm_Rp.go 1 (c' := (25, [.ref 118, .int 0], [.ref 118, .int a41], h)) rfl ?_
    refine hp_getr rfl (hH.1 118 (17, 105) rfl) rfl (hH.2 118 56 (some 156) rfl) ?_
    refine qm_Rp.go 1 (c' := (29, [.ref 118, .int 0], [.int 0, .ref 156, .int a41], h)) rfl ?_
    refine hp_ial (v := p0) rfl (hH.1 156 (0, 3) rfl) q_p0 (fun ia_41 ib_41 => ?_)
    refine qm_Rp.go 0 (c' := (30, [.ref 118, .int 0], [.int p0, .int a41], h)) rfl ?_
    refine hp_cle (ix := a41.toInt) (iy := p0.toInt) rfl rfl rfl (fun z43 => ?_) (fun z43 => ?_)
    · refine qm_Rp.go 7 (c' := (18, [.ref 118, .int 1], [.int 1, .ref 118], h)) rfl ?_
      refine hp_inv (o := 118) (r := []) (as := [.ref 118, .int 1]) rfl rfl (hH.1 118 (17, 105) rfl) rfl rfl rfl ?_
      refine qm_Rp.go 6 (c' := (17, [.ref 118, .int 1], [.ref 118], h)) rfl ?_
      refine hp_inv (o := 118) (r := []) (as := [.ref 118]) rfl rfl (hH.1 118 (17, 105) rfl) rfl rfl rfl (px_trm (h := h) hH eW eH eS q_n hn hw hs (lv := 1) q_lv ⟨by decide, by decide⟩ q_B hB (fun r44 e_r44 => ?_))
      have b_r44 := zT_in (B := B.toInt) (w := w) (wh := wh) (sp := sp) (by omega) hw hs (show n.toInt.toNat ≤ 30 by omega)
      rw [← e_r44] at b_r44
      refine qm_Rp.go 1 (c' := (27, [.ref 118, .int 1], [.int r44], h)) rfl ?_
      refine qm_Rp.rt (v := (some (.int r44))) (h' := h) rfl ?_
      refine qm_Rp.go 0 (c' := (21, [.ref 118, .int 1], [.int r44], h)) rfl ?_
      refine qm_Rp.call (j := 294) (as := [.int r44]) (c' := (24, [.ref 118, .int 1], [], h)) rfl rfl (px_bare (by omega) (fun a45 e_a45 => ?_))
      have b_a45 := ab_in (z := r44.toInt) (m := 12000) (by omega) (by omega)
      rw [e_r44] at e_a45
      rw [e_r44] at b_a45
      refine qm_Rp.go 1 (c' := (25, [.ref 118, .int 1], [.ref 118, .int a45], h)) rfl ?_
      refine hp_getr rfl (hH.1 118 (17, 105) rfl) rfl (hH.2 118 56 (some 156) rfl) ?_
      refine qm_Rp.go 1 (c' := (29, [.ref 118, .int 1], [.int 1, .ref 156, .int a45], h)) rfl ?_
      refine hp_ial (v := p1) rfl (hH.1 156 (0, 3) rfl) q_p1 (fun ia_45 ib_45 => ?_)
      refine qm_Rp.go 0 (c' := (30, [.ref 118, .int 1], [.int p1, .int a45], h)) rfl ?_
      refine hp_cle (ix := a45.toInt) (iy := p1.toInt) rfl rfl rfl (fun z47 => ?_) (fun z47 => ?_)
      · refine qm_Rp.go 7 (c' := (18, [.ref 118, .int 2], [.int 2, .ref 118], h)) rfl ?_
        refine hp_inv (o := 118) (r := []) (as := [.ref 118, .int 2]) rfl rfl (hH.1 118 (17, 105) rfl) rfl rfl rfl ?_
        refine qm_Rp.go 6 (c' := (24, [.ref 118, .int 2], [.ref 118], h)) rfl ?_
        refine hp_inv (o := 118) (r := []) (as := [.ref 118]) rfl rfl (hH.1 118 (17, 105) rfl) rfl rfl rfl (px_bnd (h := h) hH eW eH eS q_n hn hw hs (lv := 1) q_lv ⟨by decide, by decide⟩ q_B hB (fun I49 r48 e_I49 e_r48 => ?_))
        have e_I49 : ∀ o, [155].contains o = false → ∀ i, I49 o i = (h.2.1) o i := e_I49
        have b_r48 := zD_in (B := B.toInt) (w := w) (wh := wh) (sp := sp) hB hw (show n.toInt.toNat ≤ 30 by omega)
        rw [← e_r48] at b_r48
        refine qm_Rp.go 0 (c' := (27, [.ref 118, .int 2], [.int r48], (h.1, I49, h.2.2.1, h.2.2.2))) rfl ?_
        refine qm_Rp.rt (v := (some (.int r48))) (h' := (h.1, I49, h.2.2.1, h.2.2.2)) rfl ?_
        refine qm_Rp.go 0 (c' := (21, [.ref 118, .int 2], [.int r48], (h.1, I49, h.2.2.1, h.2.2.2))) rfl ?_
        refine qm_Rp.call (j := 294) (as := [.int r48]) (c' := (24, [.ref 118, .int 2], [], (h.1, I49, h.2.2.1, h.2.2.2))) rfl rfl (px_bare (by omega) (fun a50 e_a50 => ?_))
        have b_a50 := ab_in (z := r48.toInt) (m := 400000) (by omega) (by omega)
        rw [ab_0 (z := r48.toInt) (by omega)] at e_a50
        rw [e_r48] at e_a50
        rw [e_r48] at b_a50
        refine qm_Rp.go 1 (c' := (25, [.ref 118, .int 2], [.ref 118, .int a50], (h.1, I49, h.2.2.1, h.2.2.2))) rfl ?_
        refine hp_getr rfl (hH.1 118 (17, 105) rfl) rfl (hH.2 118 56 (some 156) rfl) ?_
        refine qm_Rp.go 1 (c' := (29, [.ref 118, .int 2], [.int 2, .ref 156, .int a50], (h.1, I49, h.2.2.1, h.2.2.2))) rfl ?_
        refine hp_ial (v := p2) rfl (hH.1 156 (0, 3) rfl) (show (I49) 156 2 = _ from ((e_I49 156 rfl 2).trans q_p2)) (fun ia_50 ib_50 => ?_)
        refine qm_Rp.go 0 (c' := (30, [.ref 118, .int 2], [.int p2, .int a50], (h.1, I49, h.2.2.1, h.2.2.2))) rfl ?_
        refine hp_cle (ix := a50.toInt) (iy := p2.toInt) rfl rfl rfl (fun z52 => ?_) (fun z52 => ?_)
        · refine qm_Rp.go 6 (c' := (42, [.ref 118, .int 3], [.int 1], (h.1, I49, h.2.2.1, h.2.2.2))) rfl ?_
          refine qm_Rp.rt (v := (some (.int 1))) (h' := (h.1, I49, h.2.2.1, h.2.2.2)) rfl ?_
          exact k (I49) 1 (fun o ho i => ((e_I49 o (hk_ms rfl ho) i).trans rfl)) (Or.inl ⟨rfl, by unfold mayP; omega⟩)
        · refine qm_Rp.go 1 (c' := (34, [.ref 118, .int 2], [.int 0], (h.1, I49, h.2.2.1, h.2.2.2))) rfl ?_
          refine qm_Rp.rt (v := (some (.int 0))) (h' := (h.1, I49, h.2.2.1, h.2.2.2)) rfl ?_
          exact k (I49) 0 (fun o ho i => ((e_I49 o (hk_ms rfl ho) i).trans rfl)) (Or.inr ⟨rfl, by unfold mayP; omega⟩)
      · refine qm_Rp.go 1 (c' := (34, [.ref 118, .int 1], [.int 0], h)) rfl ?_
        refine qm_Rp.rt (v := (some (.int 0))) (h' := h) rfl ?_
        exact k (h.2.1) 0 (fun o ho i => rfl) (Or.inr ⟨rfl, by unfold mayP; omega⟩)
    · refine qm_Rp.go 1 (c' := (34, [.ref 118, .int 0], [.int 0], h)) rfl ?_
      refine qm_Rp.rt (v := (some (.int 0))) (h' := h) rfl ?_
      exact k (h.2.1) 0 (fun o ho i => rfl) (Or.inr ⟨rfl, by unfold mayP; omega⟩)
/-- the lowest place at hand of a row -/
noncomputable def lowV (cv bay : Int32) (x : Int) : Int := 16 * bay.toInt + 4 * x + (if ((cv >>> (bay &&& 31)) &&& 1).toInt = 1 then 2 else 0)
/-- where the next box comes, or -1 -/
noncomputable def frV (cv bay : Int32) (x : Int) (c : Nat → Int) : Int := if c (lowV cv bay x).toNat = -1 then lowV cv bay x else if c (lowV cv bay x + 1).toNat = -1 then lowV cv bay x + 1 else -1
theorem fr_1 {cv bay : Int32} {x k : Int} {c : Nat → Int} (hl : lowV cv bay x = k) (h : c k.toNat = -1) : frV cv bay x c = k := by
  unfold frV
  rw [hl, if_pos h]
theorem fr_2 {cv bay : Int32} {x k : Int} {c : Nat → Int} (hl : lowV cv bay x = k) (h : ¬ c k.toNat = -1) (h2 : c (k + 1).toNat = -1) : frV cv bay x c = k + 1 := by
  unfold frV
  rw [hl, if_neg h, if_pos h2]
theorem fr_3 {cv bay : Int32} {x k : Int} {c : Nat → Int} (hl : lowV cv bay x = k) (h : ¬ c k.toNat = -1) (h2 : ¬ c (k + 1).toNat = -1) : frV cv bay x c = -1 := by
  unfold frV
  rw [hl, if_neg h, if_neg h2]
theorem low_1 {cv bay a v : Int32} {x k : Int} (q : cv >>> (bay &&& 31) = a) (q2 : a &&& 1 = v) (h : v.toInt = 1) (hk : k = 16 * bay.toInt + 4 * x + 2) : lowV cv bay x = k := by
  unfold lowV
  rw [q, q2, if_pos h]
  exact hk.symm
theorem low_0 {cv bay a v : Int32} {x k : Int} (q : cv >>> (bay &&& 31) = a) (q2 : a &&& 1 = v) (h : ¬ v.toInt = 1) (hk : k = 16 * bay.toInt + 4 * x) : lowV cv bay x = k := by
  unfold lowV
  rw [q, q2, if_neg h]
  omega
noncomputable def okb (p : Prop) : Bool := @decide p (Classical.propDecidable p)
theorem okb_t {p : Prop} (h : p) : okb p = true := @decide_eq_true p (Classical.propDecidable p) h
theorem okb_f {p : Prop} (h : ¬ p) : okb p = false := @decide_eq_false p (Classical.propDecidable p) h
theorem okb_iff {p : Prop} : okb p = true ↔ p := ⟨fun h => @of_decide_eq_true p (Classical.propDecidable p) h, okb_t⟩
theorem fu_fu2 {f : Nat → Int} {k : Nat} {u v : Int} : fu_up (fu_up f k u) k v = fu_up f k v := funext fun i => by
  by_cases e : i = k
  · subst e
    rw [fu_eq, fu_eq]
  · rw [fu_ne e, fu_ne e, fu_ne e]
theorem fu_si {f : Nat → Int} {k : Nat} {v : Int} (h : f k = v) : fu_up f k v = f := by
  subst h
  exact fu_id
theorem fu_ba {f : Nat → Int} {k : Nat} {u v : Int} (h : f k = v) : fu_up (fu_up f k u) k v = f := by
  subst h
  rw [fu_fu2, fu_id]
theorem px_fra {X : Option (Nat × (Nat → Int32))} {Z : Option Value → qm_H → Prop} {h : qm_H} {fu : Nat} (hH : hk_H h) {y x cv : Int32} (hy : 0 ≤ y.toInt ∧ y.toInt ≤ 4) (hx : 0 ≤ x.toInt ∧ x.toInt ≤ 3) (q_cv : h.2.1 118 54 = cv) (k : ∀ r : Int32, r.toInt = frV cv y x.toInt (pI h.2.1 152) → (r.toInt = -1 ∨ (0 ≤ r.toInt ∧ r.toInt ≤ 79 ∧ pI h.2.1 152 r.toInt.toNat = -1)) → Z (some (.int r)) h) : qm_Rp fu X cd_286 (qm_ent 4 [.ref 118, .int y, .int x] h) Z := by
  refine qm_Rp.go 0 (c' := (0, [.ref 118, .int y, .int x, .float 0], [], h)) rfl ?_
  have kz0 : (0 : Int32).toInt = 0 := rfl
  have kz1 : (1 : Int32).toInt = 1 := rfl
  have kz2 : (2 : Int32).toInt = 2 := rfl
  have kz3 : (3 : Int32).toInt = 3 := rfl
  have kz4 : (4 : Int32).toInt = 4 := rfl
  have kz5 : (5 : Int32).toInt = 5 := rfl
  have kz6 : (6 : Int32).toInt = 6 := rfl
  have kz7 : (7 : Int32).toInt = 7 := rfl
  have kz8 : (8 : Int32).toInt = 8 := rfl
  have kz9 : (9 : Int32).toInt = 9 := rfl
  have kzm1 : ((-1) : Int32).toInt = (-1) := rfl
  have kzm2 : ((-2) : Int32).toInt = (-2) := rfl
  have kzm3 : ((-3) : Int32).toInt = (-3) := rfl
  refine qm_Rp.go 3 (c' := (4, [.ref 118, .int y, .int x, .float 0], [.int (16 * y)], h)) rfl ?_
  obtain ⟨v1, q_v1, e_v1⟩ := hk_mul (x := 16) (y := y) (a := 16) (b := y.toInt) rfl rfl (by omega) (by omega)
  rw [q_v1]
  refine qm_Rp.go 3 (c' := (7, [.ref 118, .int y, .int x, .float 0], [.int (4 * x), .int v1], h)) rfl ?_
  obtain ⟨v2, q_v2, e_v2⟩ := hk_mul (x := 4) (y := x) (a := 4) (b := x.toInt) rfl rfl (by omega) (by omega)
  rw [q_v2]
  refine qm_Rp.go 1 (c' := (8, [.ref 118, .int y, .int x, .float 0], [.int (v1 + v2)], h)) rfl ?_
  obtain ⟨v3, q_v3, e_v3⟩ := hk_add (x := v1) (y := v2) (a := v1.toInt) (b := v2.toInt) rfl rfl (by omega) (by omega)
  rw [q_v3]
  refine qm_Rp.go 2 (c' := (10, [.ref 118, .int y, .int x, .float 0], [.int y, .ref 118, .int v3], h)) rfl ?_
  refine hp_inv (o := 118) (r := [.int v3]) (as := [.ref 118, .int y]) rfl rfl (hH.1 118 (17, 105) rfl) rfl rfl rfl ?_
  refine qm_Rp.go 1 (c' := (1, [.ref 118, .int y], [.ref 118], h)) rfl ?_
  refine hp_geti (v := cv) rfl (hH.1 118 (17, 105) rfl) rfl q_cv ?_
  refine qm_Rp.go 2 (c' := (6, [.ref 118, .int y], [.int (cv >>> (y &&& 31))], h)) rfl ?_
  obtain ⟨v4, q_v4⟩ : ∃ v_, (cv >>> (y &&& 31)) = v_ := ⟨_, rfl⟩
  rw [q_v4]
  refine qm_Rp.go 2 (c' := (8, [.ref 118, .int y], [.int (v4 &&& 1)], h)) rfl ?_
  obtain ⟨v5, q_v5⟩ : ∃ v_, (v4 &&& 1) = v_ := ⟨_, rfl⟩
  rw [q_v5]
  refine qm_Rp.go 1 (c' := (9, [.ref 118, .int y], [.int 1, .int v5], h)) rfl ?_
  refine hp_cne (ix := v5.toInt) (iy := 1) rfl rfl rfl (fun z6 => ?_) (fun z6 => ?_)
  · refine qm_Rp.go 1 (c' := (17, [.ref 118, .int y], [.int 0], h)) rfl ?_
    refine qm_Rp.rt (v := (some (.int 0))) (h' := h) rfl ?_
    refine qm_Rp.go 1 (c' := (20, [.ref 118, .int y, .int x, .float 0], [.int v3], h)) rfl ?_
    refine qm_Rp.go 2 (c' := (22, [.ref 118, .int y, .int x, .float 0], [.int (v3 + 0)], h)) rfl ?_
    obtain ⟨v7, q_v7, e_v7⟩ := hk_add (x := v3) (y := 0) (a := v3.toInt) (b := 0) rfl rfl (by omega) (by omega)
    rw [q_v7]
    refine qm_Rp.go 1 (c' := (23, [.ref 118, .int y, .int x, .int v7], [], h)) rfl ?_
    refine qm_Rp.go 1 (c' := (24, [.ref 118, .int y, .int x, .int v7], [.ref 118], h)) rfl ?_
    refine hp_getr rfl (hH.1 118 (17, 105) rfl) rfl (hH.2 118 51 (some 152) rfl) ?_
    refine qm_Rp.go 1 (c' := (28, [.ref 118, .int y, .int x, .int v7], [.int v7, .ref 152], h)) rfl ?_
    obtain ⟨v8, q_v8⟩ : ∃ v_, h.2.1 152 v7.toInt.toNat = v_ := ⟨_, rfl⟩
    refine hp_ial (v := v8) rfl (hH.1 152 (0, 80) rfl) q_v8 (fun ia_8 ib_8 => ?_)
    refine qm_Rp.go 1 (c' := (30, [.ref 118, .int y, .int x, .int v7], [.int (-1), .int v8], h)) rfl ?_
    refine hp_cne (ix := v8.toInt) (iy := (-1)) rfl rfl rfl (fun z10 => ?_) (fun z10 => ?_)
    · refine qm_Rp.go 1 (c' := (38, [.ref 118, .int y, .int x, .int v7], [.ref 118], h)) rfl ?_
      refine hp_getr rfl (hH.1 118 (17, 105) rfl) rfl (hH.2 118 51 (some 152) rfl) ?_
      refine qm_Rp.go 3 (c' := (44, [.ref 118, .int y, .int x, .int v7], [.int (v7 + 1), .ref 152], h)) rfl ?_
      obtain ⟨v11, q_v11, e_v11⟩ := hk_add (x := v7) (y := 1) (a := v7.toInt) (b := 1) rfl rfl (by omega) (by omega)
      rw [q_v11]
      obtain ⟨v12, q_v12⟩ : ∃ v_, h.2.1 152 v11.toInt.toNat = v_ := ⟨_, rfl⟩
      refine hp_ial (v := v12) rfl (hH.1 152 (0, 80) rfl) q_v12 (fun ia_12 ib_12 => ?_)
      refine qm_Rp.go 1 (c' := (46, [.ref 118, .int y, .int x, .int v7], [.int (-1), .int v12], h)) rfl ?_
      refine hp_cne (ix := v12.toInt) (iy := (-1)) rfl rfl rfl (fun z14 => ?_) (fun z14 => ?_)
      · refine qm_Rp.go 1 (c' := (56, [.ref 118, .int y, .int x, .int v7], [.int (-1)], h)) rfl ?_
        refine qm_Rp.rt (v := (some (.int (-1)))) (h' := h) rfl ?_
        exact k (-1) (fr_3 (low_0 (cv := cv) (bay := y) (x := x.toInt) (k := v7.toInt) q_v4 q_v5 (by omega) (by omega)) (by show ¬ (h.2.1 152 v7.toInt.toNat).toInt = -1; rw [q_v8]; omega) (by rw [show (v7.toInt + 1).toNat = v11.toInt.toNat by omega]; show ¬ (h.2.1 152 v11.toInt.toNat).toInt = -1; rw [q_v12]; omega)).symm (Or.inl rfl)
      · refine qm_Rp.go 3 (c' := (52, [.ref 118, .int y, .int x, .int v7], [.int (v7 + 1)], h)) rfl ?_
        rw [q_v11]
        refine qm_Rp.go 1 (c' := (56, [.ref 118, .int y, .int x, .int v7], [.int v11], h)) rfl ?_
        refine qm_Rp.rt (v := (some (.int v11))) (h' := h) rfl ?_
        exact k v11 ((fr_2 (low_0 (cv := cv) (bay := y) (x := x.toInt) (k := v7.toInt) q_v4 q_v5 (by omega) (by omega)) (by show ¬ (h.2.1 152 v7.toInt.toNat).toInt = -1; rw [q_v8]; omega) (by rw [show (v7.toInt + 1).toNat = v11.toInt.toNat by omega]; show (h.2.1 152 v11.toInt.toNat).toInt = -1; rw [q_v12]; omega)).trans (show _ = v11.toInt by omega)).symm (Or.inr ⟨by omega, by omega, by rw [show v11.toInt.toNat = v11.toInt.toNat by omega]; show (h.2.1 152 v11.toInt.toNat).toInt = -1; rw [q_v12]; omega⟩)
    · refine qm_Rp.go 2 (c' := (56, [.ref 118, .int y, .int x, .int v7], [.int v7], h)) rfl ?_
      refine qm_Rp.rt (v := (some (.int v7))) (h' := h) rfl ?_
      exact k v7 (fr_1 (low_0 (cv := cv) (bay := y) (x := x.toInt) (k := v7.toInt) q_v4 q_v5 (by omega) (by omega)) (by show (h.2.1 152 v7.toInt.toNat).toInt = -1; rw [q_v8]; omega)).symm (Or.inr ⟨by omega, by omega, (by show (h.2.1 152 v7.toInt.toNat).toInt = -1; rw [q_v8]; omega)⟩)
  · refine qm_Rp.go 2 (c' := (17, [.ref 118, .int y], [.int 1], h)) rfl ?_
    refine qm_Rp.rt (v := (some (.int 1))) (h' := h) rfl ?_
    refine qm_Rp.go 2 (c' := (17, [.ref 118, .int y, .int x, .float 0], [.int 2, .int v3], h)) rfl ?_
    refine qm_Rp.go 2 (c' := (22, [.ref 118, .int y, .int x, .float 0], [.int (v3 + 2)], h)) rfl ?_
    obtain ⟨v15, q_v15, e_v15⟩ := hk_add (x := v3) (y := 2) (a := v3.toInt) (b := 2) rfl rfl (by omega) (by omega)
    rw [q_v15]
    refine qm_Rp.go 1 (c' := (23, [.ref 118, .int y, .int x, .int v15], [], h)) rfl ?_
    refine qm_Rp.go 1 (c' := (24, [.ref 118, .int y, .int x, .int v15], [.ref 118], h)) rfl ?_
    refine hp_getr rfl (hH.1 118 (17, 105) rfl) rfl (hH.2 118 51 (some 152) rfl) ?_
    refine qm_Rp.go 1 (c' := (28, [.ref 118, .int y, .int x, .int v15], [.int v15, .ref 152], h)) rfl ?_
    obtain ⟨v16, q_v16⟩ : ∃ v_, h.2.1 152 v15.toInt.toNat = v_ := ⟨_, rfl⟩
    refine hp_ial (v := v16) rfl (hH.1 152 (0, 80) rfl) q_v16 (fun ia_16 ib_16 => ?_)
    refine qm_Rp.go 1 (c' := (30, [.ref 118, .int y, .int x, .int v15], [.int (-1), .int v16], h)) rfl ?_
    refine hp_cne (ix := v16.toInt) (iy := (-1)) rfl rfl rfl (fun z18 => ?_) (fun z18 => ?_)
    · refine qm_Rp.go 1 (c' := (38, [.ref 118, .int y, .int x, .int v15], [.ref 118], h)) rfl ?_
      refine hp_getr rfl (hH.1 118 (17, 105) rfl) rfl (hH.2 118 51 (some 152) rfl) ?_
      refine qm_Rp.go 3 (c' := (44, [.ref 118, .int y, .int x, .int v15], [.int (v15 + 1), .ref 152], h)) rfl ?_
      obtain ⟨v19, q_v19, e_v19⟩ := hk_add (x := v15) (y := 1) (a := v15.toInt) (b := 1) rfl rfl (by omega) (by omega)
      rw [q_v19]
      obtain ⟨v20, q_v20⟩ : ∃ v_, h.2.1 152 v19.toInt.toNat = v_ := ⟨_, rfl⟩
      refine hp_ial (v := v20) rfl (hH.1 152 (0, 80) rfl) q_v20 (fun ia_20 ib_20 => ?_)
      refine qm_Rp.go 1 (c' := (46, [.ref 118, .int y, .int x, .int v15], [.int (-1), .int v20], h)) rfl ?_
      refine hp_cne (ix := v20.toInt) (iy := (-1)) rfl rfl rfl (fun z22 => ?_) (fun z22 => ?_)
      · refine qm_Rp.go 1 (c' := (56, [.ref 118, .int y, .int x, .int v15], [.int (-1)], h)) rfl ?_
        refine qm_Rp.rt (v := (some (.int (-1)))) (h' := h) rfl ?_
        exact k (-1) (fr_3 (low_1 (cv := cv) (bay := y) (x := x.toInt) (k := v15.toInt) q_v4 q_v5 (by omega) (by omega)) (by show ¬ (h.2.1 152 v15.toInt.toNat).toInt = -1; rw [q_v16]; omega) (by rw [show (v15.toInt + 1).toNat = v19.toInt.toNat by omega]; show ¬ (h.2.1 152 v19.toInt.toNat).toInt = -1; rw [q_v20]; omega)).symm (Or.inl rfl)
      · refine qm_Rp.go 3 (c' := (52, [.ref 118, .int y, .int x, .int v15], [.int (v15 + 1)], h)) rfl ?_
        rw [q_v19]
        refine qm_Rp.go 1 (c' := (56, [.ref 118, .int y, .int x, .int v15], [.int v19], h)) rfl ?_
        refine qm_Rp.rt (v := (some (.int v19))) (h' := h) rfl ?_
        exact k v19 ((fr_2 (low_1 (cv := cv) (bay := y) (x := x.toInt) (k := v15.toInt) q_v4 q_v5 (by omega) (by omega)) (by show ¬ (h.2.1 152 v15.toInt.toNat).toInt = -1; rw [q_v16]; omega) (by rw [show (v15.toInt + 1).toNat = v19.toInt.toNat by omega]; show (h.2.1 152 v19.toInt.toNat).toInt = -1; rw [q_v20]; omega)).trans (show _ = v19.toInt by omega)).symm (Or.inr ⟨by omega, by omega, by rw [show v19.toInt.toNat = v19.toInt.toNat by omega]; show (h.2.1 152 v19.toInt.toNat).toInt = -1; rw [q_v20]; omega⟩)
    · refine qm_Rp.go 2 (c' := (56, [.ref 118, .int y, .int x, .int v15], [.int v15], h)) rfl ?_
      refine qm_Rp.rt (v := (some (.int v15))) (h' := h) rfl ?_
      exact k v15 (fr_1 (low_1 (cv := cv) (bay := y) (x := x.toInt) (k := v15.toInt) q_v4 q_v5 (by omega) (by omega)) (by show (h.2.1 152 v15.toInt.toNat).toInt = -1; rw [q_v16]; omega)).symm (Or.inr ⟨by omega, by omega, (by show (h.2.1 152 v15.toInt.toNat).toInt = -1; rw [q_v16]; omega)⟩)
