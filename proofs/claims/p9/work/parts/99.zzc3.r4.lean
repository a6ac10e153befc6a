/-! the reference's tokens, in given runs -/
/-- a kind as the reference numbers it -/
noncomputable def rkd (k : Int) : Int := if k ≤ 24 then 20 + k else if k = 25 then 2 else if k = 26 then 1 else if k = 27 then 4 else if k ≤ 34 then k - 20 else if k ≤ 36 then k - 29 else if k = 37 then 0 else 3
theorem rkd_b {k r : Int} (h : rkd k = r) (hk : 0 ≤ k ∧ k ≤ 38) : (k ≤ 24 → r = 20 + k) ∧ (k = 25 → r = 2) ∧ (k = 26 → r = 1) ∧ (k = 27 → r = 4) ∧ (28 ≤ k ∧ k ≤ 34 → r = k - 20) ∧ (35 ≤ k ∧ k ≤ 36 → r = k - 29) ∧ (k = 37 → r = 0) ∧ (k = 38 → r = 3) := by
  subst h
  unfold rkd
  repeat' split
  all_goals omega
/-- the first c tokens lie in the reference's rows -/
noncomputable def rA (B : Nat → Int32) (n : Nat) (f1 f2 f3 : Nat → Int32) (g : Nat → Int64) (c : Nat) : Prop := ∀ y, y < c → (f1 y).toInt = rkd (tK B n y) ∧ (f2 y).toInt = tS B n y ∧ (tK B n y = 25 → (f3 y).toInt = tV B n y) ∧ (tK B n y = 26 → g y = tM B n y)
theorem rA_s {B : Nat → Int32} {n c c2 : Nat} {f1 f2 f3 h1 h2 h3 : Nat → Int32} {g g2 : Nat → Int64} (h : rA B n f1 f2 f3 g c) (e : ∀ y, y ≠ c → h1 y = f1 y ∧ h2 y = f2 y ∧ h3 y = f3 y ∧ g2 y = g y) (ec : c2 = c + 1) (k1 : (h1 c).toInt = rkd (tK B n c)) (k2 : (h2 c).toInt = tS B n c) (k3 : tK B n c = 25 → (h3 c).toInt = tV B n c) (k4 : tK B n c = 26 → g2 c = tM B n c) : rA B n h1 h2 h3 g2 c2 := by
  subst ec
  intro y hy
  by_cases c1 : y = c
  · subst c1
    exact ⟨k1, k2, k3, k4⟩
  · obtain ⟨e1, e2, e3, e4⟩ := e y c1
    rw [e1, e2, e3, e4]
    exact h y (by omega)
theorem tK_def {B : Nat → Int32} {n c q : Nat} {k : Int} {e : Nat} {v : Int32} {x : Int64} (hq : tS B n c = q) (h : tR B n q = (k, e, v, x)) : tK B n c = k ∧ tP B n (c + 1) = e ∧ tV B n c = v.toInt ∧ tM B n c = x := by
  subst hq
  refine ⟨?_, ?_, ?_, ?_⟩
  · unfold tK
    rw [h]
  · show (tR B n (tS B n c)).2.1 = e
    rw [h]
  · unfold tV
    rw [h]
  · unfold tM
    rw [h]
theorem sgK_0 {x : Int} (h : x ≠ 59 ∧ x ≠ 43 ∧ x ≠ 45 ∧ x ≠ 42 ∧ x ≠ 40 ∧ x ≠ 41 ∧ x ≠ 60) : sgK x false = 38 := by
  unfold sgK
  rw [if_neg h.1, if_neg h.2.1, if_neg h.2.2.1, if_neg h.2.2.2.1, if_neg h.2.2.2.2.1, if_neg h.2.2.2.2.2.1, if_neg Bool.false_ne_true, if_neg Bool.false_ne_true]
  by_cases c : x = 61
  · rw [if_pos c]
  · rw [if_neg c]
    by_cases c2 : x = 33
    · rw [if_pos c2]
    · rw [if_neg c2, if_neg h.2.2.2.2.2.2]
theorem sgK_1 {x : Int} {w : Bool} (h : x ≠ 59 ∧ x ≠ 43 ∧ x ≠ 45 ∧ x ≠ 42 ∧ x ≠ 40 ∧ x ≠ 41 ∧ x ≠ 60 ∧ x ≠ 61 ∧ x ≠ 33) : sgK x w = 38 := by
  unfold sgK
  rw [if_neg h.1, if_neg h.2.1, if_neg h.2.2.1, if_neg h.2.2.2.1, if_neg h.2.2.2.2.1, if_neg h.2.2.2.2.2.1, if_neg h.2.2.2.2.2.2.2.1, if_neg h.2.2.2.2.2.2.2.2, if_neg h.2.2.2.2.2.2.1]
theorem kw_in : ∀ y : Nat, y < 25 → kw (kwL.getD y 0) = (y : Int) := by decide +kernel
theorem kwf_out : ∀ (l : List Int64) (i : Int) (x : Int64), (∀ y : Nat, y < l.length → x ≠ l.getD y 0) → kwf l i x = 26
  | [], _, _, _ => rfl
  | k :: r, i, x, h => by
    have h0 := h 0 (Nat.zero_lt_succ _)
    rw [kw_go (by simpa using h0)]
    refine kwf_out r (i + 1) x (fun y hy => ?_)
    have := h (y + 1) (by rw [List.length_cons]; omega)
    simpa using this
theorem kw_out {x : Int64} (h : ∀ y : Nat, y < 25 → x ≠ kwL.getD y 0) : kw x = 26 := kwf_out kwL 0 x h
/-- a name of eight letters is no word -/
theorem w8_s {v : Int64} {b : Int32} (hb : tL b) (hv : 0 ≤ v.toInt ∧ v.toInt < 10460353203) : (v * 27 + Int32.toInt64 (b - 97 + 1)).toInt = v.toInt * 27 + (b.toInt - 96) := by
  have e1 : (b - 97 + 1).toInt = b.toInt - 96 := by
    rw [Int32.toInt_add, Int32.toInt_sub, show (97 : Int32).toInt = 97 from rfl, show (1 : Int32).toInt = 1 from rfl, hk_bm (z := b.toInt - 97) (by omega) (by omega), hk_bm (by omega) (by omega)]
    omega
  rw [Int64.toInt_add, Int64.toInt_mul, Int32.toInt_toInt64, e1, show (27 : Int64).toInt = 27 from rfl, Int.bmod_def, Int.bmod_def]
  omega
noncomputable def w8 : Nat → Int
  | 0 => 0
  | 1 => 1
  | 2 => 27
  | 3 => 729
  | 4 => 19683
  | 5 => 531441
  | 6 => 14348907
  | 7 => 387420489
  | _ => 10460353203
theorem wl_8 {B : Nat → Int32} {n : Nat} : ∀ f p c v, (c < 8 → w8 c ≤ v.toInt ∧ v.toInt < w8 (c + 1)) → (8 ≤ c → 10460353203 ≤ v.toInt) → p + 8 ≤ (wl B n f p c v).1 + c → 10460353203 ≤ (wl B n f p c v).2.toInt
  | 0, p, c, v, h1, h2, h3 => h2 (by have h3 : p + 8 ≤ p + c := h3; omega)
  | f + 1, p, c, v, h1, h2, h3 => by
    have e : wl B n (f + 1) p c v = if p < n ∧ tL (B p) then wl B n f (p + 1) (c + 1) (if c < 8 then v * 27 + Int32.toInt64 (B p - 97 + 1) else v) else (p, v) := rfl
    rw [e] at h3 ⊢
    by_cases c1 : p < n ∧ tL (B p)
    · rw [if_pos c1] at h3 ⊢
      refine wl_8 f (p + 1) (c + 1) _ (fun k => ?_) (fun k => ?_) (by omega)
      · have h1 := h1 (by omega)
        have hb := c1.2
        rw [if_pos (by omega)]
        rcases (show c = 0 ∨ c = 1 ∨ c = 2 ∨ c = 3 ∨ c = 4 ∨ c = 5 ∨ c = 6 by omega) with e | e | e | e | e | e | e <;> subst e <;> simp only [w8] at h1 ⊢ <;> rw [w8_s hb (by omega)] <;> omega
      · by_cases k8 : c < 8
        · have e7 : c = 7 := by omega
          subst e7
          have h1 := h1 (by omega)
          have hb := c1.2
          rw [if_pos (by omega)]
          simp only [w8] at h1
          rw [w8_s hb (by omega)]
          omega
        · rw [if_neg k8]
          exact h2 (by omega)
    · rw [if_neg c1] at h3 ⊢
      exact h2 (by have h3 : p + 8 ≤ p + c := h3; omega)
theorem wlp_8 {B : Nat → Int32} {n q : Nat} (h : q + 8 ≤ (wlp B n q 0 0).1) : kw (wlp B n q 0 0).2 = 26 := by
  have h1 : 10460353203 ≤ (wlp B n q 0 0).2.toInt := wl_8 _ _ 0 0 (fun _ => by decide) (fun k => by omega) h
  refine kw_out (fun y hy e => ?_)
  have h2 : ∀ y : Nat, y < 25 → (kwL.getD y 0).toInt < 10460353203 := by decide +kernel
  have := h2 y hy
  rw [e] at h1
  omega
theorem px_byte {X : Option (Nat × (Nat → Int32))} {Z : Option Value → qm_H → Prop} {h : qm_H} {fu : Nat} (hH : hk_H h) (hB : ∀ i, (-128 : Int) ≤ (h.2.1 120 i).toInt ∧ (h.2.1 120 i).toInt ≤ 127) {n i : Int32} (q_n : h.2.1 118 4 = n) (hn : 0 ≤ n.toInt ∧ n.toInt ≤ 2000) (k : ∀ c b : Int32, (h.2.1 120) i.toInt.toNat = b → 0 ≤ i.toInt → (n.toInt ≤ i.toInt → c.toInt = 0) → (i.toInt < n.toInt → (b.toInt < 0 → c.toInt = b.toInt + 256) ∧ (0 ≤ b.toInt → c.toInt = b.toInt)) → Z (some (.int c)) h) : qm_Rp fu X cd_250 (qm_ent 2 [.ref 118, .int i] h) Z := by
  refine qm_Rp.go 0 (c' := (0, [.ref 118, .int i], [], h)) rfl ?_
  have kz0 : (0 : Int32).toInt = 0 := rfl
  have kz1 : (1 : Int32).toInt = 1 := rfl
  have kz2 : (2 : Int32).toInt = 2 := rfl
  have kz3 : (3 : Int32).toInt = 3 := rfl
  have kz4 : (4 : Int32).toInt = 4 := rfl
  have kz5 : (5 : Int32).toInt = 5 := rfl
  have kz6 : (6 : Int32).toInt = 6 := rfl
  have kz7 : (7 : Int32).toInt = 7 := rfl
  have kz8 : (8 : Int32).toInt = 8 := rfl
  have kz9 : (9 : Int32).toInt = 9 := rfl
  have kzm1 : ((-1) : Int32).toInt = (-1) := rfl
  have kzm2 : ((-2) : Int32).toInt = (-2) := rfl
  have kzm3 : ((-3) : Int32).toInt = (-3) := rfl
  refine qm_Rp.go 2 (c' := (2, [.ref 118, .int i], [.ref 118, .int i], h)) rfl ?_
  refine hp_geti (v := n) rfl (hH.1 118 (17, 105) rfl) rfl q_n ?_
  refine qm_Rp.go 0 (c' := (5, [.ref 118, .int i], [.int n, .int i], h)) rfl ?_
  refine hp_cge (ix := i.toInt) (iy := n.toInt) rfl rfl rfl (fun z1 => ?_) (fun z1 => ?_)
  · refine qm_Rp.go 1 (c' := (22, [.ref 118, .int i], [.int 0], h)) rfl ?_
    refine qm_Rp.rt (v := (some (.int 0))) (h' := h) rfl ?_
    exact k 0 _ rfl (by omega) (fun _ => rfl) (fun z => by exfalso; omega)
  · refine qm_Rp.go 1 (c' := (9, [.ref 118, .int i], [.ref 118], h)) rfl ?_
    refine hp_getr rfl (hH.1 118 (17, 105) rfl) rfl (hH.2 118 3 (some 120) rfl) ?_
    refine qm_Rp.go 1 (c' := (13, [.ref 118, .int i], [.int i, .ref 120], h)) rfl ?_
    obtain ⟨v2, q_v2⟩ : ∃ v_, h.2.1 120 i.toInt.toNat = v_ := ⟨_, rfl⟩
    refine hp_bal1 (v := v2) rfl (hH.1 120 (1, 2000) rfl) q_v2 (fun ia_2 ib_2 => ?_)
    refine qm_Rp.go 0 (c' := (14, [.ref 118, .int i], [.int v2], h)) rfl ?_
    have hb_v2 := hB i.toInt.toNat
    rw [q_v2] at hb_v2
    refine qm_Rp.go 2 (c' := (18, [.ref 118, .int i], [.int (v2 &&& 255)], h)) rfl ?_
    obtain ⟨v4, q_v4, e_v4⟩ := hp_255 (x := v2) (by omega)
    rw [q_v4]
    refine qm_Rp.go 1 (c' := (22, [.ref 118, .int i], [.int v4], h)) rfl ?_
    refine qm_Rp.rt (v := (some (.int v4))) (h' := h) rfl ?_
    exact k v4 v2 q_v2 (by omega) (fun z => by exfalso; omega) (fun _ => e_v4)
set_option maxHeartbeats 20000000 in
theorem px_cutw {X : Option (Nat × (Nat → Int32))} {Z : Option Value → qm_H → Prop} {h : qm_H} (hH : hk_H h) (hB : ∀ i, (-128 : Int) ≤ (h.2.1 120 i).toInt ∧ (h.2.1 120 i).toInt ≤ 127) {n : Int32} (q_n : h.2.1 118 4 = n) (hn : 0 ≤ n.toInt ∧ n.toInt ≤ 2000) {q y2 : Int32} {l6 l7 : Value} {W : Nat × Int64} {fu0 : Nat} (hq : 0 ≤ q.toInt ∧ q.toInt ≤ n.toInt) (k : ∀ g, g ≤ fu0 → ∀ (m : Int32) (nm : Int64), 0 ≤ m.toInt → (q.toInt + m.toInt).toNat = W.1 → nm = W.2 → q.toInt + m.toInt ≤ n.toInt → qm_Rp g X cd_249 (124, [.ref 118, .int q, .int y2, .int m, .long nm, .float 0, l6, l7], [], h) Z) : ∀ (fu : Nat) (m : Int32) (nm : Int64), (fu ≤ fu0) → (0 ≤ m.toInt) → (q.toInt + m.toInt ≤ n.toInt) → (wlp (h.2.1 120) n.toInt.toNat (q.toInt + m.toInt).toNat m.toInt.toNat nm = W) → qm_Rp fu X cd_249 (85, [.ref 118, .int q, .int y2, .int m, .long nm, .float 0, l6, l7], [], h) Z := by
  intro fu
  induction fu using Nat.strongRecOn with
  | ind fu ih =>
    intro m nm hfu hm hqm hW
    have kz0 : (0 : Int32).toInt = 0 := rfl
    have kz1 : (1 : Int32).toInt = 1 := rfl
    have kz2 : (2 : Int32).toInt = 2 := rfl
    have kz3 : (3 : Int32).toInt = 3 := rfl
    have kz4 : (4 : Int32).toInt = 4 := rfl
    have kz5 : (5 : Int32).toInt = 5 := rfl
    have kz6 : (6 : Int32).toInt = 6 := rfl
    have kz7 : (7 : Int32).toInt = 7 := rfl
    have kz8 : (8 : Int32).toInt = 8 := rfl
    have kz9 : (9 : Int32).toInt = 9 := rfl
    have kzm1 : ((-1) : Int32).toInt = (-1) := rfl
    have kzm2 : ((-2) : Int32).toInt = (-2) := rfl
    have kzm3 : ((-3) : Int32).toInt = (-3) := rfl
    refine qm_Rp.go1 3 (c' := (89, [.ref 118, .int q, .int y2, .int m, .long nm, .float 0, l6, l7], [.int (q + m), .ref 118], h)) rfl (fun g hg => ?_)
    obtain ⟨v1, q_v1, e_v1⟩ := hk_add (x := q) (y := m) (a := q.toInt) (b := m.toInt) rfl rfl (by omega) (by omega)
    rw [q_v1]
    refine hp_inv (o := 118) (r := []) (as := [.ref 118, .int v1]) rfl rfl (hH.1 118 (17, 105) rfl) rfl rfl rfl (px_byte (h := h) hH (by rw [show h.2.1 120 = h.2.1 120 from (show (h.2.1) 120 = h.2.1 120 from funext fun y => rfl)]; exact hB) (n := n) q_n hn (fun c2 b3 q_b3 i0_c2 f0_c2 f1_c2 => ?_))
    rw [show h.2.1 120 = h.2.1 120 from (show (h.2.1) 120 = h.2.1 120 from funext fun y => rfl)] at q_b3
    have hb_b3 := hB v1.toInt.toNat
    rw [q_b3] at hb_b3
    have r_c2 : 0 ≤ c2.toInt ∧ c2.toInt ≤ 255 := by omega
    refine qm_Rp.go 0 (c' := (92, [.ref 118, .int q, .int y2, .int m, .long nm, .float 0, l6, l7], [.int c2], h)) rfl ?_
    refine qm_Rp.call (j := 252) (as := [.int c2]) (c' := (95, [.ref 118, .int q, .int y2, .int m, .long nm, .float 0, l6, l7], [], h)) rfl rfl ?_
    refine qm_Rp.go 2 (c' := (3, [.int c2], [.int 97, .int c2], h)) rfl ?_
    refine hp_clt (ix := c2.toInt) (iy := 97) rfl rfl rfl (fun z4 => ?_) (fun z4 => ?_)
    · refine qm_Rp.go 1 (c' := (17, [.int c2], [.int 0], h)) rfl ?_
      refine qm_Rp.rt (v := (some (.int 0))) (h' := h) rfl ?_
      refine qm_Rp.go 1 (c' := (124, [.ref 118, .int q, .int y2, .int m, .long nm, .float 0, l6, l7], [], h)) rfl ?_
      have hw9 : W = ((q.toInt + m.toInt).toNat, nm) := by
        rw [← hW]
        by_cases c9 : n.toInt ≤ q.toInt + m.toInt
        · exact wlp_e (by omega)
        · exact wlp_b (b := b3) (by rw [show (q.toInt + m.toInt).toNat = v1.toInt.toNat by omega]; exact q_b3) (by have := f1_c2 (by omega); omega)
      exact k g (by omega) m nm (by omega) (by rw [hw9]) (by rw [hw9]) (by omega)
    · refine qm_Rp.go 2 (c' := (9, [.int c2], [.int 122, .int c2], h)) rfl ?_
      refine hp_cgt (ix := c2.toInt) (iy := 122) rfl rfl rfl (fun z5 => ?_) (fun z5 => ?_)
      · refine qm_Rp.go 1 (c' := (17, [.int c2], [.int 0], h)) rfl ?_
        refine qm_Rp.rt (v := (some (.int 0))) (h' := h) rfl ?_
        refine qm_Rp.go 1 (c' := (124, [.ref 118, .int q, .int y2, .int m, .long nm, .float 0, l6, l7], [], h)) rfl ?_
        have hw9 : W = ((q.toInt + m.toInt).toNat, nm) := by
          rw [← hW]
          by_cases c9 : n.toInt ≤ q.toInt + m.toInt
          · exact wlp_e (by omega)
          · exact wlp_b (b := b3) (by rw [show (q.toInt + m.toInt).toNat = v1.toInt.toNat by omega]; exact q_b3) (by have := f1_c2 (by omega); omega)
        exact k g (by omega) m nm (by omega) (by rw [hw9]) (by rw [hw9]) (by omega)
      · refine qm_Rp.go 2 (c' := (17, [.int c2], [.int 1], h)) rfl ?_
        refine qm_Rp.rt (v := (some (.int 1))) (h' := h) rfl ?_
        refine qm_Rp.go 3 (c' := (101, [.ref 118, .int q, .int y2, .int m, .long nm, .float 0, l6, l7], [.int 8, .int m], h)) rfl ?_
        refine hp_cge (ix := m.toInt) (iy := 8) rfl rfl rfl (fun z6 => ?_) (fun z6 => ?_)
        · refine qm_Rp.go 1 (c' := (121, [.ref 118, .int q, .int y2, .int (m + 1), .long nm, .float 0, l6, l7], [], h)) rfl ?_
          obtain ⟨v7, q_v7, e_v7⟩ := hk_add (x := m) (y := 1) (a := m.toInt) (b := 1) rfl rfl (by omega) (by omega)
          rw [q_v7]
          refine qm_Rp.go 1 (c' := (85, [.ref 118, .int q, .int y2, .int v7, .long nm, .float 0, l6, l7], [], h)) rfl ?_
          have hlt : q.toInt + m.toInt < n.toInt := by
            have := f0_c2
            omega
          exact ih g (by omega) v7 nm (by omega) (by omega) (by omega) ((wlp_z (b := b3) (by omega) (show h.2.1 120 (q.toInt + m.toInt).toNat = b3 by rw [show (q.toInt + m.toInt).toNat = v1.toInt.toNat by omega]; exact q_b3) (by have := f1_c2 (by omega); omega) (by omega) (by omega) (by omega)).symm.trans hW)
        · refine qm_Rp.go 5 (c' := (110, [.ref 118, .int q, .int y2, .int m, .long nm, .float 0, l6, l7], [.int (q + m), .ref 118, .long nm], h)) rfl ?_
          rw [q_v1]
          refine hp_inv (o := 118) (r := [.long nm]) (as := [.ref 118, .int v1]) rfl rfl (hH.1 118 (17, 105) rfl) rfl rfl rfl (px_byte (h := h) hH (by rw [show h.2.1 120 = h.2.1 120 from (show (h.2.1) 120 = h.2.1 120 from funext fun y => rfl)]; exact hB) (n := n) q_n hn (fun c8 b9 q_b9 i0_c8 f0_c8 f1_c8 => ?_))
          rw [show h.2.1 120 = h.2.1 120 from (show (h.2.1) 120 = h.2.1 120 from funext fun y => rfl)] at q_b9
          have hb_b9 := hB v1.toInt.toNat
          rw [q_b9] at hb_b9
          have r_c8 : 0 ≤ c8.toInt ∧ c8.toInt ≤ 255 := by omega
          refine qm_Rp.go 0 (c' := (113, [.ref 118, .int q, .int y2, .int m, .long nm, .float 0, l6, l7], [.int c8, .long nm], h)) rfl ?_
          have eb : b9 = b3 := by rw [← q_b9, ← q_b3]
          have ez : c8 = b9 := hk_eqi.mpr (by have h1 := f1_c8 (by omega); have h2 := f1_c2 (by omega); have h3 := congrArg Int32.toInt eb; omega)
          have er : 97 ≤ c8.toInt ∧ c8.toInt ≤ 122 := by have h2 := f1_c2 (by omega); have h3 := congrArg Int32.toInt (ez.trans eb); omega
          refine qm_Rp.call (j := 244) (as := [.long nm, .int c8]) (c' := (116, [.ref 118, .int q, .int y2, .int m, .long nm, .float 0, l6, l7], [], h)) rfl rfl ?_
          refine qm_Rp.go 1 (c' := (1, [.long nm, .float 0, .int c8], [.int c8], h)) rfl ?_
          refine hp_zne (ix := c8.toInt) rfl rfl (fun z10 => ?_) (fun z10 => by exfalso; omega)
          refine qm_Rp.go 3 (c' := (13, [.long nm, .float 0, .int c8], [.long ((27 : Int64) * nm)], h)) rfl ?_
          obtain ⟨w11, q_w11⟩ : ∃ v_, ((27 : Int64) * nm) = v_ := ⟨_, rfl⟩
          rw [q_w11]
          refine qm_Rp.go 3 (c' := (17, [.long nm, .float 0, .int c8], [.int (c8 - 97), .long w11], h)) rfl ?_
          obtain ⟨v12, q_v12, e_v12⟩ := hk_sub (x := c8) (y := 97) (a := c8.toInt) (b := 97) rfl rfl (by omega) (by omega)
          rw [q_v12]
          refine qm_Rp.go 2 (c' := (19, [.long nm, .float 0, .int c8], [.int (v12 + 1), .long w11], h)) rfl ?_
          obtain ⟨v13, q_v13, e_v13⟩ := hk_add (x := v12) (y := 1) (a := v12.toInt) (b := 1) rfl rfl (by omega) (by omega)
          rw [q_v13]
          refine qm_Rp.go 1 (c' := (20, [.long nm, .float 0, .int c8], [.long (Int32.toInt64 v13), .long w11], h)) rfl ?_
          obtain ⟨w14, q_w14⟩ : ∃ v_, (Int32.toInt64 v13) = v_ := ⟨_, rfl⟩
          rw [q_w14]
          refine qm_Rp.go 1 (c' := (21, [.long nm, .float 0, .int c8], [.long (w11 + w14)], h)) rfl ?_
          obtain ⟨w15, q_w15⟩ : ∃ v_, (w11 + w14) = v_ := ⟨_, rfl⟩
          rw [q_w15]
          refine qm_Rp.rt (v := (some (.long w15))) (h' := h) rfl ?_
          refine qm_Rp.go 2 (c' := (121, [.ref 118, .int q, .int y2, .int (m + 1), .long w15, .float 0, l6, l7], [], h)) rfl ?_
          obtain ⟨v16, q_v16, e_v16⟩ := hk_add (x := m) (y := 1) (a := m.toInt) (b := 1) rfl rfl (by omega) (by omega)
          rw [q_v16]
          refine qm_Rp.go 1 (c' := (85, [.ref 118, .int q, .int y2, .int v16, .long w15, .float 0, l6, l7], [], h)) rfl ?_
          have hlt : q.toInt + m.toInt < n.toInt := by
            have := f0_c2
            omega
          exact ih g (by omega) v16 w15 (by omega) (by omega) (by omega) ((wlp_y (b := b3) (by omega) (show h.2.1 120 (q.toInt + m.toInt).toNat = b3 by rw [show (q.toInt + m.toInt).toNat = v1.toInt.toNat by omega]; exact q_b3) (by have := f1_c2 (by omega); omega) (by omega) (by rw [← eb, ← ez, Int64.mul_comm, q_w11, q_v12, q_v13, q_w14, q_w15]) (by omega) (by omega)).symm.trans hW)
set_option maxHeartbeats 20000000 in
theorem px_cuti {X : Option (Nat × (Nat → Int32))} {Z : Option Value → qm_H → Prop} {h : qm_H} (hH : hk_H h) (hB : ∀ i, (-128 : Int) ≤ (h.2.1 120 i).toInt ∧ (h.2.1 120 i).toInt ≤ 127) {n : Int32} (q_n : h.2.1 118 4 = n) (hn : 0 ≤ n.toInt ∧ n.toInt ≤ 2000) {q y2 : Int32} {l5 l6 l7 : Value} {W : Nat × Int32} {fu0 : Nat} (hq : 0 ≤ q.toInt ∧ q.toInt ≤ n.toInt) (k : ∀ g, g ≤ fu0 → ∀ (m v : Int32), 0 ≤ m.toInt → (q.toInt + m.toInt).toNat = W.1 → v = W.2 → q.toInt + m.toInt ≤ n.toInt → qm_Rp g X cd_249 (250, [.ref 118, .int q, .int y2, .int m, .int v, l5, l6, l7], [], h) Z) : ∀ (fu : Nat) (m v : Int32), (fu ≤ fu0) → (0 ≤ m.toInt) → (q.toInt + m.toInt ≤ n.toInt) → (dlp (h.2.1 120) n.toInt.toNat (q.toInt + m.toInt).toNat m.toInt.toNat v = W) → qm_Rp fu X cd_249 (208, [.ref 118, .int q, .int y2, .int m, .int v, l5, l6, l7], [], h) Z := by
  intro fu
  induction fu using Nat.strongRecOn with
  | ind fu ih =>
    intro m v hfu hm hqm hW
    have kz0 : (0 : Int32).toInt = 0 := rfl
    have kz1 : (1 : Int32).toInt = 1 := rfl
    have kz2 : (2 : Int32).toInt = 2 := rfl
    have kz3 : (3 : Int32).toInt = 3 := rfl
    have kz4 : (4 : Int32).toInt = 4 := rfl
    have kz5 : (5 : Int32).toInt = 5 := rfl
    have kz6 : (6 : Int32).toInt = 6 := rfl
    have kz7 : (7 : Int32).toInt = 7 := rfl
    have kz8 : (8 : Int32).toInt = 8 := rfl
    have kz9 : (9 : Int32).toInt = 9 := rfl
    have kzm1 : ((-1) : Int32).toInt = (-1) := rfl
    have kzm2 : ((-2) : Int32).toInt = (-2) := rfl
    have kzm3 : ((-3) : Int32).toInt = (-3) := rfl
    refine qm_Rp.go1 3 (c' := (212, [.ref 118, .int q, .int y2, .int m, .int v, l5, l6, l7], [.int (q + m), .ref 118], h)) rfl (fun g hg => ?_)
    obtain ⟨v1, q_v1, e_v1⟩ := hk_add (x := q) (y := m) (a := q.toInt) (b := m.toInt) rfl rfl (by omega) (by omega)
    rw [q_v1]
    refine hp_inv (o := 118) (r := []) (as := [.ref 118, .int v1]) rfl rfl (hH.1 118 (17, 105) rfl) rfl rfl rfl (px_byte (h := h) hH (by rw [show h.2.1 120 = h.2.1 120 from (show (h.2.1) 120 = h.2.1 120 from funext fun y => rfl)]; exact hB) (n := n) q_n hn (fun c2 b3 q_b3 i0_c2 f0_c2 f1_c2 => ?_))
    rw [show h.2.1 120 = h.2.1 120 from (show (h.2.1) 120 = h.2.1 120 from funext fun y => rfl)] at q_b3
    have hb_b3 := hB v1.toInt.toNat
    rw [q_b3] at hb_b3
    have r_c2 : 0 ≤ c2.toInt ∧ c2.toInt ≤ 255 := by omega
    refine qm_Rp.go 0 (c' := (215, [.ref 118, .int q, .int y2, .int m, .int v, l5, l6, l7], [.int c2], h)) rfl ?_
    refine qm_Rp.call (j := 253) (as := [.int c2]) (c' := (218, [.ref 118, .int q, .int y2, .int m, .int v, l5, l6, l7], [], h)) rfl rfl ?_
    refine qm_Rp.go 2 (c' := (3, [.int c2], [.int 48, .int c2], h)) rfl ?_
    refine hp_clt (ix := c2.toInt) (iy := 48) rfl rfl rfl (fun z4 => ?_) (fun z4 => ?_)
    · refine qm_Rp.go 1 (c' := (17, [.int c2], [.int 0], h)) rfl ?_
      refine qm_Rp.rt (v := (some (.int 0))) (h' := h) rfl ?_
      refine qm_Rp.go 1 (c' := (250, [.ref 118, .int q, .int y2, .int m, .int v, l5, l6, l7], [], h)) rfl ?_
      have hw9 : W = ((q.toInt + m.toInt).toNat, v) := by
        rw [← hW]
        by_cases c9 : n.toInt ≤ q.toInt + m.toInt
        · exact dlp_e (by omega)
        · exact dlp_b (b := b3) (by rw [show (q.toInt + m.toInt).toNat = v1.toInt.toNat by omega]; exact q_b3) (by have := f1_c2 (by omega); omega)
      exact k g (by omega) m v (by omega) (by rw [hw9]) (by rw [hw9]) (by omega)
    · refine qm_Rp.go 2 (c' := (9, [.int c2], [.int 57, .int c2], h)) rfl ?_
      refine hp_cgt (ix := c2.toInt) (iy := 57) rfl rfl rfl (fun z5 => ?_) (fun z5 => ?_)
      · refine qm_Rp.go 1 (c' := (17, [.int c2], [.int 0], h)) rfl ?_
        refine qm_Rp.rt (v := (some (.int 0))) (h' := h) rfl ?_
        refine qm_Rp.go 1 (c' := (250, [.ref 118, .int q, .int y2, .int m, .int v, l5, l6, l7], [], h)) rfl ?_
        have hw9 : W = ((q.toInt + m.toInt).toNat, v) := by
          rw [← hW]
          by_cases c9 : n.toInt ≤ q.toInt + m.toInt
          · exact dlp_e (by omega)
          · exact dlp_b (b := b3) (by rw [show (q.toInt + m.toInt).toNat = v1.toInt.toNat by omega]; exact q_b3) (by have := f1_c2 (by omega); omega)
        exact k g (by omega) m v (by omega) (by rw [hw9]) (by rw [hw9]) (by omega)
      · refine qm_Rp.go 2 (c' := (17, [.int c2], [.int 1], h)) rfl ?_
        refine qm_Rp.rt (v := (some (.int 1))) (h' := h) rfl ?_
        refine qm_Rp.go 3 (c' := (223, [.ref 118, .int q, .int y2, .int m, .int v, l5, l6, l7], [.int 4, .int m], h)) rfl ?_
        refine hp_cge (ix := m.toInt) (iy := 4) rfl rfl rfl (fun z6 => ?_) (fun z6 => ?_)
        · refine qm_Rp.go 1 (c' := (247, [.ref 118, .int q, .int y2, .int (m + 1), .int v, l5, l6, l7], [], h)) rfl ?_
          obtain ⟨v7, q_v7, e_v7⟩ := hk_add (x := m) (y := 1) (a := m.toInt) (b := 1) rfl rfl (by omega) (by omega)
          rw [q_v7]
          refine qm_Rp.go 1 (c' := (208, [.ref 118, .int q, .int y2, .int v7, .int v, l5, l6, l7], [], h)) rfl ?_
          have hlt : q.toInt + m.toInt < n.toInt := by
            have := f0_c2
            omega
          exact ih g (by omega) v7 v (by omega) (by omega) (by omega) ((dlp_z (b := b3) (by omega) (show h.2.1 120 (q.toInt + m.toInt).toNat = b3 by rw [show (q.toInt + m.toInt).toNat = v1.toInt.toNat by omega]; exact q_b3) (by have := f1_c2 (by omega); omega) (by omega) (by omega) (by omega)).symm.trans hW)
        · refine qm_Rp.go 3 (c' := (231, [.ref 118, .int q, .int y2, .int m, .int v, l5, l6, l7], [.int (10 * v)], h)) rfl ?_
          obtain ⟨v8, q_v8⟩ : ∃ v_, (10 * v) = v_ := ⟨_, rfl⟩
          rw [q_v8]
          refine qm_Rp.go 4 (c' := (235, [.ref 118, .int q, .int y2, .int m, .int v, l5, l6, l7], [.int (q + m), .ref 118, .int v8], h)) rfl ?_
          rw [q_v1]
          refine hp_inv (o := 118) (r := [.int v8]) (as := [.ref 118, .int v1]) rfl rfl (hH.1 118 (17, 105) rfl) rfl rfl rfl (px_byte (h := h) hH (by rw [show h.2.1 120 = h.2.1 120 from (show (h.2.1) 120 = h.2.1 120 from funext fun y => rfl)]; exact hB) (n := n) q_n hn (fun c9 b10 q_b10 i0_c9 f0_c9 f1_c9 => ?_))
          rw [show h.2.1 120 = h.2.1 120 from (show (h.2.1) 120 = h.2.1 120 from funext fun y => rfl)] at q_b10
          have hb_b10 := hB v1.toInt.toNat
          rw [q_b10] at hb_b10
          have r_c9 : 0 ≤ c9.toInt ∧ c9.toInt ≤ 255 := by omega
          refine qm_Rp.go 0 (c' := (238, [.ref 118, .int q, .int y2, .int m, .int v, l5, l6, l7], [.int c9, .int v8], h)) rfl ?_
          have eb : b10 = b3 := by rw [← q_b10, ← q_b3]
          have ez : c9 = b10 := hk_eqi.mpr (by have h1 := f1_c9 (by omega); have h2 := f1_c2 (by omega); have h3 := congrArg Int32.toInt eb; omega)
          have er : 48 ≤ c9.toInt ∧ c9.toInt ≤ 57 := by have h2 := f1_c2 (by omega); have h3 := congrArg Int32.toInt (ez.trans eb); omega
          refine qm_Rp.go 1 (c' := (239, [.ref 118, .int q, .int y2, .int m, .int v, l5, l6, l7], [.int (v8 + c9)], h)) rfl ?_
          obtain ⟨v11, q_v11⟩ : ∃ v_, (v8 + c9) = v_ := ⟨_, rfl⟩
          rw [q_v11]
          refine qm_Rp.go 2 (c' := (242, [.ref 118, .int q, .int y2, .int m, .int v, l5, l6, l7], [.int (v11 - 48)], h)) rfl ?_
          obtain ⟨v12, q_v12⟩ : ∃ v_, (v11 - 48) = v_ := ⟨_, rfl⟩
          rw [q_v12]
          refine qm_Rp.go 2 (c' := (247, [.ref 118, .int q, .int y2, .int (m + 1), .int v12, l5, l6, l7], [], h)) rfl ?_
          obtain ⟨v13, q_v13, e_v13⟩ := hk_add (x := m) (y := 1) (a := m.toInt) (b := 1) rfl rfl (by omega) (by omega)
          rw [q_v13]
          refine qm_Rp.go 1 (c' := (208, [.ref 118, .int q, .int y2, .int v13, .int v12, l5, l6, l7], [], h)) rfl ?_
          have hlt : q.toInt + m.toInt < n.toInt := by
            have := f0_c2
            omega
          exact ih g (by omega) v13 v12 (by omega) (by omega) (by omega) ((dlp_y (b := b3) (by omega) (show h.2.1 120 (q.toInt + m.toInt).toNat = b3 by rw [show (q.toInt + m.toInt).toNat = v1.toInt.toNat by omega]; exact q_b3) (by have := f1_c2 (by omega); omega) (by omega) (by rw [← eb, ← ez, Int32.mul_comm, q_v8, q_v11, q_v12]) (by omega) (by omega)).symm.trans hW)
set_option maxHeartbeats 20000000 in
theorem px_cutk {X : Option (Nat × (Nat → Int32))} {Z : Option Value → qm_H → Prop} {h : qm_H} (hH : hk_H h) (hKey : ∀ y : Nat, y < 25 → h.2.2.1 125 y = kwL.getD y 0) {q m y2 : Int32} {nm : Int64} {fu0 : Nat} (k : ∀ g, g ≤ fu0 → ∀ (kv y7 : Int32), kv.toInt = (if kw nm = 26 then 1 else 20 + kw nm) → qm_Rp g X cd_249 (179, [.ref 118, .int q, .int y2, .int m, .long nm, .float 0, .int kv, .int y7], [], h) Z) : ∀ (fu : Nat) (kv y7 : Int32), (fu ≤ fu0) → (0 ≤ y7.toInt ∧ y7.toInt ≤ 25) → ((∃ y : Nat, (y : Int) < y7.toInt ∧ nm = kwL.getD y 0 ∧ kv.toInt = 20 + y) ∨ ((∀ y : Nat, (y : Int) < y7.toInt → nm ≠ kwL.getD y 0) ∧ kv.toInt = 1)) → qm_Rp fu X cd_249 (146, [.ref 118, .int q, .int y2, .int m, .long nm, .float 0, .int kv, .int y7], [], h) Z := by
  intro fu
  induction fu using Nat.strongRecOn with
  | ind fu ih =>
    intro kv y7 hfu hy hv
    have kz0 : (0 : Int32).toInt = 0 := rfl
    have kz1 : (1 : Int32).toInt = 1 := rfl
    have kz2 : (2 : Int32).toInt = 2 := rfl
    have kz3 : (3 : Int32).toInt = 3 := rfl
    have kz4 : (4 : Int32).toInt = 4 := rfl
    have kz5 : (5 : Int32).toInt = 5 := rfl
    have kz6 : (6 : Int32).toInt = 6 := rfl
    have kz7 : (7 : Int32).toInt = 7 := rfl
    have kz8 : (8 : Int32).toInt = 8 := rfl
    have kz9 : (9 : Int32).toInt = 9 := rfl
    have kzm1 : ((-1) : Int32).toInt = (-1) := rfl
    have kzm2 : ((-2) : Int32).toInt = (-2) := rfl
    have kzm3 : ((-3) : Int32).toInt = (-3) := rfl
    refine qm_Rp.go1 1 (c' := (150, [.ref 118, .int q, .int y2, .int m, .long nm, .float 0, .int kv, .int y7], [.int 25, .int y7], h)) rfl (fun g hg => ?_)
    refine hp_cge (ix := y7.toInt) (iy := 25) rfl rfl rfl (fun z1 => ?_) (fun z1 => ?_)
    · refine qm_Rp.go 0 (c' := (179, [.ref 118, .int q, .int y2, .int m, .long nm, .float 0, .int kv, .int y7], [], h)) rfl ?_
      refine k g (by omega) kv y7 ?_
      rcases hv with ⟨y, h1, h2, h3⟩ | ⟨h1, h2⟩
      · have := kw_in y (by omega)
        rw [h2, this, if_neg (by omega)]; exact h3
      · rw [kw_out (fun y hy => h1 y (by omega)), if_pos rfl]; exact h2
    · refine qm_Rp.go 1 (c' := (154, [.ref 118, .int q, .int y2, .int m, .long nm, .float 0, .int kv, .int y7], [.ref 118], h)) rfl ?_
      refine hp_getr rfl (hH.1 118 (17, 105) rfl) rfl (hH.2 118 9 (some 125) rfl) ?_
      refine qm_Rp.go 1 (c' := (159, [.ref 118, .int q, .int y2, .int m, .long nm, .float 0, .int kv, .int y7], [.int y7, .ref 125], h)) rfl ?_
      obtain ⟨w2, q_w2⟩ : ∃ v_, h.2.2.1 125 y7.toInt.toNat = v_ := ⟨_, rfl⟩
      refine hp_lal (v := w2) rfl (hH.1 125 (3, 25) rfl) q_w2 (fun ia_2 ib_2 => ?_)
      refine qm_Rp.go 0 (c' := (160, [.ref 118, .int q, .int y2, .int m, .long nm, .float 0, .int kv, .int y7], [.long w2], h)) rfl ?_
      refine qm_Rp.go 2 (c' := (163, [.ref 118, .int q, .int y2, .int m, .long nm, .float 0, .int kv, .int y7], [.int (lg_cmp w2 nm)], h)) rfl ?_
      obtain ⟨v4, q_v4⟩ : ∃ v_, (lg_cmp w2 nm) = v_ := ⟨_, rfl⟩
      rw [q_v4]
      refine hp_zne (ix := v4.toInt) rfl rfl (fun z5 => ?_) (fun z5 => ?_)
      · refine qm_Rp.go 1 (c' := (176, [.ref 118, .int q, .int y2, .int m, .long nm, .float 0, .int kv, .int (y7 + 1)], [], h)) rfl ?_
        obtain ⟨v6, q_v6, e_v6⟩ := hk_add (x := y7) (y := 1) (a := y7.toInt) (b := 1) rfl rfl (by omega) (by omega)
        rw [q_v6]
        refine qm_Rp.go 1 (c' := (146, [.ref 118, .int q, .int y2, .int m, .long nm, .float 0, .int kv, .int v6], [], h)) rfl ?_
        refine ih g (by omega) kv v6 (by omega) (by omega) ?_
        rcases hv with ⟨y, h1, h2, h3⟩ | ⟨h1, h2⟩
        · exact Or.inl ⟨y, by omega, h2, h3⟩
        · refine Or.inr ⟨fun y hy => ?_, h2⟩
          by_cases c9 : y = y7.toInt.toNat
          · rw [c9, ← hKey _ (by omega), q_w2]; exact fun z => kw_n q_v4 (by omega) z.symm
          · exact h1 y (by omega)
      · refine qm_Rp.go 3 (c' := (171, [.ref 118, .int q, .int y2, .int m, .long nm, .float 0, .int kv, .int y7], [.int (20 + y7)], h)) rfl ?_
        obtain ⟨v7, q_v7, e_v7⟩ := hk_add (x := 20) (y := y7) (a := 20) (b := y7.toInt) rfl rfl (by omega) (by omega)
        rw [q_v7]
        refine qm_Rp.go 2 (c' := (176, [.ref 118, .int q, .int y2, .int m, .long nm, .float 0, .int v7, .int (y7 + 1)], [], h)) rfl ?_
        obtain ⟨v8, q_v8, e_v8⟩ := hk_add (x := y7) (y := 1) (a := y7.toInt) (b := 1) rfl rfl (by omega) (by omega)
        rw [q_v8]
        refine qm_Rp.go 1 (c' := (146, [.ref 118, .int q, .int y2, .int m, .long nm, .float 0, .int v7, .int v8], [], h)) rfl ?_
        refine ih g (by omega) v7 v8 (by omega) (by omega) ?_
        refine Or.inl ⟨y7.toInt.toNat, by omega, ?_, by omega⟩
        rw [← hKey _ (by omega), q_w2]; exact (kw_y q_v4 (by omega)).symm
set_option maxHeartbeats 20000000 in
theorem px_cutl {X : Option (Nat × (Nat → Int32))} {Z : Option Value → qm_H → Prop} {h : qm_H} (hH : hk_H h) (hB : ∀ i, (-128 : Int) ≤ (h.2.1 120 i).toInt ∧ (h.2.1 120 i).toInt ≤ 127) {n : Int32} (q_n : h.2.1 118 4 = n) (hn : 0 ≤ n.toInt ∧ n.toInt ≤ 2000) (hKey : ∀ y : Nat, y < 25 → h.2.2.1 125 y = kwL.getD y 0) (k : ∀ (I : Nat → Nat → Int32) (J : Nat → Nat → Int64), (∀ o, [118, 121, 122, 123].contains o = false → ∀ i, I o i = h.2.1 o i) → (∀ i, [10].contains i = false → I 118 i = h.2.1 118 i) → (∀ o, [124].contains o = false → ∀ i, J o i = h.2.2.1 o i) → (∀ y, y ≤ 400 → (∀ z, z < y → tK (h.2.1 120) n.toInt.toNat z ≠ 37) → rA (h.2.1 120) n.toInt.toNat (I 121) (I 122) (I 123) (J 124) (y + 1)) → Z none (h.1, I, J, h.2.2.2)) : ∀ (fu : Nat) (I : Nat → Nat → Int32) (J : Nat → Nat → Int64) (c i : Int32), ((∀ o, [118, 121, 122, 123].contains o = false → ∀ i, I o i = h.2.1 o i)) → ((∀ i, [10].contains i = false → I 118 i = h.2.1 118 i)) → ((∀ o, [124].contains o = false → ∀ i, J o i = h.2.2.1 o i)) → (I 118 10 = c) → (rA (h.2.1 120) n.toInt.toNat (I 121) (I 122) (I 123) (J 124) c.toInt.toNat) → (∀ y, y < c.toInt.toNat → tK (h.2.1 120) n.toInt.toNat y ≠ 37) → (0 ≤ c.toInt ∧ c.toInt ≤ 401) → (0 ≤ i.toInt ∧ i.toInt ≤ n.toInt) → (skp (h.2.1 120) n.toInt.toNat i.toInt.toNat = tS (h.2.1 120) n.toInt.toNat c.toInt.toNat) → ∀ l2 l3 l4 l5 l6 l7 : Value, qm_Rp fu X cd_249 (7, [.ref 118, .int i, l2, l3, l4, l5, l6, l7], [], (h.1, I, J, h.2.2.2)) Z := by
  intro fu
  induction fu using Nat.strongRecOn with
  | ind fu ih =>
    intro I J c i e e8 ej q_c hA hno hc hi hS l2 l3 l4 l5 l6 l7
    have kz0 : (0 : Int32).toInt = 0 := rfl
    have kz1 : (1 : Int32).toInt = 1 := rfl
    have kz2 : (2 : Int32).toInt = 2 := rfl
    have kz3 : (3 : Int32).toInt = 3 := rfl
    have kz4 : (4 : Int32).toInt = 4 := rfl
    have kz5 : (5 : Int32).toInt = 5 := rfl
    have kz6 : (6 : Int32).toInt = 6 := rfl
    have kz7 : (7 : Int32).toInt = 7 := rfl
    have kz8 : (8 : Int32).toInt = 8 := rfl
    have kz9 : (9 : Int32).toInt = 9 := rfl
    have kzm1 : ((-1) : Int32).toInt = (-1) := rfl
    have kzm2 : ((-2) : Int32).toInt = (-2) := rfl
    have kzm3 : ((-3) : Int32).toInt = (-3) := rfl
    refine qm_Rp.go1 0 (c' := (8, [.ref 118, .int i, l2, l3, l4, l5, l6, l7], [.ref 118], (h.1, I, J, h.2.2.2))) rfl (fun g hg => ?_)
    refine hp_geti (v := c) rfl (hH.1 118 (17, 105) rfl) rfl q_c ?_
    refine qm_Rp.go 1 (c' := (14, [.ref 118, .int i, l2, l3, l4, l5, l6, l7], [.int 400, .int c], (h.1, I, J, h.2.2.2))) rfl ?_
    refine hp_cgt (ix := c.toInt) (iy := 400) rfl rfl rfl (fun z1 => ?_) (fun z1 => ?_)
    · refine qm_Rp.go 0 (c' := (294, [.ref 118, .int i, l2, l3, l4, l5, l6, l7], [], (h.1, I, J, h.2.2.2))) rfl ?_
      refine qm_Rp.rt (v := none) (h' := (h.1, I, J, h.2.2.2)) rfl ?_
      exact k I J (fun o ho i => ((e o (hk_ms rfl ho) i).trans rfl)) (fun i hi => ((e8 i (hk_ms rfl hi)).trans rfl)) (fun o ho i => ((ej o (hk_ms rfl ho) i).trans rfl)) (fun y hy _ z hz => hA z (by omega))
    · refine qm_Rp.go 2 (c' := (19, [.ref 118, .int i, l2, l3, l4, l5, l6, l7], [.int i, .ref 118], (h.1, I, J, h.2.2.2))) rfl ?_
      refine hp_inv (o := 118) (r := []) (as := [.ref 118, .int i]) rfl rfl (hH.1 118 (17, 105) rfl) rfl rfl rfl (px_byte (h := (h.1, I, J, h.2.2.2)) hH (by rw [show (h.1, I, J, h.2.2.2).2.1 120 = h.2.1 120 from (show (I) 120 = h.2.1 120 from funext fun y => ((e 120 rfl y).trans rfl))]; exact hB) (n := n) (show (I) 118 4 = _ from ((e8 4 rfl).trans q_n)) hn (fun c2 b3 q_b3 i0_c2 f0_c2 f1_c2 => ?_))
      rw [show (h.1, I, J, h.2.2.2).2.1 120 = h.2.1 120 from (show (I) 120 = h.2.1 120 from funext fun y => ((e 120 rfl y).trans rfl))] at q_b3
      have hb_b3 := hB i.toInt.toNat
      rw [q_b3] at hb_b3
      have r_c2 : 0 ≤ c2.toInt ∧ c2.toInt ≤ 255 := by omega
      refine qm_Rp.go 3 (c' := (25, [.ref 118, .int i, .int c2, l3, l4, l5, l6, l7], [.ref 118, .int i], (h.1, I, J, h.2.2.2))) rfl ?_
      refine hp_geti (v := n) rfl (hH.1 118 (17, 105) rfl) rfl (show (I) 118 4 = _ from ((e8 4 rfl).trans q_n)) ?_
      refine qm_Rp.go 0 (c' := (28, [.ref 118, .int i, .int c2, l3, l4, l5, l6, l7], [.int n, .int i], (h.1, I, J, h.2.2.2))) rfl ?_
      refine hp_clt (ix := i.toInt) (iy := n.toInt) rfl rfl rfl (fun z4 => ?_) (fun z4 => ?_)
      · refine qm_Rp.go 0 (c' := (43, [.ref 118, .int i, .int c2, l3, l4, l5, l6, l7], [], (h.1, I, J, h.2.2.2))) rfl ?_
        have f9 := f1_c2 (by omega)
        refine qm_Rp.go 2 (c' := (46, [.ref 118, .int i, .int c2, l3, l4, l5, l6, l7], [.int 9, .int c2], (h.1, I, J, h.2.2.2))) rfl ?_
        refine hp_ceq (ix := c2.toInt) (iy := 9) rfl rfl rfl (fun z5 => ?_) (fun z5 => ?_)
        · refine qm_Rp.go 1 (c' := (70, [.ref 118, .int (i + 1), .int c2, l3, l4, l5, l6, l7], [], (h.1, I, J, h.2.2.2))) rfl ?_
          obtain ⟨v6, q_v6, e_v6⟩ := hk_add (x := i) (y := 1) (a := i.toInt) (b := 1) rfl rfl (by omega) (by omega)
          rw [q_v6]
          refine qm_Rp.go 2 (c' := (7, [.ref 118, .int v6, .int c2, l3, l4, l5, l6, l7], [], (h.1, I, J, h.2.2.2))) rfl ?_
          exact ih g (by omega) (I) (J) c v6 (fun o ho i => ((e o (hk_ms rfl ho) i).trans rfl)) (fun i hi => ((e8 i (hk_ms rfl hi)).trans rfl)) (fun o ho i => ((ej o (hk_ms rfl ho) i).trans rfl)) q_c hA hno hc (by omega) ((skp_y (b := b3) (by omega) q_b3 (by omega) (by omega)).symm.trans hS) _ _ _ _ _ _
        · refine qm_Rp.go 2 (c' := (52, [.ref 118, .int i, .int c2, l3, l4, l5, l6, l7], [.int 10, .int c2], (h.1, I, J, h.2.2.2))) rfl ?_
          refine hp_ceq (ix := c2.toInt) (iy := 10) rfl rfl rfl (fun z7 => ?_) (fun z7 => ?_)
          · refine qm_Rp.go 1 (c' := (70, [.ref 118, .int (i + 1), .int c2, l3, l4, l5, l6, l7], [], (h.1, I, J, h.2.2.2))) rfl ?_
            obtain ⟨v8, q_v8, e_v8⟩ := hk_add (x := i) (y := 1) (a := i.toInt) (b := 1) rfl rfl (by omega) (by omega)
            rw [q_v8]
            refine qm_Rp.go 2 (c' := (7, [.ref 118, .int v8, .int c2, l3, l4, l5, l6, l7], [], (h.1, I, J, h.2.2.2))) rfl ?_
            exact ih g (by omega) (I) (J) c v8 (fun o ho i => ((e o (hk_ms rfl ho) i).trans rfl)) (fun i hi => ((e8 i (hk_ms rfl hi)).trans rfl)) (fun o ho i => ((ej o (hk_ms rfl ho) i).trans rfl)) q_c hA hno hc (by omega) ((skp_y (b := b3) (by omega) q_b3 (by omega) (by omega)).symm.trans hS) _ _ _ _ _ _
          · refine qm_Rp.go 2 (c' := (58, [.ref 118, .int i, .int c2, l3, l4, l5, l6, l7], [.int 13, .int c2], (h.1, I, J, h.2.2.2))) rfl ?_
            refine hp_ceq (ix := c2.toInt) (iy := 13) rfl rfl rfl (fun z9 => ?_) (fun z9 => ?_)
            · refine qm_Rp.go 1 (c' := (70, [.ref 118, .int (i + 1), .int c2, l3, l4, l5, l6, l7], [], (h.1, I, J, h.2.2.2))) rfl ?_
              obtain ⟨v10, q_v10, e_v10⟩ := hk_add (x := i) (y := 1) (a := i.toInt) (b := 1) rfl rfl (by omega) (by omega)
              rw [q_v10]
              refine qm_Rp.go 2 (c' := (7, [.ref 118, .int v10, .int c2, l3, l4, l5, l6, l7], [], (h.1, I, J, h.2.2.2))) rfl ?_
              exact ih g (by omega) (I) (J) c v10 (fun o ho i => ((e o (hk_ms rfl ho) i).trans rfl)) (fun i hi => ((e8 i (hk_ms rfl hi)).trans rfl)) (fun o ho i => ((ej o (hk_ms rfl ho) i).trans rfl)) q_c hA hno hc (by omega) ((skp_y (b := b3) (by omega) q_b3 (by omega) (by omega)).symm.trans hS) _ _ _ _ _ _
            · refine qm_Rp.go 2 (c' := (64, [.ref 118, .int i, .int c2, l3, l4, l5, l6, l7], [.int 32, .int c2], (h.1, I, J, h.2.2.2))) rfl ?_
              refine hp_cne (ix := c2.toInt) (iy := 32) rfl rfl rfl (fun z11 => ?_) (fun z11 => ?_)
              · refine qm_Rp.go 0 (c' := (73, [.ref 118, .int i, .int c2, l3, l4, l5, l6, l7], [], (h.1, I, J, h.2.2.2))) rfl ?_
                have hs9 : tS (h.2.1 120) n.toInt.toNat c.toInt.toNat = i.toInt.toNat := hS.symm.trans (skp_b q_b3 (by omega))
                refine qm_Rp.go 1 (c' := (74, [.ref 118, .int i, .int c2, l3, l4, l5, l6, l7], [.int c2], (h.1, I, J, h.2.2.2))) rfl ?_
                refine qm_Rp.call (j := 252) (as := [.int c2]) (c' := (77, [.ref 118, .int i, .int c2, l3, l4, l5, l6, l7], [], (h.1, I, J, h.2.2.2))) rfl rfl ?_
                refine qm_Rp.go 2 (c' := (3, [.int c2], [.int 97, .int c2], (h.1, I, J, h.2.2.2))) rfl ?_
                refine hp_clt (ix := c2.toInt) (iy := 97) rfl rfl rfl (fun z12 => ?_) (fun z12 => ?_)
                · refine qm_Rp.go 1 (c' := (17, [.int c2], [.int 0], (h.1, I, J, h.2.2.2))) rfl ?_
                  refine qm_Rp.rt (v := (some (.int 0))) (h' := (h.1, I, J, h.2.2.2)) rfl ?_
                  refine qm_Rp.go 2 (c' := (197, [.ref 118, .int i, .int c2, l3, l4, l5, l6, l7], [.int c2], (h.1, I, J, h.2.2.2))) rfl ?_
                  refine qm_Rp.call (j := 253) (as := [.int c2]) (c' := (200, [.ref 118, .int i, .int c2, l3, l4, l5, l6, l7], [], (h.1, I, J, h.2.2.2))) rfl rfl ?_
                  refine qm_Rp.go 2 (c' := (3, [.int c2], [.int 48, .int c2], (h.1, I, J, h.2.2.2))) rfl ?_
                  refine hp_clt (ix := c2.toInt) (iy := 48) rfl rfl rfl (fun z13 => ?_) (fun z13 => ?_)
                  · refine qm_Rp.go 1 (c' := (17, [.int c2], [.int 0], (h.1, I, J, h.2.2.2))) rfl ?_
                    refine qm_Rp.rt (v := (some (.int 0))) (h' := (h.1, I, J, h.2.2.2)) rfl ?_
                    refine qm_Rp.go 1 (c' := (275, [.ref 118, .int i, .int c2, l3, l4, l5, l6, l7], [], (h.1, I, J, h.2.2.2))) rfl ?_
                    have hR := tR_sign (B := (h.2.1 120)) (n := n.toInt.toNat) (q := i.toInt.toNat) (b := b3) (by omega) q_b3 (by omega) (by omega)
                    have hTK := tK_def hs9 hR
                    have hsr := sgK_r b3.toInt (sgW (h.2.1 120) n.toInt.toNat i.toInt.toNat)
                    refine qm_Rp.go 8 (c' := (283, [.ref 118, .int i, .int c2, l3, l4, l5, l6, l7], [.int (i + 1), .ref 118, .int c2, .int i, .ref 118, .int i], (h.1, I, J, h.2.2.2))) rfl ?_
                    obtain ⟨v14, q_v14, e_v14⟩ := hk_add (x := i) (y := 1) (a := i.toInt) (b := 1) rfl rfl (by omega) (by omega)
                    rw [q_v14]
                    refine hp_inv (o := 118) (r := [.int c2, .int i, .ref 118, .int i]) (as := [.ref 118, .int v14]) rfl rfl (hH.1 118 (17, 105) rfl) rfl rfl rfl (px_byte (h := (h.1, I, J, h.2.2.2)) hH (by rw [show (h.1, I, J, h.2.2.2).2.1 120 = h.2.1 120 from (show (I) 120 = h.2.1 120 from funext fun y => ((e 120 rfl y).trans rfl))]; exact hB) (n := n) (show (I) 118 4 = _ from ((e8 4 rfl).trans q_n)) hn (fun c15 b16 q_b16 i0_c15 f0_c15 f1_c15 => ?_))
                    rw [show (h.1, I, J, h.2.2.2).2.1 120 = h.2.1 120 from (show (I) 120 = h.2.1 120 from funext fun y => ((e 120 rfl y).trans rfl))] at q_b16
                    have hb_b16 := hB v14.toInt.toNat
                    rw [q_b16] at hb_b16
                    have r_c15 : 0 ≤ c15.toInt ∧ c15.toInt ≤ 255 := by omega
                    refine qm_Rp.go 0 (c' := (286, [.ref 118, .int i, .int c2, l3, l4, l5, l6, l7], [.int c15, .int c2, .int i, .ref 118, .int i], (h.1, I, J, h.2.2.2))) rfl ?_
                    refine hp_inv (o := 118) (r := [.int i]) (as := [.ref 118, .int i, .int c2, .int c15]) rfl rfl (hH.1 118 (17, 105) rfl) rfl rfl rfl ?_
                    refine qm_Rp.go 2 (c' := (3, [.ref 118, .int i, .int c2, .int c15, .float 0, .float 0], [.int 61, .int c15], (h.1, I, J, h.2.2.2))) rfl ?_
                    refine hp_ceq (ix := c15.toInt) (iy := 61) rfl rfl rfl (fun z17 => ?_) (fun z17 => ?_)
                    · refine qm_Rp.go 0 (c' := (10, [.ref 118, .int i, .int c2, .int c15, .float 0, .float 0], [], (h.1, I, J, h.2.2.2))) rfl ?_
                      refine qm_Rp.go 2 (c' := (13, [.ref 118, .int i, .int c2, .int c15, .float 0, .float 0], [.int 61, .int c2], (h.1, I, J, h.2.2.2))) rfl ?_
                      refine hp_cne (ix := c2.toInt) (iy := 61) rfl rfl rfl (fun z18 => ?_) (fun z18 => by exfalso; omega)
                      refine qm_Rp.go 2 (c' := (24, [.ref 118, .int i, .int c2, .int c15, .float 0, .float 0], [.int 33, .int c2], (h.1, I, J, h.2.2.2))) rfl ?_
                      refine hp_cne (ix := c2.toInt) (iy := 33) rfl rfl rfl (fun z19 => ?_) (fun z19 => ?_)
                      · refine qm_Rp.go 2 (c' := (35, [.ref 118, .int i, .int c2, .int c15, .float 0, .float 0], [.int 60, .int c2], (h.1, I, J, h.2.2.2))) rfl ?_
                        refine hp_cne (ix := c2.toInt) (iy := 60) rfl rfl rfl (fun z20 => ?_) (fun z20 => by exfalso; omega)
                        refine qm_Rp.go 8 (c' := (64, [.ref 118, .int i, .int c2, .int c15, .int 0, .int 3], [.int 59, .int c2], (h.1, I, J, h.2.2.2))) rfl ?_
                        refine hp_cne (ix := c2.toInt) (iy := 59) rfl rfl rfl (fun z21 => ?_) (fun z21 => by exfalso; omega)
                        refine qm_Rp.go 2 (c' := (76, [.ref 118, .int i, .int c2, .int c15, .int 0, .int 3], [.int 40, .int c2], (h.1, I, J, h.2.2.2))) rfl ?_
                        refine hp_cne (ix := c2.toInt) (iy := 40) rfl rfl rfl (fun z22 => ?_) (fun z22 => ?_)
                        · refine qm_Rp.go 2 (c' := (89, [.ref 118, .int i, .int c2, .int c15, .int 0, .int 3], [.int 41, .int c2], (h.1, I, J, h.2.2.2))) rfl ?_
                          refine hp_cne (ix := c2.toInt) (iy := 41) rfl rfl rfl (fun z23 => ?_) (fun z23 => ?_)
                          · refine qm_Rp.go 2 (c' := (102, [.ref 118, .int i, .int c2, .int c15, .int 0, .int 3], [.int 43, .int c2], (h.1, I, J, h.2.2.2))) rfl ?_
                            refine hp_cne (ix := c2.toInt) (iy := 43) rfl rfl rfl (fun z24 => ?_) (fun z24 => ?_)
                            · refine qm_Rp.go 2 (c' := (115, [.ref 118, .int i, .int c2, .int c15, .int 0, .int 3], [.int 45, .int c2], (h.1, I, J, h.2.2.2))) rfl ?_
                              refine hp_cne (ix := c2.toInt) (iy := 45) rfl rfl rfl (fun z25 => ?_) (fun z25 => ?_)
                              · refine qm_Rp.go 2 (c' := (128, [.ref 118, .int i, .int c2, .int c15, .int 0, .int 3], [.int 42, .int c2], (h.1, I, J, h.2.2.2))) rfl ?_
                                refine hp_cne (ix := c2.toInt) (iy := 42) rfl rfl rfl (fun z26 => ?_) (fun z26 => ?_)
                                · refine qm_Rp.go 2 (c' := (141, [.ref 118, .int i, .int c2, .int c15, .int 0, .int 3], [.int 60, .int c2], (h.1, I, J, h.2.2.2))) rfl ?_
                                  refine hp_cne (ix := c2.toInt) (iy := 60) rfl rfl rfl (fun z27 => ?_) (fun z27 => by exfalso; omega)
                                  refine qm_Rp.go 0 (c' := (148, [.ref 118, .int i, .int c2, .int c15, .int 0, .int 3], [], (h.1, I, J, h.2.2.2))) rfl ?_
                                  have hw9 : sgW (h.2.1 120) n.toInt.toNat i.toInt.toNat = true := (sgW_y (b := b16) (by omega) (by omega) q_b16 (by omega))
                                  have hsk : sgK b3.toInt (sgW (h.2.1 120) n.toInt.toNat i.toInt.toNat) = 38 := by rw [hw9]; exact sgK_1 (by omega)
                                  have hsn : sgN b3.toInt (sgW (h.2.1 120) n.toInt.toNat i.toInt.toNat) = 1 := by rw [hw9]; unfold sgN; exact if_neg (fun z => by omega)
                                  refine qm_Rp.go 5 (c' := (154, [.ref 118, .int i, .int c2, .int c15, .int 0, .int 3], [.long (0 : Int64), .int 0, .int i, .int 3, .ref 118], (h.1, I, J, h.2.2.2))) rfl ?_
                                  refine hp_inv (o := 118) (r := []) (as := [.ref 118, .int 3, .int i, .int 0, .long (0 : Int64)]) rfl rfl (hH.1 118 (17, 105) rfl) rfl rfl rfl ?_
                                  refine qm_Rp.go 1 (c' := (1, [.ref 118, .int 3, .int i, .int 0, .long (0 : Int64), .float 0], [.ref 118], (h.1, I, J, h.2.2.2))) rfl ?_
                                  refine hp_getr rfl (hH.1 118 (17, 105) rfl) rfl (hH.2 118 5 (some 121) rfl) ?_
                                  refine qm_Rp.go 1 (c' := (5, [.ref 118, .int 3, .int i, .int 0, .long (0 : Int64), .float 0], [.ref 118, .ref 121], (h.1, I, J, h.2.2.2))) rfl ?_
                                  refine hp_geti (v := c) rfl (hH.1 118 (17, 105) rfl) rfl q_c ?_
                                  refine qm_Rp.go 1 (c' := (9, [.ref 118, .int 3, .int i, .int 0, .long (0 : Int64), .float 0], [.int 3, .int c, .ref 121], (h.1, I, J, h.2.2.2))) rfl ?_
                                  refine hp_ias rfl (hH.1 121 (0, 403) rfl) (fun ia_27 ib_27 => ?_)
                                  refine qm_Rp.go 1 (c' := (11, [.ref 118, .int 3, .int i, .int 0, .long (0 : Int64), .float 0], [.ref 118], (h.1, qm_up I 121 c.toInt.toNat 3, J, h.2.2.2))) rfl ?_
                                  refine hp_getr rfl (hH.1 118 (17, 105) rfl) rfl (hH.2 118 6 (some 122) rfl) ?_
                                  refine qm_Rp.go 1 (c' := (15, [.ref 118, .int 3, .int i, .int 0, .long (0 : Int64), .float 0], [.ref 118, .ref 122], (h.1, qm_up I 121 c.toInt.toNat 3, J, h.2.2.2))) rfl ?_
                                  refine hp_geti (v := c) rfl (hH.1 118 (17, 105) rfl) rfl (show (qm_up I 121 c.toInt.toNat 3) 118 10 = _ from ((hk_ot rfl).trans q_c)) ?_
                                  refine qm_Rp.go 1 (c' := (19, [.ref 118, .int 3, .int i, .int 0, .long (0 : Int64), .float 0], [.int i, .int c, .ref 122], (h.1, qm_up I 121 c.toInt.toNat 3, J, h.2.2.2))) rfl ?_
                                  refine hp_ias rfl (hH.1 122 (0, 403) rfl) (fun ia_28 ib_28 => ?_)
                                  refine qm_Rp.go 1 (c' := (21, [.ref 118, .int 3, .int i, .int 0, .long (0 : Int64), .float 0], [.ref 118], (h.1, qm_up (qm_up I 121 c.toInt.toNat 3) 122 c.toInt.toNat i, J, h.2.2.2))) rfl ?_
                                  refine hp_getr rfl (hH.1 118 (17, 105) rfl) rfl (hH.2 118 7 (some 123) rfl) ?_
                                  refine qm_Rp.go 1 (c' := (25, [.ref 118, .int 3, .int i, .int 0, .long (0 : Int64), .float 0], [.ref 118, .ref 123], (h.1, qm_up (qm_up I 121 c.toInt.toNat 3) 122 c.toInt.toNat i, J, h.2.2.2))) rfl ?_
                                  refine hp_geti (v := c) rfl (hH.1 118 (17, 105) rfl) rfl (show (qm_up (qm_up I 121 c.toInt.toNat 3) 122 c.toInt.toNat i) 118 10 = _ from ((hk_ot rfl).trans ((hk_ot rfl).trans q_c))) ?_
                                  refine qm_Rp.go 1 (c' := (29, [.ref 118, .int 3, .int i, .int 0, .long (0 : Int64), .float 0], [.int 0, .int c, .ref 123], (h.1, qm_up (qm_up I 121 c.toInt.toNat 3) 122 c.toInt.toNat i, J, h.2.2.2))) rfl ?_
                                  refine hp_ias rfl (hH.1 123 (0, 403) rfl) (fun ia_29 ib_29 => ?_)
                                  refine qm_Rp.go 1 (c' := (31, [.ref 118, .int 3, .int i, .int 0, .long (0 : Int64), .float 0], [.ref 118], (h.1, qm_up (qm_up (qm_up I 121 c.toInt.toNat 3) 122 c.toInt.toNat i) 123 c.toInt.toNat 0, J, h.2.2.2))) rfl ?_
                                  refine hp_getr rfl (hH.1 118 (17, 105) rfl) rfl (hH.2 118 8 (some 124) rfl) ?_
                                  refine qm_Rp.go 1 (c' := (35, [.ref 118, .int 3, .int i, .int 0, .long (0 : Int64), .float 0], [.ref 118, .ref 124], (h.1, qm_up (qm_up (qm_up I 121 c.toInt.toNat 3) 122 c.toInt.toNat i) 123 c.toInt.toNat 0, J, h.2.2.2))) rfl ?_
                                  refine hp_geti (v := c) rfl (hH.1 118 (17, 105) rfl) rfl (show (qm_up (qm_up (qm_up I 121 c.toInt.toNat 3) 122 c.toInt.toNat i) 123 c.toInt.toNat 0) 118 10 = _ from ((hk_ot rfl).trans ((hk_ot rfl).trans ((hk_ot rfl).trans q_c)))) ?_
                                  refine qm_Rp.go 1 (c' := (40, [.ref 118, .int 3, .int i, .int 0, .long (0 : Int64), .float 0], [.long (0 : Int64), .int c, .ref 124], (h.1, qm_up (qm_up (qm_up I 121 c.toInt.toNat 3) 122 c.toInt.toNat i) 123 c.toInt.toNat 0, J, h.2.2.2))) rfl ?_
                                  refine hp_las rfl (hH.1 124 (3, 403) rfl) (fun ia_30 ib_30 => ?_)
                                  refine qm_Rp.go 2 (c' := (43, [.ref 118, .int 3, .int i, .int 0, .long (0 : Int64), .float 0], [.ref 118, .ref 118], (h.1, qm_up (qm_up (qm_up I 121 c.toInt.toNat 3) 122 c.toInt.toNat i) 123 c.toInt.toNat 0, qm_up J 124 c.toInt.toNat (0 : Int64), h.2.2.2))) rfl ?_
                                  refine hp_geti (v := c) rfl (hH.1 118 (17, 105) rfl) rfl (show (qm_up (qm_up (qm_up I 121 c.toInt.toNat 3) 122 c.toInt.toNat i) 123 c.toInt.toNat 0) 118 10 = _ from ((hk_ot rfl).trans ((hk_ot rfl).trans ((hk_ot rfl).trans q_c)))) ?_
                                  refine qm_Rp.go 2 (c' := (48, [.ref 118, .int 3, .int i, .int 0, .long (0 : Int64), .float 0], [.int (c + 1), .ref 118], (h.1, qm_up (qm_up (qm_up I 121 c.toInt.toNat 3) 122 c.toInt.toNat i) 123 c.toInt.toNat 0, qm_up J 124 c.toInt.toNat (0 : Int64), h.2.2.2))) rfl ?_
                                  obtain ⟨v32, q_v32, e_v32⟩ := hk_add (x := c) (y := 1) (a := c.toInt) (b := 1) rfl rfl (by omega) (by omega)
                                  rw [q_v32]
                                  refine hp_puti rfl (hH.1 118 (17, 105) rfl) rfl ?_
                                  refine qm_Rp.go 0 (c' := (51, [.ref 118, .int 3, .int i, .int 0, .long (0 : Int64), .float 0], [], (h.1, qm_up (qm_up (qm_up (qm_up I 121 c.toInt.toNat 3) 122 c.toInt.toNat i) 123 c.toInt.toNat 0) 118 10 v32, qm_up J 124 c.toInt.toNat (0 : Int64), h.2.2.2))) rfl ?_
                                  refine qm_Rp.rt (v := none) (h' := (h.1, qm_up (qm_up (qm_up (qm_up I 121 c.toInt.toNat 3) 122 c.toInt.toNat i) 123 c.toInt.toNat 0) 118 10 v32, qm_up J 124 c.toInt.toNat (0 : Int64), h.2.2.2)) rfl ?_
                                  refine qm_Rp.go 3 (c' := (167, [.ref 118, .int i, .int c2, .int c15, .int 0, .int 3], [.int 1], (h.1, qm_up (qm_up (qm_up (qm_up I 121 c.toInt.toNat 3) 122 c.toInt.toNat i) 123 c.toInt.toNat 0) 118 10 v32, qm_up J 124 c.toInt.toNat (0 : Int64), h.2.2.2))) rfl ?_
                                  refine qm_Rp.rt (v := (some (.int 1))) (h' := (h.1, qm_up (qm_up (qm_up (qm_up I 121 c.toInt.toNat 3) 122 c.toInt.toNat i) 123 c.toInt.toNat 0) 118 10 v32, qm_up J 124 c.toInt.toNat (0 : Int64), h.2.2.2)) rfl ?_
                                  refine qm_Rp.go 1 (c' := (290, [.ref 118, .int i, .int c2, l3, l4, l5, l6, l7], [.int (i + 1)], (h.1, qm_up (qm_up (qm_up (qm_up I 121 c.toInt.toNat 3) 122 c.toInt.toNat i) 123 c.toInt.toNat 0) 118 10 v32, qm_up J 124 c.toInt.toNat (0 : Int64), h.2.2.2))) rfl ?_
                                  rw [q_v14]
                                  refine qm_Rp.go 2 (c' := (7, [.ref 118, .int v14, .int c2, l3, l4, l5, l6, l7], [], (h.1, qm_up (qm_up (qm_up (qm_up I 121 c.toInt.toNat 3) 122 c.toInt.toNat i) 123 c.toInt.toNat 0) 118 10 v32, qm_up J 124 c.toInt.toNat (0 : Int64), h.2.2.2))) rfl ?_
                                  have A_A33 : rA (h.2.1 120) n.toInt.toNat ((qm_up (qm_up (qm_up (qm_up I 121 c.toInt.toNat 3) 122 c.toInt.toNat i) 123 c.toInt.toNat 0) 118 10 v32) 121) ((qm_up (qm_up (qm_up (qm_up I 121 c.toInt.toNat 3) 122 c.toInt.toNat i) 123 c.toInt.toNat 0) 118 10 v32) 122) ((qm_up (qm_up (qm_up (qm_up I 121 c.toInt.toNat 3) 122 c.toInt.toNat i) 123 c.toInt.toNat 0) 118 10 v32) 123) ((qm_up J 124 c.toInt.toNat (0 : Int64)) 124) v32.toInt.toNat := rA_s (c := c.toInt.toNat) hA (fun y hy => ⟨((hk_ot rfl).trans ((hk_ot rfl).trans ((hk_ot rfl).trans ((hk_neq hy).trans rfl)))), ((hk_ot rfl).trans ((hk_ot rfl).trans ((hk_neq hy).trans ((hk_ot rfl).trans rfl)))), ((hk_ot rfl).trans ((hk_neq hy).trans ((hk_ot rfl).trans ((hk_ot rfl).trans rfl)))), ((hj_neq hy).trans rfl)⟩) (by omega) (by rw [(show (qm_up (qm_up (qm_up (qm_up I 121 c.toInt.toNat 3) 122 c.toInt.toNat i) 123 c.toInt.toNat 0) 118 10 v32) 121 c.toInt.toNat = _ from ((hk_ot rfl).trans ((hk_ot rfl).trans ((hk_ot rfl).trans (hk_same)))))]; exact (by rw [hTK.1, hsk]; rfl)) (by rw [(show (qm_up (qm_up (qm_up (qm_up I 121 c.toInt.toNat 3) 122 c.toInt.toNat i) 123 c.toInt.toNat 0) 118 10 v32) 122 c.toInt.toNat = _ from ((hk_ot rfl).trans ((hk_ot rfl).trans (hk_same))))]; omega) (fun z => by rw [(show (qm_up (qm_up (qm_up (qm_up I 121 c.toInt.toNat 3) 122 c.toInt.toNat i) 123 c.toInt.toNat 0) 118 10 v32) 123 c.toInt.toNat = _ from ((hk_ot rfl).trans (hk_same)))]; rw [hTK.1] at z; omega) (fun z => by rw [(show (qm_up J 124 c.toInt.toNat (0 : Int64)) 124 c.toInt.toNat = _ from (hj_same))]; rw [hTK.1] at z; omega)
                                  have eC : v32.toInt.toNat = c.toInt.toNat + 1 := by omega
                                  exact ih g (by omega) (qm_up (qm_up (qm_up (qm_up I 121 c.toInt.toNat 3) 122 c.toInt.toNat i) 123 c.toInt.toNat 0) 118 10 v32) (qm_up J 124 c.toInt.toNat (0 : Int64)) v32 v14 (fun o ho i => ((hk_mod ho rfl).trans ((hk_mod ho rfl).trans ((hk_mod ho rfl).trans ((hk_mod ho rfl).trans ((e o (hk_ms rfl ho) i).trans rfl)))))) (fun i hi => ((hk_neq (fun z => by subst z; cases hi)).trans ((hk_ot rfl).trans ((hk_ot rfl).trans ((hk_ot rfl).trans ((e8 i (hk_ms rfl hi)).trans rfl)))))) (fun o ho i => ((hj_mod ho rfl).trans ((ej o (hk_ms rfl ho) i).trans rfl))) (show (qm_up (qm_up (qm_up (qm_up I 121 c.toInt.toNat 3) 122 c.toInt.toNat i) 123 c.toInt.toNat 0) 118 10 v32) 118 10 = _ from (hk_same)) A_A33 (fun y hy => by
                                    by_cases c9 : y = c.toInt.toNat
                                    · rw [c9, hTK.1]; omega
                                    · exact hno y (by omega)) (by omega) (by omega) (by rw [eC]; show skp (h.2.1 120) n.toInt.toNat _ = skp (h.2.1 120) n.toInt.toNat (tP (h.2.1 120) n.toInt.toNat (c.toInt.toNat + 1)); rw [hTK.2.1]; congr 1; omega) _ _ _ _ _ _
                                · refine qm_Rp.go 3 (c' := (148, [.ref 118, .int i, .int c2, .int c15, .int 0, .int 10], [], (h.1, I, J, h.2.2.2))) rfl ?_
                                  have hw9 : sgW (h.2.1 120) n.toInt.toNat i.toInt.toNat = true := (sgW_y (b := b16) (by omega) (by omega) q_b16 (by omega))
                                  have hsk : sgK b3.toInt (sgW (h.2.1 120) n.toInt.toNat i.toInt.toNat) = 30 := by rw [hw9, show b3.toInt = 42 by omega]; rfl
                                  have hsn : sgN b3.toInt (sgW (h.2.1 120) n.toInt.toNat i.toInt.toNat) = 1 := by rw [hw9]; unfold sgN; exact if_neg (fun z => by omega)
                                  refine qm_Rp.go 5 (c' := (154, [.ref 118, .int i, .int c2, .int c15, .int 0, .int 10], [.long (0 : Int64), .int 0, .int i, .int 10, .ref 118], (h.1, I, J, h.2.2.2))) rfl ?_
                                  refine hp_inv (o := 118) (r := []) (as := [.ref 118, .int 10, .int i, .int 0, .long (0 : Int64)]) rfl rfl (hH.1 118 (17, 105) rfl) rfl rfl rfl ?_
                                  refine qm_Rp.go 1 (c' := (1, [.ref 118, .int 10, .int i, .int 0, .long (0 : Int64), .float 0], [.ref 118], (h.1, I, J, h.2.2.2))) rfl ?_
                                  refine hp_getr rfl (hH.1 118 (17, 105) rfl) rfl (hH.2 118 5 (some 121) rfl) ?_
                                  refine qm_Rp.go 1 (c' := (5, [.ref 118, .int 10, .int i, .int 0, .long (0 : Int64), .float 0], [.ref 118, .ref 121], (h.1, I, J, h.2.2.2))) rfl ?_
                                  refine hp_geti (v := c) rfl (hH.1 118 (17, 105) rfl) rfl q_c ?_
                                  refine qm_Rp.go 1 (c' := (9, [.ref 118, .int 10, .int i, .int 0, .long (0 : Int64), .float 0], [.int 10, .int c, .ref 121], (h.1, I, J, h.2.2.2))) rfl ?_
                                  refine hp_ias rfl (hH.1 121 (0, 403) rfl) (fun ia_33 ib_33 => ?_)
                                  refine qm_Rp.go 1 (c' := (11, [.ref 118, .int 10, .int i, .int 0, .long (0 : Int64), .float 0], [.ref 118], (h.1, qm_up I 121 c.toInt.toNat 10, J, h.2.2.2))) rfl ?_
                                  refine hp_getr rfl (hH.1 118 (17, 105) rfl) rfl (hH.2 118 6 (some 122) rfl) ?_
                                  refine qm_Rp.go 1 (c' := (15, [.ref 118, .int 10, .int i, .int 0, .long (0 : Int64), .float 0], [.ref 118, .ref 122], (h.1, qm_up I 121 c.toInt.toNat 10, J, h.2.2.2))) rfl ?_
                                  refine hp_geti (v := c) rfl (hH.1 118 (17, 105) rfl) rfl (show (qm_up I 121 c.toInt.toNat 10) 118 10 = _ from ((hk_ot rfl).trans q_c)) ?_
                                  refine qm_Rp.go 1 (c' := (19, [.ref 118, .int 10, .int i, .int 0, .long (0 : Int64), .float 0], [.int i, .int c, .ref 122], (h.1, qm_up I 121 c.toInt.toNat 10, J, h.2.2.2))) rfl ?_
                                  refine hp_ias rfl (hH.1 122 (0, 403) rfl) (fun ia_34 ib_34 => ?_)
                                  refine qm_Rp.go 1 (c' := (21, [.ref 118, .int 10, .int i, .int 0, .long (0 : Int64), .float 0], [.ref 118], (h.1, qm_up (qm_up I 121 c.toInt.toNat 10) 122 c.toInt.toNat i, J, h.2.2.2))) rfl ?_
                                  refine hp_getr rfl (hH.1 118 (17, 105) rfl) rfl (hH.2 118 7 (some 123) rfl) ?_
                                  refine qm_Rp.go 1 (c' := (25, [.ref 118, .int 10, .int i, .int 0, .long (0 : Int64), .float 0], [.ref 118, .ref 123], (h.1, qm_up (qm_up I 121 c.toInt.toNat 10) 122 c.toInt.toNat i, J, h.2.2.2))) rfl ?_
                                  refine hp_geti (v := c) rfl (hH.1 118 (17, 105) rfl) rfl (show (qm_up (qm_up I 121 c.toInt.toNat 10) 122 c.toInt.toNat i) 118 10 = _ from ((hk_ot rfl).trans ((hk_ot rfl).trans q_c))) ?_
                                  refine qm_Rp.go 1 (c' := (29, [.ref 118, .int 10, .int i, .int 0, .long (0 : Int64), .float 0], [.int 0, .int c, .ref 123], (h.1, qm_up (qm_up I 121 c.toInt.toNat 10) 122 c.toInt.toNat i, J, h.2.2.2))) rfl ?_
                                  refine hp_ias rfl (hH.1 123 (0, 403) rfl) (fun ia_35 ib_35 => ?_)
                                  refine qm_Rp.go 1 (c' := (31, [.ref 118, .int 10, .int i, .int 0, .long (0 : Int64), .float 0], [.ref 118], (h.1, qm_up (qm_up (qm_up I 121 c.toInt.toNat 10) 122 c.toInt.toNat i) 123 c.toInt.toNat 0, J, h.2.2.2))) rfl ?_
                                  refine hp_getr rfl (hH.1 118 (17, 105) rfl) rfl (hH.2 118 8 (some 124) rfl) ?_
                                  refine qm_Rp.go 1 (c' := (35, [.ref 118, .int 10, .int i, .int 0, .long (0 : Int64), .float 0], [.ref 118, .ref 124], (h.1, qm_up (qm_up (qm_up I 121 c.toInt.toNat 10) 122 c.toInt.toNat i) 123 c.toInt.toNat 0, J, h.2.2.2))) rfl ?_
                                  refine hp_geti (v := c) rfl (hH.1 118 (17, 105) rfl) rfl (show (qm_up (qm_up (qm_up I 121 c.toInt.toNat 10) 122 c.toInt.toNat i) 123 c.toInt.toNat 0) 118 10 = _ from ((hk_ot rfl).trans ((hk_ot rfl).trans ((hk_ot rfl).trans q_c)))) ?_
                                  refine qm_Rp.go 1 (c' := (40, [.ref 118, .int 10, .int i, .int 0, .long (0 : Int64), .float 0], [.long (0 : Int64), .int c, .ref 124], (h.1, qm_up (qm_up (qm_up I 121 c.toInt.toNat 10) 122 c.toInt.toNat i) 123 c.toInt.toNat 0, J, h.2.2.2))) rfl ?_
                                  refine hp_las rfl (hH.1 124 (3, 403) rfl) (fun ia_36 ib_36 => ?_)
                                  refine qm_Rp.go 2 (c' := (43, [.ref 118, .int 10, .int i, .int 0, .long (0 : Int64), .float 0], [.ref 118, .ref 118], (h.1, qm_up (qm_up (qm_up I 121 c.toInt.toNat 10) 122 c.toInt.toNat i) 123 c.toInt.toNat 0, qm_up J 124 c.toInt.toNat (0 : Int64), h.2.2.2))) rfl ?_
                                  refine hp_geti (v := c) rfl (hH.1 118 (17, 105) rfl) rfl (show (qm_up (qm_up (qm_up I 121 c.toInt.toNat 10) 122 c.toInt.toNat i) 123 c.toInt.toNat 0) 118 10 = _ from ((hk_ot rfl).trans ((hk_ot rfl).trans ((hk_ot rfl).trans q_c)))) ?_
                                  refine qm_Rp.go 2 (c' := (48, [.ref 118, .int 10, .int i, .int 0, .long (0 : Int64), .float 0], [.int (c + 1), .ref 118], (h.1, qm_up (qm_up (qm_up I 121 c.toInt.toNat 10) 122 c.toInt.toNat i) 123 c.toInt.toNat 0, qm_up J 124 c.toInt.toNat (0 : Int64), h.2.2.2))) rfl ?_
                                  obtain ⟨v38, q_v38, e_v38⟩ := hk_add (x := c) (y := 1) (a := c.toInt) (b := 1) rfl rfl (by omega) (by omega)
                                  rw [q_v38]
                                  refine hp_puti rfl (hH.1 118 (17, 105) rfl) rfl ?_
                                  refine qm_Rp.go 0 (c' := (51, [.ref 118, .int 10, .int i, .int 0, .long (0 : Int64), .float 0], [], (h.1, qm_up (qm_up (qm_up (qm_up I 121 c.toInt.toNat 10) 122 c.toInt.toNat i) 123 c.toInt.toNat 0) 118 10 v38, qm_up J 124 c.toInt.toNat (0 : Int64), h.2.2.2))) rfl ?_
                                  refine qm_Rp.rt (v := none) (h' := (h.1, qm_up (qm_up (qm_up (qm_up I 121 c.toInt.toNat 10) 122 c.toInt.toNat i) 123 c.toInt.toNat 0) 118 10 v38, qm_up J 124 c.toInt.toNat (0 : Int64), h.2.2.2)) rfl ?_
                                  refine qm_Rp.go 3 (c' := (167, [.ref 118, .int i, .int c2, .int c15, .int 0, .int 10], [.int 1], (h.1, qm_up (qm_up (qm_up (qm_up I 121 c.toInt.toNat 10) 122 c.toInt.toNat i) 123 c.toInt.toNat 0) 118 10 v38, qm_up J 124 c.toInt.toNat (0 : Int64), h.2.2.2))) rfl ?_
                                  refine qm_Rp.rt (v := (some (.int 1))) (h' := (h.1, qm_up (qm_up (qm_up (qm_up I 121 c.toInt.toNat 10) 122 c.toInt.toNat i) 123 c.toInt.toNat 0) 118 10 v38, qm_up J 124 c.toInt.toNat (0 : Int64), h.2.2.2)) rfl ?_
                                  refine qm_Rp.go 1 (c' := (290, [.ref 118, .int i, .int c2, l3, l4, l5, l6, l7], [.int (i + 1)], (h.1, qm_up (qm_up (qm_up (qm_up I 121 c.toInt.toNat 10) 122 c.toInt.toNat i) 123 c.toInt.toNat 0) 118 10 v38, qm_up J 124 c.toInt.toNat (0 : Int64), h.2.2.2))) rfl ?_
                                  rw [q_v14]
                                  refine qm_Rp.go 2 (c' := (7, [.ref 118, .int v14, .int c2, l3, l4, l5, l6, l7], [], (h.1, qm_up (qm_up (qm_up (qm_up I 121 c.toInt.toNat 10) 122 c.toInt.toNat i) 123 c.toInt.toNat 0) 118 10 v38, qm_up J 124 c.toInt.toNat (0 : Int64), h.2.2.2))) rfl ?_
                                  have A_A39 : rA (h.2.1 120) n.toInt.toNat ((qm_up (qm_up (qm_up (qm_up I 121 c.toInt.toNat 10) 122 c.toInt.toNat i) 123 c.toInt.toNat 0) 118 10 v38) 121) ((qm_up (qm_up (qm_up (qm_up I 121 c.toInt.toNat 10) 122 c.toInt.toNat i) 123 c.toInt.toNat 0) 118 10 v38) 122) ((qm_up (qm_up (qm_up (qm_up I 121 c.toInt.toNat 10) 122 c.toInt.toNat i) 123 c.toInt.toNat 0) 118 10 v38) 123) ((qm_up J 124 c.toInt.toNat (0 : Int64)) 124) v38.toInt.toNat := rA_s (c := c.toInt.toNat) hA (fun y hy => ⟨((hk_ot rfl).trans ((hk_ot rfl).trans ((hk_ot rfl).trans ((hk_neq hy).trans rfl)))), ((hk_ot rfl).trans ((hk_ot rfl).trans ((hk_neq hy).trans ((hk_ot rfl).trans rfl)))), ((hk_ot rfl).trans ((hk_neq hy).trans ((hk_ot rfl).trans ((hk_ot rfl).trans rfl)))), ((hj_neq hy).trans rfl)⟩) (by omega) (by rw [(show (qm_up (qm_up (qm_up (qm_up I 121 c.toInt.toNat 10) 122 c.toInt.toNat i) 123 c.toInt.toNat 0) 118 10 v38) 121 c.toInt.toNat = _ from ((hk_ot rfl).trans ((hk_ot rfl).trans ((hk_ot rfl).trans (hk_same)))))]; exact (by rw [hTK.1, hsk]; rfl)) (by rw [(show (qm_up (qm_up (qm_up (qm_up I 121 c.toInt.toNat 10) 122 c.toInt.toNat i) 123 c.toInt.toNat 0) 118 10 v38) 122 c.toInt.toNat = _ from ((hk_ot rfl).trans ((hk_ot rfl).trans (hk_same))))]; omega) (fun z => by rw [(show (qm_up (qm_up (qm_up (qm_up I 121 c.toInt.toNat 10) 122 c.toInt.toNat i) 123 c.toInt.toNat 0) 118 10 v38) 123 c.toInt.toNat = _ from ((hk_ot rfl).trans (hk_same)))]; rw [hTK.1] at z; omega) (fun z => by rw [(show (qm_up J 124 c.toInt.toNat (0 : Int64)) 124 c.toInt.toNat = _ from (hj_same))]; rw [hTK.1] at z; omega)
                                  have eC : v38.toInt.toNat = c.toInt.toNat + 1 := by omega
                                  exact ih g (by omega) (qm_up (qm_up (qm_up (qm_up I 121 c.toInt.toNat 10) 122 c.toInt.toNat i) 123 c.toInt.toNat 0) 118 10 v38) (qm_up J 124 c.toInt.toNat (0 : Int64)) v38 v14 (fun o ho i => ((hk_mod ho rfl).trans ((hk_mod ho rfl).trans ((hk_mod ho rfl).trans ((hk_mod ho rfl).trans ((e o (hk_ms rfl ho) i).trans rfl)))))) (fun i hi => ((hk_neq (fun z => by subst z; cases hi)).trans ((hk_ot rfl).trans ((hk_ot rfl).trans ((hk_ot rfl).trans ((e8 i (hk_ms rfl hi)).trans rfl)))))) (fun o ho i => ((hj_mod ho rfl).trans ((ej o (hk_ms rfl ho) i).trans rfl))) (show (qm_up (qm_up (qm_up (qm_up I 121 c.toInt.toNat 10) 122 c.toInt.toNat i) 123 c.toInt.toNat 0) 118 10 v38) 118 10 = _ from (hk_same)) A_A39 (fun y hy => by
                                    by_cases c9 : y = c.toInt.toNat
                                    · rw [c9, hTK.1]; omega
                                    · exact hno y (by omega)) (by omega) (by omega) (by rw [eC]; show skp (h.2.1 120) n.toInt.toNat _ = skp (h.2.1 120) n.toInt.toNat (tP (h.2.1 120) n.toInt.toNat (c.toInt.toNat + 1)); rw [hTK.2.1]; congr 1; omega) _ _ _ _ _ _
                              · refine qm_Rp.go 3 (c' := (148, [.ref 118, .int i, .int c2, .int c15, .int 0, .int 9], [], (h.1, I, J, h.2.2.2))) rfl ?_
                                have hw9 : sgW (h.2.1 120) n.toInt.toNat i.toInt.toNat = true := (sgW_y (b := b16) (by omega) (by omega) q_b16 (by omega))
                                have hsk : sgK b3.toInt (sgW (h.2.1 120) n.toInt.toNat i.toInt.toNat) = 29 := by rw [hw9, show b3.toInt = 45 by omega]; rfl
                                have hsn : sgN b3.toInt (sgW (h.2.1 120) n.toInt.toNat i.toInt.toNat) = 1 := by rw [hw9]; unfold sgN; exact if_neg (fun z => by omega)
                                refine qm_Rp.go 5 (c' := (154, [.ref 118, .int i, .int c2, .int c15, .int 0, .int 9], [.long (0 : Int64), .int 0, .int i, .int 9, .ref 118], (h.1, I, J, h.2.2.2))) rfl ?_
                                refine hp_inv (o := 118) (r := []) (as := [.ref 118, .int 9, .int i, .int 0, .long (0 : Int64)]) rfl rfl (hH.1 118 (17, 105) rfl) rfl rfl rfl ?_
                                refine qm_Rp.go 1 (c' := (1, [.ref 118, .int 9, .int i, .int 0, .long (0 : Int64), .float 0], [.ref 118], (h.1, I, J, h.2.2.2))) rfl ?_
                                refine hp_getr rfl (hH.1 118 (17, 105) rfl) rfl (hH.2 118 5 (some 121) rfl) ?_
                                refine qm_Rp.go 1 (c' := (5, [.ref 118, .int 9, .int i, .int 0, .long (0 : Int64), .float 0], [.ref 118, .ref 121], (h.1, I, J, h.2.2.2))) rfl ?_
                                refine hp_geti (v := c) rfl (hH.1 118 (17, 105) rfl) rfl q_c ?_
                                refine qm_Rp.go 1 (c' := (9, [.ref 118, .int 9, .int i, .int 0, .long (0 : Int64), .float 0], [.int 9, .int c, .ref 121], (h.1, I, J, h.2.2.2))) rfl ?_
                                refine hp_ias rfl (hH.1 121 (0, 403) rfl) (fun ia_39 ib_39 => ?_)
                                refine qm_Rp.go 1 (c' := (11, [.ref 118, .int 9, .int i, .int 0, .long (0 : Int64), .float 0], [.ref 118], (h.1, qm_up I 121 c.toInt.toNat 9, J, h.2.2.2))) rfl ?_
                                refine hp_getr rfl (hH.1 118 (17, 105) rfl) rfl (hH.2 118 6 (some 122) rfl) ?_
                                refine qm_Rp.go 1 (c' := (15, [.ref 118, .int 9, .int i, .int 0, .long (0 : Int64), .float 0], [.ref 118, .ref 122], (h.1, qm_up I 121 c.toInt.toNat 9, J, h.2.2.2))) rfl ?_
                                refine hp_geti (v := c) rfl (hH.1 118 (17, 105) rfl) rfl (show (qm_up I 121 c.toInt.toNat 9) 118 10 = _ from ((hk_ot rfl).trans q_c)) ?_
                                refine qm_Rp.go 1 (c' := (19, [.ref 118, .int 9, .int i, .int 0, .long (0 : Int64), .float 0], [.int i, .int c, .ref 122], (h.1, qm_up I 121 c.toInt.toNat 9, J, h.2.2.2))) rfl ?_
                                refine hp_ias rfl (hH.1 122 (0, 403) rfl) (fun ia_40 ib_40 => ?_)
                                refine qm_Rp.go 1 (c' := (21, [.ref 118, .int 9, .int i, .int 0, .long (0 : Int64), .float 0], [.ref 118], (h.1, qm_up (qm_up I 121 c.toInt.toNat 9) 122 c.toInt.toNat i, J, h.2.2.2))) rfl ?_
                                refine hp_getr rfl (hH.1 118 (17, 105) rfl) rfl (hH.2 118 7 (some 123) rfl) ?_
                                refine qm_Rp.go 1 (c' := (25, [.ref 118, .int 9, .int i, .int 0, .long (0 : Int64), .float 0], [.ref 118, .ref 123], (h.1, qm_up (qm_up I 121 c.toInt.toNat 9) 122 c.toInt.toNat i, J, h.2.2.2))) rfl ?_
                                refine hp_geti (v := c) rfl (hH.1 118 (17, 105) rfl) rfl (show (qm_up (qm_up I 121 c.toInt.toNat 9) 122 c.toInt.toNat i) 118 10 = _ from ((hk_ot rfl).trans ((hk_ot rfl).trans q_c))) ?_
                                refine qm_Rp.go 1 (c' := (29, [.ref 118, .int 9, .int i, .int 0, .long (0 : Int64), .float 0], [.int 0, .int c, .ref 123], (h.1, qm_up (qm_up I 121 c.toInt.toNat 9) 122 c.toInt.toNat i, J, h.2.2.2))) rfl ?_
                                refine hp_ias rfl (hH.1 123 (0, 403) rfl) (fun ia_41 ib_41 => ?_)
                                refine qm_Rp.go 1 (c' := (31, [.ref 118, .int 9, .int i, .int 0, .long (0 : Int64), .float 0], [.ref 118], (h.1, qm_up (qm_up (qm_up I 121 c.toInt.toNat 9) 122 c.toInt.toNat i) 123 c.toInt.toNat 0, J, h.2.2.2))) rfl ?_
                                refine hp_getr rfl (hH.1 118 (17, 105) rfl) rfl (hH.2 118 8 (some 124) rfl) ?_
                                refine qm_Rp.go 1 (c' := (35, [.ref 118, .int 9, .int i, .int 0, .long (0 : Int64), .float 0], [.ref 118, .ref 124], (h.1, qm_up (qm_up (qm_up I 121 c.toInt.toNat 9) 122 c.toInt.toNat i) 123 c.toInt.toNat 0, J, h.2.2.2))) rfl ?_
                                refine hp_geti (v := c) rfl (hH.1 118 (17, 105) rfl) rfl (show (qm_up (qm_up (qm_up I 121 c.toInt.toNat 9) 122 c.toInt.toNat i) 123 c.toInt.toNat 0) 118 10 = _ from ((hk_ot rfl).trans ((hk_ot rfl).trans ((hk_ot rfl).trans q_c)))) ?_
                                refine qm_Rp.go 1 (c' := (40, [.ref 118, .int 9, .int i, .int 0, .long (0 : Int64), .float 0], [.long (0 : Int64), .int c, .ref 124], (h.1, qm_up (qm_up (qm_up I 121 c.toInt.toNat 9) 122 c.toInt.toNat i) 123 c.toInt.toNat 0, J, h.2.2.2))) rfl ?_
                                refine hp_las rfl (hH.1 124 (3, 403) rfl) (fun ia_42 ib_42 => ?_)
                                refine qm_Rp.go 2 (c' := (43, [.ref 118, .int 9, .int i, .int 0, .long (0 : Int64), .float 0], [.ref 118, .ref 118], (h.1, qm_up (qm_up (qm_up I 121 c.toInt.toNat 9) 122 c.toInt.toNat i) 123 c.toInt.toNat 0, qm_up J 124 c.toInt.toNat (0 : Int64), h.2.2.2))) rfl ?_
                                refine hp_geti (v := c) rfl (hH.1 118 (17, 105) rfl) rfl (show (qm_up (qm_up (qm_up I 121 c.toInt.toNat 9) 122 c.toInt.toNat i) 123 c.toInt.toNat 0) 118 10 = _ from ((hk_ot rfl).trans ((hk_ot rfl).trans ((hk_ot rfl).trans q_c)))) ?_
                                refine qm_Rp.go 2 (c' := (48, [.ref 118, .int 9, .int i, .int 0, .long (0 : Int64), .float 0], [.int (c + 1), .ref 118], (h.1, qm_up (qm_up (qm_up I 121 c.toInt.toNat 9) 122 c.toInt.toNat i) 123 c.toInt.toNat 0, qm_up J 124 c.toInt.toNat (0 : Int64), h.2.2.2))) rfl ?_
                                obtain ⟨v44, q_v44, e_v44⟩ := hk_add (x := c) (y := 1) (a := c.toInt) (b := 1) rfl rfl (by omega) (by omega)
                                rw [q_v44]
                                refine hp_puti rfl (hH.1 118 (17, 105) rfl) rfl ?_
                                refine qm_Rp.go 0 (c' := (51, [.ref 118, .int 9, .int i, .int 0, .long (0 : Int64), .float 0], [], (h.1, qm_up (qm_up (qm_up (qm_up I 121 c.toInt.toNat 9) 122 c.toInt.toNat i) 123 c.toInt.toNat 0) 118 10 v44, qm_up J 124 c.toInt.toNat (0 : Int64), h.2.2.2))) rfl ?_
                                refine qm_Rp.rt (v := none) (h' := (h.1, qm_up (qm_up (qm_up (qm_up I 121 c.toInt.toNat 9) 122 c.toInt.toNat i) 123 c.toInt.toNat 0) 118 10 v44, qm_up J 124 c.toInt.toNat (0 : Int64), h.2.2.2)) rfl ?_
                                refine qm_Rp.go 3 (c' := (167, [.ref 118, .int i, .int c2, .int c15, .int 0, .int 9], [.int 1], (h.1, qm_up (qm_up (qm_up (qm_up I 121 c.toInt.toNat 9) 122 c.toInt.toNat i) 123 c.toInt.toNat 0) 118 10 v44, qm_up J 124 c.toInt.toNat (0 : Int64), h.2.2.2))) rfl ?_
                                refine qm_Rp.rt (v := (some (.int 1))) (h' := (h.1, qm_up (qm_up (qm_up (qm_up I 121 c.toInt.toNat 9) 122 c.toInt.toNat i) 123 c.toInt.toNat 0) 118 10 v44, qm_up J 124 c.toInt.toNat (0 : Int64), h.2.2.2)) rfl ?_
                                refine qm_Rp.go 1 (c' := (290, [.ref 118, .int i, .int c2, l3, l4, l5, l6, l7], [.int (i + 1)], (h.1, qm_up (qm_up (qm_up (qm_up I 121 c.toInt.toNat 9) 122 c.toInt.toNat i) 123 c.toInt.toNat 0) 118 10 v44, qm_up J 124 c.toInt.toNat (0 : Int64), h.2.2.2))) rfl ?_
                                rw [q_v14]
                                refine qm_Rp.go 2 (c' := (7, [.ref 118, .int v14, .int c2, l3, l4, l5, l6, l7], [], (h.1, qm_up (qm_up (qm_up (qm_up I 121 c.toInt.toNat 9) 122 c.toInt.toNat i) 123 c.toInt.toNat 0) 118 10 v44, qm_up J 124 c.toInt.toNat (0 : Int64), h.2.2.2))) rfl ?_
                                have A_A45 : rA (h.2.1 120) n.toInt.toNat ((qm_up (qm_up (qm_up (qm_up I 121 c.toInt.toNat 9) 122 c.toInt.toNat i) 123 c.toInt.toNat 0) 118 10 v44) 121) ((qm_up (qm_up (qm_up (qm_up I 121 c.toInt.toNat 9) 122 c.toInt.toNat i) 123 c.toInt.toNat 0) 118 10 v44) 122) ((qm_up (qm_up (qm_up (qm_up I 121 c.toInt.toNat 9) 122 c.toInt.toNat i) 123 c.toInt.toNat 0) 118 10 v44) 123) ((qm_up J 124 c.toInt.toNat (0 : Int64)) 124) v44.toInt.toNat := rA_s (c := c.toInt.toNat) hA (fun y hy => ⟨((hk_ot rfl).trans ((hk_ot rfl).trans ((hk_ot rfl).trans ((hk_neq hy).trans rfl)))), ((hk_ot rfl).trans ((hk_ot rfl).trans ((hk_neq hy).trans ((hk_ot rfl).trans rfl)))), ((hk_ot rfl).trans ((hk_neq hy).trans ((hk_ot rfl).trans ((hk_ot rfl).trans rfl)))), ((hj_neq hy).trans rfl)⟩) (by omega) (by rw [(show (qm_up (qm_up (qm_up (qm_up I 121 c.toInt.toNat 9) 122 c.toInt.toNat i) 123 c.toInt.toNat 0) 118 10 v44) 121 c.toInt.toNat = _ from ((hk_ot rfl).trans ((hk_ot rfl).trans ((hk_ot rfl).trans (hk_same)))))]; exact (by rw [hTK.1, hsk]; rfl)) (by rw [(show (qm_up (qm_up (qm_up (qm_up I 121 c.toInt.toNat 9) 122 c.toInt.toNat i) 123 c.toInt.toNat 0) 118 10 v44) 122 c.toInt.toNat = _ from ((hk_ot rfl).trans ((hk_ot rfl).trans (hk_same))))]; omega) (fun z => by rw [(show (qm_up (qm_up (qm_up (qm_up I 121 c.toInt.toNat 9) 122 c.toInt.toNat i) 123 c.toInt.toNat 0) 118 10 v44) 123 c.toInt.toNat = _ from ((hk_ot rfl).trans (hk_same)))]; rw [hTK.1] at z; omega) (fun z => by rw [(show (qm_up J 124 c.toInt.toNat (0 : Int64)) 124 c.toInt.toNat = _ from (hj_same))]; rw [hTK.1] at z; omega)
                                have eC : v44.toInt.toNat = c.toInt.toNat + 1 := by omega
                                exact ih g (by omega) (qm_up (qm_up (qm_up (qm_up I 121 c.toInt.toNat 9) 122 c.toInt.toNat i) 123 c.toInt.toNat 0) 118 10 v44) (qm_up J 124 c.toInt.toNat (0 : Int64)) v44 v14 (fun o ho i => ((hk_mod ho rfl).trans ((hk_mod ho rfl).trans ((hk_mod ho rfl).trans ((hk_mod ho rfl).trans ((e o (hk_ms rfl ho) i).trans rfl)))))) (fun i hi => ((hk_neq (fun z => by subst z; cases hi)).trans ((hk_ot rfl).trans ((hk_ot rfl).trans ((hk_ot rfl).trans ((e8 i (hk_ms rfl hi)).trans rfl)))))) (fun o ho i => ((hj_mod ho rfl).trans ((ej o (hk_ms rfl ho) i).trans rfl))) (show (qm_up (qm_up (qm_up (qm_up I 121 c.toInt.toNat 9) 122 c.toInt.toNat i) 123 c.toInt.toNat 0) 118 10 v44) 118 10 = _ from (hk_same)) A_A45 (fun y hy => by
                                  by_cases c9 : y = c.toInt.toNat
                                  · rw [c9, hTK.1]; omega
                                  · exact hno y (by omega)) (by omega) (by omega) (by rw [eC]; show skp (h.2.1 120) n.toInt.toNat _ = skp (h.2.1 120) n.toInt.toNat (tP (h.2.1 120) n.toInt.toNat (c.toInt.toNat + 1)); rw [hTK.2.1]; congr 1; omega) _ _ _ _ _ _
                            · refine qm_Rp.go 3 (c' := (148, [.ref 118, .int i, .int c2, .int c15, .int 0, .int 8], [], (h.1, I, J, h.2.2.2))) rfl ?_
                              have hw9 : sgW (h.2.1 120) n.toInt.toNat i.toInt.toNat = true := (sgW_y (b := b16) (by omega) (by omega) q_b16 (by omega))
                              have hsk : sgK b3.toInt (sgW (h.2.1 120) n.toInt.toNat i.toInt.toNat) = 28 := by rw [hw9, show b3.toInt = 43 by omega]; rfl
                              have hsn : sgN b3.toInt (sgW (h.2.1 120) n.toInt.toNat i.toInt.toNat) = 1 := by rw [hw9]; unfold sgN; exact if_neg (fun z => by omega)
                              refine qm_Rp.go 5 (c' := (154, [.ref 118, .int i, .int c2, .int c15, .int 0, .int 8], [.long (0 : Int64), .int 0, .int i, .int 8, .ref 118], (h.1, I, J, h.2.2.2))) rfl ?_
                              refine hp_inv (o := 118) (r := []) (as := [.ref 118, .int 8, .int i, .int 0, .long (0 : Int64)]) rfl rfl (hH.1 118 (17, 105) rfl) rfl rfl rfl ?_
                              refine qm_Rp.go 1 (c' := (1, [.ref 118, .int 8, .int i, .int 0, .long (0 : Int64), .float 0], [.ref 118], (h.1, I, J, h.2.2.2))) rfl ?_
                              refine hp_getr rfl (hH.1 118 (17, 105) rfl) rfl (hH.2 118 5 (some 121) rfl) ?_
                              refine qm_Rp.go 1 (c' := (5, [.ref 118, .int 8, .int i, .int 0, .long (0 : Int64), .float 0], [.ref 118, .ref 121], (h.1, I, J, h.2.2.2))) rfl ?_
                              refine hp_geti (v := c) rfl (hH.1 118 (17, 105) rfl) rfl q_c ?_
                              refine qm_Rp.go 1 (c' := (9, [.ref 118, .int 8, .int i, .int 0, .long (0 : Int64), .float 0], [.int 8, .int c, .ref 121], (h.1, I, J, h.2.2.2))) rfl ?_
                              refine hp_ias rfl (hH.1 121 (0, 403) rfl) (fun ia_45 ib_45 => ?_)
                              refine qm_Rp.go 1 (c' := (11, [.ref 118, .int 8, .int i, .int 0, .long (0 : Int64), .float 0], [.ref 118], (h.1, qm_up I 121 c.toInt.toNat 8, J, h.2.2.2))) rfl ?_
                              refine hp_getr rfl (hH.1 118 (17, 105) rfl) rfl (hH.2 118 6 (some 122) rfl) ?_
                              refine qm_Rp.go 1 (c' := (15, [.ref 118, .int 8, .int i, .int 0, .long (0 : Int64), .float 0], [.ref 118, .ref 122], (h.1, qm_up I 121 c.toInt.toNat 8, J, h.2.2.2))) rfl ?_
                              refine hp_geti (v := c) rfl (hH.1 118 (17, 105) rfl) rfl (show (qm_up I 121 c.toInt.toNat 8) 118 10 = _ from ((hk_ot rfl).trans q_c)) ?_
                              refine qm_Rp.go 1 (c' := (19, [.ref 118, .int 8, .int i, .int 0, .long (0 : Int64), .float 0], [.int i, .int c, .ref 122], (h.1, qm_up I 121 c.toInt.toNat 8, J, h.2.2.2))) rfl ?_
                              refine hp_ias rfl (hH.1 122 (0, 403) rfl) (fun ia_46 ib_46 => ?_)
                              refine qm_Rp.go 1 (c' := (21, [.ref 118, .int 8, .int i, .int 0, .long (0 : Int64), .float 0], [.ref 118], (h.1, qm_up (qm_up I 121 c.toInt.toNat 8) 122 c.toInt.toNat i, J, h.2.2.2))) rfl ?_
                              refine hp_getr rfl (hH.1 118 (17, 105) rfl) rfl (hH.2 118 7 (some 123) rfl) ?_
                              refine qm_Rp.go 1 (c' := (25, [.ref 118, .int 8, .int i, .int 0, .long (0 : Int64), .float 0], [.ref 118, .ref 123], (h.1, qm_up (qm_up I 121 c.toInt.toNat 8) 122 c.toInt.toNat i, J, h.2.2.2))) rfl ?_
                              refine hp_geti (v := c) rfl (hH.1 118 (17, 105) rfl) rfl (show (qm_up (qm_up I 121 c.toInt.toNat 8) 122 c.toInt.toNat i) 118 10 = _ from ((hk_ot rfl).trans ((hk_ot rfl).trans q_c))) ?_
                              refine qm_Rp.go 1 (c' := (29, [.ref 118, .int 8, .int i, .int 0, .long (0 : Int64), .float 0], [.int 0, .int c, .ref 123], (h.1, qm_up (qm_up I 121 c.toInt.toNat 8) 122 c.toInt.toNat i, J, h.2.2.2))) rfl ?_
                              refine hp_ias rfl (hH.1 123 (0, 403) rfl) (fun ia_47 ib_47 => ?_)
                              refine qm_Rp.go 1 (c' := (31, [.ref 118, .int 8, .int i, .int 0, .long (0 : Int64), .float 0], [.ref 118], (h.1, qm_up (qm_up (qm_up I 121 c.toInt.toNat 8) 122 c.toInt.toNat i) 123 c.toInt.toNat 0, J, h.2.2.2))) rfl ?_
                              refine hp_getr rfl (hH.1 118 (17, 105) rfl) rfl (hH.2 118 8 (some 124) rfl) ?_
                              refine qm_Rp.go 1 (c' := (35, [.ref 118, .int 8, .int i, .int 0, .long (0 : Int64), .float 0], [.ref 118, .ref 124], (h.1, qm_up (qm_up (qm_up I 121 c.toInt.toNat 8) 122 c.toInt.toNat i) 123 c.toInt.toNat 0, J, h.2.2.2))) rfl ?_
                              refine hp_geti (v := c) rfl (hH.1 118 (17, 105) rfl) rfl (show (qm_up (qm_up (qm_up I 121 c.toInt.toNat 8) 122 c.toInt.toNat i) 123 c.toInt.toNat 0) 118 10 = _ from ((hk_ot rfl).trans ((hk_ot rfl).trans ((hk_ot rfl).trans q_c)))) ?_
                              refine qm_Rp.go 1 (c' := (40, [.ref 118, .int 8, .int i, .int 0, .long (0 : Int64), .float 0], [.long (0 : Int64), .int c, .ref 124], (h.1, qm_up (qm_up (qm_up I 121 c.toInt.toNat 8) 122 c.toInt.toNat i) 123 c.toInt.toNat 0, J, h.2.2.2))) rfl ?_
                              refine hp_las rfl (hH.1 124 (3, 403) rfl) (fun ia_48 ib_48 => ?_)
                              refine qm_Rp.go 2 (c' := (43, [.ref 118, .int 8, .int i, .int 0, .long (0 : Int64), .float 0], [.ref 118, .ref 118], (h.1, qm_up (qm_up (qm_up I 121 c.toInt.toNat 8) 122 c.toInt.toNat i) 123 c.toInt.toNat 0, qm_up J 124 c.toInt.toNat (0 : Int64), h.2.2.2))) rfl ?_
                              refine hp_geti (v := c) rfl (hH.1 118 (17, 105) rfl) rfl (show (qm_up (qm_up (qm_up I 121 c.toInt.toNat 8) 122 c.toInt.toNat i) 123 c.toInt.toNat 0) 118 10 = _ from ((hk_ot rfl).trans ((hk_ot rfl).trans ((hk_ot rfl).trans q_c)))) ?_
                              refine qm_Rp.go 2 (c' := (48, [.ref 118, .int 8, .int i, .int 0, .long (0 : Int64), .float 0], [.int (c + 1), .ref 118], (h.1, qm_up (qm_up (qm_up I 121 c.toInt.toNat 8) 122 c.toInt.toNat i) 123 c.toInt.toNat 0, qm_up J 124 c.toInt.toNat (0 : Int64), h.2.2.2))) rfl ?_
                              obtain ⟨v50, q_v50, e_v50⟩ := hk_add (x := c) (y := 1) (a := c.toInt) (b := 1) rfl rfl (by omega) (by omega)
                              rw [q_v50]
                              refine hp_puti rfl (hH.1 118 (17, 105) rfl) rfl ?_
                              refine qm_Rp.go 0 (c' := (51, [.ref 118, .int 8, .int i, .int 0, .long (0 : Int64), .float 0], [], (h.1, qm_up (qm_up (qm_up (qm_up I 121 c.toInt.toNat 8) 122 c.toInt.toNat i) 123 c.toInt.toNat 0) 118 10 v50, qm_up J 124 c.toInt.toNat (0 : Int64), h.2.2.2))) rfl ?_
                              refine qm_Rp.rt (v := none) (h' := (h.1, qm_up (qm_up (qm_up (qm_up I 121 c.toInt.toNat 8) 122 c.toInt.toNat i) 123 c.toInt.toNat 0) 118 10 v50, qm_up J 124 c.toInt.toNat (0 : Int64), h.2.2.2)) rfl ?_
                              refine qm_Rp.go 3 (c' := (167, [.ref 118, .int i, .int c2, .int c15, .int 0, .int 8], [.int 1], (h.1, qm_up (qm_up (qm_up (qm_up I 121 c.toInt.toNat 8) 122 c.toInt.toNat i) 123 c.toInt.toNat 0) 118 10 v50, qm_up J 124 c.toInt.toNat (0 : Int64), h.2.2.2))) rfl ?_
                              refine qm_Rp.rt (v := (some (.int 1))) (h' := (h.1, qm_up (qm_up (qm_up (qm_up I 121 c.toInt.toNat 8) 122 c.toInt.toNat i) 123 c.toInt.toNat 0) 118 10 v50, qm_up J 124 c.toInt.toNat (0 : Int64), h.2.2.2)) rfl ?_
                              refine qm_Rp.go 1 (c' := (290, [.ref 118, .int i, .int c2, l3, l4, l5, l6, l7], [.int (i + 1)], (h.1, qm_up (qm_up (qm_up (qm_up I 121 c.toInt.toNat 8) 122 c.toInt.toNat i) 123 c.toInt.toNat 0) 118 10 v50, qm_up J 124 c.toInt.toNat (0 : Int64), h.2.2.2))) rfl ?_
                              rw [q_v14]
                              refine qm_Rp.go 2 (c' := (7, [.ref 118, .int v14, .int c2, l3, l4, l5, l6, l7], [], (h.1, qm_up (qm_up (qm_up (qm_up I 121 c.toInt.toNat 8) 122 c.toInt.toNat i) 123 c.toInt.toNat 0) 118 10 v50, qm_up J 124 c.toInt.toNat (0 : Int64), h.2.2.2))) rfl ?_
                              have A_A51 : rA (h.2.1 120) n.toInt.toNat ((qm_up (qm_up (qm_up (qm_up I 121 c.toInt.toNat 8) 122 c.toInt.toNat i) 123 c.toInt.toNat 0) 118 10 v50) 121) ((qm_up (qm_up (qm_up (qm_up I 121 c.toInt.toNat 8) 122 c.toInt.toNat i) 123 c.toInt.toNat 0) 118 10 v50) 122) ((qm_up (qm_up (qm_up (qm_up I 121 c.toInt.toNat 8) 122 c.toInt.toNat i) 123 c.toInt.toNat 0) 118 10 v50) 123) ((qm_up J 124 c.toInt.toNat (0 : Int64)) 124) v50.toInt.toNat := rA_s (c := c.toInt.toNat) hA (fun y hy => ⟨((hk_ot rfl).trans ((hk_ot rfl).trans ((hk_ot rfl).trans ((hk_neq hy).trans rfl)))), ((hk_ot rfl).trans ((hk_ot rfl).trans ((hk_neq hy).trans ((hk_ot rfl).trans rfl)))), ((hk_ot rfl).trans ((hk_neq hy).trans ((hk_ot rfl).trans ((hk_ot rfl).trans rfl)))), ((hj_neq hy).trans rfl)⟩) (by omega) (by rw [(show (qm_up (qm_up (qm_up (qm_up I 121 c.toInt.toNat 8) 122 c.toInt.toNat i) 123 c.toInt.toNat 0) 118 10 v50) 121 c.toInt.toNat = _ from ((hk_ot rfl).trans ((hk_ot rfl).trans ((hk_ot rfl).trans (hk_same)))))]; exact (by rw [hTK.1, hsk]; rfl)) (by rw [(show (qm_up (qm_up (qm_up (qm_up I 121 c.toInt.toNat 8) 122 c.toInt.toNat i) 123 c.toInt.toNat 0) 118 10 v50) 122 c.toInt.toNat = _ from ((hk_ot rfl).trans ((hk_ot rfl).trans (hk_same))))]; omega) (fun z => by rw [(show (qm_up (qm_up (qm_up (qm_up I 121 c.toInt.toNat 8) 122 c.toInt.toNat i) 123 c.toInt.toNat 0) 118 10 v50) 123 c.toInt.toNat = _ from ((hk_ot rfl).trans (hk_same)))]; rw [hTK.1] at z; omega) (fun z => by rw [(show (qm_up J 124 c.toInt.toNat (0 : Int64)) 124 c.toInt.toNat = _ from (hj_same))]; rw [hTK.1] at z; omega)
                              have eC : v50.toInt.toNat = c.toInt.toNat + 1 := by omega
                              exact ih g (by omega) (qm_up (qm_up (qm_up (qm_up I 121 c.toInt.toNat 8) 122 c.toInt.toNat i) 123 c.toInt.toNat 0) 118 10 v50) (qm_up J 124 c.toInt.toNat (0 : Int64)) v50 v14 (fun o ho i => ((hk_mod ho rfl).trans ((hk_mod ho rfl).trans ((hk_mod ho rfl).trans ((hk_mod ho rfl).trans ((e o (hk_ms rfl ho) i).trans rfl)))))) (fun i hi => ((hk_neq (fun z => by subst z; cases hi)).trans ((hk_ot rfl).trans ((hk_ot rfl).trans ((hk_ot rfl).trans ((e8 i (hk_ms rfl hi)).trans rfl)))))) (fun o ho i => ((hj_mod ho rfl).trans ((ej o (hk_ms rfl ho) i).trans rfl))) (show (qm_up (qm_up (qm_up (qm_up I 121 c.toInt.toNat 8) 122 c.toInt.toNat i) 123 c.toInt.toNat 0) 118 10 v50) 118 10 = _ from (hk_same)) A_A51 (fun y hy => by
                                by_cases c9 : y = c.toInt.toNat
                                · rw [c9, hTK.1]; omega
                                · exact hno y (by omega)) (by omega) (by omega) (by rw [eC]; show skp (h.2.1 120) n.toInt.toNat _ = skp (h.2.1 120) n.toInt.toNat (tP (h.2.1 120) n.toInt.toNat (c.toInt.toNat + 1)); rw [hTK.2.1]; congr 1; omega) _ _ _ _ _ _
                          · refine qm_Rp.go 3 (c' := (148, [.ref 118, .int i, .int c2, .int c15, .int 0, .int 7], [], (h.1, I, J, h.2.2.2))) rfl ?_
                            have hw9 : sgW (h.2.1 120) n.toInt.toNat i.toInt.toNat = true := (sgW_y (b := b16) (by omega) (by omega) q_b16 (by omega))
                            have hsk : sgK b3.toInt (sgW (h.2.1 120) n.toInt.toNat i.toInt.toNat) = 36 := by rw [hw9, show b3.toInt = 41 by omega]; rfl
                            have hsn : sgN b3.toInt (sgW (h.2.1 120) n.toInt.toNat i.toInt.toNat) = 1 := by rw [hw9]; unfold sgN; exact if_neg (fun z => by omega)
                            refine qm_Rp.go 5 (c' := (154, [.ref 118, .int i, .int c2, .int c15, .int 0, .int 7], [.long (0 : Int64), .int 0, .int i, .int 7, .ref 118], (h.1, I, J, h.2.2.2))) rfl ?_
                            refine hp_inv (o := 118) (r := []) (as := [.ref 118, .int 7, .int i, .int 0, .long (0 : Int64)]) rfl rfl (hH.1 118 (17, 105) rfl) rfl rfl rfl ?_
                            refine qm_Rp.go 1 (c' := (1, [.ref 118, .int 7, .int i, .int 0, .long (0 : Int64), .float 0], [.ref 118], (h.1, I, J, h.2.2.2))) rfl ?_
                            refine hp_getr rfl (hH.1 118 (17, 105) rfl) rfl (hH.2 118 5 (some 121) rfl) ?_
                            refine qm_Rp.go 1 (c' := (5, [.ref 118, .int 7, .int i, .int 0, .long (0 : Int64), .float 0], [.ref 118, .ref 121], (h.1, I, J, h.2.2.2))) rfl ?_
                            refine hp_geti (v := c) rfl (hH.1 118 (17, 105) rfl) rfl q_c ?_
                            refine qm_Rp.go 1 (c' := (9, [.ref 118, .int 7, .int i, .int 0, .long (0 : Int64), .float 0], [.int 7, .int c, .ref 121], (h.1, I, J, h.2.2.2))) rfl ?_
                            refine hp_ias rfl (hH.1 121 (0, 403) rfl) (fun ia_51 ib_51 => ?_)
                            refine qm_Rp.go 1 (c' := (11, [.ref 118, .int 7, .int i, .int 0, .long (0 : Int64), .float 0], [.ref 118], (h.1, qm_up I 121 c.toInt.toNat 7, J, h.2.2.2))) rfl ?_
                            refine hp_getr rfl (hH.1 118 (17, 105) rfl) rfl (hH.2 118 6 (some 122) rfl) ?_
                            refine qm_Rp.go 1 (c' := (15, [.ref 118, .int 7, .int i, .int 0, .long (0 : Int64), .float 0], [.ref 118, .ref 122], (h.1, qm_up I 121 c.toInt.toNat 7, J, h.2.2.2))) rfl ?_
                            refine hp_geti (v := c) rfl (hH.1 118 (17, 105) rfl) rfl (show (qm_up I 121 c.toInt.toNat 7) 118 10 = _ from ((hk_ot rfl).trans q_c)) ?_
                            refine qm_Rp.go 1 (c' := (19, [.ref 118, .int 7, .int i, .int 0, .long (0 : Int64), .float 0], [.int i, .int c, .ref 122], (h.1, qm_up I 121 c.toInt.toNat 7, J, h.2.2.2))) rfl ?_
                            refine hp_ias rfl (hH.1 122 (0, 403) rfl) (fun ia_52 ib_52 => ?_)
                            refine qm_Rp.go 1 (c' := (21, [.ref 118, .int 7, .int i, .int 0, .long (0 : Int64), .float 0], [.ref 118], (h.1, qm_up (qm_up I 121 c.toInt.toNat 7) 122 c.toInt.toNat i, J, h.2.2.2))) rfl ?_
                            refine hp_getr rfl (hH.1 118 (17, 105) rfl) rfl (hH.2 118 7 (some 123) rfl) ?_
                            refine qm_Rp.go 1 (c' := (25, [.ref 118, .int 7, .int i, .int 0, .long (0 : Int64), .float 0], [.ref 118, .ref 123], (h.1, qm_up (qm_up I 121 c.toInt.toNat 7) 122 c.toInt.toNat i, J, h.2.2.2))) rfl ?_
                            refine hp_geti (v := c) rfl (hH.1 118 (17, 105) rfl) rfl (show (qm_up (qm_up I 121 c.toInt.toNat 7) 122 c.toInt.toNat i) 118 10 = _ from ((hk_ot rfl).trans ((hk_ot rfl).trans q_c))) ?_
                            refine qm_Rp.go 1 (c' := (29, [.ref 118, .int 7, .int i, .int 0, .long (0 : Int64), .float 0], [.int 0, .int c, .ref 123], (h.1, qm_up (qm_up I 121 c.toInt.toNat 7) 122 c.toInt.toNat i, J, h.2.2.2))) rfl ?_
                            refine hp_ias rfl (hH.1 123 (0, 403) rfl) (fun ia_53 ib_53 => ?_)
                            refine qm_Rp.go 1 (c' := (31, [.ref 118, .int 7, .int i, .int 0, .long (0 : Int64), .float 0], [.ref 118], (h.1, qm_up (qm_up (qm_up I 121 c.toInt.toNat 7) 122 c.toInt.toNat i) 123 c.toInt.toNat 0, J, h.2.2.2))) rfl ?_
                            refine hp_getr rfl (hH.1 118 (17, 105) rfl) rfl (hH.2 118 8 (some 124) rfl) ?_
                            refine qm_Rp.go 1 (c' := (35, [.ref 118, .int 7, .int i, .int 0, .long (0 : Int64), .float 0], [.ref 118, .ref 124], (h.1, qm_up (qm_up (qm_up I 121 c.toInt.toNat 7) 122 c.toInt.toNat i) 123 c.toInt.toNat 0, J, h.2.2.2))) rfl ?_
                            refine hp_geti (v := c) rfl (hH.1 118 (17, 105) rfl) rfl (show (qm_up (qm_up (qm_up I 121 c.toInt.toNat 7) 122 c.toInt.toNat i) 123 c.toInt.toNat 0) 118 10 = _ from ((hk_ot rfl).trans ((hk_ot rfl).trans ((hk_ot rfl).trans q_c)))) ?_
                            refine qm_Rp.go 1 (c' := (40, [.ref 118, .int 7, .int i, .int 0, .long (0 : Int64), .float 0], [.long (0 : Int64), .int c, .ref 124], (h.1, qm_up (qm_up (qm_up I 121 c.toInt.toNat 7) 122 c.toInt.toNat i) 123 c.toInt.toNat 0, J, h.2.2.2))) rfl ?_
                            refine hp_las rfl (hH.1 124 (3, 403) rfl) (fun ia_54 ib_54 => ?_)
                            refine qm_Rp.go 2 (c' := (43, [.ref 118, .int 7, .int i, .int 0, .long (0 : Int64), .float 0], [.ref 118, .ref 118], (h.1, qm_up (qm_up (qm_up I 121 c.toInt.toNat 7) 122 c.toInt.toNat i) 123 c.toInt.toNat 0, qm_up J 124 c.toInt.toNat (0 : Int64), h.2.2.2))) rfl ?_
                            refine hp_geti (v := c) rfl (hH.1 118 (17, 105) rfl) rfl (show (qm_up (qm_up (qm_up I 121 c.toInt.toNat 7) 122 c.toInt.toNat i) 123 c.toInt.toNat 0) 118 10 = _ from ((hk_ot rfl).trans ((hk_ot rfl).trans ((hk_ot rfl).trans q_c)))) ?_
                            refine qm_Rp.go 2 (c' := (48, [.ref 118, .int 7, .int i, .int 0, .long (0 : Int64), .float 0], [.int (c + 1), .ref 118], (h.1, qm_up (qm_up (qm_up I 121 c.toInt.toNat 7) 122 c.toInt.toNat i) 123 c.toInt.toNat 0, qm_up J 124 c.toInt.toNat (0 : Int64), h.2.2.2))) rfl ?_
                            obtain ⟨v56, q_v56, e_v56⟩ := hk_add (x := c) (y := 1) (a := c.toInt) (b := 1) rfl rfl (by omega) (by omega)
                            rw [q_v56]
                            refine hp_puti rfl (hH.1 118 (17, 105) rfl) rfl ?_
                            refine qm_Rp.go 0 (c' := (51, [.ref 118, .int 7, .int i, .int 0, .long (0 : Int64), .float 0], [], (h.1, qm_up (qm_up (qm_up (qm_up I 121 c.toInt.toNat 7) 122 c.toInt.toNat i) 123 c.toInt.toNat 0) 118 10 v56, qm_up J 124 c.toInt.toNat (0 : Int64), h.2.2.2))) rfl ?_
                            refine qm_Rp.rt (v := none) (h' := (h.1, qm_up (qm_up (qm_up (qm_up I 121 c.toInt.toNat 7) 122 c.toInt.toNat i) 123 c.toInt.toNat 0) 118 10 v56, qm_up J 124 c.toInt.toNat (0 : Int64), h.2.2.2)) rfl ?_
                            refine qm_Rp.go 3 (c' := (167, [.ref 118, .int i, .int c2, .int c15, .int 0, .int 7], [.int 1], (h.1, qm_up (qm_up (qm_up (qm_up I 121 c.toInt.toNat 7) 122 c.toInt.toNat i) 123 c.toInt.toNat 0) 118 10 v56, qm_up J 124 c.toInt.toNat (0 : Int64), h.2.2.2))) rfl ?_
                            refine qm_Rp.rt (v := (some (.int 1))) (h' := (h.1, qm_up (qm_up (qm_up (qm_up I 121 c.toInt.toNat 7) 122 c.toInt.toNat i) 123 c.toInt.toNat 0) 118 10 v56, qm_up J 124 c.toInt.toNat (0 : Int64), h.2.2.2)) rfl ?_
                            refine qm_Rp.go 1 (c' := (290, [.ref 118, .int i, .int c2, l3, l4, l5, l6, l7], [.int (i + 1)], (h.1, qm_up (qm_up (qm_up (qm_up I 121 c.toInt.toNat 7) 122 c.toInt.toNat i) 123 c.toInt.toNat 0) 118 10 v56, qm_up J 124 c.toInt.toNat (0 : Int64), h.2.2.2))) rfl ?_
                            rw [q_v14]
                            refine qm_Rp.go 2 (c' := (7, [.ref 118, .int v14, .int c2, l3, l4, l5, l6, l7], [], (h.1, qm_up (qm_up (qm_up (qm_up I 121 c.toInt.toNat 7) 122 c.toInt.toNat i) 123 c.toInt.toNat 0) 118 10 v56, qm_up J 124 c.toInt.toNat (0 : Int64), h.2.2.2))) rfl ?_
                            have A_A57 : rA (h.2.1 120) n.toInt.toNat ((qm_up (qm_up (qm_up (qm_up I 121 c.toInt.toNat 7) 122 c.toInt.toNat i) 123 c.toInt.toNat 0) 118 10 v56) 121) ((qm_up (qm_up (qm_up (qm_up I 121 c.toInt.toNat 7) 122 c.toInt.toNat i) 123 c.toInt.toNat 0) 118 10 v56) 122) ((qm_up (qm_up (qm_up (qm_up I 121 c.toInt.toNat 7) 122 c.toInt.toNat i) 123 c.toInt.toNat 0) 118 10 v56) 123) ((qm_up J 124 c.toInt.toNat (0 : Int64)) 124) v56.toInt.toNat := rA_s (c := c.toInt.toNat) hA (fun y hy => ⟨((hk_ot rfl).trans ((hk_ot rfl).trans ((hk_ot rfl).trans ((hk_neq hy).trans rfl)))), ((hk_ot rfl).trans ((hk_ot rfl).trans ((hk_neq hy).trans ((hk_ot rfl).trans rfl)))), ((hk_ot rfl).trans ((hk_neq hy).trans ((hk_ot rfl).trans ((hk_ot rfl).trans rfl)))), ((hj_neq hy).trans rfl)⟩) (by omega) (by rw [(show (qm_up (qm_up (qm_up (qm_up I 121 c.toInt.toNat 7) 122 c.toInt.toNat i) 123 c.toInt.toNat 0) 118 10 v56) 121 c.toInt.toNat = _ from ((hk_ot rfl).trans ((hk_ot rfl).trans ((hk_ot rfl).trans (hk_same)))))]; exact (by rw [hTK.1, hsk]; rfl)) (by rw [(show (qm_up (qm_up (qm_up (qm_up I 121 c.toInt.toNat 7) 122 c.toInt.toNat i) 123 c.toInt.toNat 0) 118 10 v56) 122 c.toInt.toNat = _ from ((hk_ot rfl).trans ((hk_ot rfl).trans (hk_same))))]; omega) (fun z => by rw [(show (qm_up (qm_up (qm_up (qm_up I 121 c.toInt.toNat 7) 122 c.toInt.toNat i) 123 c.toInt.toNat 0) 118 10 v56) 123 c.toInt.toNat = _ from ((hk_ot rfl).trans (hk_same)))]; rw [hTK.1] at z; omega) (fun z => by rw [(show (qm_up J 124 c.toInt.toNat (0 : Int64)) 124 c.toInt.toNat = _ from (hj_same))]; rw [hTK.1] at z; omega)
                            have eC : v56.toInt.toNat = c.toInt.toNat + 1 := by omega
                            exact ih g (by omega) (qm_up (qm_up (qm_up (qm_up I 121 c.toInt.toNat 7) 122 c.toInt.toNat i) 123 c.toInt.toNat 0) 118 10 v56) (qm_up J 124 c.toInt.toNat (0 : Int64)) v56 v14 (fun o ho i => ((hk_mod ho rfl).trans ((hk_mod ho rfl).trans ((hk_mod ho rfl).trans ((hk_mod ho rfl).trans ((e o (hk_ms rfl ho) i).trans rfl)))))) (fun i hi => ((hk_neq (fun z => by subst z; cases hi)).trans ((hk_ot rfl).trans ((hk_ot rfl).trans ((hk_ot rfl).trans ((e8 i (hk_ms rfl hi)).trans rfl)))))) (fun o ho i => ((hj_mod ho rfl).trans ((ej o (hk_ms rfl ho) i).trans rfl))) (show (qm_up (qm_up (qm_up (qm_up I 121 c.toInt.toNat 7) 122 c.toInt.toNat i) 123 c.toInt.toNat 0) 118 10 v56) 118 10 = _ from (hk_same)) A_A57 (fun y hy => by
                              by_cases c9 : y = c.toInt.toNat
                              · rw [c9, hTK.1]; omega
                              · exact hno y (by omega)) (by omega) (by omega) (by rw [eC]; show skp (h.2.1 120) n.toInt.toNat _ = skp (h.2.1 120) n.toInt.toNat (tP (h.2.1 120) n.toInt.toNat (c.toInt.toNat + 1)); rw [hTK.2.1]; congr 1; omega) _ _ _ _ _ _
                        · refine qm_Rp.go 3 (c' := (148, [.ref 118, .int i, .int c2, .int c15, .int 0, .int 6], [], (h.1, I, J, h.2.2.2))) rfl ?_
                          have hw9 : sgW (h.2.1 120) n.toInt.toNat i.toInt.toNat = true := (sgW_y (b := b16) (by omega) (by omega) q_b16 (by omega))
                          have hsk : sgK b3.toInt (sgW (h.2.1 120) n.toInt.toNat i.toInt.toNat) = 35 := by rw [hw9, show b3.toInt = 40 by omega]; rfl
                          have hsn : sgN b3.toInt (sgW (h.2.1 120) n.toInt.toNat i.toInt.toNat) = 1 := by rw [hw9]; unfold sgN; exact if_neg (fun z => by omega)
                          refine qm_Rp.go 5 (c' := (154, [.ref 118, .int i, .int c2, .int c15, .int 0, .int 6], [.long (0 : Int64), .int 0, .int i, .int 6, .ref 118], (h.1, I, J, h.2.2.2))) rfl ?_
                          refine hp_inv (o := 118) (r := []) (as := [.ref 118, .int 6, .int i, .int 0, .long (0 : Int64)]) rfl rfl (hH.1 118 (17, 105) rfl) rfl rfl rfl ?_
                          refine qm_Rp.go 1 (c' := (1, [.ref 118, .int 6, .int i, .int 0, .long (0 : Int64), .float 0], [.ref 118], (h.1, I, J, h.2.2.2))) rfl ?_
                          refine hp_getr rfl (hH.1 118 (17, 105) rfl) rfl (hH.2 118 5 (some 121) rfl) ?_
                          refine qm_Rp.go 1 (c' := (5, [.ref 118, .int 6, .int i, .int 0, .long (0 : Int64), .float 0], [.ref 118, .ref 121], (h.1, I, J, h.2.2.2))) rfl ?_
                          refine hp_geti (v := c) rfl (hH.1 118 (17, 105) rfl) rfl q_c ?_
                          refine qm_Rp.go 1 (c' := (9, [.ref 118, .int 6, .int i, .int 0, .long (0 : Int64), .float 0], [.int 6, .int c, .ref 121], (h.1, I, J, h.2.2.2))) rfl ?_
                          refine hp_ias rfl (hH.1 121 (0, 403) rfl) (fun ia_57 ib_57 => ?_)
                          refine qm_Rp.go 1 (c' := (11, [.ref 118, .int 6, .int i, .int 0, .long (0 : Int64), .float 0], [.ref 118], (h.1, qm_up I 121 c.toInt.toNat 6, J, h.2.2.2))) rfl ?_
                          refine hp_getr rfl (hH.1 118 (17, 105) rfl) rfl (hH.2 118 6 (some 122) rfl) ?_
                          refine qm_Rp.go 1 (c' := (15, [.ref 118, .int 6, .int i, .int 0, .long (0 : Int64), .float 0], [.ref 118, .ref 122], (h.1, qm_up I 121 c.toInt.toNat 6, J, h.2.2.2))) rfl ?_
                          refine hp_geti (v := c) rfl (hH.1 118 (17, 105) rfl) rfl (show (qm_up I 121 c.toInt.toNat 6) 118 10 = _ from ((hk_ot rfl).trans q_c)) ?_
                          refine qm_Rp.go 1 (c' := (19, [.ref 118, .int 6, .int i, .int 0, .long (0 : Int64), .float 0], [.int i, .int c, .ref 122], (h.1, qm_up I 121 c.toInt.toNat 6, J, h.2.2.2))) rfl ?_
                          refine hp_ias rfl (hH.1 122 (0, 403) rfl) (fun ia_58 ib_58 => ?_)
                          refine qm_Rp.go 1 (c' := (21, [.ref 118, .int 6, .int i, .int 0, .long (0 : Int64), .float 0], [.ref 118], (h.1, qm_up (qm_up I 121 c.toInt.toNat 6) 122 c.toInt.toNat i, J, h.2.2.2))) rfl ?_
                          refine hp_getr rfl (hH.1 118 (17, 105) rfl) rfl (hH.2 118 7 (some 123) rfl) ?_
                          refine qm_Rp.go 1 (c' := (25, [.ref 118, .int 6, .int i, .int 0, .long (0 : Int64), .float 0], [.ref 118, .ref 123], (h.1, qm_up (qm_up I 121 c.toInt.toNat 6) 122 c.toInt.toNat i, J, h.2.2.2))) rfl ?_
                          refine hp_geti (v := c) rfl (hH.1 118 (17, 105) rfl) rfl (show (qm_up (qm_up I 121 c.toInt.toNat 6) 122 c.toInt.toNat i) 118 10 = _ from ((hk_ot rfl).trans ((hk_ot rfl).trans q_c))) ?_
                          refine qm_Rp.go 1 (c' := (29, [.ref 118, .int 6, .int i, .int 0, .long (0 : Int64), .float 0], [.int 0, .int c, .ref 123], (h.1, qm_up (qm_up I 121 c.toInt.toNat 6) 122 c.toInt.toNat i, J, h.2.2.2))) rfl ?_
                          refine hp_ias rfl (hH.1 123 (0, 403) rfl) (fun ia_59 ib_59 => ?_)
                          refine qm_Rp.go 1 (c' := (31, [.ref 118, .int 6, .int i, .int 0, .long (0 : Int64), .float 0], [.ref 118], (h.1, qm_up (qm_up (qm_up I 121 c.toInt.toNat 6) 122 c.toInt.toNat i) 123 c.toInt.toNat 0, J, h.2.2.2))) rfl ?_
                          refine hp_getr rfl (hH.1 118 (17, 105) rfl) rfl (hH.2 118 8 (some 124) rfl) ?_
                          refine qm_Rp.go 1 (c' := (35, [.ref 118, .int 6, .int i, .int 0, .long (0 : Int64), .float 0], [.ref 118, .ref 124], (h.1, qm_up (qm_up (qm_up I 121 c.toInt.toNat 6) 122 c.toInt.toNat i) 123 c.toInt.toNat 0, J, h.2.2.2))) rfl ?_
                          refine hp_geti (v := c) rfl (hH.1 118 (17, 105) rfl) rfl (show (qm_up (qm_up (qm_up I 121 c.toInt.toNat 6) 122 c.toInt.toNat i) 123 c.toInt.toNat 0) 118 10 = _ from ((hk_ot rfl).trans ((hk_ot rfl).trans ((hk_ot rfl).trans q_c)))) ?_
                          refine qm_Rp.go 1 (c' := (40, [.ref 118, .int 6, .int i, .int 0, .long (0 : Int64), .float 0], [.long (0 : Int64), .int c, .ref 124], (h.1, qm_up (qm_up (qm_up I 121 c.toInt.toNat 6) 122 c.toInt.toNat i) 123 c.toInt.toNat 0, J, h.2.2.2))) rfl ?_
                          refine hp_las rfl (hH.1 124 (3, 403) rfl) (fun ia_60 ib_60 => ?_)
                          refine qm_Rp.go 2 (c' := (43, [.ref 118, .int 6, .int i, .int 0, .long (0 : Int64), .float 0], [.ref 118, .ref 118], (h.1, qm_up (qm_up (qm_up I 121 c.toInt.toNat 6) 122 c.toInt.toNat i) 123 c.toInt.toNat 0, qm_up J 124 c.toInt.toNat (0 : Int64), h.2.2.2))) rfl ?_
                          refine hp_geti (v := c) rfl (hH.1 118 (17, 105) rfl) rfl (show (qm_up (qm_up (qm_up I 121 c.toInt.toNat 6) 122 c.toInt.toNat i) 123 c.toInt.toNat 0) 118 10 = _ from ((hk_ot rfl).trans ((hk_ot rfl).trans ((hk_ot rfl).trans q_c)))) ?_
                          refine qm_Rp.go 2 (c' := (48, [.ref 118, .int 6, .int i, .int 0, .long (0 : Int64), .float 0], [.int (c + 1), .ref 118], (h.1, qm_up (qm_up (qm_up I 121 c.toInt.toNat 6) 122 c.toInt.toNat i) 123 c.toInt.toNat 0, qm_up J 124 c.toInt.toNat (0 : Int64), h.2.2.2))) rfl ?_
                          obtain ⟨v62, q_v62, e_v62⟩ := hk_add (x := c) (y := 1) (a := c.toInt) (b := 1) rfl rfl (by omega) (by omega)
                          rw [q_v62]
                          refine hp_puti rfl (hH.1 118 (17, 105) rfl) rfl ?_
                          refine qm_Rp.go 0 (c' := (51, [.ref 118, .int 6, .int i, .int 0, .long (0 : Int64), .float 0], [], (h.1, qm_up (qm_up (qm_up (qm_up I 121 c.toInt.toNat 6) 122 c.toInt.toNat i) 123 c.toInt.toNat 0) 118 10 v62, qm_up J 124 c.toInt.toNat (0 : Int64), h.2.2.2))) rfl ?_
                          refine qm_Rp.rt (v := none) (h' := (h.1, qm_up (qm_up (qm_up (qm_up I 121 c.toInt.toNat 6) 122 c.toInt.toNat i) 123 c.toInt.toNat 0) 118 10 v62, qm_up J 124 c.toInt.toNat (0 : Int64), h.2.2.2)) rfl ?_
                          refine qm_Rp.go 3 (c' := (167, [.ref 118, .int i, .int c2, .int c15, .int 0, .int 6], [.int 1], (h.1, qm_up (qm_up (qm_up (qm_up I 121 c.toInt.toNat 6) 122 c.toInt.toNat i) 123 c.toInt.toNat 0) 118 10 v62, qm_up J 124 c.toInt.toNat (0 : Int64), h.2.2.2))) rfl ?_
                          refine qm_Rp.rt (v := (some (.int 1))) (h' := (h.1, qm_up (qm_up (qm_up (qm_up I 121 c.toInt.toNat 6) 122 c.toInt.toNat i) 123 c.toInt.toNat 0) 118 10 v62, qm_up J 124 c.toInt.toNat (0 : Int64), h.2.2.2)) rfl ?_
                          refine qm_Rp.go 1 (c' := (290, [.ref 118, .int i, .int c2, l3, l4, l5, l6, l7], [.int (i + 1)], (h.1, qm_up (qm_up (qm_up (qm_up I 121 c.toInt.toNat 6) 122 c.toInt.toNat i) 123 c.toInt.toNat 0) 118 10 v62, qm_up J 124 c.toInt.toNat (0 : Int64), h.2.2.2))) rfl ?_
                          rw [q_v14]
                          refine qm_Rp.go 2 (c' := (7, [.ref 118, .int v14, .int c2, l3, l4, l5, l6, l7], [], (h.1, qm_up (qm_up (qm_up (qm_up I 121 c.toInt.toNat 6) 122 c.toInt.toNat i) 123 c.toInt.toNat 0) 118 10 v62, qm_up J 124 c.toInt.toNat (0 : Int64), h.2.2.2))) rfl ?_
                          have A_A63 : rA (h.2.1 120) n.toInt.toNat ((qm_up (qm_up (qm_up (qm_up I 121 c.toInt.toNat 6) 122 c.toInt.toNat i) 123 c.toInt.toNat 0) 118 10 v62) 121) ((qm_up (qm_up (qm_up (qm_up I 121 c.toInt.toNat 6) 122 c.toInt.toNat i) 123 c.toInt.toNat 0) 118 10 v62) 122) ((qm_up (qm_up (qm_up (qm_up I 121 c.toInt.toNat 6) 122 c.toInt.toNat i) 123 c.toInt.toNat 0) 118 10 v62) 123) ((qm_up J 124 c.toInt.toNat (0 : Int64)) 124) v62.toInt.toNat := rA_s (c := c.toInt.toNat) hA (fun y hy => ⟨((hk_ot rfl).trans ((hk_ot rfl).trans ((hk_ot rfl).trans ((hk_neq hy).trans rfl)))), ((hk_ot rfl).trans ((hk_ot rfl).trans ((hk_neq hy).trans ((hk_ot rfl).trans rfl)))), ((hk_ot rfl).trans ((hk_neq hy).trans ((hk_ot rfl).trans ((hk_ot rfl).trans rfl)))), ((hj_neq hy).trans rfl)⟩) (by omega) (by rw [(show (qm_up (qm_up (qm_up (qm_up I 121 c.toInt.toNat 6) 122 c.toInt.toNat i) 123 c.toInt.toNat 0) 118 10 v62) 121 c.toInt.toNat = _ from ((hk_ot rfl).trans ((hk_ot rfl).trans ((hk_ot rfl).trans (hk_same)))))]; exact (by rw [hTK.1, hsk]; rfl)) (by rw [(show (qm_up (qm_up (qm_up (qm_up I 121 c.toInt.toNat 6) 122 c.toInt.toNat i) 123 c.toInt.toNat 0) 118 10 v62) 122 c.toInt.toNat = _ from ((hk_ot rfl).trans ((hk_ot rfl).trans (hk_same))))]; omega) (fun z => by rw [(show (qm_up (qm_up (qm_up (qm_up I 121 c.toInt.toNat 6) 122 c.toInt.toNat i) 123 c.toInt.toNat 0) 118 10 v62) 123 c.toInt.toNat = _ from ((hk_ot rfl).trans (hk_same)))]; rw [hTK.1] at z; omega) (fun z => by rw [(show (qm_up J 124 c.toInt.toNat (0 : Int64)) 124 c.toInt.toNat = _ from (hj_same))]; rw [hTK.1] at z; omega)
                          have eC : v62.toInt.toNat = c.toInt.toNat + 1 := by omega
                          exact ih g (by omega) (qm_up (qm_up (qm_up (qm_up I 121 c.toInt.toNat 6) 122 c.toInt.toNat i) 123 c.toInt.toNat 0) 118 10 v62) (qm_up J 124 c.toInt.toNat (0 : Int64)) v62 v14 (fun o ho i => ((hk_mod ho rfl).trans ((hk_mod ho rfl).trans ((hk_mod ho rfl).trans ((hk_mod ho rfl).trans ((e o (hk_ms rfl ho) i).trans rfl)))))) (fun i hi => ((hk_neq (fun z => by subst z; cases hi)).trans ((hk_ot rfl).trans ((hk_ot rfl).trans ((hk_ot rfl).trans ((e8 i (hk_ms rfl hi)).trans rfl)))))) (fun o ho i => ((hj_mod ho rfl).trans ((ej o (hk_ms rfl ho) i).trans rfl))) (show (qm_up (qm_up (qm_up (qm_up I 121 c.toInt.toNat 6) 122 c.toInt.toNat i) 123 c.toInt.toNat 0) 118 10 v62) 118 10 = _ from (hk_same)) A_A63 (fun y hy => by
                            by_cases c9 : y = c.toInt.toNat
                            · rw [c9, hTK.1]; omega
                            · exact hno y (by omega)) (by omega) (by omega) (by rw [eC]; show skp (h.2.1 120) n.toInt.toNat _ = skp (h.2.1 120) n.toInt.toNat (tP (h.2.1 120) n.toInt.toNat (c.toInt.toNat + 1)); rw [hTK.2.1]; congr 1; omega) _ _ _ _ _ _
                      · refine qm_Rp.go 10 (c' := (148, [.ref 118, .int i, .int c2, .int c15, .int 12, .int 12], [], (h.1, I, J, h.2.2.2))) rfl ?_
                        have hw9 : sgW (h.2.1 120) n.toInt.toNat i.toInt.toNat = true := (sgW_y (b := b16) (by omega) (by omega) q_b16 (by omega))
                        have hsk : sgK b3.toInt (sgW (h.2.1 120) n.toInt.toNat i.toInt.toNat) = 32 := by rw [hw9, show b3.toInt = 33 by omega]; rfl
                        have hsn : sgN b3.toInt (sgW (h.2.1 120) n.toInt.toNat i.toInt.toNat) = 2 := by rw [hw9]; unfold sgN; exact if_pos ⟨rfl, by omega⟩
                        refine qm_Rp.go 5 (c' := (154, [.ref 118, .int i, .int c2, .int c15, .int 12, .int 12], [.long (0 : Int64), .int 0, .int i, .int 12, .ref 118], (h.1, I, J, h.2.2.2))) rfl ?_
                        refine hp_inv (o := 118) (r := []) (as := [.ref 118, .int 12, .int i, .int 0, .long (0 : Int64)]) rfl rfl (hH.1 118 (17, 105) rfl) rfl rfl rfl ?_
                        refine qm_Rp.go 1 (c' := (1, [.ref 118, .int 12, .int i, .int 0, .long (0 : Int64), .float 0], [.ref 118], (h.1, I, J, h.2.2.2))) rfl ?_
                        refine hp_getr rfl (hH.1 118 (17, 105) rfl) rfl (hH.2 118 5 (some 121) rfl) ?_
                        refine qm_Rp.go 1 (c' := (5, [.ref 118, .int 12, .int i, .int 0, .long (0 : Int64), .float 0], [.ref 118, .ref 121], (h.1, I, J, h.2.2.2))) rfl ?_
                        refine hp_geti (v := c) rfl (hH.1 118 (17, 105) rfl) rfl q_c ?_
                        refine qm_Rp.go 1 (c' := (9, [.ref 118, .int 12, .int i, .int 0, .long (0 : Int64), .float 0], [.int 12, .int c, .ref 121], (h.1, I, J, h.2.2.2))) rfl ?_
                        refine hp_ias rfl (hH.1 121 (0, 403) rfl) (fun ia_63 ib_63 => ?_)
                        refine qm_Rp.go 1 (c' := (11, [.ref 118, .int 12, .int i, .int 0, .long (0 : Int64), .float 0], [.ref 118], (h.1, qm_up I 121 c.toInt.toNat 12, J, h.2.2.2))) rfl ?_
                        refine hp_getr rfl (hH.1 118 (17, 105) rfl) rfl (hH.2 118 6 (some 122) rfl) ?_
                        refine qm_Rp.go 1 (c' := (15, [.ref 118, .int 12, .int i, .int 0, .long (0 : Int64), .float 0], [.ref 118, .ref 122], (h.1, qm_up I 121 c.toInt.toNat 12, J, h.2.2.2))) rfl ?_
                        refine hp_geti (v := c) rfl (hH.1 118 (17, 105) rfl) rfl (show (qm_up I 121 c.toInt.toNat 12) 118 10 = _ from ((hk_ot rfl).trans q_c)) ?_
                        refine qm_Rp.go 1 (c' := (19, [.ref 118, .int 12, .int i, .int 0, .long (0 : Int64), .float 0], [.int i, .int c, .ref 122], (h.1, qm_up I 121 c.toInt.toNat 12, J, h.2.2.2))) rfl ?_
                        refine hp_ias rfl (hH.1 122 (0, 403) rfl) (fun ia_64 ib_64 => ?_)
                        refine qm_Rp.go 1 (c' := (21, [.ref 118, .int 12, .int i, .int 0, .long (0 : Int64), .float 0], [.ref 118], (h.1, qm_up (qm_up I 121 c.toInt.toNat 12) 122 c.toInt.toNat i, J, h.2.2.2))) rfl ?_
                        refine hp_getr rfl (hH.1 118 (17, 105) rfl) rfl (hH.2 118 7 (some 123) rfl) ?_
                        refine qm_Rp.go 1 (c' := (25, [.ref 118, .int 12, .int i, .int 0, .long (0 : Int64), .float 0], [.ref 118, .ref 123], (h.1, qm_up (qm_up I 121 c.toInt.toNat 12) 122 c.toInt.toNat i, J, h.2.2.2))) rfl ?_
                        refine hp_geti (v := c) rfl (hH.1 118 (17, 105) rfl) rfl (show (qm_up (qm_up I 121 c.toInt.toNat 12) 122 c.toInt.toNat i) 118 10 = _ from ((hk_ot rfl).trans ((hk_ot rfl).trans q_c))) ?_
                        refine qm_Rp.go 1 (c' := (29, [.ref 118, .int 12, .int i, .int 0, .long (0 : Int64), .float 0], [.int 0, .int c, .ref 123], (h.1, qm_up (qm_up I 121 c.toInt.toNat 12) 122 c.toInt.toNat i, J, h.2.2.2))) rfl ?_
                        refine hp_ias rfl (hH.1 123 (0, 403) rfl) (fun ia_65 ib_65 => ?_)
                        refine qm_Rp.go 1 (c' := (31, [.ref 118, .int 12, .int i, .int 0, .long (0 : Int64), .float 0], [.ref 118], (h.1, qm_up (qm_up (qm_up I 121 c.toInt.toNat 12) 122 c.toInt.toNat i) 123 c.toInt.toNat 0, J, h.2.2.2))) rfl ?_
                        refine hp_getr rfl (hH.1 118 (17, 105) rfl) rfl (hH.2 118 8 (some 124) rfl) ?_
                        refine qm_Rp.go 1 (c' := (35, [.ref 118, .int 12, .int i, .int 0, .long (0 : Int64), .float 0], [.ref 118, .ref 124], (h.1, qm_up (qm_up (qm_up I 121 c.toInt.toNat 12) 122 c.toInt.toNat i) 123 c.toInt.toNat 0, J, h.2.2.2))) rfl ?_
                        refine hp_geti (v := c) rfl (hH.1 118 (17, 105) rfl) rfl (show (qm_up (qm_up (qm_up I 121 c.toInt.toNat 12) 122 c.toInt.toNat i) 123 c.toInt.toNat 0) 118 10 = _ from ((hk_ot rfl).trans ((hk_ot rfl).trans ((hk_ot rfl).trans q_c)))) ?_
                        refine qm_Rp.go 1 (c' := (40, [.ref 118, .int 12, .int i, .int 0, .long (0 : Int64), .float 0], [.long (0 : Int64), .int c, .ref 124], (h.1, qm_up (qm_up (qm_up I 121 c.toInt.toNat 12) 122 c.toInt.toNat i) 123 c.toInt.toNat 0, J, h.2.2.2))) rfl ?_
                        refine hp_las rfl (hH.1 124 (3, 403) rfl) (fun ia_66 ib_66 => ?_)
                        refine qm_Rp.go 2 (c' := (43, [.ref 118, .int 12, .int i, .int 0, .long (0 : Int64), .float 0], [.ref 118, .ref 118], (h.1, qm_up (qm_up (qm_up I 121 c.toInt.toNat 12) 122 c.toInt.toNat i) 123 c.toInt.toNat 0, qm_up J 124 c.toInt.toNat (0 : Int64), h.2.2.2))) rfl ?_
                        refine hp_geti (v := c) rfl (hH.1 118 (17, 105) rfl) rfl (show (qm_up (qm_up (qm_up I 121 c.toInt.toNat 12) 122 c.toInt.toNat i) 123 c.toInt.toNat 0) 118 10 = _ from ((hk_ot rfl).trans ((hk_ot rfl).trans ((hk_ot rfl).trans q_c)))) ?_
                        refine qm_Rp.go 2 (c' := (48, [.ref 118, .int 12, .int i, .int 0, .long (0 : Int64), .float 0], [.int (c + 1), .ref 118], (h.1, qm_up (qm_up (qm_up I 121 c.toInt.toNat 12) 122 c.toInt.toNat i) 123 c.toInt.toNat 0, qm_up J 124 c.toInt.toNat (0 : Int64), h.2.2.2))) rfl ?_
                        obtain ⟨v68, q_v68, e_v68⟩ := hk_add (x := c) (y := 1) (a := c.toInt) (b := 1) rfl rfl (by omega) (by omega)
                        rw [q_v68]
                        refine hp_puti rfl (hH.1 118 (17, 105) rfl) rfl ?_
                        refine qm_Rp.go 0 (c' := (51, [.ref 118, .int 12, .int i, .int 0, .long (0 : Int64), .float 0], [], (h.1, qm_up (qm_up (qm_up (qm_up I 121 c.toInt.toNat 12) 122 c.toInt.toNat i) 123 c.toInt.toNat 0) 118 10 v68, qm_up J 124 c.toInt.toNat (0 : Int64), h.2.2.2))) rfl ?_
                        refine qm_Rp.rt (v := none) (h' := (h.1, qm_up (qm_up (qm_up (qm_up I 121 c.toInt.toNat 12) 122 c.toInt.toNat i) 123 c.toInt.toNat 0) 118 10 v68, qm_up J 124 c.toInt.toNat (0 : Int64), h.2.2.2)) rfl ?_
                        refine qm_Rp.go 4 (c' := (167, [.ref 118, .int i, .int c2, .int c15, .int 12, .int 12], [.int 2], (h.1, qm_up (qm_up (qm_up (qm_up I 121 c.toInt.toNat 12) 122 c.toInt.toNat i) 123 c.toInt.toNat 0) 118 10 v68, qm_up J 124 c.toInt.toNat (0 : Int64), h.2.2.2))) rfl ?_
                        refine qm_Rp.rt (v := (some (.int 2))) (h' := (h.1, qm_up (qm_up (qm_up (qm_up I 121 c.toInt.toNat 12) 122 c.toInt.toNat i) 123 c.toInt.toNat 0) 118 10 v68, qm_up J 124 c.toInt.toNat (0 : Int64), h.2.2.2)) rfl ?_
                        refine qm_Rp.go 1 (c' := (290, [.ref 118, .int i, .int c2, l3, l4, l5, l6, l7], [.int (i + 2)], (h.1, qm_up (qm_up (qm_up (qm_up I 121 c.toInt.toNat 12) 122 c.toInt.toNat i) 123 c.toInt.toNat 0) 118 10 v68, qm_up J 124 c.toInt.toNat (0 : Int64), h.2.2.2))) rfl ?_
                        obtain ⟨v69, q_v69, e_v69⟩ := hk_add (x := i) (y := 2) (a := i.toInt) (b := 2) rfl rfl (by omega) (by omega)
                        rw [q_v69]
                        refine qm_Rp.go 2 (c' := (7, [.ref 118, .int v69, .int c2, l3, l4, l5, l6, l7], [], (h.1, qm_up (qm_up (qm_up (qm_up I 121 c.toInt.toNat 12) 122 c.toInt.toNat i) 123 c.toInt.toNat 0) 118 10 v68, qm_up J 124 c.toInt.toNat (0 : Int64), h.2.2.2))) rfl ?_
                        have A_A70 : rA (h.2.1 120) n.toInt.toNat ((qm_up (qm_up (qm_up (qm_up I 121 c.toInt.toNat 12) 122 c.toInt.toNat i) 123 c.toInt.toNat 0) 118 10 v68) 121) ((qm_up (qm_up (qm_up (qm_up I 121 c.toInt.toNat 12) 122 c.toInt.toNat i) 123 c.toInt.toNat 0) 118 10 v68) 122) ((qm_up (qm_up (qm_up (qm_up I 121 c.toInt.toNat 12) 122 c.toInt.toNat i) 123 c.toInt.toNat 0) 118 10 v68) 123) ((qm_up J 124 c.toInt.toNat (0 : Int64)) 124) v68.toInt.toNat := rA_s (c := c.toInt.toNat) hA (fun y hy => ⟨((hk_ot rfl).trans ((hk_ot rfl).trans ((hk_ot rfl).trans ((hk_neq hy).trans rfl)))), ((hk_ot rfl).trans ((hk_ot rfl).trans ((hk_neq hy).trans ((hk_ot rfl).trans rfl)))), ((hk_ot rfl).trans ((hk_neq hy).trans ((hk_ot rfl).trans ((hk_ot rfl).trans rfl)))), ((hj_neq hy).trans rfl)⟩) (by omega) (by rw [(show (qm_up (qm_up (qm_up (qm_up I 121 c.toInt.toNat 12) 122 c.toInt.toNat i) 123 c.toInt.toNat 0) 118 10 v68) 121 c.toInt.toNat = _ from ((hk_ot rfl).trans ((hk_ot rfl).trans ((hk_ot rfl).trans (hk_same)))))]; exact (by rw [hTK.1, hsk]; rfl)) (by rw [(show (qm_up (qm_up (qm_up (qm_up I 121 c.toInt.toNat 12) 122 c.toInt.toNat i) 123 c.toInt.toNat 0) 118 10 v68) 122 c.toInt.toNat = _ from ((hk_ot rfl).trans ((hk_ot rfl).trans (hk_same))))]; omega) (fun z => by rw [(show (qm_up (qm_up (qm_up (qm_up I 121 c.toInt.toNat 12) 122 c.toInt.toNat i) 123 c.toInt.toNat 0) 118 10 v68) 123 c.toInt.toNat = _ from ((hk_ot rfl).trans (hk_same)))]; rw [hTK.1] at z; omega) (fun z => by rw [(show (qm_up J 124 c.toInt.toNat (0 : Int64)) 124 c.toInt.toNat = _ from (hj_same))]; rw [hTK.1] at z; omega)
                        have eC : v68.toInt.toNat = c.toInt.toNat + 1 := by omega
                        exact ih g (by omega) (qm_up (qm_up (qm_up (qm_up I 121 c.toInt.toNat 12) 122 c.toInt.toNat i) 123 c.toInt.toNat 0) 118 10 v68) (qm_up J 124 c.toInt.toNat (0 : Int64)) v68 v69 (fun o ho i => ((hk_mod ho rfl).trans ((hk_mod ho rfl).trans ((hk_mod ho rfl).trans ((hk_mod ho rfl).trans ((e o (hk_ms rfl ho) i).trans rfl)))))) (fun i hi => ((hk_neq (fun z => by subst z; cases hi)).trans ((hk_ot rfl).trans ((hk_ot rfl).trans ((hk_ot rfl).trans ((e8 i (hk_ms rfl hi)).trans rfl)))))) (fun o ho i => ((hj_mod ho rfl).trans ((ej o (hk_ms rfl ho) i).trans rfl))) (show (qm_up (qm_up (qm_up (qm_up I 121 c.toInt.toNat 12) 122 c.toInt.toNat i) 123 c.toInt.toNat 0) 118 10 v68) 118 10 = _ from (hk_same)) A_A70 (fun y hy => by
                          by_cases c9 : y = c.toInt.toNat
                          · rw [c9, hTK.1]; omega
                          · exact hno y (by omega)) (by omega) (by omega) (by rw [eC]; show skp (h.2.1 120) n.toInt.toNat _ = skp (h.2.1 120) n.toInt.toNat (tP (h.2.1 120) n.toInt.toNat (c.toInt.toNat + 1)); rw [hTK.2.1]; congr 1; omega) _ _ _ _ _ _
                    · refine qm_Rp.go 9 (c' := (64, [.ref 118, .int i, .int c2, .int c15, .int 0, .int 3], [.int 59, .int c2], (h.1, I, J, h.2.2.2))) rfl ?_
                      refine hp_cne (ix := c2.toInt) (iy := 59) rfl rfl rfl (fun z71 => ?_) (fun z71 => by exfalso; omega)
                      refine qm_Rp.go 2 (c' := (76, [.ref 118, .int i, .int c2, .int c15, .int 0, .int 3], [.int 40, .int c2], (h.1, I, J, h.2.2.2))) rfl ?_
                      refine hp_cne (ix := c2.toInt) (iy := 40) rfl rfl rfl (fun z72 => ?_) (fun z72 => ?_)
                      · refine qm_Rp.go 2 (c' := (89, [.ref 118, .int i, .int c2, .int c15, .int 0, .int 3], [.int 41, .int c2], (h.1, I, J, h.2.2.2))) rfl ?_
                        refine hp_cne (ix := c2.toInt) (iy := 41) rfl rfl rfl (fun z73 => ?_) (fun z73 => ?_)
                        · refine qm_Rp.go 2 (c' := (102, [.ref 118, .int i, .int c2, .int c15, .int 0, .int 3], [.int 43, .int c2], (h.1, I, J, h.2.2.2))) rfl ?_
                          refine hp_cne (ix := c2.toInt) (iy := 43) rfl rfl rfl (fun z74 => ?_) (fun z74 => ?_)
                          · refine qm_Rp.go 2 (c' := (115, [.ref 118, .int i, .int c2, .int c15, .int 0, .int 3], [.int 45, .int c2], (h.1, I, J, h.2.2.2))) rfl ?_
                            refine hp_cne (ix := c2.toInt) (iy := 45) rfl rfl rfl (fun z75 => ?_) (fun z75 => ?_)
                            · refine qm_Rp.go 2 (c' := (128, [.ref 118, .int i, .int c2, .int c15, .int 0, .int 3], [.int 42, .int c2], (h.1, I, J, h.2.2.2))) rfl ?_
                              refine hp_cne (ix := c2.toInt) (iy := 42) rfl rfl rfl (fun z76 => ?_) (fun z76 => ?_)
                              · refine qm_Rp.go 2 (c' := (141, [.ref 118, .int i, .int c2, .int c15, .int 0, .int 3], [.int 60, .int c2], (h.1, I, J, h.2.2.2))) rfl ?_
                                refine hp_cne (ix := c2.toInt) (iy := 60) rfl rfl rfl (fun z77 => ?_) (fun z77 => by exfalso; omega)
                                refine qm_Rp.go 0 (c' := (148, [.ref 118, .int i, .int c2, .int c15, .int 0, .int 3], [], (h.1, I, J, h.2.2.2))) rfl ?_
                                have hw9 : sgW (h.2.1 120) n.toInt.toNat i.toInt.toNat = false := (by
                                  by_cases c9 : n.toInt ≤ i.toInt + 1
                                  · exact sgW_n (by omega)
                                  · exact sgW_b (b := b16) (by omega) q_b16 (by have := f1_c15 (by omega); omega))
                                have hsk : sgK b3.toInt (sgW (h.2.1 120) n.toInt.toNat i.toInt.toNat) = 38 := by rw [hw9]; exact sgK_0 (by omega)
                                have hsn : sgN b3.toInt (sgW (h.2.1 120) n.toInt.toNat i.toInt.toNat) = 1 := by rw [hw9]; unfold sgN; exact if_neg (fun z => Bool.false_ne_true z.1)
                                refine qm_Rp.go 5 (c' := (154, [.ref 118, .int i, .int c2, .int c15, .int 0, .int 3], [.long (0 : Int64), .int 0, .int i, .int 3, .ref 118], (h.1, I, J, h.2.2.2))) rfl ?_
                                refine hp_inv (o := 118) (r := []) (as := [.ref 118, .int 3, .int i, .int 0, .long (0 : Int64)]) rfl rfl (hH.1 118 (17, 105) rfl) rfl rfl rfl ?_
                                refine qm_Rp.go 1 (c' := (1, [.ref 118, .int 3, .int i, .int 0, .long (0 : Int64), .float 0], [.ref 118], (h.1, I, J, h.2.2.2))) rfl ?_
                                refine hp_getr rfl (hH.1 118 (17, 105) rfl) rfl (hH.2 118 5 (some 121) rfl) ?_
                                refine qm_Rp.go 1 (c' := (5, [.ref 118, .int 3, .int i, .int 0, .long (0 : Int64), .float 0], [.ref 118, .ref 121], (h.1, I, J, h.2.2.2))) rfl ?_
                                refine hp_geti (v := c) rfl (hH.1 118 (17, 105) rfl) rfl q_c ?_
                                refine qm_Rp.go 1 (c' := (9, [.ref 118, .int 3, .int i, .int 0, .long (0 : Int64), .float 0], [.int 3, .int c, .ref 121], (h.1, I, J, h.2.2.2))) rfl ?_
                                refine hp_ias rfl (hH.1 121 (0, 403) rfl) (fun ia_77 ib_77 => ?_)
                                refine qm_Rp.go 1 (c' := (11, [.ref 118, .int 3, .int i, .int 0, .long (0 : Int64), .float 0], [.ref 118], (h.1, qm_up I 121 c.toInt.toNat 3, J, h.2.2.2))) rfl ?_
                                refine hp_getr rfl (hH.1 118 (17, 105) rfl) rfl (hH.2 118 6 (some 122) rfl) ?_
                                refine qm_Rp.go 1 (c' := (15, [.ref 118, .int 3, .int i, .int 0, .long (0 : Int64), .float 0], [.ref 118, .ref 122], (h.1, qm_up I 121 c.toInt.toNat 3, J, h.2.2.2))) rfl ?_
                                refine hp_geti (v := c) rfl (hH.1 118 (17, 105) rfl) rfl (show (qm_up I 121 c.toInt.toNat 3) 118 10 = _ from ((hk_ot rfl).trans q_c)) ?_
                                refine qm_Rp.go 1 (c' := (19, [.ref 118, .int 3, .int i, .int 0, .long (0 : Int64), .float 0], [.int i, .int c, .ref 122], (h.1, qm_up I 121 c.toInt.toNat 3, J, h.2.2.2))) rfl ?_
                                refine hp_ias rfl (hH.1 122 (0, 403) rfl) (fun ia_78 ib_78 => ?_)
                                refine qm_Rp.go 1 (c' := (21, [.ref 118, .int 3, .int i, .int 0, .long (0 : Int64), .float 0], [.ref 118], (h.1, qm_up (qm_up I 121 c.toInt.toNat 3) 122 c.toInt.toNat i, J, h.2.2.2))) rfl ?_
                                refine hp_getr rfl (hH.1 118 (17, 105) rfl) rfl (hH.2 118 7 (some 123) rfl) ?_
                                refine qm_Rp.go 1 (c' := (25, [.ref 118, .int 3, .int i, .int 0, .long (0 : Int64), .float 0], [.ref 118, .ref 123], (h.1, qm_up (qm_up I 121 c.toInt.toNat 3) 122 c.toInt.toNat i, J, h.2.2.2))) rfl ?_
                                refine hp_geti (v := c) rfl (hH.1 118 (17, 105) rfl) rfl (show (qm_up (qm_up I 121 c.toInt.toNat 3) 122 c.toInt.toNat i) 118 10 = _ from ((hk_ot rfl).trans ((hk_ot rfl).trans q_c))) ?_
                                refine qm_Rp.go 1 (c' := (29, [.ref 118, .int 3, .int i, .int 0, .long (0 : Int64), .float 0], [.int 0, .int c, .ref 123], (h.1, qm_up (qm_up I 121 c.toInt.toNat 3) 122 c.toInt.toNat i, J, h.2.2.2))) rfl ?_
                                refine hp_ias rfl (hH.1 123 (0, 403) rfl) (fun ia_79 ib_79 => ?_)
                                refine qm_Rp.go 1 (c' := (31, [.ref 118, .int 3, .int i, .int 0, .long (0 : Int64), .float 0], [.ref 118], (h.1, qm_up (qm_up (qm_up I 121 c.toInt.toNat 3) 122 c.toInt.toNat i) 123 c.toInt.toNat 0, J, h.2.2.2))) rfl ?_
                                refine hp_getr rfl (hH.1 118 (17, 105) rfl) rfl (hH.2 118 8 (some 124) rfl) ?_
                                refine qm_Rp.go 1 (c' := (35, [.ref 118, .int 3, .int i, .int 0, .long (0 : Int64), .float 0], [.ref 118, .ref 124], (h.1, qm_up (qm_up (qm_up I 121 c.toInt.toNat 3) 122 c.toInt.toNat i) 123 c.toInt.toNat 0, J, h.2.2.2))) rfl ?_
                                refine hp_geti (v := c) rfl (hH.1 118 (17, 105) rfl) rfl (show (qm_up (qm_up (qm_up I 121 c.toInt.toNat 3) 122 c.toInt.toNat i) 123 c.toInt.toNat 0) 118 10 = _ from ((hk_ot rfl).trans ((hk_ot rfl).trans ((hk_ot rfl).trans q_c)))) ?_
                                refine qm_Rp.go 1 (c' := (40, [.ref 118, .int 3, .int i, .int 0, .long (0 : Int64), .float 0], [.long (0 : Int64), .int c, .ref 124], (h.1, qm_up (qm_up (qm_up I 121 c.toInt.toNat 3) 122 c.toInt.toNat i) 123 c.toInt.toNat 0, J, h.2.2.2))) rfl ?_
                                refine hp_las rfl (hH.1 124 (3, 403) rfl) (fun ia_80 ib_80 => ?_)
                                refine qm_Rp.go 2 (c' := (43, [.ref 118, .int 3, .int i, .int 0, .long (0 : Int64), .float 0], [.ref 118, .ref 118], (h.1, qm_up (qm_up (qm_up I 121 c.toInt.toNat 3) 122 c.toInt.toNat i) 123 c.toInt.toNat 0, qm_up J 124 c.toInt.toNat (0 : Int64), h.2.2.2))) rfl ?_
                                refine hp_geti (v := c) rfl (hH.1 118 (17, 105) rfl) rfl (show (qm_up (qm_up (qm_up I 121 c.toInt.toNat 3) 122 c.toInt.toNat i) 123 c.toInt.toNat 0) 118 10 = _ from ((hk_ot rfl).trans ((hk_ot rfl).trans ((hk_ot rfl).trans q_c)))) ?_
                                refine qm_Rp.go 2 (c' := (48, [.ref 118, .int 3, .int i, .int 0, .long (0 : Int64), .float 0], [.int (c + 1), .ref 118], (h.1, qm_up (qm_up (qm_up I 121 c.toInt.toNat 3) 122 c.toInt.toNat i) 123 c.toInt.toNat 0, qm_up J 124 c.toInt.toNat (0 : Int64), h.2.2.2))) rfl ?_
                                obtain ⟨v82, q_v82, e_v82⟩ := hk_add (x := c) (y := 1) (a := c.toInt) (b := 1) rfl rfl (by omega) (by omega)
                                rw [q_v82]
                                refine hp_puti rfl (hH.1 118 (17, 105) rfl) rfl ?_
                                refine qm_Rp.go 0 (c' := (51, [.ref 118, .int 3, .int i, .int 0, .long (0 : Int64), .float 0], [], (h.1, qm_up (qm_up (qm_up (qm_up I 121 c.toInt.toNat 3) 122 c.toInt.toNat i) 123 c.toInt.toNat 0) 118 10 v82, qm_up J 124 c.toInt.toNat (0 : Int64), h.2.2.2))) rfl ?_
                                refine qm_Rp.rt (v := none) (h' := (h.1, qm_up (qm_up (qm_up (qm_up I 121 c.toInt.toNat 3) 122 c.toInt.toNat i) 123 c.toInt.toNat 0) 118 10 v82, qm_up J 124 c.toInt.toNat (0 : Int64), h.2.2.2)) rfl ?_
                                refine qm_Rp.go 3 (c' := (167, [.ref 118, .int i, .int c2, .int c15, .int 0, .int 3], [.int 1], (h.1, qm_up (qm_up (qm_up (qm_up I 121 c.toInt.toNat 3) 122 c.toInt.toNat i) 123 c.toInt.toNat 0) 118 10 v82, qm_up J 124 c.toInt.toNat (0 : Int64), h.2.2.2))) rfl ?_
                                refine qm_Rp.rt (v := (some (.int 1))) (h' := (h.1, qm_up (qm_up (qm_up (qm_up I 121 c.toInt.toNat 3) 122 c.toInt.toNat i) 123 c.toInt.toNat 0) 118 10 v82, qm_up J 124 c.toInt.toNat (0 : Int64), h.2.2.2)) rfl ?_
                                refine qm_Rp.go 1 (c' := (290, [.ref 118, .int i, .int c2, l3, l4, l5, l6, l7], [.int (i + 1)], (h.1, qm_up (qm_up (qm_up (qm_up I 121 c.toInt.toNat 3) 122 c.toInt.toNat i) 123 c.toInt.toNat 0) 118 10 v82, qm_up J 124 c.toInt.toNat (0 : Int64), h.2.2.2))) rfl ?_
                                rw [q_v14]
                                refine qm_Rp.go 2 (c' := (7, [.ref 118, .int v14, .int c2, l3, l4, l5, l6, l7], [], (h.1, qm_up (qm_up (qm_up (qm_up I 121 c.toInt.toNat 3) 122 c.toInt.toNat i) 123 c.toInt.toNat 0) 118 10 v82, qm_up J 124 c.toInt.toNat (0 : Int64), h.2.2.2))) rfl ?_
                                have A_A83 : rA (h.2.1 120) n.toInt.toNat ((qm_up (qm_up (qm_up (qm_up I 121 c.toInt.toNat 3) 122 c.toInt.toNat i) 123 c.toInt.toNat 0) 118 10 v82) 121) ((qm_up (qm_up (qm_up (qm_up I 121 c.toInt.toNat 3) 122 c.toInt.toNat i) 123 c.toInt.toNat 0) 118 10 v82) 122) ((qm_up (qm_up (qm_up (qm_up I 121 c.toInt.toNat 3) 122 c.toInt.toNat i) 123 c.toInt.toNat 0) 118 10 v82) 123) ((qm_up J 124 c.toInt.toNat (0 : Int64)) 124) v82.toInt.toNat := rA_s (c := c.toInt.toNat) hA (fun y hy => ⟨((hk_ot rfl).trans ((hk_ot rfl).trans ((hk_ot rfl).trans ((hk_neq hy).trans rfl)))), ((hk_ot rfl).trans ((hk_ot rfl).trans ((hk_neq hy).trans ((hk_ot rfl).trans rfl)))), ((hk_ot rfl).trans ((hk_neq hy).trans ((hk_ot rfl).trans ((hk_ot rfl).trans rfl)))), ((hj_neq hy).trans rfl)⟩) (by omega) (by rw [(show (qm_up (qm_up (qm_up (qm_up I 121 c.toInt.toNat 3) 122 c.toInt.toNat i) 123 c.toInt.toNat 0) 118 10 v82) 121 c.toInt.toNat = _ from ((hk_ot rfl).trans ((hk_ot rfl).trans ((hk_ot rfl).trans (hk_same)))))]; exact (by rw [hTK.1, hsk]; rfl)) (by rw [(show (qm_up (qm_up (qm_up (qm_up I 121 c.toInt.toNat 3) 122 c.toInt.toNat i) 123 c.toInt.toNat 0) 118 10 v82) 122 c.toInt.toNat = _ from ((hk_ot rfl).trans ((hk_ot rfl).trans (hk_same))))]; omega) (fun z => by rw [(show (qm_up (qm_up (qm_up (qm_up I 121 c.toInt.toNat 3) 122 c.toInt.toNat i) 123 c.toInt.toNat 0) 118 10 v82) 123 c.toInt.toNat = _ from ((hk_ot rfl).trans (hk_same)))]; rw [hTK.1] at z; omega) (fun z => by rw [(show (qm_up J 124 c.toInt.toNat (0 : Int64)) 124 c.toInt.toNat = _ from (hj_same))]; rw [hTK.1] at z; omega)
                                have eC : v82.toInt.toNat = c.toInt.toNat + 1 := by omega
                                exact ih g (by omega) (qm_up (qm_up (qm_up (qm_up I 121 c.toInt.toNat 3) 122 c.toInt.toNat i) 123 c.toInt.toNat 0) 118 10 v82) (qm_up J 124 c.toInt.toNat (0 : Int64)) v82 v14 (fun o ho i => ((hk_mod ho rfl).trans ((hk_mod ho rfl).trans ((hk_mod ho rfl).trans ((hk_mod ho rfl).trans ((e o (hk_ms rfl ho) i).trans rfl)))))) (fun i hi => ((hk_neq (fun z => by subst z; cases hi)).trans ((hk_ot rfl).trans ((hk_ot rfl).trans ((hk_ot rfl).trans ((e8 i (hk_ms rfl hi)).trans rfl)))))) (fun o ho i => ((hj_mod ho rfl).trans ((ej o (hk_ms rfl ho) i).trans rfl))) (show (qm_up (qm_up (qm_up (qm_up I 121 c.toInt.toNat 3) 122 c.toInt.toNat i) 123 c.toInt.toNat 0) 118 10 v82) 118 10 = _ from (hk_same)) A_A83 (fun y hy => by
                                  by_cases c9 : y = c.toInt.toNat
                                  · rw [c9, hTK.1]; omega
                                  · exact hno y (by omega)) (by omega) (by omega) (by rw [eC]; show skp (h.2.1 120) n.toInt.toNat _ = skp (h.2.1 120) n.toInt.toNat (tP (h.2.1 120) n.toInt.toNat (c.toInt.toNat + 1)); rw [hTK.2.1]; congr 1; omega) _ _ _ _ _ _
                              · refine qm_Rp.go 3 (c' := (148, [.ref 118, .int i, .int c2, .int c15, .int 0, .int 10], [], (h.1, I, J, h.2.2.2))) rfl ?_
                                have hw9 : sgW (h.2.1 120) n.toInt.toNat i.toInt.toNat = false := (by
                                  by_cases c9 : n.toInt ≤ i.toInt + 1
                                  · exact sgW_n (by omega)
                                  · exact sgW_b (b := b16) (by omega) q_b16 (by have := f1_c15 (by omega); omega))
                                have hsk : sgK b3.toInt (sgW (h.2.1 120) n.toInt.toNat i.toInt.toNat) = 30 := by rw [hw9, show b3.toInt = 42 by omega]; rfl
                                have hsn : sgN b3.toInt (sgW (h.2.1 120) n.toInt.toNat i.toInt.toNat) = 1 := by rw [hw9]; unfold sgN; exact if_neg (fun z => Bool.false_ne_true z.1)
                                refine qm_Rp.go 5 (c' := (154, [.ref 118, .int i, .int c2, .int c15, .int 0, .int 10], [.long (0 : Int64), .int 0, .int i, .int 10, .ref 118], (h.1, I, J, h.2.2.2))) rfl ?_
                                refine hp_inv (o := 118) (r := []) (as := [.ref 118, .int 10, .int i, .int 0, .long (0 : Int64)]) rfl rfl (hH.1 118 (17, 105) rfl) rfl rfl rfl ?_
                                refine qm_Rp.go 1 (c' := (1, [.ref 118, .int 10, .int i, .int 0, .long (0 : Int64), .float 0], [.ref 118], (h.1, I, J, h.2.2.2))) rfl ?_
                                refine hp_getr rfl (hH.1 118 (17, 105) rfl) rfl (hH.2 118 5 (some 121) rfl) ?_
                                refine qm_Rp.go 1 (c' := (5, [.ref 118, .int 10, .int i, .int 0, .long (0 : Int64), .float 0], [.ref 118, .ref 121], (h.1, I, J, h.2.2.2))) rfl ?_
                                refine hp_geti (v := c) rfl (hH.1 118 (17, 105) rfl) rfl q_c ?_
                                refine qm_Rp.go 1 (c' := (9, [.ref 118, .int 10, .int i, .int 0, .long (0 : Int64), .float 0], [.int 10, .int c, .ref 121], (h.1, I, J, h.2.2.2))) rfl ?_
                                refine hp_ias rfl (hH.1 121 (0, 403) rfl) (fun ia_83 ib_83 => ?_)
                                refine qm_Rp.go 1 (c' := (11, [.ref 118, .int 10, .int i, .int 0, .long (0 : Int64), .float 0], [.ref 118], (h.1, qm_up I 121 c.toInt.toNat 10, J, h.2.2.2))) rfl ?_
                                refine hp_getr rfl (hH.1 118 (17, 105) rfl) rfl (hH.2 118 6 (some 122) rfl) ?_
                                refine qm_Rp.go 1 (c' := (15, [.ref 118, .int 10, .int i, .int 0, .long (0 : Int64), .float 0], [.ref 118, .ref 122], (h.1, qm_up I 121 c.toInt.toNat 10, J, h.2.2.2))) rfl ?_
                                refine hp_geti (v := c) rfl (hH.1 118 (17, 105) rfl) rfl (show (qm_up I 121 c.toInt.toNat 10) 118 10 = _ from ((hk_ot rfl).trans q_c)) ?_
                                refine qm_Rp.go 1 (c' := (19, [.ref 118, .int 10, .int i, .int 0, .long (0 : Int64), .float 0], [.int i, .int c, .ref 122], (h.1, qm_up I 121 c.toInt.toNat 10, J, h.2.2.2))) rfl ?_
                                refine hp_ias rfl (hH.1 122 (0, 403) rfl) (fun ia_84 ib_84 => ?_)
                                refine qm_Rp.go 1 (c' := (21, [.ref 118, .int 10, .int i, .int 0, .long (0 : Int64), .float 0], [.ref 118], (h.1, qm_up (qm_up I 121 c.toInt.toNat 10) 122 c.toInt.toNat i, J, h.2.2.2))) rfl ?_
                                refine hp_getr rfl (hH.1 118 (17, 105) rfl) rfl (hH.2 118 7 (some 123) rfl) ?_
                                refine qm_Rp.go 1 (c' := (25, [.ref 118, .int 10, .int i, .int 0, .long (0 : Int64), .float 0], [.ref 118, .ref 123], (h.1, qm_up (qm_up I 121 c.toInt.toNat 10) 122 c.toInt.toNat i, J, h.2.2.2))) rfl ?_
                                refine hp_geti (v := c) rfl (hH.1 118 (17, 105) rfl) rfl (show (qm_up (qm_up I 121 c.toInt.toNat 10) 122 c.toInt.toNat i) 118 10 = _ from ((hk_ot rfl).trans ((hk_ot rfl).trans q_c))) ?_
                                refine qm_Rp.go 1 (c' := (29, [.ref 118, .int 10, .int i, .int 0, .long (0 : Int64), .float 0], [.int 0, .int c, .ref 123], (h.1, qm_up (qm_up I 121 c.toInt.toNat 10) 122 c.toInt.toNat i, J, h.2.2.2))) rfl ?_
                                refine hp_ias rfl (hH.1 123 (0, 403) rfl) (fun ia_85 ib_85 => ?_)
                                refine qm_Rp.go 1 (c' := (31, [.ref 118, .int 10, .int i, .int 0, .long (0 : Int64), .float 0], [.ref 118], (h.1, qm_up (qm_up (qm_up I 121 c.toInt.toNat 10) 122 c.toInt.toNat i) 123 c.toInt.toNat 0, J, h.2.2.2))) rfl ?_
                                refine hp_getr rfl (hH.1 118 (17, 105) rfl) rfl (hH.2 118 8 (some 124) rfl) ?_
                                refine qm_Rp.go 1 (c' := (35, [.ref 118, .int 10, .int i, .int 0, .long (0 : Int64), .float 0], [.ref 118, .ref 124], (h.1, qm_up (qm_up (qm_up I 121 c.toInt.toNat 10) 122 c.toInt.toNat i) 123 c.toInt.toNat 0, J, h.2.2.2))) rfl ?_
                                refine hp_geti (v := c) rfl (hH.1 118 (17, 105) rfl) rfl (show (qm_up (qm_up (qm_up I 121 c.toInt.toNat 10) 122 c.toInt.toNat i) 123 c.toInt.toNat 0) 118 10 = _ from ((hk_ot rfl).trans ((hk_ot rfl).trans ((hk_ot rfl).trans q_c)))) ?_
                                refine qm_Rp.go 1 (c' := (40, [.ref 118, .int 10, .int i, .int 0, .long (0 : Int64), .float 0], [.long (0 : Int64), .int c, .ref 124], (h.1, qm_up (qm_up (qm_up I 121 c.toInt.toNat 10) 122 c.toInt.toNat i) 123 c.toInt.toNat 0, J, h.2.2.2))) rfl ?_
                                refine hp_las rfl (hH.1 124 (3, 403) rfl) (fun ia_86 ib_86 => ?_)
                                refine qm_Rp.go 2 (c' := (43, [.ref 118, .int 10, .int i, .int 0, .long (0 : Int64), .float 0], [.ref 118, .ref 118], (h.1, qm_up (qm_up (qm_up I 121 c.toInt.toNat 10) 122 c.toInt.toNat i) 123 c.toInt.toNat 0, qm_up J 124 c.toInt.toNat (0 : Int64), h.2.2.2))) rfl ?_
                                refine hp_geti (v := c) rfl (hH.1 118 (17, 105) rfl) rfl (show (qm_up (qm_up (qm_up I 121 c.toInt.toNat 10) 122 c.toInt.toNat i) 123 c.toInt.toNat 0) 118 10 = _ from ((hk_ot rfl).trans ((hk_ot rfl).trans ((hk_ot rfl).trans q_c)))) ?_
                                refine qm_Rp.go 2 (c' := (48, [.ref 118, .int 10, .int i, .int 0, .long (0 : Int64), .float 0], [.int (c + 1), .ref 118], (h.1, qm_up (qm_up (qm_up I 121 c.toInt.toNat 10) 122 c.toInt.toNat i) 123 c.toInt.toNat 0, qm_up J 124 c.toInt.toNat (0 : Int64), h.2.2.2))) rfl ?_
                                obtain ⟨v88, q_v88, e_v88⟩ := hk_add (x := c) (y := 1) (a := c.toInt) (b := 1) rfl rfl (by omega) (by omega)
                                rw [q_v88]
                                refine hp_puti rfl (hH.1 118 (17, 105) rfl) rfl ?_
                                refine qm_Rp.go 0 (c' := (51, [.ref 118, .int 10, .int i, .int 0, .long (0 : Int64), .float 0], [], (h.1, qm_up (qm_up (qm_up (qm_up I 121 c.toInt.toNat 10) 122 c.toInt.toNat i) 123 c.toInt.toNat 0) 118 10 v88, qm_up J 124 c.toInt.toNat (0 : Int64), h.2.2.2))) rfl ?_
                                refine qm_Rp.rt (v := none) (h' := (h.1, qm_up (qm_up (qm_up (qm_up I 121 c.toInt.toNat 10) 122 c.toInt.toNat i) 123 c.toInt.toNat 0) 118 10 v88, qm_up J 124 c.toInt.toNat (0 : Int64), h.2.2.2)) rfl ?_
                                refine qm_Rp.go 3 (c' := (167, [.ref 118, .int i, .int c2, .int c15, .int 0, .int 10], [.int 1], (h.1, qm_up (qm_up (qm_up (qm_up I 121 c.toInt.toNat 10) 122 c.toInt.toNat i) 123 c.toInt.toNat 0) 118 10 v88, qm_up J 124 c.toInt.toNat (0 : Int64), h.2.2.2))) rfl ?_
                                refine qm_Rp.rt (v := (some (.int 1))) (h' := (h.1, qm_up (qm_up (qm_up (qm_up I 121 c.toInt.toNat 10) 122 c.toInt.toNat i) 123 c.toInt.toNat 0) 118 10 v88, qm_up J 124 c.toInt.toNat (0 : Int64), h.2.2.2)) rfl ?_
                                refine qm_Rp.go 1 (c' := (290, [.ref 118, .int i, .int c2, l3, l4, l5, l6, l7], [.int (i + 1)], (h.1, qm_up (qm_up (qm_up (qm_up I 121 c.toInt.toNat 10) 122 c.toInt.toNat i) 123 c.toInt.toNat 0) 118 10 v88, qm_up J 124 c.toInt.toNat (0 : Int64), h.2.2.2))) rfl ?_
                                rw [q_v14]
                                refine qm_Rp.go 2 (c' := (7, [.ref 118, .int v14, .int c2, l3, l4, l5, l6, l7], [], (h.1, qm_up (qm_up (qm_up (qm_up I 121 c.toInt.toNat 10) 122 c.toInt.toNat i) 123 c.toInt.toNat 0) 118 10 v88, qm_up J 124 c.toInt.toNat (0 : Int64), h.2.2.2))) rfl ?_
                                have A_A89 : rA (h.2.1 120) n.toInt.toNat ((qm_up (qm_up (qm_up (qm_up I 121 c.toInt.toNat 10) 122 c.toInt.toNat i) 123 c.toInt.toNat 0) 118 10 v88) 121) ((qm_up (qm_up (qm_up (qm_up I 121 c.toInt.toNat 10) 122 c.toInt.toNat i) 123 c.toInt.toNat 0) 118 10 v88) 122) ((qm_up (qm_up (qm_up (qm_up I 121 c.toInt.toNat 10) 122 c.toInt.toNat i) 123 c.toInt.toNat 0) 118 10 v88) 123) ((qm_up J 124 c.toInt.toNat (0 : Int64)) 124) v88.toInt.toNat := rA_s (c := c.toInt.toNat) hA (fun y hy => ⟨((hk_ot rfl).trans ((hk_ot rfl).trans ((hk_ot rfl).trans ((hk_neq hy).trans rfl)))), ((hk_ot rfl).trans ((hk_ot rfl).trans ((hk_neq hy).trans ((hk_ot rfl).trans rfl)))), ((hk_ot rfl).trans ((hk_neq hy).trans ((hk_ot rfl).trans ((hk_ot rfl).trans rfl)))), ((hj_neq hy).trans rfl)⟩) (by omega) (by rw [(show (qm_up (qm_up (qm_up (qm_up I 121 c.toInt.toNat 10) 122 c.toInt.toNat i) 123 c.toInt.toNat 0) 118 10 v88) 121 c.toInt.toNat = _ from ((hk_ot rfl).trans ((hk_ot rfl).trans ((hk_ot rfl).trans (hk_same)))))]; exact (by rw [hTK.1, hsk]; rfl)) (by rw [(show (qm_up (qm_up (qm_up (qm_up I 121 c.toInt.toNat 10) 122 c.toInt.toNat i) 123 c.toInt.toNat 0) 118 10 v88) 122 c.toInt.toNat = _ from ((hk_ot rfl).trans ((hk_ot rfl).trans (hk_same))))]; omega) (fun z => by rw [(show (qm_up (qm_up (qm_up (qm_up I 121 c.toInt.toNat 10) 122 c.toInt.toNat i) 123 c.toInt.toNat 0) 118 10 v88) 123 c.toInt.toNat = _ from ((hk_ot rfl).trans (hk_same)))]; rw [hTK.1] at z; omega) (fun z => by rw [(show (qm_up J 124 c.toInt.toNat (0 : Int64)) 124 c.toInt.toNat = _ from (hj_same))]; rw [hTK.1] at z; omega)
                                have eC : v88.toInt.toNat = c.toInt.toNat + 1 := by omega
                                exact ih g (by omega) (qm_up (qm_up (qm_up (qm_up I 121 c.toInt.toNat 10) 122 c.toInt.toNat i) 123 c.toInt.toNat 0) 118 10 v88) (qm_up J 124 c.toInt.toNat (0 : Int64)) v88 v14 (fun o ho i => ((hk_mod ho rfl).trans ((hk_mod ho rfl).trans ((hk_mod ho rfl).trans ((hk_mod ho rfl).trans ((e o (hk_ms rfl ho) i).trans rfl)))))) (fun i hi => ((hk_neq (fun z => by subst z; cases hi)).trans ((hk_ot rfl).trans ((hk_ot rfl).trans ((hk_ot rfl).trans ((e8 i (hk_ms rfl hi)).trans rfl)))))) (fun o ho i => ((hj_mod ho rfl).trans ((ej o (hk_ms rfl ho) i).trans rfl))) (show (qm_up (qm_up (qm_up (qm_up I 121 c.toInt.toNat 10) 122 c.toInt.toNat i) 123 c.toInt.toNat 0) 118 10 v88) 118 10 = _ from (hk_same)) A_A89 (fun y hy => by
                                  by_cases c9 : y = c.toInt.toNat
                                  · rw [c9, hTK.1]; omega
                                  · exact hno y (by omega)) (by omega) (by omega) (by rw [eC]; show skp (h.2.1 120) n.toInt.toNat _ = skp (h.2.1 120) n.toInt.toNat (tP (h.2.1 120) n.toInt.toNat (c.toInt.toNat + 1)); rw [hTK.2.1]; congr 1; omega) _ _ _ _ _ _
                            · refine qm_Rp.go 3 (c' := (148, [.ref 118, .int i, .int c2, .int c15, .int 0, .int 9], [], (h.1, I, J, h.2.2.2))) rfl ?_
                              have hw9 : sgW (h.2.1 120) n.toInt.toNat i.toInt.toNat = false := (by
                                by_cases c9 : n.toInt ≤ i.toInt + 1
                                · exact sgW_n (by omega)
                                · exact sgW_b (b := b16) (by omega) q_b16 (by have := f1_c15 (by omega); omega))
                              have hsk : sgK b3.toInt (sgW (h.2.1 120) n.toInt.toNat i.toInt.toNat) = 29 := by rw [hw9, show b3.toInt = 45 by omega]; rfl
                              have hsn : sgN b3.toInt (sgW (h.2.1 120) n.toInt.toNat i.toInt.toNat) = 1 := by rw [hw9]; unfold sgN; exact if_neg (fun z => Bool.false_ne_true z.1)
                              refine qm_Rp.go 5 (c' := (154, [.ref 118, .int i, .int c2, .int c15, .int 0, .int 9], [.long (0 : Int64), .int 0, .int i, .int 9, .ref 118], (h.1, I, J, h.2.2.2))) rfl ?_
                              refine hp_inv (o := 118) (r := []) (as := [.ref 118, .int 9, .int i, .int 0, .long (0 : Int64)]) rfl rfl (hH.1 118 (17, 105) rfl) rfl rfl rfl ?_
                              refine qm_Rp.go 1 (c' := (1, [.ref 118, .int 9, .int i, .int 0, .long (0 : Int64), .float 0], [.ref 118], (h.1, I, J, h.2.2.2))) rfl ?_
                              refine hp_getr rfl (hH.1 118 (17, 105) rfl) rfl (hH.2 118 5 (some 121) rfl) ?_
                              refine qm_Rp.go 1 (c' := (5, [.ref 118, .int 9, .int i, .int 0, .long (0 : Int64), .float 0], [.ref 118, .ref 121], (h.1, I, J, h.2.2.2))) rfl ?_
                              refine hp_geti (v := c) rfl (hH.1 118 (17, 105) rfl) rfl q_c ?_
                              refine qm_Rp.go 1 (c' := (9, [.ref 118, .int 9, .int i, .int 0, .long (0 : Int64), .float 0], [.int 9, .int c, .ref 121], (h.1, I, J, h.2.2.2))) rfl ?_
                              refine hp_ias rfl (hH.1 121 (0, 403) rfl) (fun ia_89 ib_89 => ?_)
                              refine qm_Rp.go 1 (c' := (11, [.ref 118, .int 9, .int i, .int 0, .long (0 : Int64), .float 0], [.ref 118], (h.1, qm_up I 121 c.toInt.toNat 9, J, h.2.2.2))) rfl ?_
                              refine hp_getr rfl (hH.1 118 (17, 105) rfl) rfl (hH.2 118 6 (some 122) rfl) ?_
                              refine qm_Rp.go 1 (c' := (15, [.ref 118, .int 9, .int i, .int 0, .long (0 : Int64), .float 0], [.ref 118, .ref 122], (h.1, qm_up I 121 c.toInt.toNat 9, J, h.2.2.2))) rfl ?_
                              refine hp_geti (v := c) rfl (hH.1 118 (17, 105) rfl) rfl (show (qm_up I 121 c.toInt.toNat 9) 118 10 = _ from ((hk_ot rfl).trans q_c)) ?_
                              refine qm_Rp.go 1 (c' := (19, [.ref 118, .int 9, .int i, .int 0, .long (0 : Int64), .float 0], [.int i, .int c, .ref 122], (h.1, qm_up I 121 c.toInt.toNat 9, J, h.2.2.2))) rfl ?_
                              refine hp_ias rfl (hH.1 122 (0, 403) rfl) (fun ia_90 ib_90 => ?_)
                              refine qm_Rp.go 1 (c' := (21, [.ref 118, .int 9, .int i, .int 0, .long (0 : Int64), .float 0], [.ref 118], (h.1, qm_up (qm_up I 121 c.toInt.toNat 9) 122 c.toInt.toNat i, J, h.2.2.2))) rfl ?_
                              refine hp_getr rfl (hH.1 118 (17, 105) rfl) rfl (hH.2 118 7 (some 123) rfl) ?_
                              refine qm_Rp.go 1 (c' := (25, [.ref 118, .int 9, .int i, .int 0, .long (0 : Int64), .float 0], [.ref 118, .ref 123], (h.1, qm_up (qm_up I 121 c.toInt.toNat 9) 122 c.toInt.toNat i, J, h.2.2.2))) rfl ?_
                              refine hp_geti (v := c) rfl (hH.1 118 (17, 105) rfl) rfl (show (qm_up (qm_up I 121 c.toInt.toNat 9) 122 c.toInt.toNat i) 118 10 = _ from ((hk_ot rfl).trans ((hk_ot rfl).trans q_c))) ?_
                              refine qm_Rp.go 1 (c' := (29, [.ref 118, .int 9, .int i, .int 0, .long (0 : Int64), .float 0], [.int 0, .int c, .ref 123], (h.1, qm_up (qm_up I 121 c.toInt.toNat 9) 122 c.toInt.toNat i, J, h.2.2.2))) rfl ?_
                              refine hp_ias rfl (hH.1 123 (0, 403) rfl) (fun ia_91 ib_91 => ?_)
                              refine qm_Rp.go 1 (c' := (31, [.ref 118, .int 9, .int i, .int 0, .long (0 : Int64), .float 0], [.ref 118], (h.1, qm_up (qm_up (qm_up I 121 c.toInt.toNat 9) 122 c.toInt.toNat i) 123 c.toInt.toNat 0, J, h.2.2.2))) rfl ?_
                              refine hp_getr rfl (hH.1 118 (17, 105) rfl) rfl (hH.2 118 8 (some 124) rfl) ?_
                              refine qm_Rp.go 1 (c' := (35, [.ref 118, .int 9, .int i, .int 0, .long (0 : Int64), .float 0], [.ref 118, .ref 124], (h.1, qm_up (qm_up (qm_up I 121 c.toInt.toNat 9) 122 c.toInt.toNat i) 123 c.toInt.toNat 0, J, h.2.2.2))) rfl ?_
                              refine hp_geti (v := c) rfl (hH.1 118 (17, 105) rfl) rfl (show (qm_up (qm_up (qm_up I 121 c.toInt.toNat 9) 122 c.toInt.toNat i) 123 c.toInt.toNat 0) 118 10 = _ from ((hk_ot rfl).trans ((hk_ot rfl).trans ((hk_ot rfl).trans q_c)))) ?_
                              refine qm_Rp.go 1 (c' := (40, [.ref 118, .int 9, .int i, .int 0, .long (0 : Int64), .float 0], [.long (0 : Int64), .int c, .ref 124], (h.1, qm_up (qm_up (qm_up I 121 c.toInt.toNat 9) 122 c.toInt.toNat i) 123 c.toInt.toNat 0, J, h.2.2.2))) rfl ?_
                              refine hp_las rfl (hH.1 124 (3, 403) rfl) (fun ia_92 ib_92 => ?_)
                              refine qm_Rp.go 2 (c' := (43, [.ref 118, .int 9, .int i, .int 0, .long (0 : Int64), .float 0], [.ref 118, .ref 118], (h.1, qm_up (qm_up (qm_up I 121 c.toInt.toNat 9) 122 c.toInt.toNat i) 123 c.toInt.toNat 0, qm_up J 124 c.toInt.toNat (0 : Int64), h.2.2.2))) rfl ?_
                              refine hp_geti (v := c) rfl (hH.1 118 (17, 105) rfl) rfl (show (qm_up (qm_up (qm_up I 121 c.toInt.toNat 9) 122 c.toInt.toNat i) 123 c.toInt.toNat 0) 118 10 = _ from ((hk_ot rfl).trans ((hk_ot rfl).trans ((hk_ot rfl).trans q_c)))) ?_
                              refine qm_Rp.go 2 (c' := (48, [.ref 118, .int 9, .int i, .int 0, .long (0 : Int64), .float 0], [.int (c + 1), .ref 118], (h.1, qm_up (qm_up (qm_up I 121 c.toInt.toNat 9) 122 c.toInt.toNat i) 123 c.toInt.toNat 0, qm_up J 124 c.toInt.toNat (0 : Int64), h.2.2.2))) rfl ?_
                              obtain ⟨v94, q_v94, e_v94⟩ := hk_add (x := c) (y := 1) (a := c.toInt) (b := 1) rfl rfl (by omega) (by omega)
                              rw [q_v94]
                              refine hp_puti rfl (hH.1 118 (17, 105) rfl) rfl ?_
                              refine qm_Rp.go 0 (c' := (51, [.ref 118, .int 9, .int i, .int 0, .long (0 : Int64), .float 0], [], (h.1, qm_up (qm_up (qm_up (qm_up I 121 c.toInt.toNat 9) 122 c.toInt.toNat i) 123 c.toInt.toNat 0) 118 10 v94, qm_up J 124 c.toInt.toNat (0 : Int64), h.2.2.2))) rfl ?_
                              refine qm_Rp.rt (v := none) (h' := (h.1, qm_up (qm_up (qm_up (qm_up I 121 c.toInt.toNat 9) 122 c.toInt.toNat i) 123 c.toInt.toNat 0) 118 10 v94, qm_up J 124 c.toInt.toNat (0 : Int64), h.2.2.2)) rfl ?_
                              refine qm_Rp.go 3 (c' := (167, [.ref 118, .int i, .int c2, .int c15, .int 0, .int 9], [.int 1], (h.1, qm_up (qm_up (qm_up (qm_up I 121 c.toInt.toNat 9) 122 c.toInt.toNat i) 123 c.toInt.toNat 0) 118 10 v94, qm_up J 124 c.toInt.toNat (0 : Int64), h.2.2.2))) rfl ?_
                              refine qm_Rp.rt (v := (some (.int 1))) (h' := (h.1, qm_up (qm_up (qm_up (qm_up I 121 c.toInt.toNat 9) 122 c.toInt.toNat i) 123 c.toInt.toNat 0) 118 10 v94, qm_up J 124 c.toInt.toNat (0 : Int64), h.2.2.2)) rfl ?_
                              refine qm_Rp.go 1 (c' := (290, [.ref 118, .int i, .int c2, l3, l4, l5, l6, l7], [.int (i + 1)], (h.1, qm_up (qm_up (qm_up (qm_up I 121 c.toInt.toNat 9) 122 c.toInt.toNat i) 123 c.toInt.toNat 0) 118 10 v94, qm_up J 124 c.toInt.toNat (0 : Int64), h.2.2.2))) rfl ?_
                              rw [q_v14]
                              refine qm_Rp.go 2 (c' := (7, [.ref 118, .int v14, .int c2, l3, l4, l5, l6, l7], [], (h.1, qm_up (qm_up (qm_up (qm_up I 121 c.toInt.toNat 9) 122 c.toInt.toNat i) 123 c.toInt.toNat 0) 118 10 v94, qm_up J 124 c.toInt.toNat (0 : Int64), h.2.2.2))) rfl ?_
                              have A_A95 : rA (h.2.1 120) n.toInt.toNat ((qm_up (qm_up (qm_up (qm_up I 121 c.toInt.toNat 9) 122 c.toInt.toNat i) 123 c.toInt.toNat 0) 118 10 v94) 121) ((qm_up (qm_up (qm_up (qm_up I 121 c.toInt.toNat 9) 122 c.toInt.toNat i) 123 c.toInt.toNat 0) 118 10 v94) 122) ((qm_up (qm_up (qm_up (qm_up I 121 c.toInt.toNat 9) 122 c.toInt.toNat i) 123 c.toInt.toNat 0) 118 10 v94) 123) ((qm_up J 124 c.toInt.toNat (0 : Int64)) 124) v94.toInt.toNat := rA_s (c := c.toInt.toNat) hA (fun y hy => ⟨((hk_ot rfl).trans ((hk_ot rfl).trans ((hk_ot rfl).trans ((hk_neq hy).trans rfl)))), ((hk_ot rfl).trans ((hk_ot rfl).trans ((hk_neq hy).trans ((hk_ot rfl).trans rfl)))), ((hk_ot rfl).trans ((hk_neq hy).trans ((hk_ot rfl).trans ((hk_ot rfl).trans rfl)))), ((hj_neq hy).trans rfl)⟩) (by omega) (by rw [(show (qm_up (qm_up (qm_up (qm_up I 121 c.toInt.toNat 9) 122 c.toInt.toNat i) 123 c.toInt.toNat 0) 118 10 v94) 121 c.toInt.toNat = _ from ((hk_ot rfl).trans ((hk_ot rfl).trans ((hk_ot rfl).trans (hk_same)))))]; exact (by rw [hTK.1, hsk]; rfl)) (by rw [(show (qm_up (qm_up (qm_up (qm_up I 121 c.toInt.toNat 9) 122 c.toInt.toNat i) 123 c.toInt.toNat 0) 118 10 v94) 122 c.toInt.toNat = _ from ((hk_ot rfl).trans ((hk_ot rfl).trans (hk_same))))]; omega) (fun z => by rw [(show (qm_up (qm_up (qm_up (qm_up I 121 c.toInt.toNat 9) 122 c.toInt.toNat i) 123 c.toInt.toNat 0) 118 10 v94) 123 c.toInt.toNat = _ from ((hk_ot rfl).trans (hk_same)))]; rw [hTK.1] at z; omega) (fun z => by rw [(show (qm_up J 124 c.toInt.toNat (0 : Int64)) 124 c.toInt.toNat = _ from (hj_same))]; rw [hTK.1] at z; omega)
                              have eC : v94.toInt.toNat = c.toInt.toNat + 1 := by omega
                              exact ih g (by omega) (qm_up (qm_up (qm_up (qm_up I 121 c.toInt.toNat 9) 122 c.toInt.toNat i) 123 c.toInt.toNat 0) 118 10 v94) (qm_up J 124 c.toInt.toNat (0 : Int64)) v94 v14 (fun o ho i => ((hk_mod ho rfl).trans ((hk_mod ho rfl).trans ((hk_mod ho rfl).trans ((hk_mod ho rfl).trans ((e o (hk_ms rfl ho) i).trans rfl)))))) (fun i hi => ((hk_neq (fun z => by subst z; cases hi)).trans ((hk_ot rfl).trans ((hk_ot rfl).trans ((hk_ot rfl).trans ((e8 i (hk_ms rfl hi)).trans rfl)))))) (fun o ho i => ((hj_mod ho rfl).trans ((ej o (hk_ms rfl ho) i).trans rfl))) (show (qm_up (qm_up (qm_up (qm_up I 121 c.toInt.toNat 9) 122 c.toInt.toNat i) 123 c.toInt.toNat 0) 118 10 v94) 118 10 = _ from (hk_same)) A_A95 (fun y hy => by
                                by_cases c9 : y = c.toInt.toNat
                                · rw [c9, hTK.1]; omega
                                · exact hno y (by omega)) (by omega) (by omega) (by rw [eC]; show skp (h.2.1 120) n.toInt.toNat _ = skp (h.2.1 120) n.toInt.toNat (tP (h.2.1 120) n.toInt.toNat (c.toInt.toNat + 1)); rw [hTK.2.1]; congr 1; omega) _ _ _ _ _ _
                          · refine qm_Rp.go 3 (c' := (148, [.ref 118, .int i, .int c2, .int c15, .int 0, .int 8], [], (h.1, I, J, h.2.2.2))) rfl ?_
                            have hw9 : sgW (h.2.1 120) n.toInt.toNat i.toInt.toNat = false := (by
                              by_cases c9 : n.toInt ≤ i.toInt + 1
                              · exact sgW_n (by omega)
                              · exact sgW_b (b := b16) (by omega) q_b16 (by have := f1_c15 (by omega); omega))
                            have hsk : sgK b3.toInt (sgW (h.2.1 120) n.toInt.toNat i.toInt.toNat) = 28 := by rw [hw9, show b3.toInt = 43 by omega]; rfl
                            have hsn : sgN b3.toInt (sgW (h.2.1 120) n.toInt.toNat i.toInt.toNat) = 1 := by rw [hw9]; unfold sgN; exact if_neg (fun z => Bool.false_ne_true z.1)
                            refine qm_Rp.go 5 (c' := (154, [.ref 118, .int i, .int c2, .int c15, .int 0, .int 8], [.long (0 : Int64), .int 0, .int i, .int 8, .ref 118], (h.1, I, J, h.2.2.2))) rfl ?_
                            refine hp_inv (o := 118) (r := []) (as := [.ref 118, .int 8, .int i, .int 0, .long (0 : Int64)]) rfl rfl (hH.1 118 (17, 105) rfl) rfl rfl rfl ?_
                            refine qm_Rp.go 1 (c' := (1, [.ref 118, .int 8, .int i, .int 0, .long (0 : Int64), .float 0], [.ref 118], (h.1, I, J, h.2.2.2))) rfl ?_
                            refine hp_getr rfl (hH.1 118 (17, 105) rfl) rfl (hH.2 118 5 (some 121) rfl) ?_
                            refine qm_Rp.go 1 (c' := (5, [.ref 118, .int 8, .int i, .int 0, .long (0 : Int64), .float 0], [.ref 118, .ref 121], (h.1, I, J, h.2.2.2))) rfl ?_
                            refine hp_geti (v := c) rfl (hH.1 118 (17, 105) rfl) rfl q_c ?_
                            refine qm_Rp.go 1 (c' := (9, [.ref 118, .int 8, .int i, .int 0, .long (0 : Int64), .float 0], [.int 8, .int c, .ref 121], (h.1, I, J, h.2.2.2))) rfl ?_
                            refine hp_ias rfl (hH.1 121 (0, 403) rfl) (fun ia_95 ib_95 => ?_)
                            refine qm_Rp.go 1 (c' := (11, [.ref 118, .int 8, .int i, .int 0, .long (0 : Int64), .float 0], [.ref 118], (h.1, qm_up I 121 c.toInt.toNat 8, J, h.2.2.2))) rfl ?_
                            refine hp_getr rfl (hH.1 118 (17, 105) rfl) rfl (hH.2 118 6 (some 122) rfl) ?_
                            refine qm_Rp.go 1 (c' := (15, [.ref 118, .int 8, .int i, .int 0, .long (0 : Int64), .float 0], [.ref 118, .ref 122], (h.1, qm_up I 121 c.toInt.toNat 8, J, h.2.2.2))) rfl ?_
                            refine hp_geti (v := c) rfl (hH.1 118 (17, 105) rfl) rfl (show (qm_up I 121 c.toInt.toNat 8) 118 10 = _ from ((hk_ot rfl).trans q_c)) ?_
                            refine qm_Rp.go 1 (c' := (19, [.ref 118, .int 8, .int i, .int 0, .long (0 : Int64), .float 0], [.int i, .int c, .ref 122], (h.1, qm_up I 121 c.toInt.toNat 8, J, h.2.2.2))) rfl ?_
                            refine hp_ias rfl (hH.1 122 (0, 403) rfl) (fun ia_96 ib_96 => ?_)
                            refine qm_Rp.go 1 (c' := (21, [.ref 118, .int 8, .int i, .int 0, .long (0 : Int64), .float 0], [.ref 118], (h.1, qm_up (qm_up I 121 c.toInt.toNat 8) 122 c.toInt.toNat i, J, h.2.2.2))) rfl ?_
                            refine hp_getr rfl (hH.1 118 (17, 105) rfl) rfl (hH.2 118 7 (some 123) rfl) ?_
                            refine qm_Rp.go 1 (c' := (25, [.ref 118, .int 8, .int i, .int 0, .long (0 : Int64), .float 0], [.ref 118, .ref 123], (h.1, qm_up (qm_up I 121 c.toInt.toNat 8) 122 c.toInt.toNat i, J, h.2.2.2))) rfl ?_
                            refine hp_geti (v := c) rfl (hH.1 118 (17, 105) rfl) rfl (show (qm_up (qm_up I 121 c.toInt.toNat 8) 122 c.toInt.toNat i) 118 10 = _ from ((hk_ot rfl).trans ((hk_ot rfl).trans q_c))) ?_
                            refine qm_Rp.go 1 (c' := (29, [.ref 118, .int 8, .int i, .int 0, .long (0 : Int64), .float 0], [.int 0, .int c, .ref 123], (h.1, qm_up (qm_up I 121 c.toInt.toNat 8) 122 c.toInt.toNat i, J, h.2.2.2))) rfl ?_
                            refine hp_ias rfl (hH.1 123 (0, 403) rfl) (fun ia_97 ib_97 => ?_)
                            refine qm_Rp.go 1 (c' := (31, [.ref 118, .int 8, .int i, .int 0, .long (0 : Int64), .float 0], [.ref 118], (h.1, qm_up (qm_up (qm_up I 121 c.toInt.toNat 8) 122 c.toInt.toNat i) 123 c.toInt.toNat 0, J, h.2.2.2))) rfl ?_
                            refine hp_getr rfl (hH.1 118 (17, 105) rfl) rfl (hH.2 118 8 (some 124) rfl) ?_
                            refine qm_Rp.go 1 (c' := (35, [.ref 118, .int 8, .int i, .int 0, .long (0 : Int64), .float 0], [.ref 118, .ref 124], (h.1, qm_up (qm_up (qm_up I 121 c.toInt.toNat 8) 122 c.toInt.toNat i) 123 c.toInt.toNat 0, J, h.2.2.2))) rfl ?_
                            refine hp_geti (v := c) rfl (hH.1 118 (17, 105) rfl) rfl (show (qm_up (qm_up (qm_up I 121 c.toInt.toNat 8) 122 c.toInt.toNat i) 123 c.toInt.toNat 0) 118 10 = _ from ((hk_ot rfl).trans ((hk_ot rfl).trans ((hk_ot rfl).trans q_c)))) ?_
                            refine qm_Rp.go 1 (c' := (40, [.ref 118, .int 8, .int i, .int 0, .long (0 : Int64), .float 0], [.long (0 : Int64), .int c, .ref 124], (h.1, qm_up (qm_up (qm_up I 121 c.toInt.toNat 8) 122 c.toInt.toNat i) 123 c.toInt.toNat 0, J, h.2.2.2))) rfl ?_
                            refine hp_las rfl (hH.1 124 (3, 403) rfl) (fun ia_98 ib_98 => ?_)
                            refine qm_Rp.go 2 (c' := (43, [.ref 118, .int 8, .int i, .int 0, .long (0 : Int64), .float 0], [.ref 118, .ref 118], (h.1, qm_up (qm_up (qm_up I 121 c.toInt.toNat 8) 122 c.toInt.toNat i) 123 c.toInt.toNat 0, qm_up J 124 c.toInt.toNat (0 : Int64), h.2.2.2))) rfl ?_
                            refine hp_geti (v := c) rfl (hH.1 118 (17, 105) rfl) rfl (show (qm_up (qm_up (qm_up I 121 c.toInt.toNat 8) 122 c.toInt.toNat i) 123 c.toInt.toNat 0) 118 10 = _ from ((hk_ot rfl).trans ((hk_ot rfl).trans ((hk_ot rfl).trans q_c)))) ?_
                            refine qm_Rp.go 2 (c' := (48, [.ref 118, .int 8, .int i, .int 0, .long (0 : Int64), .float 0], [.int (c + 1), .ref 118], (h.1, qm_up (qm_up (qm_up I 121 c.toInt.toNat 8) 122 c.toInt.toNat i) 123 c.toInt.toNat 0, qm_up J 124 c.toInt.toNat (0 : Int64), h.2.2.2))) rfl ?_
                            obtain ⟨v100, q_v100, e_v100⟩ := hk_add (x := c) (y := 1) (a := c.toInt) (b := 1) rfl rfl (by omega) (by omega)
                            rw [q_v100]
                            refine hp_puti rfl (hH.1 118 (17, 105) rfl) rfl ?_
                            refine qm_Rp.go 0 (c' := (51, [.ref 118, .int 8, .int i, .int 0, .long (0 : Int64), .float 0], [], (h.1, qm_up (qm_up (qm_up (qm_up I 121 c.toInt.toNat 8) 122 c.toInt.toNat i) 123 c.toInt.toNat 0) 118 10 v100, qm_up J 124 c.toInt.toNat (0 : Int64), h.2.2.2))) rfl ?_
                            refine qm_Rp.rt (v := none) (h' := (h.1, qm_up (qm_up (qm_up (qm_up I 121 c.toInt.toNat 8) 122 c.toInt.toNat i) 123 c.toInt.toNat 0) 118 10 v100, qm_up J 124 c.toInt.toNat (0 : Int64), h.2.2.2)) rfl ?_
                            refine qm_Rp.go 3 (c' := (167, [.ref 118, .int i, .int c2, .int c15, .int 0, .int 8], [.int 1], (h.1, qm_up (qm_up (qm_up (qm_up I 121 c.toInt.toNat 8) 122 c.toInt.toNat i) 123 c.toInt.toNat 0) 118 10 v100, qm_up J 124 c.toInt.toNat (0 : Int64), h.2.2.2))) rfl ?_
                            refine qm_Rp.rt (v := (some (.int 1))) (h' := (h.1, qm_up (qm_up (qm_up (qm_up I 121 c.toInt.toNat 8) 122 c.toInt.toNat i) 123 c.toInt.toNat 0) 118 10 v100, qm_up J 124 c.toInt.toNat (0 : Int64), h.2.2.2)) rfl ?_
                            refine qm_Rp.go 1 (c' := (290, [.ref 118, .int i, .int c2, l3, l4, l5, l6, l7], [.int (i + 1)], (h.1, qm_up (qm_up (qm_up (qm_up I 121 c.toInt.toNat 8) 122 c.toInt.toNat i) 123 c.toInt.toNat 0) 118 10 v100, qm_up J 124 c.toInt.toNat (0 : Int64), h.2.2.2))) rfl ?_
                            rw [q_v14]
                            refine qm_Rp.go 2 (c' := (7, [.ref 118, .int v14, .int c2, l3, l4, l5, l6, l7], [], (h.1, qm_up (qm_up (qm_up (qm_up I 121 c.toInt.toNat 8) 122 c.toInt.toNat i) 123 c.toInt.toNat 0) 118 10 v100, qm_up J 124 c.toInt.toNat (0 : Int64), h.2.2.2))) rfl ?_
                            have A_A101 : rA (h.2.1 120) n.toInt.toNat ((qm_up (qm_up (qm_up (qm_up I 121 c.toInt.toNat 8) 122 c.toInt.toNat i) 123 c.toInt.toNat 0) 118 10 v100) 121) ((qm_up (qm_up (qm_up (qm_up I 121 c.toInt.toNat 8) 122 c.toInt.toNat i) 123 c.toInt.toNat 0) 118 10 v100) 122) ((qm_up (qm_up (qm_up (qm_up I 121 c.toInt.toNat 8) 122 c.toInt.toNat i) 123 c.toInt.toNat 0) 118 10 v100) 123) ((qm_up J 124 c.toInt.toNat (0 : Int64)) 124) v100.toInt.toNat := rA_s (c := c.toInt.toNat) hA (fun y hy => ⟨((hk_ot rfl).trans ((hk_ot rfl).trans ((hk_ot rfl).trans ((hk_neq hy).trans rfl)))), ((hk_ot rfl).trans ((hk_ot rfl).trans ((hk_neq hy).trans ((hk_ot rfl).trans rfl)))), ((hk_ot rfl).trans ((hk_neq hy).trans ((hk_ot rfl).trans ((hk_ot rfl).trans rfl)))), ((hj_neq hy).trans rfl)⟩) (by omega) (by rw [(show (qm_up (qm_up (qm_up (qm_up I 121 c.toInt.toNat 8) 122 c.toInt.toNat i) 123 c.toInt.toNat 0) 118 10 v100) 121 c.toInt.toNat = _ from ((hk_ot rfl).trans ((hk_ot rfl).trans ((hk_ot rfl).trans (hk_same)))))]; exact (by rw [hTK.1, hsk]; rfl)) (by rw [(show (qm_up (qm_up (qm_up (qm_up I 121 c.toInt.toNat 8) 122 c.toInt.toNat i) 123 c.toInt.toNat 0) 118 10 v100) 122 c.toInt.toNat = _ from ((hk_ot rfl).trans ((hk_ot rfl).trans (hk_same))))]; omega) (fun z => by rw [(show (qm_up (qm_up (qm_up (qm_up I 121 c.toInt.toNat 8) 122 c.toInt.toNat i) 123 c.toInt.toNat 0) 118 10 v100) 123 c.toInt.toNat = _ from ((hk_ot rfl).trans (hk_same)))]; rw [hTK.1] at z; omega) (fun z => by rw [(show (qm_up J 124 c.toInt.toNat (0 : Int64)) 124 c.toInt.toNat = _ from (hj_same))]; rw [hTK.1] at z; omega)
                            have eC : v100.toInt.toNat = c.toInt.toNat + 1 := by omega
                            exact ih g (by omega) (qm_up (qm_up (qm_up (qm_up I 121 c.toInt.toNat 8) 122 c.toInt.toNat i) 123 c.toInt.toNat 0) 118 10 v100) (qm_up J 124 c.toInt.toNat (0 : Int64)) v100 v14 (fun o ho i => ((hk_mod ho rfl).trans ((hk_mod ho rfl).trans ((hk_mod ho rfl).trans ((hk_mod ho rfl).trans ((e o (hk_ms rfl ho) i).trans rfl)))))) (fun i hi => ((hk_neq (fun z => by subst z; cases hi)).trans ((hk_ot rfl).trans ((hk_ot rfl).trans ((hk_ot rfl).trans ((e8 i (hk_ms rfl hi)).trans rfl)))))) (fun o ho i => ((hj_mod ho rfl).trans ((ej o (hk_ms rfl ho) i).trans rfl))) (show (qm_up (qm_up (qm_up (qm_up I 121 c.toInt.toNat 8) 122 c.toInt.toNat i) 123 c.toInt.toNat 0) 118 10 v100) 118 10 = _ from (hk_same)) A_A101 (fun y hy => by
                              by_cases c9 : y = c.toInt.toNat
                              · rw [c9, hTK.1]; omega
                              · exact hno y (by omega)) (by omega) (by omega) (by rw [eC]; show skp (h.2.1 120) n.toInt.toNat _ = skp (h.2.1 120) n.toInt.toNat (tP (h.2.1 120) n.toInt.toNat (c.toInt.toNat + 1)); rw [hTK.2.1]; congr 1; omega) _ _ _ _ _ _
                        · refine qm_Rp.go 3 (c' := (148, [.ref 118, .int i, .int c2, .int c15, .int 0, .int 7], [], (h.1, I, J, h.2.2.2))) rfl ?_
                          have hw9 : sgW (h.2.1 120) n.toInt.toNat i.toInt.toNat = false := (by
                            by_cases c9 : n.toInt ≤ i.toInt + 1
                            · exact sgW_n (by omega)
                            · exact sgW_b (b := b16) (by omega) q_b16 (by have := f1_c15 (by omega); omega))
                          have hsk : sgK b3.toInt (sgW (h.2.1 120) n.toInt.toNat i.toInt.toNat) = 36 := by rw [hw9, show b3.toInt = 41 by omega]; rfl
                          have hsn : sgN b3.toInt (sgW (h.2.1 120) n.toInt.toNat i.toInt.toNat) = 1 := by rw [hw9]; unfold sgN; exact if_neg (fun z => Bool.false_ne_true z.1)
                          refine qm_Rp.go 5 (c' := (154, [.ref 118, .int i, .int c2, .int c15, .int 0, .int 7], [.long (0 : Int64), .int 0, .int i, .int 7, .ref 118], (h.1, I, J, h.2.2.2))) rfl ?_
                          refine hp_inv (o := 118) (r := []) (as := [.ref 118, .int 7, .int i, .int 0, .long (0 : Int64)]) rfl rfl (hH.1 118 (17, 105) rfl) rfl rfl rfl ?_
                          refine qm_Rp.go 1 (c' := (1, [.ref 118, .int 7, .int i, .int 0, .long (0 : Int64), .float 0], [.ref 118], (h.1, I, J, h.2.2.2))) rfl ?_
                          refine hp_getr rfl (hH.1 118 (17, 105) rfl) rfl (hH.2 118 5 (some 121) rfl) ?_
                          refine qm_Rp.go 1 (c' := (5, [.ref 118, .int 7, .int i, .int 0, .long (0 : Int64), .float 0], [.ref 118, .ref 121], (h.1, I, J, h.2.2.2))) rfl ?_
                          refine hp_geti (v := c) rfl (hH.1 118 (17, 105) rfl) rfl q_c ?_
                          refine qm_Rp.go 1 (c' := (9, [.ref 118, .int 7, .int i, .int 0, .long (0 : Int64), .float 0], [.int 7, .int c, .ref 121], (h.1, I, J, h.2.2.2))) rfl ?_
                          refine hp_ias rfl (hH.1 121 (0, 403) rfl) (fun ia_101 ib_101 => ?_)
                          refine qm_Rp.go 1 (c' := (11, [.ref 118, .int 7, .int i, .int 0, .long (0 : Int64), .float 0], [.ref 118], (h.1, qm_up I 121 c.toInt.toNat 7, J, h.2.2.2))) rfl ?_
                          refine hp_getr rfl (hH.1 118 (17, 105) rfl) rfl (hH.2 118 6 (some 122) rfl) ?_
                          refine qm_Rp.go 1 (c' := (15, [.ref 118, .int 7, .int i, .int 0, .long (0 : Int64), .float 0], [.ref 118, .ref 122], (h.1, qm_up I 121 c.toInt.toNat 7, J, h.2.2.2))) rfl ?_
                          refine hp_geti (v := c) rfl (hH.1 118 (17, 105) rfl) rfl (show (qm_up I 121 c.toInt.toNat 7) 118 10 = _ from ((hk_ot rfl).trans q_c)) ?_
                          refine qm_Rp.go 1 (c' := (19, [.ref 118, .int 7, .int i, .int 0, .long (0 : Int64), .float 0], [.int i, .int c, .ref 122], (h.1, qm_up I 121 c.toInt.toNat 7, J, h.2.2.2))) rfl ?_
                          refine hp_ias rfl (hH.1 122 (0, 403) rfl) (fun ia_102 ib_102 => ?_)
                          refine qm_Rp.go 1 (c' := (21, [.ref 118, .int 7, .int i, .int 0, .long (0 : Int64), .float 0], [.ref 118], (h.1, qm_up (qm_up I 121 c.toInt.toNat 7) 122 c.toInt.toNat i, J, h.2.2.2))) rfl ?_
                          refine hp_getr rfl (hH.1 118 (17, 105) rfl) rfl (hH.2 118 7 (some 123) rfl) ?_
                          refine qm_Rp.go 1 (c' := (25, [.ref 118, .int 7, .int i, .int 0, .long (0 : Int64), .float 0], [.ref 118, .ref 123], (h.1, qm_up (qm_up I 121 c.toInt.toNat 7) 122 c.toInt.toNat i, J, h.2.2.2))) rfl ?_
                          refine hp_geti (v := c) rfl (hH.1 118 (17, 105) rfl) rfl (show (qm_up (qm_up I 121 c.toInt.toNat 7) 122 c.toInt.toNat i) 118 10 = _ from ((hk_ot rfl).trans ((hk_ot rfl).trans q_c))) ?_
                          refine qm_Rp.go 1 (c' := (29, [.ref 118, .int 7, .int i, .int 0, .long (0 : Int64), .float 0], [.int 0, .int c, .ref 123], (h.1, qm_up (qm_up I 121 c.toInt.toNat 7) 122 c.toInt.toNat i, J, h.2.2.2))) rfl ?_
                          refine hp_ias rfl (hH.1 123 (0, 403) rfl) (fun ia_103 ib_103 => ?_)
                          refine qm_Rp.go 1 (c' := (31, [.ref 118, .int 7, .int i, .int 0, .long (0 : Int64), .float 0], [.ref 118], (h.1, qm_up (qm_up (qm_up I 121 c.toInt.toNat 7) 122 c.toInt.toNat i) 123 c.toInt.toNat 0, J, h.2.2.2))) rfl ?_
                          refine hp_getr rfl (hH.1 118 (17, 105) rfl) rfl (hH.2 118 8 (some 124) rfl) ?_
                          refine qm_Rp.go 1 (c' := (35, [.ref 118, .int 7, .int i, .int 0, .long (0 : Int64), .float 0], [.ref 118, .ref 124], (h.1, qm_up (qm_up (qm_up I 121 c.toInt.toNat 7) 122 c.toInt.toNat i) 123 c.toInt.toNat 0, J, h.2.2.2))) rfl ?_
                          refine hp_geti (v := c) rfl (hH.1 118 (17, 105) rfl) rfl (show (qm_up (qm_up (qm_up I 121 c.toInt.toNat 7) 122 c.toInt.toNat i) 123 c.toInt.toNat 0) 118 10 = _ from ((hk_ot rfl).trans ((hk_ot rfl).trans ((hk_ot rfl).trans q_c)))) ?_
                          refine qm_Rp.go 1 (c' := (40, [.ref 118, .int 7, .int i, .int 0, .long (0 : Int64), .float 0], [.long (0 : Int64), .int c, .ref 124], (h.1, qm_up (qm_up (qm_up I 121 c.toInt.toNat 7) 122 c.toInt.toNat i) 123 c.toInt.toNat 0, J, h.2.2.2))) rfl ?_
                          refine hp_las rfl (hH.1 124 (3, 403) rfl) (fun ia_104 ib_104 => ?_)
                          refine qm_Rp.go 2 (c' := (43, [.ref 118, .int 7, .int i, .int 0, .long (0 : Int64), .float 0], [.ref 118, .ref 118], (h.1, qm_up (qm_up (qm_up I 121 c.toInt.toNat 7) 122 c.toInt.toNat i) 123 c.toInt.toNat 0, qm_up J 124 c.toInt.toNat (0 : Int64), h.2.2.2))) rfl ?_
                          refine hp_geti (v := c) rfl (hH.1 118 (17, 105) rfl) rfl (show (qm_up (qm_up (qm_up I 121 c.toInt.toNat 7) 122 c.toInt.toNat i) 123 c.toInt.toNat 0) 118 10 = _ from ((hk_ot rfl).trans ((hk_ot rfl).trans ((hk_ot rfl).trans q_c)))) ?_
                          refine qm_Rp.go 2 (c' := (48, [.ref 118, .int 7, .int i, .int 0, .long (0 : Int64), .float 0], [.int (c + 1), .ref 118], (h.1, qm_up (qm_up (qm_up I 121 c.toInt.toNat 7) 122 c.toInt.toNat i) 123 c.toInt.toNat 0, qm_up J 124 c.toInt.toNat (0 : Int64), h.2.2.2))) rfl ?_
                          obtain ⟨v106, q_v106, e_v106⟩ := hk_add (x := c) (y := 1) (a := c.toInt) (b := 1) rfl rfl (by omega) (by omega)
                          rw [q_v106]
                          refine hp_puti rfl (hH.1 118 (17, 105) rfl) rfl ?_
                          refine qm_Rp.go 0 (c' := (51, [.ref 118, .int 7, .int i, .int 0, .long (0 : Int64), .float 0], [], (h.1, qm_up (qm_up (qm_up (qm_up I 121 c.toInt.toNat 7) 122 c.toInt.toNat i) 123 c.toInt.toNat 0) 118 10 v106, qm_up J 124 c.toInt.toNat (0 : Int64), h.2.2.2))) rfl ?_
                          refine qm_Rp.rt (v := none) (h' := (h.1, qm_up (qm_up (qm_up (qm_up I 121 c.toInt.toNat 7) 122 c.toInt.toNat i) 123 c.toInt.toNat 0) 118 10 v106, qm_up J 124 c.toInt.toNat (0 : Int64), h.2.2.2)) rfl ?_
                          refine qm_Rp.go 3 (c' := (167, [.ref 118, .int i, .int c2, .int c15, .int 0, .int 7], [.int 1], (h.1, qm_up (qm_up (qm_up (qm_up I 121 c.toInt.toNat 7) 122 c.toInt.toNat i) 123 c.toInt.toNat 0) 118 10 v106, qm_up J 124 c.toInt.toNat (0 : Int64), h.2.2.2))) rfl ?_
                          refine qm_Rp.rt (v := (some (.int 1))) (h' := (h.1, qm_up (qm_up (qm_up (qm_up I 121 c.toInt.toNat 7) 122 c.toInt.toNat i) 123 c.toInt.toNat 0) 118 10 v106, qm_up J 124 c.toInt.toNat (0 : Int64), h.2.2.2)) rfl ?_
                          refine qm_Rp.go 1 (c' := (290, [.ref 118, .int i, .int c2, l3, l4, l5, l6, l7], [.int (i + 1)], (h.1, qm_up (qm_up (qm_up (qm_up I 121 c.toInt.toNat 7) 122 c.toInt.toNat i) 123 c.toInt.toNat 0) 118 10 v106, qm_up J 124 c.toInt.toNat (0 : Int64), h.2.2.2))) rfl ?_
                          rw [q_v14]
                          refine qm_Rp.go 2 (c' := (7, [.ref 118, .int v14, .int c2, l3, l4, l5, l6, l7], [], (h.1, qm_up (qm_up (qm_up (qm_up I 121 c.toInt.toNat 7) 122 c.toInt.toNat i) 123 c.toInt.toNat 0) 118 10 v106, qm_up J 124 c.toInt.toNat (0 : Int64), h.2.2.2))) rfl ?_
                          have A_A107 : rA (h.2.1 120) n.toInt.toNat ((qm_up (qm_up (qm_up (qm_up I 121 c.toInt.toNat 7) 122 c.toInt.toNat i) 123 c.toInt.toNat 0) 118 10 v106) 121) ((qm_up (qm_up (qm_up (qm_up I 121 c.toInt.toNat 7) 122 c.toInt.toNat i) 123 c.toInt.toNat 0) 118 10 v106) 122) ((qm_up (qm_up (qm_up (qm_up I 121 c.toInt.toNat 7) 122 c.toInt.toNat i) 123 c.toInt.toNat 0) 118 10 v106) 123) ((qm_up J 124 c.toInt.toNat (0 : Int64)) 124) v106.toInt.toNat := rA_s (c := c.toInt.toNat) hA (fun y hy => ⟨((hk_ot rfl).trans ((hk_ot rfl).trans ((hk_ot rfl).trans ((hk_neq hy).trans rfl)))), ((hk_ot rfl).trans ((hk_ot rfl).trans ((hk_neq hy).trans ((hk_ot rfl).trans rfl)))), ((hk_ot rfl).trans ((hk_neq hy).trans ((hk_ot rfl).trans ((hk_ot rfl).trans rfl)))), ((hj_neq hy).trans rfl)⟩) (by omega) (by rw [(show (qm_up (qm_up (qm_up (qm_up I 121 c.toInt.toNat 7) 122 c.toInt.toNat i) 123 c.toInt.toNat 0) 118 10 v106) 121 c.toInt.toNat = _ from ((hk_ot rfl).trans ((hk_ot rfl).trans ((hk_ot rfl).trans (hk_same)))))]; exact (by rw [hTK.1, hsk]; rfl)) (by rw [(show (qm_up (qm_up (qm_up (qm_up I 121 c.toInt.toNat 7) 122 c.toInt.toNat i) 123 c.toInt.toNat 0) 118 10 v106) 122 c.toInt.toNat = _ from ((hk_ot rfl).trans ((hk_ot rfl).trans (hk_same))))]; omega) (fun z => by rw [(show (qm_up (qm_up (qm_up (qm_up I 121 c.toInt.toNat 7) 122 c.toInt.toNat i) 123 c.toInt.toNat 0) 118 10 v106) 123 c.toInt.toNat = _ from ((hk_ot rfl).trans (hk_same)))]; rw [hTK.1] at z; omega) (fun z => by rw [(show (qm_up J 124 c.toInt.toNat (0 : Int64)) 124 c.toInt.toNat = _ from (hj_same))]; rw [hTK.1] at z; omega)
                          have eC : v106.toInt.toNat = c.toInt.toNat + 1 := by omega
                          exact ih g (by omega) (qm_up (qm_up (qm_up (qm_up I 121 c.toInt.toNat 7) 122 c.toInt.toNat i) 123 c.toInt.toNat 0) 118 10 v106) (qm_up J 124 c.toInt.toNat (0 : Int64)) v106 v14 (fun o ho i => ((hk_mod ho rfl).trans ((hk_mod ho rfl).trans ((hk_mod ho rfl).trans ((hk_mod ho rfl).trans ((e o (hk_ms rfl ho) i).trans rfl)))))) (fun i hi => ((hk_neq (fun z => by subst z; cases hi)).trans ((hk_ot rfl).trans ((hk_ot rfl).trans ((hk_ot rfl).trans ((e8 i (hk_ms rfl hi)).trans rfl)))))) (fun o ho i => ((hj_mod ho rfl).trans ((ej o (hk_ms rfl ho) i).trans rfl))) (show (qm_up (qm_up (qm_up (qm_up I 121 c.toInt.toNat 7) 122 c.toInt.toNat i) 123 c.toInt.toNat 0) 118 10 v106) 118 10 = _ from (hk_same)) A_A107 (fun y hy => by
                            by_cases c9 : y = c.toInt.toNat
                            · rw [c9, hTK.1]; omega
                            · exact hno y (by omega)) (by omega) (by omega) (by rw [eC]; show skp (h.2.1 120) n.toInt.toNat _ = skp (h.2.1 120) n.toInt.toNat (tP (h.2.1 120) n.toInt.toNat (c.toInt.toNat + 1)); rw [hTK.2.1]; congr 1; omega) _ _ _ _ _ _
                      · refine qm_Rp.go 3 (c' := (148, [.ref 118, .int i, .int c2, .int c15, .int 0, .int 6], [], (h.1, I, J, h.2.2.2))) rfl ?_
                        have hw9 : sgW (h.2.1 120) n.toInt.toNat i.toInt.toNat = false := (by
                          by_cases c9 : n.toInt ≤ i.toInt + 1
                          · exact sgW_n (by omega)
                          · exact sgW_b (b := b16) (by omega) q_b16 (by have := f1_c15 (by omega); omega))
                        have hsk : sgK b3.toInt (sgW (h.2.1 120) n.toInt.toNat i.toInt.toNat) = 35 := by rw [hw9, show b3.toInt = 40 by omega]; rfl
                        have hsn : sgN b3.toInt (sgW (h.2.1 120) n.toInt.toNat i.toInt.toNat) = 1 := by rw [hw9]; unfold sgN; exact if_neg (fun z => Bool.false_ne_true z.1)
                        refine qm_Rp.go 5 (c' := (154, [.ref 118, .int i, .int c2, .int c15, .int 0, .int 6], [.long (0 : Int64), .int 0, .int i, .int 6, .ref 118], (h.1, I, J, h.2.2.2))) rfl ?_
                        refine hp_inv (o := 118) (r := []) (as := [.ref 118, .int 6, .int i, .int 0, .long (0 : Int64)]) rfl rfl (hH.1 118 (17, 105) rfl) rfl rfl rfl ?_
                        refine qm_Rp.go 1 (c' := (1, [.ref 118, .int 6, .int i, .int 0, .long (0 : Int64), .float 0], [.ref 118], (h.1, I, J, h.2.2.2))) rfl ?_
                        refine hp_getr rfl (hH.1 118 (17, 105) rfl) rfl (hH.2 118 5 (some 121) rfl) ?_
                        refine qm_Rp.go 1 (c' := (5, [.ref 118, .int 6, .int i, .int 0, .long (0 : Int64), .float 0], [.ref 118, .ref 121], (h.1, I, J, h.2.2.2))) rfl ?_
                        refine hp_geti (v := c) rfl (hH.1 118 (17, 105) rfl) rfl q_c ?_
                        refine qm_Rp.go 1 (c' := (9, [.ref 118, .int 6, .int i, .int 0, .long (0 : Int64), .float 0], [.int 6, .int c, .ref 121], (h.1, I, J, h.2.2.2))) rfl ?_
                        refine hp_ias rfl (hH.1 121 (0, 403) rfl) (fun ia_107 ib_107 => ?_)
                        refine qm_Rp.go 1 (c' := (11, [.ref 118, .int 6, .int i, .int 0, .long (0 : Int64), .float 0], [.ref 118], (h.1, qm_up I 121 c.toInt.toNat 6, J, h.2.2.2))) rfl ?_
                        refine hp_getr rfl (hH.1 118 (17, 105) rfl) rfl (hH.2 118 6 (some 122) rfl) ?_
                        refine qm_Rp.go 1 (c' := (15, [.ref 118, .int 6, .int i, .int 0, .long (0 : Int64), .float 0], [.ref 118, .ref 122], (h.1, qm_up I 121 c.toInt.toNat 6, J, h.2.2.2))) rfl ?_
                        refine hp_geti (v := c) rfl (hH.1 118 (17, 105) rfl) rfl (show (qm_up I 121 c.toInt.toNat 6) 118 10 = _ from ((hk_ot rfl).trans q_c)) ?_
                        refine qm_Rp.go 1 (c' := (19, [.ref 118, .int 6, .int i, .int 0, .long (0 : Int64), .float 0], [.int i, .int c, .ref 122], (h.1, qm_up I 121 c.toInt.toNat 6, J, h.2.2.2))) rfl ?_
                        refine hp_ias rfl (hH.1 122 (0, 403) rfl) (fun ia_108 ib_108 => ?_)
                        refine qm_Rp.go 1 (c' := (21, [.ref 118, .int 6, .int i, .int 0, .long (0 : Int64), .float 0], [.ref 118], (h.1, qm_up (qm_up I 121 c.toInt.toNat 6) 122 c.toInt.toNat i, J, h.2.2.2))) rfl ?_
                        refine hp_getr rfl (hH.1 118 (17, 105) rfl) rfl (hH.2 118 7 (some 123) rfl) ?_
                        refine qm_Rp.go 1 (c' := (25, [.ref 118, .int 6, .int i, .int 0, .long (0 : Int64), .float 0], [.ref 118, .ref 123], (h.1, qm_up (qm_up I 121 c.toInt.toNat 6) 122 c.toInt.toNat i, J, h.2.2.2))) rfl ?_
                        refine hp_geti (v := c) rfl (hH.1 118 (17, 105) rfl) rfl (show (qm_up (qm_up I 121 c.toInt.toNat 6) 122 c.toInt.toNat i) 118 10 = _ from ((hk_ot rfl).trans ((hk_ot rfl).trans q_c))) ?_
                        refine qm_Rp.go 1 (c' := (29, [.ref 118, .int 6, .int i, .int 0, .long (0 : Int64), .float 0], [.int 0, .int c, .ref 123], (h.1, qm_up (qm_up I 121 c.toInt.toNat 6) 122 c.toInt.toNat i, J, h.2.2.2))) rfl ?_
                        refine hp_ias rfl (hH.1 123 (0, 403) rfl) (fun ia_109 ib_109 => ?_)
                        refine qm_Rp.go 1 (c' := (31, [.ref 118, .int 6, .int i, .int 0, .long (0 : Int64), .float 0], [.ref 118], (h.1, qm_up (qm_up (qm_up I 121 c.toInt.toNat 6) 122 c.toInt.toNat i) 123 c.toInt.toNat 0, J, h.2.2.2))) rfl ?_
                        refine hp_getr rfl (hH.1 118 (17, 105) rfl) rfl (hH.2 118 8 (some 124) rfl) ?_
                        refine qm_Rp.go 1 (c' := (35, [.ref 118, .int 6, .int i, .int 0, .long (0 : Int64), .float 0], [.ref 118, .ref 124], (h.1, qm_up (qm_up (qm_up I 121 c.toInt.toNat 6) 122 c.toInt.toNat i) 123 c.toInt.toNat 0, J, h.2.2.2))) rfl ?_
                        refine hp_geti (v := c) rfl (hH.1 118 (17, 105) rfl) rfl (show (qm_up (qm_up (qm_up I 121 c.toInt.toNat 6) 122 c.toInt.toNat i) 123 c.toInt.toNat 0) 118 10 = _ from ((hk_ot rfl).trans ((hk_ot rfl).trans ((hk_ot rfl).trans q_c)))) ?_
                        refine qm_Rp.go 1 (c' := (40, [.ref 118, .int 6, .int i, .int 0, .long (0 : Int64), .float 0], [.long (0 : Int64), .int c, .ref 124], (h.1, qm_up (qm_up (qm_up I 121 c.toInt.toNat 6) 122 c.toInt.toNat i) 123 c.toInt.toNat 0, J, h.2.2.2))) rfl ?_
                        refine hp_las rfl (hH.1 124 (3, 403) rfl) (fun ia_110 ib_110 => ?_)
                        refine qm_Rp.go 2 (c' := (43, [.ref 118, .int 6, .int i, .int 0, .long (0 : Int64), .float 0], [.ref 118, .ref 118], (h.1, qm_up (qm_up (qm_up I 121 c.toInt.toNat 6) 122 c.toInt.toNat i) 123 c.toInt.toNat 0, qm_up J 124 c.toInt.toNat (0 : Int64), h.2.2.2))) rfl ?_
                        refine hp_geti (v := c) rfl (hH.1 118 (17, 105) rfl) rfl (show (qm_up (qm_up (qm_up I 121 c.toInt.toNat 6) 122 c.toInt.toNat i) 123 c.toInt.toNat 0) 118 10 = _ from ((hk_ot rfl).trans ((hk_ot rfl).trans ((hk_ot rfl).trans q_c)))) ?_
                        refine qm_Rp.go 2 (c' := (48, [.ref 118, .int 6, .int i, .int 0, .long (0 : Int64), .float 0], [.int (c + 1), .ref 118], (h.1, qm_up (qm_up (qm_up I 121 c.toInt.toNat 6) 122 c.toInt.toNat i) 123 c.toInt.toNat 0, qm_up J 124 c.toInt.toNat (0 : Int64), h.2.2.2))) rfl ?_
                        obtain ⟨v112, q_v112, e_v112⟩ := hk_add (x := c) (y := 1) (a := c.toInt) (b := 1) rfl rfl (by omega) (by omega)
                        rw [q_v112]
                        refine hp_puti rfl (hH.1 118 (17, 105) rfl) rfl ?_
                        refine qm_Rp.go 0 (c' := (51, [.ref 118, .int 6, .int i, .int 0, .long (0 : Int64), .float 0], [], (h.1, qm_up (qm_up (qm_up (qm_up I 121 c.toInt.toNat 6) 122 c.toInt.toNat i) 123 c.toInt.toNat 0) 118 10 v112, qm_up J 124 c.toInt.toNat (0 : Int64), h.2.2.2))) rfl ?_
                        refine qm_Rp.rt (v := none) (h' := (h.1, qm_up (qm_up (qm_up (qm_up I 121 c.toInt.toNat 6) 122 c.toInt.toNat i) 123 c.toInt.toNat 0) 118 10 v112, qm_up J 124 c.toInt.toNat (0 : Int64), h.2.2.2)) rfl ?_
                        refine qm_Rp.go 3 (c' := (167, [.ref 118, .int i, .int c2, .int c15, .int 0, .int 6], [.int 1], (h.1, qm_up (qm_up (qm_up (qm_up I 121 c.toInt.toNat 6) 122 c.toInt.toNat i) 123 c.toInt.toNat 0) 118 10 v112, qm_up J 124 c.toInt.toNat (0 : Int64), h.2.2.2))) rfl ?_
                        refine qm_Rp.rt (v := (some (.int 1))) (h' := (h.1, qm_up (qm_up (qm_up (qm_up I 121 c.toInt.toNat 6) 122 c.toInt.toNat i) 123 c.toInt.toNat 0) 118 10 v112, qm_up J 124 c.toInt.toNat (0 : Int64), h.2.2.2)) rfl ?_
                        refine qm_Rp.go 1 (c' := (290, [.ref 118, .int i, .int c2, l3, l4, l5, l6, l7], [.int (i + 1)], (h.1, qm_up (qm_up (qm_up (qm_up I 121 c.toInt.toNat 6) 122 c.toInt.toNat i) 123 c.toInt.toNat 0) 118 10 v112, qm_up J 124 c.toInt.toNat (0 : Int64), h.2.2.2))) rfl ?_
                        rw [q_v14]
                        refine qm_Rp.go 2 (c' := (7, [.ref 118, .int v14, .int c2, l3, l4, l5, l6, l7], [], (h.1, qm_up (qm_up (qm_up (qm_up I 121 c.toInt.toNat 6) 122 c.toInt.toNat i) 123 c.toInt.toNat 0) 118 10 v112, qm_up J 124 c.toInt.toNat (0 : Int64), h.2.2.2))) rfl ?_
                        have A_A113 : rA (h.2.1 120) n.toInt.toNat ((qm_up (qm_up (qm_up (qm_up I 121 c.toInt.toNat 6) 122 c.toInt.toNat i) 123 c.toInt.toNat 0) 118 10 v112) 121) ((qm_up (qm_up (qm_up (qm_up I 121 c.toInt.toNat 6) 122 c.toInt.toNat i) 123 c.toInt.toNat 0) 118 10 v112) 122) ((qm_up (qm_up (qm_up (qm_up I 121 c.toInt.toNat 6) 122 c.toInt.toNat i) 123 c.toInt.toNat 0) 118 10 v112) 123) ((qm_up J 124 c.toInt.toNat (0 : Int64)) 124) v112.toInt.toNat := rA_s (c := c.toInt.toNat) hA (fun y hy => ⟨((hk_ot rfl).trans ((hk_ot rfl).trans ((hk_ot rfl).trans ((hk_neq hy).trans rfl)))), ((hk_ot rfl).trans ((hk_ot rfl).trans ((hk_neq hy).trans ((hk_ot rfl).trans rfl)))), ((hk_ot rfl).trans ((hk_neq hy).trans ((hk_ot rfl).trans ((hk_ot rfl).trans rfl)))), ((hj_neq hy).trans rfl)⟩) (by omega) (by rw [(show (qm_up (qm_up (qm_up (qm_up I 121 c.toInt.toNat 6) 122 c.toInt.toNat i) 123 c.toInt.toNat 0) 118 10 v112) 121 c.toInt.toNat = _ from ((hk_ot rfl).trans ((hk_ot rfl).trans ((hk_ot rfl).trans (hk_same)))))]; exact (by rw [hTK.1, hsk]; rfl)) (by rw [(show (qm_up (qm_up (qm_up (qm_up I 121 c.toInt.toNat 6) 122 c.toInt.toNat i) 123 c.toInt.toNat 0) 118 10 v112) 122 c.toInt.toNat = _ from ((hk_ot rfl).trans ((hk_ot rfl).trans (hk_same))))]; omega) (fun z => by rw [(show (qm_up (qm_up (qm_up (qm_up I 121 c.toInt.toNat 6) 122 c.toInt.toNat i) 123 c.toInt.toNat 0) 118 10 v112) 123 c.toInt.toNat = _ from ((hk_ot rfl).trans (hk_same)))]; rw [hTK.1] at z; omega) (fun z => by rw [(show (qm_up J 124 c.toInt.toNat (0 : Int64)) 124 c.toInt.toNat = _ from (hj_same))]; rw [hTK.1] at z; omega)
                        have eC : v112.toInt.toNat = c.toInt.toNat + 1 := by omega
                        exact ih g (by omega) (qm_up (qm_up (qm_up (qm_up I 121 c.toInt.toNat 6) 122 c.toInt.toNat i) 123 c.toInt.toNat 0) 118 10 v112) (qm_up J 124 c.toInt.toNat (0 : Int64)) v112 v14 (fun o ho i => ((hk_mod ho rfl).trans ((hk_mod ho rfl).trans ((hk_mod ho rfl).trans ((hk_mod ho rfl).trans ((e o (hk_ms rfl ho) i).trans rfl)))))) (fun i hi => ((hk_neq (fun z => by subst z; cases hi)).trans ((hk_ot rfl).trans ((hk_ot rfl).trans ((hk_ot rfl).trans ((e8 i (hk_ms rfl hi)).trans rfl)))))) (fun o ho i => ((hj_mod ho rfl).trans ((ej o (hk_ms rfl ho) i).trans rfl))) (show (qm_up (qm_up (qm_up (qm_up I 121 c.toInt.toNat 6) 122 c.toInt.toNat i) 123 c.toInt.toNat 0) 118 10 v112) 118 10 = _ from (hk_same)) A_A113 (fun y hy => by
                          by_cases c9 : y = c.toInt.toNat
                          · rw [c9, hTK.1]; omega
                          · exact hno y (by omega)) (by omega) (by omega) (by rw [eC]; show skp (h.2.1 120) n.toInt.toNat _ = skp (h.2.1 120) n.toInt.toNat (tP (h.2.1 120) n.toInt.toNat (c.toInt.toNat + 1)); rw [hTK.2.1]; congr 1; omega) _ _ _ _ _ _
                  · refine qm_Rp.go 2 (c' := (9, [.int c2], [.int 57, .int c2], (h.1, I, J, h.2.2.2))) rfl ?_
                    refine hp_cgt (ix := c2.toInt) (iy := 57) rfl rfl rfl (fun z114 => ?_) (fun z114 => ?_)
                    · refine qm_Rp.go 1 (c' := (17, [.int c2], [.int 0], (h.1, I, J, h.2.2.2))) rfl ?_
                      refine qm_Rp.rt (v := (some (.int 0))) (h' := (h.1, I, J, h.2.2.2)) rfl ?_
                      refine qm_Rp.go 1 (c' := (275, [.ref 118, .int i, .int c2, l3, l4, l5, l6, l7], [], (h.1, I, J, h.2.2.2))) rfl ?_
                      have hR := tR_sign (B := (h.2.1 120)) (n := n.toInt.toNat) (q := i.toInt.toNat) (b := b3) (by omega) q_b3 (by omega) (by omega)
                      have hTK := tK_def hs9 hR
                      have hsr := sgK_r b3.toInt (sgW (h.2.1 120) n.toInt.toNat i.toInt.toNat)
                      refine qm_Rp.go 8 (c' := (283, [.ref 118, .int i, .int c2, l3, l4, l5, l6, l7], [.int (i + 1), .ref 118, .int c2, .int i, .ref 118, .int i], (h.1, I, J, h.2.2.2))) rfl ?_
                      obtain ⟨v115, q_v115, e_v115⟩ := hk_add (x := i) (y := 1) (a := i.toInt) (b := 1) rfl rfl (by omega) (by omega)
                      rw [q_v115]
                      refine hp_inv (o := 118) (r := [.int c2, .int i, .ref 118, .int i]) (as := [.ref 118, .int v115]) rfl rfl (hH.1 118 (17, 105) rfl) rfl rfl rfl (px_byte (h := (h.1, I, J, h.2.2.2)) hH (by rw [show (h.1, I, J, h.2.2.2).2.1 120 = h.2.1 120 from (show (I) 120 = h.2.1 120 from funext fun y => ((e 120 rfl y).trans rfl))]; exact hB) (n := n) (show (I) 118 4 = _ from ((e8 4 rfl).trans q_n)) hn (fun c116 b117 q_b117 i0_c116 f0_c116 f1_c116 => ?_))
                      rw [show (h.1, I, J, h.2.2.2).2.1 120 = h.2.1 120 from (show (I) 120 = h.2.1 120 from funext fun y => ((e 120 rfl y).trans rfl))] at q_b117
                      have hb_b117 := hB v115.toInt.toNat
                      rw [q_b117] at hb_b117
                      have r_c116 : 0 ≤ c116.toInt ∧ c116.toInt ≤ 255 := by omega
                      refine qm_Rp.go 0 (c' := (286, [.ref 118, .int i, .int c2, l3, l4, l5, l6, l7], [.int c116, .int c2, .int i, .ref 118, .int i], (h.1, I, J, h.2.2.2))) rfl ?_
                      refine hp_inv (o := 118) (r := [.int i]) (as := [.ref 118, .int i, .int c2, .int c116]) rfl rfl (hH.1 118 (17, 105) rfl) rfl rfl rfl ?_
                      refine qm_Rp.go 2 (c' := (3, [.ref 118, .int i, .int c2, .int c116, .float 0, .float 0], [.int 61, .int c116], (h.1, I, J, h.2.2.2))) rfl ?_
                      refine hp_ceq (ix := c116.toInt) (iy := 61) rfl rfl rfl (fun z118 => ?_) (fun z118 => ?_)
                      · refine qm_Rp.go 0 (c' := (10, [.ref 118, .int i, .int c2, .int c116, .float 0, .float 0], [], (h.1, I, J, h.2.2.2))) rfl ?_
                        refine qm_Rp.go 2 (c' := (13, [.ref 118, .int i, .int c2, .int c116, .float 0, .float 0], [.int 61, .int c2], (h.1, I, J, h.2.2.2))) rfl ?_
                        refine hp_cne (ix := c2.toInt) (iy := 61) rfl rfl rfl (fun z119 => ?_) (fun z119 => ?_)
                        · refine qm_Rp.go 2 (c' := (24, [.ref 118, .int i, .int c2, .int c116, .float 0, .float 0], [.int 33, .int c2], (h.1, I, J, h.2.2.2))) rfl ?_
                          refine hp_cne (ix := c2.toInt) (iy := 33) rfl rfl rfl (fun z120 => ?_) (fun z120 => by exfalso; omega)
                          refine qm_Rp.go 2 (c' := (35, [.ref 118, .int i, .int c2, .int c116, .float 0, .float 0], [.int 60, .int c2], (h.1, I, J, h.2.2.2))) rfl ?_
                          refine hp_cne (ix := c2.toInt) (iy := 60) rfl rfl rfl (fun z121 => ?_) (fun z121 => ?_)
                          · refine qm_Rp.go 8 (c' := (64, [.ref 118, .int i, .int c2, .int c116, .int 0, .int 3], [.int 59, .int c2], (h.1, I, J, h.2.2.2))) rfl ?_
                            refine hp_cne (ix := c2.toInt) (iy := 59) rfl rfl rfl (fun z122 => ?_) (fun z122 => ?_)
                            · refine qm_Rp.go 2 (c' := (76, [.ref 118, .int i, .int c2, .int c116, .int 0, .int 3], [.int 40, .int c2], (h.1, I, J, h.2.2.2))) rfl ?_
                              refine hp_cne (ix := c2.toInt) (iy := 40) rfl rfl rfl (fun z123 => ?_) (fun z123 => by exfalso; omega)
                              refine qm_Rp.go 2 (c' := (89, [.ref 118, .int i, .int c2, .int c116, .int 0, .int 3], [.int 41, .int c2], (h.1, I, J, h.2.2.2))) rfl ?_
                              refine hp_cne (ix := c2.toInt) (iy := 41) rfl rfl rfl (fun z124 => ?_) (fun z124 => by exfalso; omega)
                              refine qm_Rp.go 2 (c' := (102, [.ref 118, .int i, .int c2, .int c116, .int 0, .int 3], [.int 43, .int c2], (h.1, I, J, h.2.2.2))) rfl ?_
                              refine hp_cne (ix := c2.toInt) (iy := 43) rfl rfl rfl (fun z125 => ?_) (fun z125 => by exfalso; omega)
                              refine qm_Rp.go 2 (c' := (115, [.ref 118, .int i, .int c2, .int c116, .int 0, .int 3], [.int 45, .int c2], (h.1, I, J, h.2.2.2))) rfl ?_
                              refine hp_cne (ix := c2.toInt) (iy := 45) rfl rfl rfl (fun z126 => ?_) (fun z126 => by exfalso; omega)
                              refine qm_Rp.go 2 (c' := (128, [.ref 118, .int i, .int c2, .int c116, .int 0, .int 3], [.int 42, .int c2], (h.1, I, J, h.2.2.2))) rfl ?_
                              refine hp_cne (ix := c2.toInt) (iy := 42) rfl rfl rfl (fun z127 => ?_) (fun z127 => by exfalso; omega)
                              refine qm_Rp.go 2 (c' := (141, [.ref 118, .int i, .int c2, .int c116, .int 0, .int 3], [.int 60, .int c2], (h.1, I, J, h.2.2.2))) rfl ?_
                              refine hp_cne (ix := c2.toInt) (iy := 60) rfl rfl rfl (fun z128 => ?_) (fun z128 => by exfalso; omega)
                              refine qm_Rp.go 0 (c' := (148, [.ref 118, .int i, .int c2, .int c116, .int 0, .int 3], [], (h.1, I, J, h.2.2.2))) rfl ?_
                              have hw9 : sgW (h.2.1 120) n.toInt.toNat i.toInt.toNat = true := (sgW_y (b := b117) (by omega) (by omega) q_b117 (by omega))
                              have hsk : sgK b3.toInt (sgW (h.2.1 120) n.toInt.toNat i.toInt.toNat) = 38 := by rw [hw9]; exact sgK_1 (by omega)
                              have hsn : sgN b3.toInt (sgW (h.2.1 120) n.toInt.toNat i.toInt.toNat) = 1 := by rw [hw9]; unfold sgN; exact if_neg (fun z => by omega)
                              refine qm_Rp.go 5 (c' := (154, [.ref 118, .int i, .int c2, .int c116, .int 0, .int 3], [.long (0 : Int64), .int 0, .int i, .int 3, .ref 118], (h.1, I, J, h.2.2.2))) rfl ?_
                              refine hp_inv (o := 118) (r := []) (as := [.ref 118, .int 3, .int i, .int 0, .long (0 : Int64)]) rfl rfl (hH.1 118 (17, 105) rfl) rfl rfl rfl ?_
                              refine qm_Rp.go 1 (c' := (1, [.ref 118, .int 3, .int i, .int 0, .long (0 : Int64), .float 0], [.ref 118], (h.1, I, J, h.2.2.2))) rfl ?_
                              refine hp_getr rfl (hH.1 118 (17, 105) rfl) rfl (hH.2 118 5 (some 121) rfl) ?_
                              refine qm_Rp.go 1 (c' := (5, [.ref 118, .int 3, .int i, .int 0, .long (0 : Int64), .float 0], [.ref 118, .ref 121], (h.1, I, J, h.2.2.2))) rfl ?_
                              refine hp_geti (v := c) rfl (hH.1 118 (17, 105) rfl) rfl q_c ?_
                              refine qm_Rp.go 1 (c' := (9, [.ref 118, .int 3, .int i, .int 0, .long (0 : Int64), .float 0], [.int 3, .int c, .ref 121], (h.1, I, J, h.2.2.2))) rfl ?_
                              refine hp_ias rfl (hH.1 121 (0, 403) rfl) (fun ia_128 ib_128 => ?_)
                              refine qm_Rp.go 1 (c' := (11, [.ref 118, .int 3, .int i, .int 0, .long (0 : Int64), .float 0], [.ref 118], (h.1, qm_up I 121 c.toInt.toNat 3, J, h.2.2.2))) rfl ?_
                              refine hp_getr rfl (hH.1 118 (17, 105) rfl) rfl (hH.2 118 6 (some 122) rfl) ?_
                              refine qm_Rp.go 1 (c' := (15, [.ref 118, .int 3, .int i, .int 0, .long (0 : Int64), .float 0], [.ref 118, .ref 122], (h.1, qm_up I 121 c.toInt.toNat 3, J, h.2.2.2))) rfl ?_
                              refine hp_geti (v := c) rfl (hH.1 118 (17, 105) rfl) rfl (show (qm_up I 121 c.toInt.toNat 3) 118 10 = _ from ((hk_ot rfl).trans q_c)) ?_
                              refine qm_Rp.go 1 (c' := (19, [.ref 118, .int 3, .int i, .int 0, .long (0 : Int64), .float 0], [.int i, .int c, .ref 122], (h.1, qm_up I 121 c.toInt.toNat 3, J, h.2.2.2))) rfl ?_
                              refine hp_ias rfl (hH.1 122 (0, 403) rfl) (fun ia_129 ib_129 => ?_)
                              refine qm_Rp.go 1 (c' := (21, [.ref 118, .int 3, .int i, .int 0, .long (0 : Int64), .float 0], [.ref 118], (h.1, qm_up (qm_up I 121 c.toInt.toNat 3) 122 c.toInt.toNat i, J, h.2.2.2))) rfl ?_
                              refine hp_getr rfl (hH.1 118 (17, 105) rfl) rfl (hH.2 118 7 (some 123) rfl) ?_
                              refine qm_Rp.go 1 (c' := (25, [.ref 118, .int 3, .int i, .int 0, .long (0 : Int64), .float 0], [.ref 118, .ref 123], (h.1, qm_up (qm_up I 121 c.toInt.toNat 3) 122 c.toInt.toNat i, J, h.2.2.2))) rfl ?_
                              refine hp_geti (v := c) rfl (hH.1 118 (17, 105) rfl) rfl (show (qm_up (qm_up I 121 c.toInt.toNat 3) 122 c.toInt.toNat i) 118 10 = _ from ((hk_ot rfl).trans ((hk_ot rfl).trans q_c))) ?_
                              refine qm_Rp.go 1 (c' := (29, [.ref 118, .int 3, .int i, .int 0, .long (0 : Int64), .float 0], [.int 0, .int c, .ref 123], (h.1, qm_up (qm_up I 121 c.toInt.toNat 3) 122 c.toInt.toNat i, J, h.2.2.2))) rfl ?_
                              refine hp_ias rfl (hH.1 123 (0, 403) rfl) (fun ia_130 ib_130 => ?_)
                              refine qm_Rp.go 1 (c' := (31, [.ref 118, .int 3, .int i, .int 0, .long (0 : Int64), .float 0], [.ref 118], (h.1, qm_up (qm_up (qm_up I 121 c.toInt.toNat 3) 122 c.toInt.toNat i) 123 c.toInt.toNat 0, J, h.2.2.2))) rfl ?_
                              refine hp_getr rfl (hH.1 118 (17, 105) rfl) rfl (hH.2 118 8 (some 124) rfl) ?_
                              refine qm_Rp.go 1 (c' := (35, [.ref 118, .int 3, .int i, .int 0, .long (0 : Int64), .float 0], [.ref 118, .ref 124], (h.1, qm_up (qm_up (qm_up I 121 c.toInt.toNat 3) 122 c.toInt.toNat i) 123 c.toInt.toNat 0, J, h.2.2.2))) rfl ?_
                              refine hp_geti (v := c) rfl (hH.1 118 (17, 105) rfl) rfl (show (qm_up (qm_up (qm_up I 121 c.toInt.toNat 3) 122 c.toInt.toNat i) 123 c.toInt.toNat 0) 118 10 = _ from ((hk_ot rfl).trans ((hk_ot rfl).trans ((hk_ot rfl).trans q_c)))) ?_
                              refine qm_Rp.go 1 (c' := (40, [.ref 118, .int 3, .int i, .int 0, .long (0 : Int64), .float 0], [.long (0 : Int64), .int c, .ref 124], (h.1, qm_up (qm_up (qm_up I 121 c.toInt.toNat 3) 122 c.toInt.toNat i) 123 c.toInt.toNat 0, J, h.2.2.2))) rfl ?_
                              refine hp_las rfl (hH.1 124 (3, 403) rfl) (fun ia_131 ib_131 => ?_)
                              refine qm_Rp.go 2 (c' := (43, [.ref 118, .int 3, .int i, .int 0, .long (0 : Int64), .float 0], [.ref 118, .ref 118], (h.1, qm_up (qm_up (qm_up I 121 c.toInt.toNat 3) 122 c.toInt.toNat i) 123 c.toInt.toNat 0, qm_up J 124 c.toInt.toNat (0 : Int64), h.2.2.2))) rfl ?_
                              refine hp_geti (v := c) rfl (hH.1 118 (17, 105) rfl) rfl (show (qm_up (qm_up (qm_up I 121 c.toInt.toNat 3) 122 c.toInt.toNat i) 123 c.toInt.toNat 0) 118 10 = _ from ((hk_ot rfl).trans ((hk_ot rfl).trans ((hk_ot rfl).trans q_c)))) ?_
                              refine qm_Rp.go 2 (c' := (48, [.ref 118, .int 3, .int i, .int 0, .long (0 : Int64), .float 0], [.int (c + 1), .ref 118], (h.1, qm_up (qm_up (qm_up I 121 c.toInt.toNat 3) 122 c.toInt.toNat i) 123 c.toInt.toNat 0, qm_up J 124 c.toInt.toNat (0 : Int64), h.2.2.2))) rfl ?_
                              obtain ⟨v133, q_v133, e_v133⟩ := hk_add (x := c) (y := 1) (a := c.toInt) (b := 1) rfl rfl (by omega) (by omega)
                              rw [q_v133]
                              refine hp_puti rfl (hH.1 118 (17, 105) rfl) rfl ?_
                              refine qm_Rp.go 0 (c' := (51, [.ref 118, .int 3, .int i, .int 0, .long (0 : Int64), .float 0], [], (h.1, qm_up (qm_up (qm_up (qm_up I 121 c.toInt.toNat 3) 122 c.toInt.toNat i) 123 c.toInt.toNat 0) 118 10 v133, qm_up J 124 c.toInt.toNat (0 : Int64), h.2.2.2))) rfl ?_
                              refine qm_Rp.rt (v := none) (h' := (h.1, qm_up (qm_up (qm_up (qm_up I 121 c.toInt.toNat 3) 122 c.toInt.toNat i) 123 c.toInt.toNat 0) 118 10 v133, qm_up J 124 c.toInt.toNat (0 : Int64), h.2.2.2)) rfl ?_
                              refine qm_Rp.go 3 (c' := (167, [.ref 118, .int i, .int c2, .int c116, .int 0, .int 3], [.int 1], (h.1, qm_up (qm_up (qm_up (qm_up I 121 c.toInt.toNat 3) 122 c.toInt.toNat i) 123 c.toInt.toNat 0) 118 10 v133, qm_up J 124 c.toInt.toNat (0 : Int64), h.2.2.2))) rfl ?_
                              refine qm_Rp.rt (v := (some (.int 1))) (h' := (h.1, qm_up (qm_up (qm_up (qm_up I 121 c.toInt.toNat 3) 122 c.toInt.toNat i) 123 c.toInt.toNat 0) 118 10 v133, qm_up J 124 c.toInt.toNat (0 : Int64), h.2.2.2)) rfl ?_
                              refine qm_Rp.go 1 (c' := (290, [.ref 118, .int i, .int c2, l3, l4, l5, l6, l7], [.int (i + 1)], (h.1, qm_up (qm_up (qm_up (qm_up I 121 c.toInt.toNat 3) 122 c.toInt.toNat i) 123 c.toInt.toNat 0) 118 10 v133, qm_up J 124 c.toInt.toNat (0 : Int64), h.2.2.2))) rfl ?_
                              rw [q_v115]
                              refine qm_Rp.go 2 (c' := (7, [.ref 118, .int v115, .int c2, l3, l4, l5, l6, l7], [], (h.1, qm_up (qm_up (qm_up (qm_up I 121 c.toInt.toNat 3) 122 c.toInt.toNat i) 123 c.toInt.toNat 0) 118 10 v133, qm_up J 124 c.toInt.toNat (0 : Int64), h.2.2.2))) rfl ?_
                              have A_A134 : rA (h.2.1 120) n.toInt.toNat ((qm_up (qm_up (qm_up (qm_up I 121 c.toInt.toNat 3) 122 c.toInt.toNat i) 123 c.toInt.toNat 0) 118 10 v133) 121) ((qm_up (qm_up (qm_up (qm_up I 121 c.toInt.toNat 3) 122 c.toInt.toNat i) 123 c.toInt.toNat 0) 118 10 v133) 122) ((qm_up (qm_up (qm_up (qm_up I 121 c.toInt.toNat 3) 122 c.toInt.toNat i) 123 c.toInt.toNat 0) 118 10 v133) 123) ((qm_up J 124 c.toInt.toNat (0 : Int64)) 124) v133.toInt.toNat := rA_s (c := c.toInt.toNat) hA (fun y hy => ⟨((hk_ot rfl).trans ((hk_ot rfl).trans ((hk_ot rfl).trans ((hk_neq hy).trans rfl)))), ((hk_ot rfl).trans ((hk_ot rfl).trans ((hk_neq hy).trans ((hk_ot rfl).trans rfl)))), ((hk_ot rfl).trans ((hk_neq hy).trans ((hk_ot rfl).trans ((hk_ot rfl).trans rfl)))), ((hj_neq hy).trans rfl)⟩) (by omega) (by rw [(show (qm_up (qm_up (qm_up (qm_up I 121 c.toInt.toNat 3) 122 c.toInt.toNat i) 123 c.toInt.toNat 0) 118 10 v133) 121 c.toInt.toNat = _ from ((hk_ot rfl).trans ((hk_ot rfl).trans ((hk_ot rfl).trans (hk_same)))))]; exact (by rw [hTK.1, hsk]; rfl)) (by rw [(show (qm_up (qm_up (qm_up (qm_up I 121 c.toInt.toNat 3) 122 c.toInt.toNat i) 123 c.toInt.toNat 0) 118 10 v133) 122 c.toInt.toNat = _ from ((hk_ot rfl).trans ((hk_ot rfl).trans (hk_same))))]; omega) (fun z => by rw [(show (qm_up (qm_up (qm_up (qm_up I 121 c.toInt.toNat 3) 122 c.toInt.toNat i) 123 c.toInt.toNat 0) 118 10 v133) 123 c.toInt.toNat = _ from ((hk_ot rfl).trans (hk_same)))]; rw [hTK.1] at z; omega) (fun z => by rw [(show (qm_up J 124 c.toInt.toNat (0 : Int64)) 124 c.toInt.toNat = _ from (hj_same))]; rw [hTK.1] at z; omega)
                              have eC : v133.toInt.toNat = c.toInt.toNat + 1 := by omega
                              exact ih g (by omega) (qm_up (qm_up (qm_up (qm_up I 121 c.toInt.toNat 3) 122 c.toInt.toNat i) 123 c.toInt.toNat 0) 118 10 v133) (qm_up J 124 c.toInt.toNat (0 : Int64)) v133 v115 (fun o ho i => ((hk_mod ho rfl).trans ((hk_mod ho rfl).trans ((hk_mod ho rfl).trans ((hk_mod ho rfl).trans ((e o (hk_ms rfl ho) i).trans rfl)))))) (fun i hi => ((hk_neq (fun z => by subst z; cases hi)).trans ((hk_ot rfl).trans ((hk_ot rfl).trans ((hk_ot rfl).trans ((e8 i (hk_ms rfl hi)).trans rfl)))))) (fun o ho i => ((hj_mod ho rfl).trans ((ej o (hk_ms rfl ho) i).trans rfl))) (show (qm_up (qm_up (qm_up (qm_up I 121 c.toInt.toNat 3) 122 c.toInt.toNat i) 123 c.toInt.toNat 0) 118 10 v133) 118 10 = _ from (hk_same)) A_A134 (fun y hy => by
                                by_cases c9 : y = c.toInt.toNat
                                · rw [c9, hTK.1]; omega
                                · exact hno y (by omega)) (by omega) (by omega) (by rw [eC]; show skp (h.2.1 120) n.toInt.toNat _ = skp (h.2.1 120) n.toInt.toNat (tP (h.2.1 120) n.toInt.toNat (c.toInt.toNat + 1)); rw [hTK.2.1]; congr 1; omega) _ _ _ _ _ _
                            · refine qm_Rp.go 3 (c' := (148, [.ref 118, .int i, .int c2, .int c116, .int 0, .int 4], [], (h.1, I, J, h.2.2.2))) rfl ?_
                              have hw9 : sgW (h.2.1 120) n.toInt.toNat i.toInt.toNat = true := (sgW_y (b := b117) (by omega) (by omega) q_b117 (by omega))
                              have hsk : sgK b3.toInt (sgW (h.2.1 120) n.toInt.toNat i.toInt.toNat) = 27 := by rw [hw9, show b3.toInt = 59 by omega]; rfl
                              have hsn : sgN b3.toInt (sgW (h.2.1 120) n.toInt.toNat i.toInt.toNat) = 1 := by rw [hw9]; unfold sgN; exact if_neg (fun z => by omega)
                              refine qm_Rp.go 5 (c' := (154, [.ref 118, .int i, .int c2, .int c116, .int 0, .int 4], [.long (0 : Int64), .int 0, .int i, .int 4, .ref 118], (h.1, I, J, h.2.2.2))) rfl ?_
                              refine hp_inv (o := 118) (r := []) (as := [.ref 118, .int 4, .int i, .int 0, .long (0 : Int64)]) rfl rfl (hH.1 118 (17, 105) rfl) rfl rfl rfl ?_
                              refine qm_Rp.go 1 (c' := (1, [.ref 118, .int 4, .int i, .int 0, .long (0 : Int64), .float 0], [.ref 118], (h.1, I, J, h.2.2.2))) rfl ?_
                              refine hp_getr rfl (hH.1 118 (17, 105) rfl) rfl (hH.2 118 5 (some 121) rfl) ?_
                              refine qm_Rp.go 1 (c' := (5, [.ref 118, .int 4, .int i, .int 0, .long (0 : Int64), .float 0], [.ref 118, .ref 121], (h.1, I, J, h.2.2.2))) rfl ?_
                              refine hp_geti (v := c) rfl (hH.1 118 (17, 105) rfl) rfl q_c ?_
                              refine qm_Rp.go 1 (c' := (9, [.ref 118, .int 4, .int i, .int 0, .long (0 : Int64), .float 0], [.int 4, .int c, .ref 121], (h.1, I, J, h.2.2.2))) rfl ?_
                              refine hp_ias rfl (hH.1 121 (0, 403) rfl) (fun ia_134 ib_134 => ?_)
                              refine qm_Rp.go 1 (c' := (11, [.ref 118, .int 4, .int i, .int 0, .long (0 : Int64), .float 0], [.ref 118], (h.1, qm_up I 121 c.toInt.toNat 4, J, h.2.2.2))) rfl ?_
                              refine hp_getr rfl (hH.1 118 (17, 105) rfl) rfl (hH.2 118 6 (some 122) rfl) ?_
                              refine qm_Rp.go 1 (c' := (15, [.ref 118, .int 4, .int i, .int 0, .long (0 : Int64), .float 0], [.ref 118, .ref 122], (h.1, qm_up I 121 c.toInt.toNat 4, J, h.2.2.2))) rfl ?_
                              refine hp_geti (v := c) rfl (hH.1 118 (17, 105) rfl) rfl (show (qm_up I 121 c.toInt.toNat 4) 118 10 = _ from ((hk_ot rfl).trans q_c)) ?_
                              refine qm_Rp.go 1 (c' := (19, [.ref 118, .int 4, .int i, .int 0, .long (0 : Int64), .float 0], [.int i, .int c, .ref 122], (h.1, qm_up I 121 c.toInt.toNat 4, J, h.2.2.2))) rfl ?_
                              refine hp_ias rfl (hH.1 122 (0, 403) rfl) (fun ia_135 ib_135 => ?_)
                              refine qm_Rp.go 1 (c' := (21, [.ref 118, .int 4, .int i, .int 0, .long (0 : Int64), .float 0], [.ref 118], (h.1, qm_up (qm_up I 121 c.toInt.toNat 4) 122 c.toInt.toNat i, J, h.2.2.2))) rfl ?_
                              refine hp_getr rfl (hH.1 118 (17, 105) rfl) rfl (hH.2 118 7 (some 123) rfl) ?_
                              refine qm_Rp.go 1 (c' := (25, [.ref 118, .int 4, .int i, .int 0, .long (0 : Int64), .float 0], [.ref 118, .ref 123], (h.1, qm_up (qm_up I 121 c.toInt.toNat 4) 122 c.toInt.toNat i, J, h.2.2.2))) rfl ?_
                              refine hp_geti (v := c) rfl (hH.1 118 (17, 105) rfl) rfl (show (qm_up (qm_up I 121 c.toInt.toNat 4) 122 c.toInt.toNat i) 118 10 = _ from ((hk_ot rfl).trans ((hk_ot rfl).trans q_c))) ?_
                              refine qm_Rp.go 1 (c' := (29, [.ref 118, .int 4, .int i, .int 0, .long (0 : Int64), .float 0], [.int 0, .int c, .ref 123], (h.1, qm_up (qm_up I 121 c.toInt.toNat 4) 122 c.toInt.toNat i, J, h.2.2.2))) rfl ?_
                              refine hp_ias rfl (hH.1 123 (0, 403) rfl) (fun ia_136 ib_136 => ?_)
                              refine qm_Rp.go 1 (c' := (31, [.ref 118, .int 4, .int i, .int 0, .long (0 : Int64), .float 0], [.ref 118], (h.1, qm_up (qm_up (qm_up I 121 c.toInt.toNat 4) 122 c.toInt.toNat i) 123 c.toInt.toNat 0, J, h.2.2.2))) rfl ?_
                              refine hp_getr rfl (hH.1 118 (17, 105) rfl) rfl (hH.2 118 8 (some 124) rfl) ?_
                              refine qm_Rp.go 1 (c' := (35, [.ref 118, .int 4, .int i, .int 0, .long (0 : Int64), .float 0], [.ref 118, .ref 124], (h.1, qm_up (qm_up (qm_up I 121 c.toInt.toNat 4) 122 c.toInt.toNat i) 123 c.toInt.toNat 0, J, h.2.2.2))) rfl ?_
                              refine hp_geti (v := c) rfl (hH.1 118 (17, 105) rfl) rfl (show (qm_up (qm_up (qm_up I 121 c.toInt.toNat 4) 122 c.toInt.toNat i) 123 c.toInt.toNat 0) 118 10 = _ from ((hk_ot rfl).trans ((hk_ot rfl).trans ((hk_ot rfl).trans q_c)))) ?_
                              refine qm_Rp.go 1 (c' := (40, [.ref 118, .int 4, .int i, .int 0, .long (0 : Int64), .float 0], [.long (0 : Int64), .int c, .ref 124], (h.1, qm_up (qm_up (qm_up I 121 c.toInt.toNat 4) 122 c.toInt.toNat i) 123 c.toInt.toNat 0, J, h.2.2.2))) rfl ?_
                              refine hp_las rfl (hH.1 124 (3, 403) rfl) (fun ia_137 ib_137 => ?_)
                              refine qm_Rp.go 2 (c' := (43, [.ref 118, .int 4, .int i, .int 0, .long (0 : Int64), .float 0], [.ref 118, .ref 118], (h.1, qm_up (qm_up (qm_up I 121 c.toInt.toNat 4) 122 c.toInt.toNat i) 123 c.toInt.toNat 0, qm_up J 124 c.toInt.toNat (0 : Int64), h.2.2.2))) rfl ?_
                              refine hp_geti (v := c) rfl (hH.1 118 (17, 105) rfl) rfl (show (qm_up (qm_up (qm_up I 121 c.toInt.toNat 4) 122 c.toInt.toNat i) 123 c.toInt.toNat 0) 118 10 = _ from ((hk_ot rfl).trans ((hk_ot rfl).trans ((hk_ot rfl).trans q_c)))) ?_
                              refine qm_Rp.go 2 (c' := (48, [.ref 118, .int 4, .int i, .int 0, .long (0 : Int64), .float 0], [.int (c + 1), .ref 118], (h.1, qm_up (qm_up (qm_up I 121 c.toInt.toNat 4) 122 c.toInt.toNat i) 123 c.toInt.toNat 0, qm_up J 124 c.toInt.toNat (0 : Int64), h.2.2.2))) rfl ?_
                              obtain ⟨v139, q_v139, e_v139⟩ := hk_add (x := c) (y := 1) (a := c.toInt) (b := 1) rfl rfl (by omega) (by omega)
                              rw [q_v139]
                              refine hp_puti rfl (hH.1 118 (17, 105) rfl) rfl ?_
                              refine qm_Rp.go 0 (c' := (51, [.ref 118, .int 4, .int i, .int 0, .long (0 : Int64), .float 0], [], (h.1, qm_up (qm_up (qm_up (qm_up I 121 c.toInt.toNat 4) 122 c.toInt.toNat i) 123 c.toInt.toNat 0) 118 10 v139, qm_up J 124 c.toInt.toNat (0 : Int64), h.2.2.2))) rfl ?_
                              refine qm_Rp.rt (v := none) (h' := (h.1, qm_up (qm_up (qm_up (qm_up I 121 c.toInt.toNat 4) 122 c.toInt.toNat i) 123 c.toInt.toNat 0) 118 10 v139, qm_up J 124 c.toInt.toNat (0 : Int64), h.2.2.2)) rfl ?_
                              refine qm_Rp.go 3 (c' := (167, [.ref 118, .int i, .int c2, .int c116, .int 0, .int 4], [.int 1], (h.1, qm_up (qm_up (qm_up (qm_up I 121 c.toInt.toNat 4) 122 c.toInt.toNat i) 123 c.toInt.toNat 0) 118 10 v139, qm_up J 124 c.toInt.toNat (0 : Int64), h.2.2.2))) rfl ?_
                              refine qm_Rp.rt (v := (some (.int 1))) (h' := (h.1, qm_up (qm_up (qm_up (qm_up I 121 c.toInt.toNat 4) 122 c.toInt.toNat i) 123 c.toInt.toNat 0) 118 10 v139, qm_up J 124 c.toInt.toNat (0 : Int64), h.2.2.2)) rfl ?_
                              refine qm_Rp.go 1 (c' := (290, [.ref 118, .int i, .int c2, l3, l4, l5, l6, l7], [.int (i + 1)], (h.1, qm_up (qm_up (qm_up (qm_up I 121 c.toInt.toNat 4) 122 c.toInt.toNat i) 123 c.toInt.toNat 0) 118 10 v139, qm_up J 124 c.toInt.toNat (0 : Int64), h.2.2.2))) rfl ?_
                              rw [q_v115]
                              refine qm_Rp.go 2 (c' := (7, [.ref 118, .int v115, .int c2, l3, l4, l5, l6, l7], [], (h.1, qm_up (qm_up (qm_up (qm_up I 121 c.toInt.toNat 4) 122 c.toInt.toNat i) 123 c.toInt.toNat 0) 118 10 v139, qm_up J 124 c.toInt.toNat (0 : Int64), h.2.2.2))) rfl ?_
                              have A_A140 : rA (h.2.1 120) n.toInt.toNat ((qm_up (qm_up (qm_up (qm_up I 121 c.toInt.toNat 4) 122 c.toInt.toNat i) 123 c.toInt.toNat 0) 118 10 v139) 121) ((qm_up (qm_up (qm_up (qm_up I 121 c.toInt.toNat 4) 122 c.toInt.toNat i) 123 c.toInt.toNat 0) 118 10 v139) 122) ((qm_up (qm_up (qm_up (qm_up I 121 c.toInt.toNat 4) 122 c.toInt.toNat i) 123 c.toInt.toNat 0) 118 10 v139) 123) ((qm_up J 124 c.toInt.toNat (0 : Int64)) 124) v139.toInt.toNat := rA_s (c := c.toInt.toNat) hA (fun y hy => ⟨((hk_ot rfl).trans ((hk_ot rfl).trans ((hk_ot rfl).trans ((hk_neq hy).trans rfl)))), ((hk_ot rfl).trans ((hk_ot rfl).trans ((hk_neq hy).trans ((hk_ot rfl).trans rfl)))), ((hk_ot rfl).trans ((hk_neq hy).trans ((hk_ot rfl).trans ((hk_ot rfl).trans rfl)))), ((hj_neq hy).trans rfl)⟩) (by omega) (by rw [(show (qm_up (qm_up (qm_up (qm_up I 121 c.toInt.toNat 4) 122 c.toInt.toNat i) 123 c.toInt.toNat 0) 118 10 v139) 121 c.toInt.toNat = _ from ((hk_ot rfl).trans ((hk_ot rfl).trans ((hk_ot rfl).trans (hk_same)))))]; exact (by rw [hTK.1, hsk]; rfl)) (by rw [(show (qm_up (qm_up (qm_up (qm_up I 121 c.toInt.toNat 4) 122 c.toInt.toNat i) 123 c.toInt.toNat 0) 118 10 v139) 122 c.toInt.toNat = _ from ((hk_ot rfl).trans ((hk_ot rfl).trans (hk_same))))]; omega) (fun z => by rw [(show (qm_up (qm_up (qm_up (qm_up I 121 c.toInt.toNat 4) 122 c.toInt.toNat i) 123 c.toInt.toNat 0) 118 10 v139) 123 c.toInt.toNat = _ from ((hk_ot rfl).trans (hk_same)))]; rw [hTK.1] at z; omega) (fun z => by rw [(show (qm_up J 124 c.toInt.toNat (0 : Int64)) 124 c.toInt.toNat = _ from (hj_same))]; rw [hTK.1] at z; omega)
                              have eC : v139.toInt.toNat = c.toInt.toNat + 1 := by omega
                              exact ih g (by omega) (qm_up (qm_up (qm_up (qm_up I 121 c.toInt.toNat 4) 122 c.toInt.toNat i) 123 c.toInt.toNat 0) 118 10 v139) (qm_up J 124 c.toInt.toNat (0 : Int64)) v139 v115 (fun o ho i => ((hk_mod ho rfl).trans ((hk_mod ho rfl).trans ((hk_mod ho rfl).trans ((hk_mod ho rfl).trans ((e o (hk_ms rfl ho) i).trans rfl)))))) (fun i hi => ((hk_neq (fun z => by subst z; cases hi)).trans ((hk_ot rfl).trans ((hk_ot rfl).trans ((hk_ot rfl).trans ((e8 i (hk_ms rfl hi)).trans rfl)))))) (fun o ho i => ((hj_mod ho rfl).trans ((ej o (hk_ms rfl ho) i).trans rfl))) (show (qm_up (qm_up (qm_up (qm_up I 121 c.toInt.toNat 4) 122 c.toInt.toNat i) 123 c.toInt.toNat 0) 118 10 v139) 118 10 = _ from (hk_same)) A_A140 (fun y hy => by
                                by_cases c9 : y = c.toInt.toNat
                                · rw [c9, hTK.1]; omega
                                · exact hno y (by omega)) (by omega) (by omega) (by rw [eC]; show skp (h.2.1 120) n.toInt.toNat _ = skp (h.2.1 120) n.toInt.toNat (tP (h.2.1 120) n.toInt.toNat (c.toInt.toNat + 1)); rw [hTK.2.1]; congr 1; omega) _ _ _ _ _ _
                          · refine qm_Rp.go 10 (c' := (148, [.ref 118, .int i, .int c2, .int c116, .int 14, .int 14], [], (h.1, I, J, h.2.2.2))) rfl ?_
                            have hw9 : sgW (h.2.1 120) n.toInt.toNat i.toInt.toNat = true := (sgW_y (b := b117) (by omega) (by omega) q_b117 (by omega))
                            have hsk : sgK b3.toInt (sgW (h.2.1 120) n.toInt.toNat i.toInt.toNat) = 34 := by rw [hw9, show b3.toInt = 60 by omega]; rfl
                            have hsn : sgN b3.toInt (sgW (h.2.1 120) n.toInt.toNat i.toInt.toNat) = 2 := by rw [hw9]; unfold sgN; exact if_pos ⟨rfl, by omega⟩
                            refine qm_Rp.go 5 (c' := (154, [.ref 118, .int i, .int c2, .int c116, .int 14, .int 14], [.long (0 : Int64), .int 0, .int i, .int 14, .ref 118], (h.1, I, J, h.2.2.2))) rfl ?_
                            refine hp_inv (o := 118) (r := []) (as := [.ref 118, .int 14, .int i, .int 0, .long (0 : Int64)]) rfl rfl (hH.1 118 (17, 105) rfl) rfl rfl rfl ?_
                            refine qm_Rp.go 1 (c' := (1, [.ref 118, .int 14, .int i, .int 0, .long (0 : Int64), .float 0], [.ref 118], (h.1, I, J, h.2.2.2))) rfl ?_
                            refine hp_getr rfl (hH.1 118 (17, 105) rfl) rfl (hH.2 118 5 (some 121) rfl) ?_
                            refine qm_Rp.go 1 (c' := (5, [.ref 118, .int 14, .int i, .int 0, .long (0 : Int64), .float 0], [.ref 118, .ref 121], (h.1, I, J, h.2.2.2))) rfl ?_
                            refine hp_geti (v := c) rfl (hH.1 118 (17, 105) rfl) rfl q_c ?_
                            refine qm_Rp.go 1 (c' := (9, [.ref 118, .int 14, .int i, .int 0, .long (0 : Int64), .float 0], [.int 14, .int c, .ref 121], (h.1, I, J, h.2.2.2))) rfl ?_
                            refine hp_ias rfl (hH.1 121 (0, 403) rfl) (fun ia_140 ib_140 => ?_)
                            refine qm_Rp.go 1 (c' := (11, [.ref 118, .int 14, .int i, .int 0, .long (0 : Int64), .float 0], [.ref 118], (h.1, qm_up I 121 c.toInt.toNat 14, J, h.2.2.2))) rfl ?_
                            refine hp_getr rfl (hH.1 118 (17, 105) rfl) rfl (hH.2 118 6 (some 122) rfl) ?_
                            refine qm_Rp.go 1 (c' := (15, [.ref 118, .int 14, .int i, .int 0, .long (0 : Int64), .float 0], [.ref 118, .ref 122], (h.1, qm_up I 121 c.toInt.toNat 14, J, h.2.2.2))) rfl ?_
                            refine hp_geti (v := c) rfl (hH.1 118 (17, 105) rfl) rfl (show (qm_up I 121 c.toInt.toNat 14) 118 10 = _ from ((hk_ot rfl).trans q_c)) ?_
                            refine qm_Rp.go 1 (c' := (19, [.ref 118, .int 14, .int i, .int 0, .long (0 : Int64), .float 0], [.int i, .int c, .ref 122], (h.1, qm_up I 121 c.toInt.toNat 14, J, h.2.2.2))) rfl ?_
                            refine hp_ias rfl (hH.1 122 (0, 403) rfl) (fun ia_141 ib_141 => ?_)
                            refine qm_Rp.go 1 (c' := (21, [.ref 118, .int 14, .int i, .int 0, .long (0 : Int64), .float 0], [.ref 118], (h.1, qm_up (qm_up I 121 c.toInt.toNat 14) 122 c.toInt.toNat i, J, h.2.2.2))) rfl ?_
                            refine hp_getr rfl (hH.1 118 (17, 105) rfl) rfl (hH.2 118 7 (some 123) rfl) ?_
                            refine qm_Rp.go 1 (c' := (25, [.ref 118, .int 14, .int i, .int 0, .long (0 : Int64), .float 0], [.ref 118, .ref 123], (h.1, qm_up (qm_up I 121 c.toInt.toNat 14) 122 c.toInt.toNat i, J, h.2.2.2))) rfl ?_
                            refine hp_geti (v := c) rfl (hH.1 118 (17, 105) rfl) rfl (show (qm_up (qm_up I 121 c.toInt.toNat 14) 122 c.toInt.toNat i) 118 10 = _ from ((hk_ot rfl).trans ((hk_ot rfl).trans q_c))) ?_
                            refine qm_Rp.go 1 (c' := (29, [.ref 118, .int 14, .int i, .int 0, .long (0 : Int64), .float 0], [.int 0, .int c, .ref 123], (h.1, qm_up (qm_up I 121 c.toInt.toNat 14) 122 c.toInt.toNat i, J, h.2.2.2))) rfl ?_
                            refine hp_ias rfl (hH.1 123 (0, 403) rfl) (fun ia_142 ib_142 => ?_)
                            refine qm_Rp.go 1 (c' := (31, [.ref 118, .int 14, .int i, .int 0, .long (0 : Int64), .float 0], [.ref 118], (h.1, qm_up (qm_up (qm_up I 121 c.toInt.toNat 14) 122 c.toInt.toNat i) 123 c.toInt.toNat 0, J, h.2.2.2))) rfl ?_
                            refine hp_getr rfl (hH.1 118 (17, 105) rfl) rfl (hH.2 118 8 (some 124) rfl) ?_
                            refine qm_Rp.go 1 (c' := (35, [.ref 118, .int 14, .int i, .int 0, .long (0 : Int64), .float 0], [.ref 118, .ref 124], (h.1, qm_up (qm_up (qm_up I 121 c.toInt.toNat 14) 122 c.toInt.toNat i) 123 c.toInt.toNat 0, J, h.2.2.2))) rfl ?_
                            refine hp_geti (v := c) rfl (hH.1 118 (17, 105) rfl) rfl (show (qm_up (qm_up (qm_up I 121 c.toInt.toNat 14) 122 c.toInt.toNat i) 123 c.toInt.toNat 0) 118 10 = _ from ((hk_ot rfl).trans ((hk_ot rfl).trans ((hk_ot rfl).trans q_c)))) ?_
                            refine qm_Rp.go 1 (c' := (40, [.ref 118, .int 14, .int i, .int 0, .long (0 : Int64), .float 0], [.long (0 : Int64), .int c, .ref 124], (h.1, qm_up (qm_up (qm_up I 121 c.toInt.toNat 14) 122 c.toInt.toNat i) 123 c.toInt.toNat 0, J, h.2.2.2))) rfl ?_
                            refine hp_las rfl (hH.1 124 (3, 403) rfl) (fun ia_143 ib_143 => ?_)
                            refine qm_Rp.go 2 (c' := (43, [.ref 118, .int 14, .int i, .int 0, .long (0 : Int64), .float 0], [.ref 118, .ref 118], (h.1, qm_up (qm_up (qm_up I 121 c.toInt.toNat 14) 122 c.toInt.toNat i) 123 c.toInt.toNat 0, qm_up J 124 c.toInt.toNat (0 : Int64), h.2.2.2))) rfl ?_
                            refine hp_geti (v := c) rfl (hH.1 118 (17, 105) rfl) rfl (show (qm_up (qm_up (qm_up I 121 c.toInt.toNat 14) 122 c.toInt.toNat i) 123 c.toInt.toNat 0) 118 10 = _ from ((hk_ot rfl).trans ((hk_ot rfl).trans ((hk_ot rfl).trans q_c)))) ?_
                            refine qm_Rp.go 2 (c' := (48, [.ref 118, .int 14, .int i, .int 0, .long (0 : Int64), .float 0], [.int (c + 1), .ref 118], (h.1, qm_up (qm_up (qm_up I 121 c.toInt.toNat 14) 122 c.toInt.toNat i) 123 c.toInt.toNat 0, qm_up J 124 c.toInt.toNat (0 : Int64), h.2.2.2))) rfl ?_
                            obtain ⟨v145, q_v145, e_v145⟩ := hk_add (x := c) (y := 1) (a := c.toInt) (b := 1) rfl rfl (by omega) (by omega)
                            rw [q_v145]
                            refine hp_puti rfl (hH.1 118 (17, 105) rfl) rfl ?_
                            refine qm_Rp.go 0 (c' := (51, [.ref 118, .int 14, .int i, .int 0, .long (0 : Int64), .float 0], [], (h.1, qm_up (qm_up (qm_up (qm_up I 121 c.toInt.toNat 14) 122 c.toInt.toNat i) 123 c.toInt.toNat 0) 118 10 v145, qm_up J 124 c.toInt.toNat (0 : Int64), h.2.2.2))) rfl ?_
                            refine qm_Rp.rt (v := none) (h' := (h.1, qm_up (qm_up (qm_up (qm_up I 121 c.toInt.toNat 14) 122 c.toInt.toNat i) 123 c.toInt.toNat 0) 118 10 v145, qm_up J 124 c.toInt.toNat (0 : Int64), h.2.2.2)) rfl ?_
                            refine qm_Rp.go 4 (c' := (167, [.ref 118, .int i, .int c2, .int c116, .int 14, .int 14], [.int 2], (h.1, qm_up (qm_up (qm_up (qm_up I 121 c.toInt.toNat 14) 122 c.toInt.toNat i) 123 c.toInt.toNat 0) 118 10 v145, qm_up J 124 c.toInt.toNat (0 : Int64), h.2.2.2))) rfl ?_
                            refine qm_Rp.rt (v := (some (.int 2))) (h' := (h.1, qm_up (qm_up (qm_up (qm_up I 121 c.toInt.toNat 14) 122 c.toInt.toNat i) 123 c.toInt.toNat 0) 118 10 v145, qm_up J 124 c.toInt.toNat (0 : Int64), h.2.2.2)) rfl ?_
                            refine qm_Rp.go 1 (c' := (290, [.ref 118, .int i, .int c2, l3, l4, l5, l6, l7], [.int (i + 2)], (h.1, qm_up (qm_up (qm_up (qm_up I 121 c.toInt.toNat 14) 122 c.toInt.toNat i) 123 c.toInt.toNat 0) 118 10 v145, qm_up J 124 c.toInt.toNat (0 : Int64), h.2.2.2))) rfl ?_
                            obtain ⟨v146, q_v146, e_v146⟩ := hk_add (x := i) (y := 2) (a := i.toInt) (b := 2) rfl rfl (by omega) (by omega)
                            rw [q_v146]
                            refine qm_Rp.go 2 (c' := (7, [.ref 118, .int v146, .int c2, l3, l4, l5, l6, l7], [], (h.1, qm_up (qm_up (qm_up (qm_up I 121 c.toInt.toNat 14) 122 c.toInt.toNat i) 123 c.toInt.toNat 0) 118 10 v145, qm_up J 124 c.toInt.toNat (0 : Int64), h.2.2.2))) rfl ?_
                            have A_A147 : rA (h.2.1 120) n.toInt.toNat ((qm_up (qm_up (qm_up (qm_up I 121 c.toInt.toNat 14) 122 c.toInt.toNat i) 123 c.toInt.toNat 0) 118 10 v145) 121) ((qm_up (qm_up (qm_up (qm_up I 121 c.toInt.toNat 14) 122 c.toInt.toNat i) 123 c.toInt.toNat 0) 118 10 v145) 122) ((qm_up (qm_up (qm_up (qm_up I 121 c.toInt.toNat 14) 122 c.toInt.toNat i) 123 c.toInt.toNat 0) 118 10 v145) 123) ((qm_up J 124 c.toInt.toNat (0 : Int64)) 124) v145.toInt.toNat := rA_s (c := c.toInt.toNat) hA (fun y hy => ⟨((hk_ot rfl).trans ((hk_ot rfl).trans ((hk_ot rfl).trans ((hk_neq hy).trans rfl)))), ((hk_ot rfl).trans ((hk_ot rfl).trans ((hk_neq hy).trans ((hk_ot rfl).trans rfl)))), ((hk_ot rfl).trans ((hk_neq hy).trans ((hk_ot rfl).trans ((hk_ot rfl).trans rfl)))), ((hj_neq hy).trans rfl)⟩) (by omega) (by rw [(show (qm_up (qm_up (qm_up (qm_up I 121 c.toInt.toNat 14) 122 c.toInt.toNat i) 123 c.toInt.toNat 0) 118 10 v145) 121 c.toInt.toNat = _ from ((hk_ot rfl).trans ((hk_ot rfl).trans ((hk_ot rfl).trans (hk_same)))))]; exact (by rw [hTK.1, hsk]; rfl)) (by rw [(show (qm_up (qm_up (qm_up (qm_up I 121 c.toInt.toNat 14) 122 c.toInt.toNat i) 123 c.toInt.toNat 0) 118 10 v145) 122 c.toInt.toNat = _ from ((hk_ot rfl).trans ((hk_ot rfl).trans (hk_same))))]; omega) (fun z => by rw [(show (qm_up (qm_up (qm_up (qm_up I 121 c.toInt.toNat 14) 122 c.toInt.toNat i) 123 c.toInt.toNat 0) 118 10 v145) 123 c.toInt.toNat = _ from ((hk_ot rfl).trans (hk_same)))]; rw [hTK.1] at z; omega) (fun z => by rw [(show (qm_up J 124 c.toInt.toNat (0 : Int64)) 124 c.toInt.toNat = _ from (hj_same))]; rw [hTK.1] at z; omega)
                            have eC : v145.toInt.toNat = c.toInt.toNat + 1 := by omega
                            exact ih g (by omega) (qm_up (qm_up (qm_up (qm_up I 121 c.toInt.toNat 14) 122 c.toInt.toNat i) 123 c.toInt.toNat 0) 118 10 v145) (qm_up J 124 c.toInt.toNat (0 : Int64)) v145 v146 (fun o ho i => ((hk_mod ho rfl).trans ((hk_mod ho rfl).trans ((hk_mod ho rfl).trans ((hk_mod ho rfl).trans ((e o (hk_ms rfl ho) i).trans rfl)))))) (fun i hi => ((hk_neq (fun z => by subst z; cases hi)).trans ((hk_ot rfl).trans ((hk_ot rfl).trans ((hk_ot rfl).trans ((e8 i (hk_ms rfl hi)).trans rfl)))))) (fun o ho i => ((hj_mod ho rfl).trans ((ej o (hk_ms rfl ho) i).trans rfl))) (show (qm_up (qm_up (qm_up (qm_up I 121 c.toInt.toNat 14) 122 c.toInt.toNat i) 123 c.toInt.toNat 0) 118 10 v145) 118 10 = _ from (hk_same)) A_A147 (fun y hy => by
                              by_cases c9 : y = c.toInt.toNat
                              · rw [c9, hTK.1]; omega
                              · exact hno y (by omega)) (by omega) (by omega) (by rw [eC]; show skp (h.2.1 120) n.toInt.toNat _ = skp (h.2.1 120) n.toInt.toNat (tP (h.2.1 120) n.toInt.toNat (c.toInt.toNat + 1)); rw [hTK.2.1]; congr 1; omega) _ _ _ _ _ _
                        · refine qm_Rp.go 10 (c' := (148, [.ref 118, .int i, .int c2, .int c116, .int 11, .int 11], [], (h.1, I, J, h.2.2.2))) rfl ?_
                          have hw9 : sgW (h.2.1 120) n.toInt.toNat i.toInt.toNat = true := (sgW_y (b := b117) (by omega) (by omega) q_b117 (by omega))
                          have hsk : sgK b3.toInt (sgW (h.2.1 120) n.toInt.toNat i.toInt.toNat) = 31 := by rw [hw9, show b3.toInt = 61 by omega]; rfl
                          have hsn : sgN b3.toInt (sgW (h.2.1 120) n.toInt.toNat i.toInt.toNat) = 2 := by rw [hw9]; unfold sgN; exact if_pos ⟨rfl, by omega⟩
                          refine qm_Rp.go 5 (c' := (154, [.ref 118, .int i, .int c2, .int c116, .int 11, .int 11], [.long (0 : Int64), .int 0, .int i, .int 11, .ref 118], (h.1, I, J, h.2.2.2))) rfl ?_
                          refine hp_inv (o := 118) (r := []) (as := [.ref 118, .int 11, .int i, .int 0, .long (0 : Int64)]) rfl rfl (hH.1 118 (17, 105) rfl) rfl rfl rfl ?_
                          refine qm_Rp.go 1 (c' := (1, [.ref 118, .int 11, .int i, .int 0, .long (0 : Int64), .float 0], [.ref 118], (h.1, I, J, h.2.2.2))) rfl ?_
                          refine hp_getr rfl (hH.1 118 (17, 105) rfl) rfl (hH.2 118 5 (some 121) rfl) ?_
                          refine qm_Rp.go 1 (c' := (5, [.ref 118, .int 11, .int i, .int 0, .long (0 : Int64), .float 0], [.ref 118, .ref 121], (h.1, I, J, h.2.2.2))) rfl ?_
                          refine hp_geti (v := c) rfl (hH.1 118 (17, 105) rfl) rfl q_c ?_
                          refine qm_Rp.go 1 (c' := (9, [.ref 118, .int 11, .int i, .int 0, .long (0 : Int64), .float 0], [.int 11, .int c, .ref 121], (h.1, I, J, h.2.2.2))) rfl ?_
                          refine hp_ias rfl (hH.1 121 (0, 403) rfl) (fun ia_147 ib_147 => ?_)
                          refine qm_Rp.go 1 (c' := (11, [.ref 118, .int 11, .int i, .int 0, .long (0 : Int64), .float 0], [.ref 118], (h.1, qm_up I 121 c.toInt.toNat 11, J, h.2.2.2))) rfl ?_
                          refine hp_getr rfl (hH.1 118 (17, 105) rfl) rfl (hH.2 118 6 (some 122) rfl) ?_
                          refine qm_Rp.go 1 (c' := (15, [.ref 118, .int 11, .int i, .int 0, .long (0 : Int64), .float 0], [.ref 118, .ref 122], (h.1, qm_up I 121 c.toInt.toNat 11, J, h.2.2.2))) rfl ?_
                          refine hp_geti (v := c) rfl (hH.1 118 (17, 105) rfl) rfl (show (qm_up I 121 c.toInt.toNat 11) 118 10 = _ from ((hk_ot rfl).trans q_c)) ?_
                          refine qm_Rp.go 1 (c' := (19, [.ref 118, .int 11, .int i, .int 0, .long (0 : Int64), .float 0], [.int i, .int c, .ref 122], (h.1, qm_up I 121 c.toInt.toNat 11, J, h.2.2.2))) rfl ?_
                          refine hp_ias rfl (hH.1 122 (0, 403) rfl) (fun ia_148 ib_148 => ?_)
                          refine qm_Rp.go 1 (c' := (21, [.ref 118, .int 11, .int i, .int 0, .long (0 : Int64), .float 0], [.ref 118], (h.1, qm_up (qm_up I 121 c.toInt.toNat 11) 122 c.toInt.toNat i, J, h.2.2.2))) rfl ?_
                          refine hp_getr rfl (hH.1 118 (17, 105) rfl) rfl (hH.2 118 7 (some 123) rfl) ?_
                          refine qm_Rp.go 1 (c' := (25, [.ref 118, .int 11, .int i, .int 0, .long (0 : Int64), .float 0], [.ref 118, .ref 123], (h.1, qm_up (qm_up I 121 c.toInt.toNat 11) 122 c.toInt.toNat i, J, h.2.2.2))) rfl ?_
                          refine hp_geti (v := c) rfl (hH.1 118 (17, 105) rfl) rfl (show (qm_up (qm_up I 121 c.toInt.toNat 11) 122 c.toInt.toNat i) 118 10 = _ from ((hk_ot rfl).trans ((hk_ot rfl).trans q_c))) ?_
                          refine qm_Rp.go 1 (c' := (29, [.ref 118, .int 11, .int i, .int 0, .long (0 : Int64), .float 0], [.int 0, .int c, .ref 123], (h.1, qm_up (qm_up I 121 c.toInt.toNat 11) 122 c.toInt.toNat i, J, h.2.2.2))) rfl ?_
                          refine hp_ias rfl (hH.1 123 (0, 403) rfl) (fun ia_149 ib_149 => ?_)
                          refine qm_Rp.go 1 (c' := (31, [.ref 118, .int 11, .int i, .int 0, .long (0 : Int64), .float 0], [.ref 118], (h.1, qm_up (qm_up (qm_up I 121 c.toInt.toNat 11) 122 c.toInt.toNat i) 123 c.toInt.toNat 0, J, h.2.2.2))) rfl ?_
                          refine hp_getr rfl (hH.1 118 (17, 105) rfl) rfl (hH.2 118 8 (some 124) rfl) ?_
                          refine qm_Rp.go 1 (c' := (35, [.ref 118, .int 11, .int i, .int 0, .long (0 : Int64), .float 0], [.ref 118, .ref 124], (h.1, qm_up (qm_up (qm_up I 121 c.toInt.toNat 11) 122 c.toInt.toNat i) 123 c.toInt.toNat 0, J, h.2.2.2))) rfl ?_
                          refine hp_geti (v := c) rfl (hH.1 118 (17, 105) rfl) rfl (show (qm_up (qm_up (qm_up I 121 c.toInt.toNat 11) 122 c.toInt.toNat i) 123 c.toInt.toNat 0) 118 10 = _ from ((hk_ot rfl).trans ((hk_ot rfl).trans ((hk_ot rfl).trans q_c)))) ?_
                          refine qm_Rp.go 1 (c' := (40, [.ref 118, .int 11, .int i, .int 0, .long (0 : Int64), .float 0], [.long (0 : Int64), .int c, .ref 124], (h.1, qm_up (qm_up (qm_up I 121 c.toInt.toNat 11) 122 c.toInt.toNat i) 123 c.toInt.toNat 0, J, h.2.2.2))) rfl ?_
                          refine hp_las rfl (hH.1 124 (3, 403) rfl) (fun ia_150 ib_150 => ?_)
                          refine qm_Rp.go 2 (c' := (43, [.ref 118, .int 11, .int i, .int 0, .long (0 : Int64), .float 0], [.ref 118, .ref 118], (h.1, qm_up (qm_up (qm_up I 121 c.toInt.toNat 11) 122 c.toInt.toNat i) 123 c.toInt.toNat 0, qm_up J 124 c.toInt.toNat (0 : Int64), h.2.2.2))) rfl ?_
                          refine hp_geti (v := c) rfl (hH.1 118 (17, 105) rfl) rfl (show (qm_up (qm_up (qm_up I 121 c.toInt.toNat 11) 122 c.toInt.toNat i) 123 c.toInt.toNat 0) 118 10 = _ from ((hk_ot rfl).trans ((hk_ot rfl).trans ((hk_ot rfl).trans q_c)))) ?_
                          refine qm_Rp.go 2 (c' := (48, [.ref 118, .int 11, .int i, .int 0, .long (0 : Int64), .float 0], [.int (c + 1), .ref 118], (h.1, qm_up (qm_up (qm_up I 121 c.toInt.toNat 11) 122 c.toInt.toNat i) 123 c.toInt.toNat 0, qm_up J 124 c.toInt.toNat (0 : Int64), h.2.2.2))) rfl ?_
                          obtain ⟨v152, q_v152, e_v152⟩ := hk_add (x := c) (y := 1) (a := c.toInt) (b := 1) rfl rfl (by omega) (by omega)
                          rw [q_v152]
                          refine hp_puti rfl (hH.1 118 (17, 105) rfl) rfl ?_
                          refine qm_Rp.go 0 (c' := (51, [.ref 118, .int 11, .int i, .int 0, .long (0 : Int64), .float 0], [], (h.1, qm_up (qm_up (qm_up (qm_up I 121 c.toInt.toNat 11) 122 c.toInt.toNat i) 123 c.toInt.toNat 0) 118 10 v152, qm_up J 124 c.toInt.toNat (0 : Int64), h.2.2.2))) rfl ?_
                          refine qm_Rp.rt (v := none) (h' := (h.1, qm_up (qm_up (qm_up (qm_up I 121 c.toInt.toNat 11) 122 c.toInt.toNat i) 123 c.toInt.toNat 0) 118 10 v152, qm_up J 124 c.toInt.toNat (0 : Int64), h.2.2.2)) rfl ?_
                          refine qm_Rp.go 4 (c' := (167, [.ref 118, .int i, .int c2, .int c116, .int 11, .int 11], [.int 2], (h.1, qm_up (qm_up (qm_up (qm_up I 121 c.toInt.toNat 11) 122 c.toInt.toNat i) 123 c.toInt.toNat 0) 118 10 v152, qm_up J 124 c.toInt.toNat (0 : Int64), h.2.2.2))) rfl ?_
                          refine qm_Rp.rt (v := (some (.int 2))) (h' := (h.1, qm_up (qm_up (qm_up (qm_up I 121 c.toInt.toNat 11) 122 c.toInt.toNat i) 123 c.toInt.toNat 0) 118 10 v152, qm_up J 124 c.toInt.toNat (0 : Int64), h.2.2.2)) rfl ?_
                          refine qm_Rp.go 1 (c' := (290, [.ref 118, .int i, .int c2, l3, l4, l5, l6, l7], [.int (i + 2)], (h.1, qm_up (qm_up (qm_up (qm_up I 121 c.toInt.toNat 11) 122 c.toInt.toNat i) 123 c.toInt.toNat 0) 118 10 v152, qm_up J 124 c.toInt.toNat (0 : Int64), h.2.2.2))) rfl ?_
                          obtain ⟨v153, q_v153, e_v153⟩ := hk_add (x := i) (y := 2) (a := i.toInt) (b := 2) rfl rfl (by omega) (by omega)
                          rw [q_v153]
                          refine qm_Rp.go 2 (c' := (7, [.ref 118, .int v153, .int c2, l3, l4, l5, l6, l7], [], (h.1, qm_up (qm_up (qm_up (qm_up I 121 c.toInt.toNat 11) 122 c.toInt.toNat i) 123 c.toInt.toNat 0) 118 10 v152, qm_up J 124 c.toInt.toNat (0 : Int64), h.2.2.2))) rfl ?_
                          have A_A154 : rA (h.2.1 120) n.toInt.toNat ((qm_up (qm_up (qm_up (qm_up I 121 c.toInt.toNat 11) 122 c.toInt.toNat i) 123 c.toInt.toNat 0) 118 10 v152) 121) ((qm_up (qm_up (qm_up (qm_up I 121 c.toInt.toNat 11) 122 c.toInt.toNat i) 123 c.toInt.toNat 0) 118 10 v152) 122) ((qm_up (qm_up (qm_up (qm_up I 121 c.toInt.toNat 11) 122 c.toInt.toNat i) 123 c.toInt.toNat 0) 118 10 v152) 123) ((qm_up J 124 c.toInt.toNat (0 : Int64)) 124) v152.toInt.toNat := rA_s (c := c.toInt.toNat) hA (fun y hy => ⟨((hk_ot rfl).trans ((hk_ot rfl).trans ((hk_ot rfl).trans ((hk_neq hy).trans rfl)))), ((hk_ot rfl).trans ((hk_ot rfl).trans ((hk_neq hy).trans ((hk_ot rfl).trans rfl)))), ((hk_ot rfl).trans ((hk_neq hy).trans ((hk_ot rfl).trans ((hk_ot rfl).trans rfl)))), ((hj_neq hy).trans rfl)⟩) (by omega) (by rw [(show (qm_up (qm_up (qm_up (qm_up I 121 c.toInt.toNat 11) 122 c.toInt.toNat i) 123 c.toInt.toNat 0) 118 10 v152) 121 c.toInt.toNat = _ from ((hk_ot rfl).trans ((hk_ot rfl).trans ((hk_ot rfl).trans (hk_same)))))]; exact (by rw [hTK.1, hsk]; rfl)) (by rw [(show (qm_up (qm_up (qm_up (qm_up I 121 c.toInt.toNat 11) 122 c.toInt.toNat i) 123 c.toInt.toNat 0) 118 10 v152) 122 c.toInt.toNat = _ from ((hk_ot rfl).trans ((hk_ot rfl).trans (hk_same))))]; omega) (fun z => by rw [(show (qm_up (qm_up (qm_up (qm_up I 121 c.toInt.toNat 11) 122 c.toInt.toNat i) 123 c.toInt.toNat 0) 118 10 v152) 123 c.toInt.toNat = _ from ((hk_ot rfl).trans (hk_same)))]; rw [hTK.1] at z; omega) (fun z => by rw [(show (qm_up J 124 c.toInt.toNat (0 : Int64)) 124 c.toInt.toNat = _ from (hj_same))]; rw [hTK.1] at z; omega)
                          have eC : v152.toInt.toNat = c.toInt.toNat + 1 := by omega
                          exact ih g (by omega) (qm_up (qm_up (qm_up (qm_up I 121 c.toInt.toNat 11) 122 c.toInt.toNat i) 123 c.toInt.toNat 0) 118 10 v152) (qm_up J 124 c.toInt.toNat (0 : Int64)) v152 v153 (fun o ho i => ((hk_mod ho rfl).trans ((hk_mod ho rfl).trans ((hk_mod ho rfl).trans ((hk_mod ho rfl).trans ((e o (hk_ms rfl ho) i).trans rfl)))))) (fun i hi => ((hk_neq (fun z => by subst z; cases hi)).trans ((hk_ot rfl).trans ((hk_ot rfl).trans ((hk_ot rfl).trans ((e8 i (hk_ms rfl hi)).trans rfl)))))) (fun o ho i => ((hj_mod ho rfl).trans ((ej o (hk_ms rfl ho) i).trans rfl))) (show (qm_up (qm_up (qm_up (qm_up I 121 c.toInt.toNat 11) 122 c.toInt.toNat i) 123 c.toInt.toNat 0) 118 10 v152) 118 10 = _ from (hk_same)) A_A154 (fun y hy => by
                            by_cases c9 : y = c.toInt.toNat
                            · rw [c9, hTK.1]; omega
                            · exact hno y (by omega)) (by omega) (by omega) (by rw [eC]; show skp (h.2.1 120) n.toInt.toNat _ = skp (h.2.1 120) n.toInt.toNat (tP (h.2.1 120) n.toInt.toNat (c.toInt.toNat + 1)); rw [hTK.2.1]; congr 1; omega) _ _ _ _ _ _
                      · refine qm_Rp.go 9 (c' := (64, [.ref 118, .int i, .int c2, .int c116, .int 0, .int 3], [.int 59, .int c2], (h.1, I, J, h.2.2.2))) rfl ?_
                        refine hp_cne (ix := c2.toInt) (iy := 59) rfl rfl rfl (fun z155 => ?_) (fun z155 => ?_)
                        · refine qm_Rp.go 2 (c' := (76, [.ref 118, .int i, .int c2, .int c116, .int 0, .int 3], [.int 40, .int c2], (h.1, I, J, h.2.2.2))) rfl ?_
                          refine hp_cne (ix := c2.toInt) (iy := 40) rfl rfl rfl (fun z156 => ?_) (fun z156 => by exfalso; omega)
                          refine qm_Rp.go 2 (c' := (89, [.ref 118, .int i, .int c2, .int c116, .int 0, .int 3], [.int 41, .int c2], (h.1, I, J, h.2.2.2))) rfl ?_
                          refine hp_cne (ix := c2.toInt) (iy := 41) rfl rfl rfl (fun z157 => ?_) (fun z157 => by exfalso; omega)
                          refine qm_Rp.go 2 (c' := (102, [.ref 118, .int i, .int c2, .int c116, .int 0, .int 3], [.int 43, .int c2], (h.1, I, J, h.2.2.2))) rfl ?_
                          refine hp_cne (ix := c2.toInt) (iy := 43) rfl rfl rfl (fun z158 => ?_) (fun z158 => by exfalso; omega)
                          refine qm_Rp.go 2 (c' := (115, [.ref 118, .int i, .int c2, .int c116, .int 0, .int 3], [.int 45, .int c2], (h.1, I, J, h.2.2.2))) rfl ?_
                          refine hp_cne (ix := c2.toInt) (iy := 45) rfl rfl rfl (fun z159 => ?_) (fun z159 => by exfalso; omega)
                          refine qm_Rp.go 2 (c' := (128, [.ref 118, .int i, .int c2, .int c116, .int 0, .int 3], [.int 42, .int c2], (h.1, I, J, h.2.2.2))) rfl ?_
                          refine hp_cne (ix := c2.toInt) (iy := 42) rfl rfl rfl (fun z160 => ?_) (fun z160 => by exfalso; omega)
                          refine qm_Rp.go 2 (c' := (141, [.ref 118, .int i, .int c2, .int c116, .int 0, .int 3], [.int 60, .int c2], (h.1, I, J, h.2.2.2))) rfl ?_
                          refine hp_cne (ix := c2.toInt) (iy := 60) rfl rfl rfl (fun z161 => ?_) (fun z161 => ?_)
                          · refine qm_Rp.go 0 (c' := (148, [.ref 118, .int i, .int c2, .int c116, .int 0, .int 3], [], (h.1, I, J, h.2.2.2))) rfl ?_
                            have hw9 : sgW (h.2.1 120) n.toInt.toNat i.toInt.toNat = false := (by
                              by_cases c9 : n.toInt ≤ i.toInt + 1
                              · exact sgW_n (by omega)
                              · exact sgW_b (b := b117) (by omega) q_b117 (by have := f1_c116 (by omega); omega))
                            have hsk : sgK b3.toInt (sgW (h.2.1 120) n.toInt.toNat i.toInt.toNat) = 38 := by rw [hw9]; exact sgK_0 (by omega)
                            have hsn : sgN b3.toInt (sgW (h.2.1 120) n.toInt.toNat i.toInt.toNat) = 1 := by rw [hw9]; unfold sgN; exact if_neg (fun z => Bool.false_ne_true z.1)
                            refine qm_Rp.go 5 (c' := (154, [.ref 118, .int i, .int c2, .int c116, .int 0, .int 3], [.long (0 : Int64), .int 0, .int i, .int 3, .ref 118], (h.1, I, J, h.2.2.2))) rfl ?_
                            refine hp_inv (o := 118) (r := []) (as := [.ref 118, .int 3, .int i, .int 0, .long (0 : Int64)]) rfl rfl (hH.1 118 (17, 105) rfl) rfl rfl rfl ?_
                            refine qm_Rp.go 1 (c' := (1, [.ref 118, .int 3, .int i, .int 0, .long (0 : Int64), .float 0], [.ref 118], (h.1, I, J, h.2.2.2))) rfl ?_
                            refine hp_getr rfl (hH.1 118 (17, 105) rfl) rfl (hH.2 118 5 (some 121) rfl) ?_
                            refine qm_Rp.go 1 (c' := (5, [.ref 118, .int 3, .int i, .int 0, .long (0 : Int64), .float 0], [.ref 118, .ref 121], (h.1, I, J, h.2.2.2))) rfl ?_
                            refine hp_geti (v := c) rfl (hH.1 118 (17, 105) rfl) rfl q_c ?_
                            refine qm_Rp.go 1 (c' := (9, [.ref 118, .int 3, .int i, .int 0, .long (0 : Int64), .float 0], [.int 3, .int c, .ref 121], (h.1, I, J, h.2.2.2))) rfl ?_
                            refine hp_ias rfl (hH.1 121 (0, 403) rfl) (fun ia_161 ib_161 => ?_)
                            refine qm_Rp.go 1 (c' := (11, [.ref 118, .int 3, .int i, .int 0, .long (0 : Int64), .float 0], [.ref 118], (h.1, qm_up I 121 c.toInt.toNat 3, J, h.2.2.2))) rfl ?_
                            refine hp_getr rfl (hH.1 118 (17, 105) rfl) rfl (hH.2 118 6 (some 122) rfl) ?_
                            refine qm_Rp.go 1 (c' := (15, [.ref 118, .int 3, .int i, .int 0, .long (0 : Int64), .float 0], [.ref 118, .ref 122], (h.1, qm_up I 121 c.toInt.toNat 3, J, h.2.2.2))) rfl ?_
                            refine hp_geti (v := c) rfl (hH.1 118 (17, 105) rfl) rfl (show (qm_up I 121 c.toInt.toNat 3) 118 10 = _ from ((hk_ot rfl).trans q_c)) ?_
                            refine qm_Rp.go 1 (c' := (19, [.ref 118, .int 3, .int i, .int 0, .long (0 : Int64), .float 0], [.int i, .int c, .ref 122], (h.1, qm_up I 121 c.toInt.toNat 3, J, h.2.2.2))) rfl ?_
                            refine hp_ias rfl (hH.1 122 (0, 403) rfl) (fun ia_162 ib_162 => ?_)
                            refine qm_Rp.go 1 (c' := (21, [.ref 118, .int 3, .int i, .int 0, .long (0 : Int64), .float 0], [.ref 118], (h.1, qm_up (qm_up I 121 c.toInt.toNat 3) 122 c.toInt.toNat i, J, h.2.2.2))) rfl ?_
                            refine hp_getr rfl (hH.1 118 (17, 105) rfl) rfl (hH.2 118 7 (some 123) rfl) ?_
                            refine qm_Rp.go 1 (c' := (25, [.ref 118, .int 3, .int i, .int 0, .long (0 : Int64), .float 0], [.ref 118, .ref 123], (h.1, qm_up (qm_up I 121 c.toInt.toNat 3) 122 c.toInt.toNat i, J, h.2.2.2))) rfl ?_
                            refine hp_geti (v := c) rfl (hH.1 118 (17, 105) rfl) rfl (show (qm_up (qm_up I 121 c.toInt.toNat 3) 122 c.toInt.toNat i) 118 10 = _ from ((hk_ot rfl).trans ((hk_ot rfl).trans q_c))) ?_
                            refine qm_Rp.go 1 (c' := (29, [.ref 118, .int 3, .int i, .int 0, .long (0 : Int64), .float 0], [.int 0, .int c, .ref 123], (h.1, qm_up (qm_up I 121 c.toInt.toNat 3) 122 c.toInt.toNat i, J, h.2.2.2))) rfl ?_
                            refine hp_ias rfl (hH.1 123 (0, 403) rfl) (fun ia_163 ib_163 => ?_)
                            refine qm_Rp.go 1 (c' := (31, [.ref 118, .int 3, .int i, .int 0, .long (0 : Int64), .float 0], [.ref 118], (h.1, qm_up (qm_up (qm_up I 121 c.toInt.toNat 3) 122 c.toInt.toNat i) 123 c.toInt.toNat 0, J, h.2.2.2))) rfl ?_
                            refine hp_getr rfl (hH.1 118 (17, 105) rfl) rfl (hH.2 118 8 (some 124) rfl) ?_
                            refine qm_Rp.go 1 (c' := (35, [.ref 118, .int 3, .int i, .int 0, .long (0 : Int64), .float 0], [.ref 118, .ref 124], (h.1, qm_up (qm_up (qm_up I 121 c.toInt.toNat 3) 122 c.toInt.toNat i) 123 c.toInt.toNat 0, J, h.2.2.2))) rfl ?_
                            refine hp_geti (v := c) rfl (hH.1 118 (17, 105) rfl) rfl (show (qm_up (qm_up (qm_up I 121 c.toInt.toNat 3) 122 c.toInt.toNat i) 123 c.toInt.toNat 0) 118 10 = _ from ((hk_ot rfl).trans ((hk_ot rfl).trans ((hk_ot rfl).trans q_c)))) ?_
                            refine qm_Rp.go 1 (c' := (40, [.ref 118, .int 3, .int i, .int 0, .long (0 : Int64), .float 0], [.long (0 : Int64), .int c, .ref 124], (h.1, qm_up (qm_up (qm_up I 121 c.toInt.toNat 3) 122 c.toInt.toNat i) 123 c.toInt.toNat 0, J, h.2.2.2))) rfl ?_
                            refine hp_las rfl (hH.1 124 (3, 403) rfl) (fun ia_164 ib_164 => ?_)
                            refine qm_Rp.go 2 (c' := (43, [.ref 118, .int 3, .int i, .int 0, .long (0 : Int64), .float 0], [.ref 118, .ref 118], (h.1, qm_up (qm_up (qm_up I 121 c.toInt.toNat 3) 122 c.toInt.toNat i) 123 c.toInt.toNat 0, qm_up J 124 c.toInt.toNat (0 : Int64), h.2.2.2))) rfl ?_
                            refine hp_geti (v := c) rfl (hH.1 118 (17, 105) rfl) rfl (show (qm_up (qm_up (qm_up I 121 c.toInt.toNat 3) 122 c.toInt.toNat i) 123 c.toInt.toNat 0) 118 10 = _ from ((hk_ot rfl).trans ((hk_ot rfl).trans ((hk_ot rfl).trans q_c)))) ?_
                            refine qm_Rp.go 2 (c' := (48, [.ref 118, .int 3, .int i, .int 0, .long (0 : Int64), .float 0], [.int (c + 1), .ref 118], (h.1, qm_up (qm_up (qm_up I 121 c.toInt.toNat 3) 122 c.toInt.toNat i) 123 c.toInt.toNat 0, qm_up J 124 c.toInt.toNat (0 : Int64), h.2.2.2))) rfl ?_
                            obtain ⟨v166, q_v166, e_v166⟩ := hk_add (x := c) (y := 1) (a := c.toInt) (b := 1) rfl rfl (by omega) (by omega)
                            rw [q_v166]
                            refine hp_puti rfl (hH.1 118 (17, 105) rfl) rfl ?_
                            refine qm_Rp.go 0 (c' := (51, [.ref 118, .int 3, .int i, .int 0, .long (0 : Int64), .float 0], [], (h.1, qm_up (qm_up (qm_up (qm_up I 121 c.toInt.toNat 3) 122 c.toInt.toNat i) 123 c.toInt.toNat 0) 118 10 v166, qm_up J 124 c.toInt.toNat (0 : Int64), h.2.2.2))) rfl ?_
                            refine qm_Rp.rt (v := none) (h' := (h.1, qm_up (qm_up (qm_up (qm_up I 121 c.toInt.toNat 3) 122 c.toInt.toNat i) 123 c.toInt.toNat 0) 118 10 v166, qm_up J 124 c.toInt.toNat (0 : Int64), h.2.2.2)) rfl ?_
                            refine qm_Rp.go 3 (c' := (167, [.ref 118, .int i, .int c2, .int c116, .int 0, .int 3], [.int 1], (h.1, qm_up (qm_up (qm_up (qm_up I 121 c.toInt.toNat 3) 122 c.toInt.toNat i) 123 c.toInt.toNat 0) 118 10 v166, qm_up J 124 c.toInt.toNat (0 : Int64), h.2.2.2))) rfl ?_
                            refine qm_Rp.rt (v := (some (.int 1))) (h' := (h.1, qm_up (qm_up (qm_up (qm_up I 121 c.toInt.toNat 3) 122 c.toInt.toNat i) 123 c.toInt.toNat 0) 118 10 v166, qm_up J 124 c.toInt.toNat (0 : Int64), h.2.2.2)) rfl ?_
                            refine qm_Rp.go 1 (c' := (290, [.ref 118, .int i, .int c2, l3, l4, l5, l6, l7], [.int (i + 1)], (h.1, qm_up (qm_up (qm_up (qm_up I 121 c.toInt.toNat 3) 122 c.toInt.toNat i) 123 c.toInt.toNat 0) 118 10 v166, qm_up J 124 c.toInt.toNat (0 : Int64), h.2.2.2))) rfl ?_
                            rw [q_v115]
                            refine qm_Rp.go 2 (c' := (7, [.ref 118, .int v115, .int c2, l3, l4, l5, l6, l7], [], (h.1, qm_up (qm_up (qm_up (qm_up I 121 c.toInt.toNat 3) 122 c.toInt.toNat i) 123 c.toInt.toNat 0) 118 10 v166, qm_up J 124 c.toInt.toNat (0 : Int64), h.2.2.2))) rfl ?_
                            have A_A167 : rA (h.2.1 120) n.toInt.toNat ((qm_up (qm_up (qm_up (qm_up I 121 c.toInt.toNat 3) 122 c.toInt.toNat i) 123 c.toInt.toNat 0) 118 10 v166) 121) ((qm_up (qm_up (qm_up (qm_up I 121 c.toInt.toNat 3) 122 c.toInt.toNat i) 123 c.toInt.toNat 0) 118 10 v166) 122) ((qm_up (qm_up (qm_up (qm_up I 121 c.toInt.toNat 3) 122 c.toInt.toNat i) 123 c.toInt.toNat 0) 118 10 v166) 123) ((qm_up J 124 c.toInt.toNat (0 : Int64)) 124) v166.toInt.toNat := rA_s (c := c.toInt.toNat) hA (fun y hy => ⟨((hk_ot rfl).trans ((hk_ot rfl).trans ((hk_ot rfl).trans ((hk_neq hy).trans rfl)))), ((hk_ot rfl).trans ((hk_ot rfl).trans ((hk_neq hy).trans ((hk_ot rfl).trans rfl)))), ((hk_ot rfl).trans ((hk_neq hy).trans ((hk_ot rfl).trans ((hk_ot rfl).trans rfl)))), ((hj_neq hy).trans rfl)⟩) (by omega) (by rw [(show (qm_up (qm_up (qm_up (qm_up I 121 c.toInt.toNat 3) 122 c.toInt.toNat i) 123 c.toInt.toNat 0) 118 10 v166) 121 c.toInt.toNat = _ from ((hk_ot rfl).trans ((hk_ot rfl).trans ((hk_ot rfl).trans (hk_same)))))]; exact (by rw [hTK.1, hsk]; rfl)) (by rw [(show (qm_up (qm_up (qm_up (qm_up I 121 c.toInt.toNat 3) 122 c.toInt.toNat i) 123 c.toInt.toNat 0) 118 10 v166) 122 c.toInt.toNat = _ from ((hk_ot rfl).trans ((hk_ot rfl).trans (hk_same))))]; omega) (fun z => by rw [(show (qm_up (qm_up (qm_up (qm_up I 121 c.toInt.toNat 3) 122 c.toInt.toNat i) 123 c.toInt.toNat 0) 118 10 v166) 123 c.toInt.toNat = _ from ((hk_ot rfl).trans (hk_same)))]; rw [hTK.1] at z; omega) (fun z => by rw [(show (qm_up J 124 c.toInt.toNat (0 : Int64)) 124 c.toInt.toNat = _ from (hj_same))]; rw [hTK.1] at z; omega)
                            have eC : v166.toInt.toNat = c.toInt.toNat + 1 := by omega
                            exact ih g (by omega) (qm_up (qm_up (qm_up (qm_up I 121 c.toInt.toNat 3) 122 c.toInt.toNat i) 123 c.toInt.toNat 0) 118 10 v166) (qm_up J 124 c.toInt.toNat (0 : Int64)) v166 v115 (fun o ho i => ((hk_mod ho rfl).trans ((hk_mod ho rfl).trans ((hk_mod ho rfl).trans ((hk_mod ho rfl).trans ((e o (hk_ms rfl ho) i).trans rfl)))))) (fun i hi => ((hk_neq (fun z => by subst z; cases hi)).trans ((hk_ot rfl).trans ((hk_ot rfl).trans ((hk_ot rfl).trans ((e8 i (hk_ms rfl hi)).trans rfl)))))) (fun o ho i => ((hj_mod ho rfl).trans ((ej o (hk_ms rfl ho) i).trans rfl))) (show (qm_up (qm_up (qm_up (qm_up I 121 c.toInt.toNat 3) 122 c.toInt.toNat i) 123 c.toInt.toNat 0) 118 10 v166) 118 10 = _ from (hk_same)) A_A167 (fun y hy => by
                              by_cases c9 : y = c.toInt.toNat
                              · rw [c9, hTK.1]; omega
                              · exact hno y (by omega)) (by omega) (by omega) (by rw [eC]; show skp (h.2.1 120) n.toInt.toNat _ = skp (h.2.1 120) n.toInt.toNat (tP (h.2.1 120) n.toInt.toNat (c.toInt.toNat + 1)); rw [hTK.2.1]; congr 1; omega) _ _ _ _ _ _
                          · refine qm_Rp.go 2 (c' := (148, [.ref 118, .int i, .int c2, .int c116, .int 0, .int 13], [], (h.1, I, J, h.2.2.2))) rfl ?_
                            have hw9 : sgW (h.2.1 120) n.toInt.toNat i.toInt.toNat = false := (by
                              by_cases c9 : n.toInt ≤ i.toInt + 1
                              · exact sgW_n (by omega)
                              · exact sgW_b (b := b117) (by omega) q_b117 (by have := f1_c116 (by omega); omega))
                            have hsk : sgK b3.toInt (sgW (h.2.1 120) n.toInt.toNat i.toInt.toNat) = 33 := by rw [hw9, show b3.toInt = 60 by omega]; rfl
                            have hsn : sgN b3.toInt (sgW (h.2.1 120) n.toInt.toNat i.toInt.toNat) = 1 := by rw [hw9]; unfold sgN; exact if_neg (fun z => Bool.false_ne_true z.1)
                            refine qm_Rp.go 5 (c' := (154, [.ref 118, .int i, .int c2, .int c116, .int 0, .int 13], [.long (0 : Int64), .int 0, .int i, .int 13, .ref 118], (h.1, I, J, h.2.2.2))) rfl ?_
                            refine hp_inv (o := 118) (r := []) (as := [.ref 118, .int 13, .int i, .int 0, .long (0 : Int64)]) rfl rfl (hH.1 118 (17, 105) rfl) rfl rfl rfl ?_
                            refine qm_Rp.go 1 (c' := (1, [.ref 118, .int 13, .int i, .int 0, .long (0 : Int64), .float 0], [.ref 118], (h.1, I, J, h.2.2.2))) rfl ?_
                            refine hp_getr rfl (hH.1 118 (17, 105) rfl) rfl (hH.2 118 5 (some 121) rfl) ?_
                            refine qm_Rp.go 1 (c' := (5, [.ref 118, .int 13, .int i, .int 0, .long (0 : Int64), .float 0], [.ref 118, .ref 121], (h.1, I, J, h.2.2.2))) rfl ?_
                            refine hp_geti (v := c) rfl (hH.1 118 (17, 105) rfl) rfl q_c ?_
                            refine qm_Rp.go 1 (c' := (9, [.ref 118, .int 13, .int i, .int 0, .long (0 : Int64), .float 0], [.int 13, .int c, .ref 121], (h.1, I, J, h.2.2.2))) rfl ?_
                            refine hp_ias rfl (hH.1 121 (0, 403) rfl) (fun ia_167 ib_167 => ?_)
                            refine qm_Rp.go 1 (c' := (11, [.ref 118, .int 13, .int i, .int 0, .long (0 : Int64), .float 0], [.ref 118], (h.1, qm_up I 121 c.toInt.toNat 13, J, h.2.2.2))) rfl ?_
                            refine hp_getr rfl (hH.1 118 (17, 105) rfl) rfl (hH.2 118 6 (some 122) rfl) ?_
                            refine qm_Rp.go 1 (c' := (15, [.ref 118, .int 13, .int i, .int 0, .long (0 : Int64), .float 0], [.ref 118, .ref 122], (h.1, qm_up I 121 c.toInt.toNat 13, J, h.2.2.2))) rfl ?_
                            refine hp_geti (v := c) rfl (hH.1 118 (17, 105) rfl) rfl (show (qm_up I 121 c.toInt.toNat 13) 118 10 = _ from ((hk_ot rfl).trans q_c)) ?_
                            refine qm_Rp.go 1 (c' := (19, [.ref 118, .int 13, .int i, .int 0, .long (0 : Int64), .float 0], [.int i, .int c, .ref 122], (h.1, qm_up I 121 c.toInt.toNat 13, J, h.2.2.2))) rfl ?_
                            refine hp_ias rfl (hH.1 122 (0, 403) rfl) (fun ia_168 ib_168 => ?_)
                            refine qm_Rp.go 1 (c' := (21, [.ref 118, .int 13, .int i, .int 0, .long (0 : Int64), .float 0], [.ref 118], (h.1, qm_up (qm_up I 121 c.toInt.toNat 13) 122 c.toInt.toNat i, J, h.2.2.2))) rfl ?_
                            refine hp_getr rfl (hH.1 118 (17, 105) rfl) rfl (hH.2 118 7 (some 123) rfl) ?_
                            refine qm_Rp.go 1 (c' := (25, [.ref 118, .int 13, .int i, .int 0, .long (0 : Int64), .float 0], [.ref 118, .ref 123], (h.1, qm_up (qm_up I 121 c.toInt.toNat 13) 122 c.toInt.toNat i, J, h.2.2.2))) rfl ?_
                            refine hp_geti (v := c) rfl (hH.1 118 (17, 105) rfl) rfl (show (qm_up (qm_up I 121 c.toInt.toNat 13) 122 c.toInt.toNat i) 118 10 = _ from ((hk_ot rfl).trans ((hk_ot rfl).trans q_c))) ?_
                            refine qm_Rp.go 1 (c' := (29, [.ref 118, .int 13, .int i, .int 0, .long (0 : Int64), .float 0], [.int 0, .int c, .ref 123], (h.1, qm_up (qm_up I 121 c.toInt.toNat 13) 122 c.toInt.toNat i, J, h.2.2.2))) rfl ?_
                            refine hp_ias rfl (hH.1 123 (0, 403) rfl) (fun ia_169 ib_169 => ?_)
                            refine qm_Rp.go 1 (c' := (31, [.ref 118, .int 13, .int i, .int 0, .long (0 : Int64), .float 0], [.ref 118], (h.1, qm_up (qm_up (qm_up I 121 c.toInt.toNat 13) 122 c.toInt.toNat i) 123 c.toInt.toNat 0, J, h.2.2.2))) rfl ?_
                            refine hp_getr rfl (hH.1 118 (17, 105) rfl) rfl (hH.2 118 8 (some 124) rfl) ?_
                            refine qm_Rp.go 1 (c' := (35, [.ref 118, .int 13, .int i, .int 0, .long (0 : Int64), .float 0], [.ref 118, .ref 124], (h.1, qm_up (qm_up (qm_up I 121 c.toInt.toNat 13) 122 c.toInt.toNat i) 123 c.toInt.toNat 0, J, h.2.2.2))) rfl ?_
                            refine hp_geti (v := c) rfl (hH.1 118 (17, 105) rfl) rfl (show (qm_up (qm_up (qm_up I 121 c.toInt.toNat 13) 122 c.toInt.toNat i) 123 c.toInt.toNat 0) 118 10 = _ from ((hk_ot rfl).trans ((hk_ot rfl).trans ((hk_ot rfl).trans q_c)))) ?_
                            refine qm_Rp.go 1 (c' := (40, [.ref 118, .int 13, .int i, .int 0, .long (0 : Int64), .float 0], [.long (0 : Int64), .int c, .ref 124], (h.1, qm_up (qm_up (qm_up I 121 c.toInt.toNat 13) 122 c.toInt.toNat i) 123 c.toInt.toNat 0, J, h.2.2.2))) rfl ?_
                            refine hp_las rfl (hH.1 124 (3, 403) rfl) (fun ia_170 ib_170 => ?_)
                            refine qm_Rp.go 2 (c' := (43, [.ref 118, .int 13, .int i, .int 0, .long (0 : Int64), .float 0], [.ref 118, .ref 118], (h.1, qm_up (qm_up (qm_up I 121 c.toInt.toNat 13) 122 c.toInt.toNat i) 123 c.toInt.toNat 0, qm_up J 124 c.toInt.toNat (0 : Int64), h.2.2.2))) rfl ?_
                            refine hp_geti (v := c) rfl (hH.1 118 (17, 105) rfl) rfl (show (qm_up (qm_up (qm_up I 121 c.toInt.toNat 13) 122 c.toInt.toNat i) 123 c.toInt.toNat 0) 118 10 = _ from ((hk_ot rfl).trans ((hk_ot rfl).trans ((hk_ot rfl).trans q_c)))) ?_
                            refine qm_Rp.go 2 (c' := (48, [.ref 118, .int 13, .int i, .int 0, .long (0 : Int64), .float 0], [.int (c + 1), .ref 118], (h.1, qm_up (qm_up (qm_up I 121 c.toInt.toNat 13) 122 c.toInt.toNat i) 123 c.toInt.toNat 0, qm_up J 124 c.toInt.toNat (0 : Int64), h.2.2.2))) rfl ?_
                            obtain ⟨v172, q_v172, e_v172⟩ := hk_add (x := c) (y := 1) (a := c.toInt) (b := 1) rfl rfl (by omega) (by omega)
                            rw [q_v172]
                            refine hp_puti rfl (hH.1 118 (17, 105) rfl) rfl ?_
                            refine qm_Rp.go 0 (c' := (51, [.ref 118, .int 13, .int i, .int 0, .long (0 : Int64), .float 0], [], (h.1, qm_up (qm_up (qm_up (qm_up I 121 c.toInt.toNat 13) 122 c.toInt.toNat i) 123 c.toInt.toNat 0) 118 10 v172, qm_up J 124 c.toInt.toNat (0 : Int64), h.2.2.2))) rfl ?_
                            refine qm_Rp.rt (v := none) (h' := (h.1, qm_up (qm_up (qm_up (qm_up I 121 c.toInt.toNat 13) 122 c.toInt.toNat i) 123 c.toInt.toNat 0) 118 10 v172, qm_up J 124 c.toInt.toNat (0 : Int64), h.2.2.2)) rfl ?_
                            refine qm_Rp.go 3 (c' := (167, [.ref 118, .int i, .int c2, .int c116, .int 0, .int 13], [.int 1], (h.1, qm_up (qm_up (qm_up (qm_up I 121 c.toInt.toNat 13) 122 c.toInt.toNat i) 123 c.toInt.toNat 0) 118 10 v172, qm_up J 124 c.toInt.toNat (0 : Int64), h.2.2.2))) rfl ?_
                            refine qm_Rp.rt (v := (some (.int 1))) (h' := (h.1, qm_up (qm_up (qm_up (qm_up I 121 c.toInt.toNat 13) 122 c.toInt.toNat i) 123 c.toInt.toNat 0) 118 10 v172, qm_up J 124 c.toInt.toNat (0 : Int64), h.2.2.2)) rfl ?_
                            refine qm_Rp.go 1 (c' := (290, [.ref 118, .int i, .int c2, l3, l4, l5, l6, l7], [.int (i + 1)], (h.1, qm_up (qm_up (qm_up (qm_up I 121 c.toInt.toNat 13) 122 c.toInt.toNat i) 123 c.toInt.toNat 0) 118 10 v172, qm_up J 124 c.toInt.toNat (0 : Int64), h.2.2.2))) rfl ?_
                            rw [q_v115]
                            refine qm_Rp.go 2 (c' := (7, [.ref 118, .int v115, .int c2, l3, l4, l5, l6, l7], [], (h.1, qm_up (qm_up (qm_up (qm_up I 121 c.toInt.toNat 13) 122 c.toInt.toNat i) 123 c.toInt.toNat 0) 118 10 v172, qm_up J 124 c.toInt.toNat (0 : Int64), h.2.2.2))) rfl ?_
                            have A_A173 : rA (h.2.1 120) n.toInt.toNat ((qm_up (qm_up (qm_up (qm_up I 121 c.toInt.toNat 13) 122 c.toInt.toNat i) 123 c.toInt.toNat 0) 118 10 v172) 121) ((qm_up (qm_up (qm_up (qm_up I 121 c.toInt.toNat 13) 122 c.toInt.toNat i) 123 c.toInt.toNat 0) 118 10 v172) 122) ((qm_up (qm_up (qm_up (qm_up I 121 c.toInt.toNat 13) 122 c.toInt.toNat i) 123 c.toInt.toNat 0) 118 10 v172) 123) ((qm_up J 124 c.toInt.toNat (0 : Int64)) 124) v172.toInt.toNat := rA_s (c := c.toInt.toNat) hA (fun y hy => ⟨((hk_ot rfl).trans ((hk_ot rfl).trans ((hk_ot rfl).trans ((hk_neq hy).trans rfl)))), ((hk_ot rfl).trans ((hk_ot rfl).trans ((hk_neq hy).trans ((hk_ot rfl).trans rfl)))), ((hk_ot rfl).trans ((hk_neq hy).trans ((hk_ot rfl).trans ((hk_ot rfl).trans rfl)))), ((hj_neq hy).trans rfl)⟩) (by omega) (by rw [(show (qm_up (qm_up (qm_up (qm_up I 121 c.toInt.toNat 13) 122 c.toInt.toNat i) 123 c.toInt.toNat 0) 118 10 v172) 121 c.toInt.toNat = _ from ((hk_ot rfl).trans ((hk_ot rfl).trans ((hk_ot rfl).trans (hk_same)))))]; exact (by rw [hTK.1, hsk]; rfl)) (by rw [(show (qm_up (qm_up (qm_up (qm_up I 121 c.toInt.toNat 13) 122 c.toInt.toNat i) 123 c.toInt.toNat 0) 118 10 v172) 122 c.toInt.toNat = _ from ((hk_ot rfl).trans ((hk_ot rfl).trans (hk_same))))]; omega) (fun z => by rw [(show (qm_up (qm_up (qm_up (qm_up I 121 c.toInt.toNat 13) 122 c.toInt.toNat i) 123 c.toInt.toNat 0) 118 10 v172) 123 c.toInt.toNat = _ from ((hk_ot rfl).trans (hk_same)))]; rw [hTK.1] at z; omega) (fun z => by rw [(show (qm_up J 124 c.toInt.toNat (0 : Int64)) 124 c.toInt.toNat = _ from (hj_same))]; rw [hTK.1] at z; omega)
                            have eC : v172.toInt.toNat = c.toInt.toNat + 1 := by omega
                            exact ih g (by omega) (qm_up (qm_up (qm_up (qm_up I 121 c.toInt.toNat 13) 122 c.toInt.toNat i) 123 c.toInt.toNat 0) 118 10 v172) (qm_up J 124 c.toInt.toNat (0 : Int64)) v172 v115 (fun o ho i => ((hk_mod ho rfl).trans ((hk_mod ho rfl).trans ((hk_mod ho rfl).trans ((hk_mod ho rfl).trans ((e o (hk_ms rfl ho) i).trans rfl)))))) (fun i hi => ((hk_neq (fun z => by subst z; cases hi)).trans ((hk_ot rfl).trans ((hk_ot rfl).trans ((hk_ot rfl).trans ((e8 i (hk_ms rfl hi)).trans rfl)))))) (fun o ho i => ((hj_mod ho rfl).trans ((ej o (hk_ms rfl ho) i).trans rfl))) (show (qm_up (qm_up (qm_up (qm_up I 121 c.toInt.toNat 13) 122 c.toInt.toNat i) 123 c.toInt.toNat 0) 118 10 v172) 118 10 = _ from (hk_same)) A_A173 (fun y hy => by
                              by_cases c9 : y = c.toInt.toNat
                              · rw [c9, hTK.1]; omega
                              · exact hno y (by omega)) (by omega) (by omega) (by rw [eC]; show skp (h.2.1 120) n.toInt.toNat _ = skp (h.2.1 120) n.toInt.toNat (tP (h.2.1 120) n.toInt.toNat (c.toInt.toNat + 1)); rw [hTK.2.1]; congr 1; omega) _ _ _ _ _ _
                        · refine qm_Rp.go 3 (c' := (148, [.ref 118, .int i, .int c2, .int c116, .int 0, .int 4], [], (h.1, I, J, h.2.2.2))) rfl ?_
                          have hw9 : sgW (h.2.1 120) n.toInt.toNat i.toInt.toNat = false := (by
                            by_cases c9 : n.toInt ≤ i.toInt + 1
                            · exact sgW_n (by omega)
                            · exact sgW_b (b := b117) (by omega) q_b117 (by have := f1_c116 (by omega); omega))
                          have hsk : sgK b3.toInt (sgW (h.2.1 120) n.toInt.toNat i.toInt.toNat) = 27 := by rw [hw9, show b3.toInt = 59 by omega]; rfl
                          have hsn : sgN b3.toInt (sgW (h.2.1 120) n.toInt.toNat i.toInt.toNat) = 1 := by rw [hw9]; unfold sgN; exact if_neg (fun z => Bool.false_ne_true z.1)
                          refine qm_Rp.go 5 (c' := (154, [.ref 118, .int i, .int c2, .int c116, .int 0, .int 4], [.long (0 : Int64), .int 0, .int i, .int 4, .ref 118], (h.1, I, J, h.2.2.2))) rfl ?_
                          refine hp_inv (o := 118) (r := []) (as := [.ref 118, .int 4, .int i, .int 0, .long (0 : Int64)]) rfl rfl (hH.1 118 (17, 105) rfl) rfl rfl rfl ?_
                          refine qm_Rp.go 1 (c' := (1, [.ref 118, .int 4, .int i, .int 0, .long (0 : Int64), .float 0], [.ref 118], (h.1, I, J, h.2.2.2))) rfl ?_
                          refine hp_getr rfl (hH.1 118 (17, 105) rfl) rfl (hH.2 118 5 (some 121) rfl) ?_
                          refine qm_Rp.go 1 (c' := (5, [.ref 118, .int 4, .int i, .int 0, .long (0 : Int64), .float 0], [.ref 118, .ref 121], (h.1, I, J, h.2.2.2))) rfl ?_
                          refine hp_geti (v := c) rfl (hH.1 118 (17, 105) rfl) rfl q_c ?_
                          refine qm_Rp.go 1 (c' := (9, [.ref 118, .int 4, .int i, .int 0, .long (0 : Int64), .float 0], [.int 4, .int c, .ref 121], (h.1, I, J, h.2.2.2))) rfl ?_
                          refine hp_ias rfl (hH.1 121 (0, 403) rfl) (fun ia_173 ib_173 => ?_)
                          refine qm_Rp.go 1 (c' := (11, [.ref 118, .int 4, .int i, .int 0, .long (0 : Int64), .float 0], [.ref 118], (h.1, qm_up I 121 c.toInt.toNat 4, J, h.2.2.2))) rfl ?_
                          refine hp_getr rfl (hH.1 118 (17, 105) rfl) rfl (hH.2 118 6 (some 122) rfl) ?_
                          refine qm_Rp.go 1 (c' := (15, [.ref 118, .int 4, .int i, .int 0, .long (0 : Int64), .float 0], [.ref 118, .ref 122], (h.1, qm_up I 121 c.toInt.toNat 4, J, h.2.2.2))) rfl ?_
                          refine hp_geti (v := c) rfl (hH.1 118 (17, 105) rfl) rfl (show (qm_up I 121 c.toInt.toNat 4) 118 10 = _ from ((hk_ot rfl).trans q_c)) ?_
                          refine qm_Rp.go 1 (c' := (19, [.ref 118, .int 4, .int i, .int 0, .long (0 : Int64), .float 0], [.int i, .int c, .ref 122], (h.1, qm_up I 121 c.toInt.toNat 4, J, h.2.2.2))) rfl ?_
                          refine hp_ias rfl (hH.1 122 (0, 403) rfl) (fun ia_174 ib_174 => ?_)
                          refine qm_Rp.go 1 (c' := (21, [.ref 118, .int 4, .int i, .int 0, .long (0 : Int64), .float 0], [.ref 118], (h.1, qm_up (qm_up I 121 c.toInt.toNat 4) 122 c.toInt.toNat i, J, h.2.2.2))) rfl ?_
                          refine hp_getr rfl (hH.1 118 (17, 105) rfl) rfl (hH.2 118 7 (some 123) rfl) ?_
                          refine qm_Rp.go 1 (c' := (25, [.ref 118, .int 4, .int i, .int 0, .long (0 : Int64), .float 0], [.ref 118, .ref 123], (h.1, qm_up (qm_up I 121 c.toInt.toNat 4) 122 c.toInt.toNat i, J, h.2.2.2))) rfl ?_
                          refine hp_geti (v := c) rfl (hH.1 118 (17, 105) rfl) rfl (show (qm_up (qm_up I 121 c.toInt.toNat 4) 122 c.toInt.toNat i) 118 10 = _ from ((hk_ot rfl).trans ((hk_ot rfl).trans q_c))) ?_
                          refine qm_Rp.go 1 (c' := (29, [.ref 118, .int 4, .int i, .int 0, .long (0 : Int64), .float 0], [.int 0, .int c, .ref 123], (h.1, qm_up (qm_up I 121 c.toInt.toNat 4) 122 c.toInt.toNat i, J, h.2.2.2))) rfl ?_
                          refine hp_ias rfl (hH.1 123 (0, 403) rfl) (fun ia_175 ib_175 => ?_)
                          refine qm_Rp.go 1 (c' := (31, [.ref 118, .int 4, .int i, .int 0, .long (0 : Int64), .float 0], [.ref 118], (h.1, qm_up (qm_up (qm_up I 121 c.toInt.toNat 4) 122 c.toInt.toNat i) 123 c.toInt.toNat 0, J, h.2.2.2))) rfl ?_
                          refine hp_getr rfl (hH.1 118 (17, 105) rfl) rfl (hH.2 118 8 (some 124) rfl) ?_
                          refine qm_Rp.go 1 (c' := (35, [.ref 118, .int 4, .int i, .int 0, .long (0 : Int64), .float 0], [.ref 118, .ref 124], (h.1, qm_up (qm_up (qm_up I 121 c.toInt.toNat 4) 122 c.toInt.toNat i) 123 c.toInt.toNat 0, J, h.2.2.2))) rfl ?_
                          refine hp_geti (v := c) rfl (hH.1 118 (17, 105) rfl) rfl (show (qm_up (qm_up (qm_up I 121 c.toInt.toNat 4) 122 c.toInt.toNat i) 123 c.toInt.toNat 0) 118 10 = _ from ((hk_ot rfl).trans ((hk_ot rfl).trans ((hk_ot rfl).trans q_c)))) ?_
                          refine qm_Rp.go 1 (c' := (40, [.ref 118, .int 4, .int i, .int 0, .long (0 : Int64), .float 0], [.long (0 : Int64), .int c, .ref 124], (h.1, qm_up (qm_up (qm_up I 121 c.toInt.toNat 4) 122 c.toInt.toNat i) 123 c.toInt.toNat 0, J, h.2.2.2))) rfl ?_
                          refine hp_las rfl (hH.1 124 (3, 403) rfl) (fun ia_176 ib_176 => ?_)
                          refine qm_Rp.go 2 (c' := (43, [.ref 118, .int 4, .int i, .int 0, .long (0 : Int64), .float 0], [.ref 118, .ref 118], (h.1, qm_up (qm_up (qm_up I 121 c.toInt.toNat 4) 122 c.toInt.toNat i) 123 c.toInt.toNat 0, qm_up J 124 c.toInt.toNat (0 : Int64), h.2.2.2))) rfl ?_
                          refine hp_geti (v := c) rfl (hH.1 118 (17, 105) rfl) rfl (show (qm_up (qm_up (qm_up I 121 c.toInt.toNat 4) 122 c.toInt.toNat i) 123 c.toInt.toNat 0) 118 10 = _ from ((hk_ot rfl).trans ((hk_ot rfl).trans ((hk_ot rfl).trans q_c)))) ?_
                          refine qm_Rp.go 2 (c' := (48, [.ref 118, .int 4, .int i, .int 0, .long (0 : Int64), .float 0], [.int (c + 1), .ref 118], (h.1, qm_up (qm_up (qm_up I 121 c.toInt.toNat 4) 122 c.toInt.toNat i) 123 c.toInt.toNat 0, qm_up J 124 c.toInt.toNat (0 : Int64), h.2.2.2))) rfl ?_
                          obtain ⟨v178, q_v178, e_v178⟩ := hk_add (x := c) (y := 1) (a := c.toInt) (b := 1) rfl rfl (by omega) (by omega)
                          rw [q_v178]
                          refine hp_puti rfl (hH.1 118 (17, 105) rfl) rfl ?_
                          refine qm_Rp.go 0 (c' := (51, [.ref 118, .int 4, .int i, .int 0, .long (0 : Int64), .float 0], [], (h.1, qm_up (qm_up (qm_up (qm_up I 121 c.toInt.toNat 4) 122 c.toInt.toNat i) 123 c.toInt.toNat 0) 118 10 v178, qm_up J 124 c.toInt.toNat (0 : Int64), h.2.2.2))) rfl ?_
                          refine qm_Rp.rt (v := none) (h' := (h.1, qm_up (qm_up (qm_up (qm_up I 121 c.toInt.toNat 4) 122 c.toInt.toNat i) 123 c.toInt.toNat 0) 118 10 v178, qm_up J 124 c.toInt.toNat (0 : Int64), h.2.2.2)) rfl ?_
                          refine qm_Rp.go 3 (c' := (167, [.ref 118, .int i, .int c2, .int c116, .int 0, .int 4], [.int 1], (h.1, qm_up (qm_up (qm_up (qm_up I 121 c.toInt.toNat 4) 122 c.toInt.toNat i) 123 c.toInt.toNat 0) 118 10 v178, qm_up J 124 c.toInt.toNat (0 : Int64), h.2.2.2))) rfl ?_
                          refine qm_Rp.rt (v := (some (.int 1))) (h' := (h.1, qm_up (qm_up (qm_up (qm_up I 121 c.toInt.toNat 4) 122 c.toInt.toNat i) 123 c.toInt.toNat 0) 118 10 v178, qm_up J 124 c.toInt.toNat (0 : Int64), h.2.2.2)) rfl ?_
                          refine qm_Rp.go 1 (c' := (290, [.ref 118, .int i, .int c2, l3, l4, l5, l6, l7], [.int (i + 1)], (h.1, qm_up (qm_up (qm_up (qm_up I 121 c.toInt.toNat 4) 122 c.toInt.toNat i) 123 c.toInt.toNat 0) 118 10 v178, qm_up J 124 c.toInt.toNat (0 : Int64), h.2.2.2))) rfl ?_
                          rw [q_v115]
                          refine qm_Rp.go 2 (c' := (7, [.ref 118, .int v115, .int c2, l3, l4, l5, l6, l7], [], (h.1, qm_up (qm_up (qm_up (qm_up I 121 c.toInt.toNat 4) 122 c.toInt.toNat i) 123 c.toInt.toNat 0) 118 10 v178, qm_up J 124 c.toInt.toNat (0 : Int64), h.2.2.2))) rfl ?_
                          have A_A179 : rA (h.2.1 120) n.toInt.toNat ((qm_up (qm_up (qm_up (qm_up I 121 c.toInt.toNat 4) 122 c.toInt.toNat i) 123 c.toInt.toNat 0) 118 10 v178) 121) ((qm_up (qm_up (qm_up (qm_up I 121 c.toInt.toNat 4) 122 c.toInt.toNat i) 123 c.toInt.toNat 0) 118 10 v178) 122) ((qm_up (qm_up (qm_up (qm_up I 121 c.toInt.toNat 4) 122 c.toInt.toNat i) 123 c.toInt.toNat 0) 118 10 v178) 123) ((qm_up J 124 c.toInt.toNat (0 : Int64)) 124) v178.toInt.toNat := rA_s (c := c.toInt.toNat) hA (fun y hy => ⟨((hk_ot rfl).trans ((hk_ot rfl).trans ((hk_ot rfl).trans ((hk_neq hy).trans rfl)))), ((hk_ot rfl).trans ((hk_ot rfl).trans ((hk_neq hy).trans ((hk_ot rfl).trans rfl)))), ((hk_ot rfl).trans ((hk_neq hy).trans ((hk_ot rfl).trans ((hk_ot rfl).trans rfl)))), ((hj_neq hy).trans rfl)⟩) (by omega) (by rw [(show (qm_up (qm_up (qm_up (qm_up I 121 c.toInt.toNat 4) 122 c.toInt.toNat i) 123 c.toInt.toNat 0) 118 10 v178) 121 c.toInt.toNat = _ from ((hk_ot rfl).trans ((hk_ot rfl).trans ((hk_ot rfl).trans (hk_same)))))]; exact (by rw [hTK.1, hsk]; rfl)) (by rw [(show (qm_up (qm_up (qm_up (qm_up I 121 c.toInt.toNat 4) 122 c.toInt.toNat i) 123 c.toInt.toNat 0) 118 10 v178) 122 c.toInt.toNat = _ from ((hk_ot rfl).trans ((hk_ot rfl).trans (hk_same))))]; omega) (fun z => by rw [(show (qm_up (qm_up (qm_up (qm_up I 121 c.toInt.toNat 4) 122 c.toInt.toNat i) 123 c.toInt.toNat 0) 118 10 v178) 123 c.toInt.toNat = _ from ((hk_ot rfl).trans (hk_same)))]; rw [hTK.1] at z; omega) (fun z => by rw [(show (qm_up J 124 c.toInt.toNat (0 : Int64)) 124 c.toInt.toNat = _ from (hj_same))]; rw [hTK.1] at z; omega)
                          have eC : v178.toInt.toNat = c.toInt.toNat + 1 := by omega
                          exact ih g (by omega) (qm_up (qm_up (qm_up (qm_up I 121 c.toInt.toNat 4) 122 c.toInt.toNat i) 123 c.toInt.toNat 0) 118 10 v178) (qm_up J 124 c.toInt.toNat (0 : Int64)) v178 v115 (fun o ho i => ((hk_mod ho rfl).trans ((hk_mod ho rfl).trans ((hk_mod ho rfl).trans ((hk_mod ho rfl).trans ((e o (hk_ms rfl ho) i).trans rfl)))))) (fun i hi => ((hk_neq (fun z => by subst z; cases hi)).trans ((hk_ot rfl).trans ((hk_ot rfl).trans ((hk_ot rfl).trans ((e8 i (hk_ms rfl hi)).trans rfl)))))) (fun o ho i => ((hj_mod ho rfl).trans ((ej o (hk_ms rfl ho) i).trans rfl))) (show (qm_up (qm_up (qm_up (qm_up I 121 c.toInt.toNat 4) 122 c.toInt.toNat i) 123 c.toInt.toNat 0) 118 10 v178) 118 10 = _ from (hk_same)) A_A179 (fun y hy => by
                            by_cases c9 : y = c.toInt.toNat
                            · rw [c9, hTK.1]; omega
                            · exact hno y (by omega)) (by omega) (by omega) (by rw [eC]; show skp (h.2.1 120) n.toInt.toNat _ = skp (h.2.1 120) n.toInt.toNat (tP (h.2.1 120) n.toInt.toNat (c.toInt.toNat + 1)); rw [hTK.2.1]; congr 1; omega) _ _ _ _ _ _
                    · refine qm_Rp.go 2 (c' := (17, [.int c2], [.int 1], (h.1, I, J, h.2.2.2))) rfl ?_
                      refine qm_Rp.rt (v := (some (.int 1))) (h' := (h.1, I, J, h.2.2.2)) rfl ?_
                      refine qm_Rp.go 5 (c' := (208, [.ref 118, .int i, .int c2, .int 0, .int 0, l5, l6, l7], [], (h.1, I, J, h.2.2.2))) rfl ?_
                      have hR := tR_i (B := (h.2.1 120)) (n := n.toInt.toNat) (q := i.toInt.toNat) (b := b3) (by omega) q_b3 (by omega)
                      have hTK := tK_def hs9 hR
                      have hwl := dlp_lt (B := (h.2.1 120)) (n := n.toInt.toNat) (p := i.toInt.toNat) (c := 0) (v := 0) (by omega) (by rw [q_b3]; omega)
                      have e120 : (h.1, I, J, h.2.2.2).2.1 120 = h.2.1 120 := show I 120 = h.2.1 120 from funext fun y => e 120 rfl y
                      refine px_cuti (h := (h.1, I, J, h.2.2.2)) hH (by rw [e120]; exact hB) (n := n) ((e8 4 rfl).trans q_n) hn (q := i) (W := dlp (h.2.1 120) n.toInt.toNat i.toInt.toNat 0 0) (fu0 := g) (by omega) (fun g2 hg2 m v hm hW1 hW2 hqm => ?_) g 0 0 (Nat.le_refl _) (by omega) (by omega) (by rw [e120, show (i.toInt + (0 : Int32).toInt).toNat = i.toInt.toNat by omega]; rfl)
                      refine qm_Rp.go 3 (c' := (253, [.ref 118, .int i, .int c2, .int m, .int v, l5, l6, l7], [.int 4, .int m, .ref 118], (h.1, I, J, h.2.2.2))) rfl ?_
                      refine hp_cle (ix := m.toInt) (iy := 4) rfl rfl rfl (fun z180 => ?_) (fun z180 => ?_)
                      · refine qm_Rp.go 1 (c' := (261, [.ref 118, .int i, .int c2, .int m, .int v, l5, l6, l7], [.int 2, .ref 118], (h.1, I, J, h.2.2.2))) rfl ?_
                        refine qm_Rp.go 3 (c' := (265, [.ref 118, .int i, .int c2, .int m, .int v, l5, l6, l7], [.long (0 : Int64), .int v, .int i, .int 2, .ref 118], (h.1, I, J, h.2.2.2))) rfl ?_
                        refine hp_inv (o := 118) (r := []) (as := [.ref 118, .int 2, .int i, .int v, .long (0 : Int64)]) rfl rfl (hH.1 118 (17, 105) rfl) rfl rfl rfl ?_
                        refine qm_Rp.go 1 (c' := (1, [.ref 118, .int 2, .int i, .int v, .long (0 : Int64), .float 0], [.ref 118], (h.1, I, J, h.2.2.2))) rfl ?_
                        refine hp_getr rfl (hH.1 118 (17, 105) rfl) rfl (hH.2 118 5 (some 121) rfl) ?_
                        refine qm_Rp.go 1 (c' := (5, [.ref 118, .int 2, .int i, .int v, .long (0 : Int64), .float 0], [.ref 118, .ref 121], (h.1, I, J, h.2.2.2))) rfl ?_
                        refine hp_geti (v := c) rfl (hH.1 118 (17, 105) rfl) rfl q_c ?_
                        refine qm_Rp.go 1 (c' := (9, [.ref 118, .int 2, .int i, .int v, .long (0 : Int64), .float 0], [.int 2, .int c, .ref 121], (h.1, I, J, h.2.2.2))) rfl ?_
                        refine hp_ias rfl (hH.1 121 (0, 403) rfl) (fun ia_180 ib_180 => ?_)
                        refine qm_Rp.go 1 (c' := (11, [.ref 118, .int 2, .int i, .int v, .long (0 : Int64), .float 0], [.ref 118], (h.1, qm_up I 121 c.toInt.toNat 2, J, h.2.2.2))) rfl ?_
                        refine hp_getr rfl (hH.1 118 (17, 105) rfl) rfl (hH.2 118 6 (some 122) rfl) ?_
                        refine qm_Rp.go 1 (c' := (15, [.ref 118, .int 2, .int i, .int v, .long (0 : Int64), .float 0], [.ref 118, .ref 122], (h.1, qm_up I 121 c.toInt.toNat 2, J, h.2.2.2))) rfl ?_
                        refine hp_geti (v := c) rfl (hH.1 118 (17, 105) rfl) rfl (show (qm_up I 121 c.toInt.toNat 2) 118 10 = _ from ((hk_ot rfl).trans q_c)) ?_
                        refine qm_Rp.go 1 (c' := (19, [.ref 118, .int 2, .int i, .int v, .long (0 : Int64), .float 0], [.int i, .int c, .ref 122], (h.1, qm_up I 121 c.toInt.toNat 2, J, h.2.2.2))) rfl ?_
                        refine hp_ias rfl (hH.1 122 (0, 403) rfl) (fun ia_181 ib_181 => ?_)
                        refine qm_Rp.go 1 (c' := (21, [.ref 118, .int 2, .int i, .int v, .long (0 : Int64), .float 0], [.ref 118], (h.1, qm_up (qm_up I 121 c.toInt.toNat 2) 122 c.toInt.toNat i, J, h.2.2.2))) rfl ?_
                        refine hp_getr rfl (hH.1 118 (17, 105) rfl) rfl (hH.2 118 7 (some 123) rfl) ?_
                        refine qm_Rp.go 1 (c' := (25, [.ref 118, .int 2, .int i, .int v, .long (0 : Int64), .float 0], [.ref 118, .ref 123], (h.1, qm_up (qm_up I 121 c.toInt.toNat 2) 122 c.toInt.toNat i, J, h.2.2.2))) rfl ?_
                        refine hp_geti (v := c) rfl (hH.1 118 (17, 105) rfl) rfl (show (qm_up (qm_up I 121 c.toInt.toNat 2) 122 c.toInt.toNat i) 118 10 = _ from ((hk_ot rfl).trans ((hk_ot rfl).trans q_c))) ?_
                        refine qm_Rp.go 1 (c' := (29, [.ref 118, .int 2, .int i, .int v, .long (0 : Int64), .float 0], [.int v, .int c, .ref 123], (h.1, qm_up (qm_up I 121 c.toInt.toNat 2) 122 c.toInt.toNat i, J, h.2.2.2))) rfl ?_
                        refine hp_ias rfl (hH.1 123 (0, 403) rfl) (fun ia_182 ib_182 => ?_)
                        refine qm_Rp.go 1 (c' := (31, [.ref 118, .int 2, .int i, .int v, .long (0 : Int64), .float 0], [.ref 118], (h.1, qm_up (qm_up (qm_up I 121 c.toInt.toNat 2) 122 c.toInt.toNat i) 123 c.toInt.toNat v, J, h.2.2.2))) rfl ?_
                        refine hp_getr rfl (hH.1 118 (17, 105) rfl) rfl (hH.2 118 8 (some 124) rfl) ?_
                        refine qm_Rp.go 1 (c' := (35, [.ref 118, .int 2, .int i, .int v, .long (0 : Int64), .float 0], [.ref 118, .ref 124], (h.1, qm_up (qm_up (qm_up I 121 c.toInt.toNat 2) 122 c.toInt.toNat i) 123 c.toInt.toNat v, J, h.2.2.2))) rfl ?_
                        refine hp_geti (v := c) rfl (hH.1 118 (17, 105) rfl) rfl (show (qm_up (qm_up (qm_up I 121 c.toInt.toNat 2) 122 c.toInt.toNat i) 123 c.toInt.toNat v) 118 10 = _ from ((hk_ot rfl).trans ((hk_ot rfl).trans ((hk_ot rfl).trans q_c)))) ?_
                        refine qm_Rp.go 1 (c' := (40, [.ref 118, .int 2, .int i, .int v, .long (0 : Int64), .float 0], [.long (0 : Int64), .int c, .ref 124], (h.1, qm_up (qm_up (qm_up I 121 c.toInt.toNat 2) 122 c.toInt.toNat i) 123 c.toInt.toNat v, J, h.2.2.2))) rfl ?_
                        refine hp_las rfl (hH.1 124 (3, 403) rfl) (fun ia_183 ib_183 => ?_)
                        refine qm_Rp.go 2 (c' := (43, [.ref 118, .int 2, .int i, .int v, .long (0 : Int64), .float 0], [.ref 118, .ref 118], (h.1, qm_up (qm_up (qm_up I 121 c.toInt.toNat 2) 122 c.toInt.toNat i) 123 c.toInt.toNat v, qm_up J 124 c.toInt.toNat (0 : Int64), h.2.2.2))) rfl ?_
                        refine hp_geti (v := c) rfl (hH.1 118 (17, 105) rfl) rfl (show (qm_up (qm_up (qm_up I 121 c.toInt.toNat 2) 122 c.toInt.toNat i) 123 c.toInt.toNat v) 118 10 = _ from ((hk_ot rfl).trans ((hk_ot rfl).trans ((hk_ot rfl).trans q_c)))) ?_
                        refine qm_Rp.go 2 (c' := (48, [.ref 118, .int 2, .int i, .int v, .long (0 : Int64), .float 0], [.int (c + 1), .ref 118], (h.1, qm_up (qm_up (qm_up I 121 c.toInt.toNat 2) 122 c.toInt.toNat i) 123 c.toInt.toNat v, qm_up J 124 c.toInt.toNat (0 : Int64), h.2.2.2))) rfl ?_
                        obtain ⟨v185, q_v185, e_v185⟩ := hk_add (x := c) (y := 1) (a := c.toInt) (b := 1) rfl rfl (by omega) (by omega)
                        rw [q_v185]
                        refine hp_puti rfl (hH.1 118 (17, 105) rfl) rfl ?_
                        refine qm_Rp.go 0 (c' := (51, [.ref 118, .int 2, .int i, .int v, .long (0 : Int64), .float 0], [], (h.1, qm_up (qm_up (qm_up (qm_up I 121 c.toInt.toNat 2) 122 c.toInt.toNat i) 123 c.toInt.toNat v) 118 10 v185, qm_up J 124 c.toInt.toNat (0 : Int64), h.2.2.2))) rfl ?_
                        refine qm_Rp.rt (v := none) (h' := (h.1, qm_up (qm_up (qm_up (qm_up I 121 c.toInt.toNat 2) 122 c.toInt.toNat i) 123 c.toInt.toNat v) 118 10 v185, qm_up J 124 c.toInt.toNat (0 : Int64), h.2.2.2)) rfl ?_
                        refine qm_Rp.go 3 (c' := (271, [.ref 118, .int i, .int c2, .int m, .int v, l5, l6, l7], [.int (i + m)], (h.1, qm_up (qm_up (qm_up (qm_up I 121 c.toInt.toNat 2) 122 c.toInt.toNat i) 123 c.toInt.toNat v) 118 10 v185, qm_up J 124 c.toInt.toNat (0 : Int64), h.2.2.2))) rfl ?_
                        obtain ⟨v186, q_v186, e_v186⟩ := hk_add (x := i) (y := m) (a := i.toInt) (b := m.toInt) rfl rfl (by omega) (by omega)
                        rw [q_v186]
                        refine qm_Rp.go 3 (c' := (7, [.ref 118, .int v186, .int c2, .int m, .int v, l5, l6, l7], [], (h.1, qm_up (qm_up (qm_up (qm_up I 121 c.toInt.toNat 2) 122 c.toInt.toNat i) 123 c.toInt.toNat v) 118 10 v185, qm_up J 124 c.toInt.toNat (0 : Int64), h.2.2.2))) rfl ?_
                        have A_A187 : rA (h.2.1 120) n.toInt.toNat ((qm_up (qm_up (qm_up (qm_up I 121 c.toInt.toNat 2) 122 c.toInt.toNat i) 123 c.toInt.toNat v) 118 10 v185) 121) ((qm_up (qm_up (qm_up (qm_up I 121 c.toInt.toNat 2) 122 c.toInt.toNat i) 123 c.toInt.toNat v) 118 10 v185) 122) ((qm_up (qm_up (qm_up (qm_up I 121 c.toInt.toNat 2) 122 c.toInt.toNat i) 123 c.toInt.toNat v) 118 10 v185) 123) ((qm_up J 124 c.toInt.toNat (0 : Int64)) 124) v185.toInt.toNat := rA_s (c := c.toInt.toNat) hA (fun y hy => ⟨((hk_ot rfl).trans ((hk_ot rfl).trans ((hk_ot rfl).trans ((hk_neq hy).trans rfl)))), ((hk_ot rfl).trans ((hk_ot rfl).trans ((hk_neq hy).trans ((hk_ot rfl).trans rfl)))), ((hk_ot rfl).trans ((hk_neq hy).trans ((hk_ot rfl).trans ((hk_ot rfl).trans rfl)))), ((hj_neq hy).trans rfl)⟩) (by omega) (by rw [(show (qm_up (qm_up (qm_up (qm_up I 121 c.toInt.toNat 2) 122 c.toInt.toNat i) 123 c.toInt.toNat v) 118 10 v185) 121 c.toInt.toNat = _ from ((hk_ot rfl).trans ((hk_ot rfl).trans ((hk_ot rfl).trans (hk_same)))))]; exact (by rw [hTK.1, if_neg (by omega)]; rfl)) (by rw [(show (qm_up (qm_up (qm_up (qm_up I 121 c.toInt.toNat 2) 122 c.toInt.toNat i) 123 c.toInt.toNat v) 118 10 v185) 122 c.toInt.toNat = _ from ((hk_ot rfl).trans ((hk_ot rfl).trans (hk_same))))]; omega) (fun z => by rw [(show (qm_up (qm_up (qm_up (qm_up I 121 c.toInt.toNat 2) 122 c.toInt.toNat i) 123 c.toInt.toNat v) 118 10 v185) 123 c.toInt.toNat = _ from ((hk_ot rfl).trans (hk_same)))]; rw [hTK.2.2.1, ← hW2]) (fun z => by rw [(show (qm_up J 124 c.toInt.toNat (0 : Int64)) 124 c.toInt.toNat = _ from (hj_same))]; rw [hTK.1] at z; exfalso; split at z <;> omega)
                        have eC : v185.toInt.toNat = c.toInt.toNat + 1 := by omega
                        exact ih g2 (by omega) (qm_up (qm_up (qm_up (qm_up I 121 c.toInt.toNat 2) 122 c.toInt.toNat i) 123 c.toInt.toNat v) 118 10 v185) (qm_up J 124 c.toInt.toNat (0 : Int64)) v185 v186 (fun o ho i => ((hk_mod ho rfl).trans ((hk_mod ho rfl).trans ((hk_mod ho rfl).trans ((hk_mod ho rfl).trans ((e o (hk_ms rfl ho) i).trans rfl)))))) (fun i hi => ((hk_neq (fun z => by subst z; cases hi)).trans ((hk_ot rfl).trans ((hk_ot rfl).trans ((hk_ot rfl).trans ((e8 i (hk_ms rfl hi)).trans rfl)))))) (fun o ho i => ((hj_mod ho rfl).trans ((ej o (hk_ms rfl ho) i).trans rfl))) (show (qm_up (qm_up (qm_up (qm_up I 121 c.toInt.toNat 2) 122 c.toInt.toNat i) 123 c.toInt.toNat v) 118 10 v185) 118 10 = _ from (hk_same)) A_A187 (fun y hy => by
                          by_cases c9 : y = c.toInt.toNat
                          · rw [c9, hTK.1]; split <;> omega
                          · exact hno y (by omega)) (by omega) (by omega) (by rw [eC]; show skp (h.2.1 120) n.toInt.toNat _ = skp (h.2.1 120) n.toInt.toNat (tP (h.2.1 120) n.toInt.toNat (c.toInt.toNat + 1)); rw [hTK.2.1]; congr 1; omega) _ _ _ _ _ _
                      · refine qm_Rp.go 2 (c' := (261, [.ref 118, .int i, .int c2, .int m, .int v, l5, l6, l7], [.int 3, .ref 118], (h.1, I, J, h.2.2.2))) rfl ?_
                        refine qm_Rp.go 3 (c' := (265, [.ref 118, .int i, .int c2, .int m, .int v, l5, l6, l7], [.long (0 : Int64), .int v, .int i, .int 3, .ref 118], (h.1, I, J, h.2.2.2))) rfl ?_
                        refine hp_inv (o := 118) (r := []) (as := [.ref 118, .int 3, .int i, .int v, .long (0 : Int64)]) rfl rfl (hH.1 118 (17, 105) rfl) rfl rfl rfl ?_
                        refine qm_Rp.go 1 (c' := (1, [.ref 118, .int 3, .int i, .int v, .long (0 : Int64), .float 0], [.ref 118], (h.1, I, J, h.2.2.2))) rfl ?_
                        refine hp_getr rfl (hH.1 118 (17, 105) rfl) rfl (hH.2 118 5 (some 121) rfl) ?_
                        refine qm_Rp.go 1 (c' := (5, [.ref 118, .int 3, .int i, .int v, .long (0 : Int64), .float 0], [.ref 118, .ref 121], (h.1, I, J, h.2.2.2))) rfl ?_
                        refine hp_geti (v := c) rfl (hH.1 118 (17, 105) rfl) rfl q_c ?_
                        refine qm_Rp.go 1 (c' := (9, [.ref 118, .int 3, .int i, .int v, .long (0 : Int64), .float 0], [.int 3, .int c, .ref 121], (h.1, I, J, h.2.2.2))) rfl ?_
                        refine hp_ias rfl (hH.1 121 (0, 403) rfl) (fun ia_187 ib_187 => ?_)
                        refine qm_Rp.go 1 (c' := (11, [.ref 118, .int 3, .int i, .int v, .long (0 : Int64), .float 0], [.ref 118], (h.1, qm_up I 121 c.toInt.toNat 3, J, h.2.2.2))) rfl ?_
                        refine hp_getr rfl (hH.1 118 (17, 105) rfl) rfl (hH.2 118 6 (some 122) rfl) ?_
                        refine qm_Rp.go 1 (c' := (15, [.ref 118, .int 3, .int i, .int v, .long (0 : Int64), .float 0], [.ref 118, .ref 122], (h.1, qm_up I 121 c.toInt.toNat 3, J, h.2.2.2))) rfl ?_
                        refine hp_geti (v := c) rfl (hH.1 118 (17, 105) rfl) rfl (show (qm_up I 121 c.toInt.toNat 3) 118 10 = _ from ((hk_ot rfl).trans q_c)) ?_
                        refine qm_Rp.go 1 (c' := (19, [.ref 118, .int 3, .int i, .int v, .long (0 : Int64), .float 0], [.int i, .int c, .ref 122], (h.1, qm_up I 121 c.toInt.toNat 3, J, h.2.2.2))) rfl ?_
                        refine hp_ias rfl (hH.1 122 (0, 403) rfl) (fun ia_188 ib_188 => ?_)
                        refine qm_Rp.go 1 (c' := (21, [.ref 118, .int 3, .int i, .int v, .long (0 : Int64), .float 0], [.ref 118], (h.1, qm_up (qm_up I 121 c.toInt.toNat 3) 122 c.toInt.toNat i, J, h.2.2.2))) rfl ?_
                        refine hp_getr rfl (hH.1 118 (17, 105) rfl) rfl (hH.2 118 7 (some 123) rfl) ?_
                        refine qm_Rp.go 1 (c' := (25, [.ref 118, .int 3, .int i, .int v, .long (0 : Int64), .float 0], [.ref 118, .ref 123], (h.1, qm_up (qm_up I 121 c.toInt.toNat 3) 122 c.toInt.toNat i, J, h.2.2.2))) rfl ?_
                        refine hp_geti (v := c) rfl (hH.1 118 (17, 105) rfl) rfl (show (qm_up (qm_up I 121 c.toInt.toNat 3) 122 c.toInt.toNat i) 118 10 = _ from ((hk_ot rfl).trans ((hk_ot rfl).trans q_c))) ?_
                        refine qm_Rp.go 1 (c' := (29, [.ref 118, .int 3, .int i, .int v, .long (0 : Int64), .float 0], [.int v, .int c, .ref 123], (h.1, qm_up (qm_up I 121 c.toInt.toNat 3) 122 c.toInt.toNat i, J, h.2.2.2))) rfl ?_
                        refine hp_ias rfl (hH.1 123 (0, 403) rfl) (fun ia_189 ib_189 => ?_)
                        refine qm_Rp.go 1 (c' := (31, [.ref 118, .int 3, .int i, .int v, .long (0 : Int64), .float 0], [.ref 118], (h.1, qm_up (qm_up (qm_up I 121 c.toInt.toNat 3) 122 c.toInt.toNat i) 123 c.toInt.toNat v, J, h.2.2.2))) rfl ?_
                        refine hp_getr rfl (hH.1 118 (17, 105) rfl) rfl (hH.2 118 8 (some 124) rfl) ?_
                        refine qm_Rp.go 1 (c' := (35, [.ref 118, .int 3, .int i, .int v, .long (0 : Int64), .float 0], [.ref 118, .ref 124], (h.1, qm_up (qm_up (qm_up I 121 c.toInt.toNat 3) 122 c.toInt.toNat i) 123 c.toInt.toNat v, J, h.2.2.2))) rfl ?_
                        refine hp_geti (v := c) rfl (hH.1 118 (17, 105) rfl) rfl (show (qm_up (qm_up (qm_up I 121 c.toInt.toNat 3) 122 c.toInt.toNat i) 123 c.toInt.toNat v) 118 10 = _ from ((hk_ot rfl).trans ((hk_ot rfl).trans ((hk_ot rfl).trans q_c)))) ?_
                        refine qm_Rp.go 1 (c' := (40, [.ref 118, .int 3, .int i, .int v, .long (0 : Int64), .float 0], [.long (0 : Int64), .int c, .ref 124], (h.1, qm_up (qm_up (qm_up I 121 c.toInt.toNat 3) 122 c.toInt.toNat i) 123 c.toInt.toNat v, J, h.2.2.2))) rfl ?_
                        refine hp_las rfl (hH.1 124 (3, 403) rfl) (fun ia_190 ib_190 => ?_)
                        refine qm_Rp.go 2 (c' := (43, [.ref 118, .int 3, .int i, .int v, .long (0 : Int64), .float 0], [.ref 118, .ref 118], (h.1, qm_up (qm_up (qm_up I 121 c.toInt.toNat 3) 122 c.toInt.toNat i) 123 c.toInt.toNat v, qm_up J 124 c.toInt.toNat (0 : Int64), h.2.2.2))) rfl ?_
                        refine hp_geti (v := c) rfl (hH.1 118 (17, 105) rfl) rfl (show (qm_up (qm_up (qm_up I 121 c.toInt.toNat 3) 122 c.toInt.toNat i) 123 c.toInt.toNat v) 118 10 = _ from ((hk_ot rfl).trans ((hk_ot rfl).trans ((hk_ot rfl).trans q_c)))) ?_
                        refine qm_Rp.go 2 (c' := (48, [.ref 118, .int 3, .int i, .int v, .long (0 : Int64), .float 0], [.int (c + 1), .ref 118], (h.1, qm_up (qm_up (qm_up I 121 c.toInt.toNat 3) 122 c.toInt.toNat i) 123 c.toInt.toNat v, qm_up J 124 c.toInt.toNat (0 : Int64), h.2.2.2))) rfl ?_
                        obtain ⟨v192, q_v192, e_v192⟩ := hk_add (x := c) (y := 1) (a := c.toInt) (b := 1) rfl rfl (by omega) (by omega)
                        rw [q_v192]
                        refine hp_puti rfl (hH.1 118 (17, 105) rfl) rfl ?_
                        refine qm_Rp.go 0 (c' := (51, [.ref 118, .int 3, .int i, .int v, .long (0 : Int64), .float 0], [], (h.1, qm_up (qm_up (qm_up (qm_up I 121 c.toInt.toNat 3) 122 c.toInt.toNat i) 123 c.toInt.toNat v) 118 10 v192, qm_up J 124 c.toInt.toNat (0 : Int64), h.2.2.2))) rfl ?_
                        refine qm_Rp.rt (v := none) (h' := (h.1, qm_up (qm_up (qm_up (qm_up I 121 c.toInt.toNat 3) 122 c.toInt.toNat i) 123 c.toInt.toNat v) 118 10 v192, qm_up J 124 c.toInt.toNat (0 : Int64), h.2.2.2)) rfl ?_
                        refine qm_Rp.go 3 (c' := (271, [.ref 118, .int i, .int c2, .int m, .int v, l5, l6, l7], [.int (i + m)], (h.1, qm_up (qm_up (qm_up (qm_up I 121 c.toInt.toNat 3) 122 c.toInt.toNat i) 123 c.toInt.toNat v) 118 10 v192, qm_up J 124 c.toInt.toNat (0 : Int64), h.2.2.2))) rfl ?_
                        obtain ⟨v193, q_v193, e_v193⟩ := hk_add (x := i) (y := m) (a := i.toInt) (b := m.toInt) rfl rfl (by omega) (by omega)
                        rw [q_v193]
                        refine qm_Rp.go 3 (c' := (7, [.ref 118, .int v193, .int c2, .int m, .int v, l5, l6, l7], [], (h.1, qm_up (qm_up (qm_up (qm_up I 121 c.toInt.toNat 3) 122 c.toInt.toNat i) 123 c.toInt.toNat v) 118 10 v192, qm_up J 124 c.toInt.toNat (0 : Int64), h.2.2.2))) rfl ?_
                        have A_A194 : rA (h.2.1 120) n.toInt.toNat ((qm_up (qm_up (qm_up (qm_up I 121 c.toInt.toNat 3) 122 c.toInt.toNat i) 123 c.toInt.toNat v) 118 10 v192) 121) ((qm_up (qm_up (qm_up (qm_up I 121 c.toInt.toNat 3) 122 c.toInt.toNat i) 123 c.toInt.toNat v) 118 10 v192) 122) ((qm_up (qm_up (qm_up (qm_up I 121 c.toInt.toNat 3) 122 c.toInt.toNat i) 123 c.toInt.toNat v) 118 10 v192) 123) ((qm_up J 124 c.toInt.toNat (0 : Int64)) 124) v192.toInt.toNat := rA_s (c := c.toInt.toNat) hA (fun y hy => ⟨((hk_ot rfl).trans ((hk_ot rfl).trans ((hk_ot rfl).trans ((hk_neq hy).trans rfl)))), ((hk_ot rfl).trans ((hk_ot rfl).trans ((hk_neq hy).trans ((hk_ot rfl).trans rfl)))), ((hk_ot rfl).trans ((hk_neq hy).trans ((hk_ot rfl).trans ((hk_ot rfl).trans rfl)))), ((hj_neq hy).trans rfl)⟩) (by omega) (by rw [(show (qm_up (qm_up (qm_up (qm_up I 121 c.toInt.toNat 3) 122 c.toInt.toNat i) 123 c.toInt.toNat v) 118 10 v192) 121 c.toInt.toNat = _ from ((hk_ot rfl).trans ((hk_ot rfl).trans ((hk_ot rfl).trans (hk_same)))))]; exact (by rw [hTK.1, if_pos (by omega)]; rfl)) (by rw [(show (qm_up (qm_up (qm_up (qm_up I 121 c.toInt.toNat 3) 122 c.toInt.toNat i) 123 c.toInt.toNat v) 118 10 v192) 122 c.toInt.toNat = _ from ((hk_ot rfl).trans ((hk_ot rfl).trans (hk_same))))]; omega) (fun z => by rw [(show (qm_up (qm_up (qm_up (qm_up I 121 c.toInt.toNat 3) 122 c.toInt.toNat i) 123 c.toInt.toNat v) 118 10 v192) 123 c.toInt.toNat = _ from ((hk_ot rfl).trans (hk_same)))]; rw [hTK.2.2.1, ← hW2]) (fun z => by rw [(show (qm_up J 124 c.toInt.toNat (0 : Int64)) 124 c.toInt.toNat = _ from (hj_same))]; rw [hTK.1] at z; exfalso; split at z <;> omega)
                        have eC : v192.toInt.toNat = c.toInt.toNat + 1 := by omega
                        exact ih g2 (by omega) (qm_up (qm_up (qm_up (qm_up I 121 c.toInt.toNat 3) 122 c.toInt.toNat i) 123 c.toInt.toNat v) 118 10 v192) (qm_up J 124 c.toInt.toNat (0 : Int64)) v192 v193 (fun o ho i => ((hk_mod ho rfl).trans ((hk_mod ho rfl).trans ((hk_mod ho rfl).trans ((hk_mod ho rfl).trans ((e o (hk_ms rfl ho) i).trans rfl)))))) (fun i hi => ((hk_neq (fun z => by subst z; cases hi)).trans ((hk_ot rfl).trans ((hk_ot rfl).trans ((hk_ot rfl).trans ((e8 i (hk_ms rfl hi)).trans rfl)))))) (fun o ho i => ((hj_mod ho rfl).trans ((ej o (hk_ms rfl ho) i).trans rfl))) (show (qm_up (qm_up (qm_up (qm_up I 121 c.toInt.toNat 3) 122 c.toInt.toNat i) 123 c.toInt.toNat v) 118 10 v192) 118 10 = _ from (hk_same)) A_A194 (fun y hy => by
                          by_cases c9 : y = c.toInt.toNat
                          · rw [c9, hTK.1]; split <;> omega
                          · exact hno y (by omega)) (by omega) (by omega) (by rw [eC]; show skp (h.2.1 120) n.toInt.toNat _ = skp (h.2.1 120) n.toInt.toNat (tP (h.2.1 120) n.toInt.toNat (c.toInt.toNat + 1)); rw [hTK.2.1]; congr 1; omega) _ _ _ _ _ _
                · refine qm_Rp.go 2 (c' := (9, [.int c2], [.int 122, .int c2], (h.1, I, J, h.2.2.2))) rfl ?_
                  refine hp_cgt (ix := c2.toInt) (iy := 122) rfl rfl rfl (fun z195 => ?_) (fun z195 => ?_)
                  · refine qm_Rp.go 1 (c' := (17, [.int c2], [.int 0], (h.1, I, J, h.2.2.2))) rfl ?_
                    refine qm_Rp.rt (v := (some (.int 0))) (h' := (h.1, I, J, h.2.2.2)) rfl ?_
                    refine qm_Rp.go 2 (c' := (197, [.ref 118, .int i, .int c2, l3, l4, l5, l6, l7], [.int c2], (h.1, I, J, h.2.2.2))) rfl ?_
                    refine qm_Rp.call (j := 253) (as := [.int c2]) (c' := (200, [.ref 118, .int i, .int c2, l3, l4, l5, l6, l7], [], (h.1, I, J, h.2.2.2))) rfl rfl ?_
                    refine qm_Rp.go 2 (c' := (3, [.int c2], [.int 48, .int c2], (h.1, I, J, h.2.2.2))) rfl ?_
                    refine hp_clt (ix := c2.toInt) (iy := 48) rfl rfl rfl (fun z196 => by exfalso; omega) (fun z196 => ?_)
                    refine qm_Rp.go 2 (c' := (9, [.int c2], [.int 57, .int c2], (h.1, I, J, h.2.2.2))) rfl ?_
                    refine hp_cgt (ix := c2.toInt) (iy := 57) rfl rfl rfl (fun z197 => ?_) (fun z197 => by exfalso; omega)
                    refine qm_Rp.go 1 (c' := (17, [.int c2], [.int 0], (h.1, I, J, h.2.2.2))) rfl ?_
                    refine qm_Rp.rt (v := (some (.int 0))) (h' := (h.1, I, J, h.2.2.2)) rfl ?_
                    refine qm_Rp.go 1 (c' := (275, [.ref 118, .int i, .int c2, l3, l4, l5, l6, l7], [], (h.1, I, J, h.2.2.2))) rfl ?_
                    have hR := tR_sign (B := (h.2.1 120)) (n := n.toInt.toNat) (q := i.toInt.toNat) (b := b3) (by omega) q_b3 (by omega) (by omega)
                    have hTK := tK_def hs9 hR
                    have hsr := sgK_r b3.toInt (sgW (h.2.1 120) n.toInt.toNat i.toInt.toNat)
                    refine qm_Rp.go 8 (c' := (283, [.ref 118, .int i, .int c2, l3, l4, l5, l6, l7], [.int (i + 1), .ref 118, .int c2, .int i, .ref 118, .int i], (h.1, I, J, h.2.2.2))) rfl ?_
                    obtain ⟨v198, q_v198, e_v198⟩ := hk_add (x := i) (y := 1) (a := i.toInt) (b := 1) rfl rfl (by omega) (by omega)
                    rw [q_v198]
                    refine hp_inv (o := 118) (r := [.int c2, .int i, .ref 118, .int i]) (as := [.ref 118, .int v198]) rfl rfl (hH.1 118 (17, 105) rfl) rfl rfl rfl (px_byte (h := (h.1, I, J, h.2.2.2)) hH (by rw [show (h.1, I, J, h.2.2.2).2.1 120 = h.2.1 120 from (show (I) 120 = h.2.1 120 from funext fun y => ((e 120 rfl y).trans rfl))]; exact hB) (n := n) (show (I) 118 4 = _ from ((e8 4 rfl).trans q_n)) hn (fun c199 b200 q_b200 i0_c199 f0_c199 f1_c199 => ?_))
                    rw [show (h.1, I, J, h.2.2.2).2.1 120 = h.2.1 120 from (show (I) 120 = h.2.1 120 from funext fun y => ((e 120 rfl y).trans rfl))] at q_b200
                    have hb_b200 := hB v198.toInt.toNat
                    rw [q_b200] at hb_b200
                    have r_c199 : 0 ≤ c199.toInt ∧ c199.toInt ≤ 255 := by omega
                    refine qm_Rp.go 0 (c' := (286, [.ref 118, .int i, .int c2, l3, l4, l5, l6, l7], [.int c199, .int c2, .int i, .ref 118, .int i], (h.1, I, J, h.2.2.2))) rfl ?_
                    refine hp_inv (o := 118) (r := [.int i]) (as := [.ref 118, .int i, .int c2, .int c199]) rfl rfl (hH.1 118 (17, 105) rfl) rfl rfl rfl ?_
                    refine qm_Rp.go 2 (c' := (3, [.ref 118, .int i, .int c2, .int c199, .float 0, .float 0], [.int 61, .int c199], (h.1, I, J, h.2.2.2))) rfl ?_
                    refine hp_ceq (ix := c199.toInt) (iy := 61) rfl rfl rfl (fun z201 => ?_) (fun z201 => ?_)
                    · refine qm_Rp.go 0 (c' := (10, [.ref 118, .int i, .int c2, .int c199, .float 0, .float 0], [], (h.1, I, J, h.2.2.2))) rfl ?_
                      refine qm_Rp.go 2 (c' := (13, [.ref 118, .int i, .int c2, .int c199, .float 0, .float 0], [.int 61, .int c2], (h.1, I, J, h.2.2.2))) rfl ?_
                      refine hp_cne (ix := c2.toInt) (iy := 61) rfl rfl rfl (fun z202 => ?_) (fun z202 => by exfalso; omega)
                      refine qm_Rp.go 2 (c' := (24, [.ref 118, .int i, .int c2, .int c199, .float 0, .float 0], [.int 33, .int c2], (h.1, I, J, h.2.2.2))) rfl ?_
                      refine hp_cne (ix := c2.toInt) (iy := 33) rfl rfl rfl (fun z203 => ?_) (fun z203 => by exfalso; omega)
                      refine qm_Rp.go 2 (c' := (35, [.ref 118, .int i, .int c2, .int c199, .float 0, .float 0], [.int 60, .int c2], (h.1, I, J, h.2.2.2))) rfl ?_
                      refine hp_cne (ix := c2.toInt) (iy := 60) rfl rfl rfl (fun z204 => ?_) (fun z204 => by exfalso; omega)
                      refine qm_Rp.go 8 (c' := (64, [.ref 118, .int i, .int c2, .int c199, .int 0, .int 3], [.int 59, .int c2], (h.1, I, J, h.2.2.2))) rfl ?_
                      refine hp_cne (ix := c2.toInt) (iy := 59) rfl rfl rfl (fun z205 => ?_) (fun z205 => by exfalso; omega)
                      refine qm_Rp.go 2 (c' := (76, [.ref 118, .int i, .int c2, .int c199, .int 0, .int 3], [.int 40, .int c2], (h.1, I, J, h.2.2.2))) rfl ?_
                      refine hp_cne (ix := c2.toInt) (iy := 40) rfl rfl rfl (fun z206 => ?_) (fun z206 => by exfalso; omega)
                      refine qm_Rp.go 2 (c' := (89, [.ref 118, .int i, .int c2, .int c199, .int 0, .int 3], [.int 41, .int c2], (h.1, I, J, h.2.2.2))) rfl ?_
                      refine hp_cne (ix := c2.toInt) (iy := 41) rfl rfl rfl (fun z207 => ?_) (fun z207 => by exfalso; omega)
                      refine qm_Rp.go 2 (c' := (102, [.ref 118, .int i, .int c2, .int c199, .int 0, .int 3], [.int 43, .int c2], (h.1, I, J, h.2.2.2))) rfl ?_
                      refine hp_cne (ix := c2.toInt) (iy := 43) rfl rfl rfl (fun z208 => ?_) (fun z208 => by exfalso; omega)
                      refine qm_Rp.go 2 (c' := (115, [.ref 118, .int i, .int c2, .int c199, .int 0, .int 3], [.int 45, .int c2], (h.1, I, J, h.2.2.2))) rfl ?_
                      refine hp_cne (ix := c2.toInt) (iy := 45) rfl rfl rfl (fun z209 => ?_) (fun z209 => by exfalso; omega)
                      refine qm_Rp.go 2 (c' := (128, [.ref 118, .int i, .int c2, .int c199, .int 0, .int 3], [.int 42, .int c2], (h.1, I, J, h.2.2.2))) rfl ?_
                      refine hp_cne (ix := c2.toInt) (iy := 42) rfl rfl rfl (fun z210 => ?_) (fun z210 => by exfalso; omega)
                      refine qm_Rp.go 2 (c' := (141, [.ref 118, .int i, .int c2, .int c199, .int 0, .int 3], [.int 60, .int c2], (h.1, I, J, h.2.2.2))) rfl ?_
                      refine hp_cne (ix := c2.toInt) (iy := 60) rfl rfl rfl (fun z211 => ?_) (fun z211 => by exfalso; omega)
                      refine qm_Rp.go 0 (c' := (148, [.ref 118, .int i, .int c2, .int c199, .int 0, .int 3], [], (h.1, I, J, h.2.2.2))) rfl ?_
                      have hw9 : sgW (h.2.1 120) n.toInt.toNat i.toInt.toNat = true := (sgW_y (b := b200) (by omega) (by omega) q_b200 (by omega))
                      have hsk : sgK b3.toInt (sgW (h.2.1 120) n.toInt.toNat i.toInt.toNat) = 38 := by rw [hw9]; exact sgK_1 (by omega)
                      have hsn : sgN b3.toInt (sgW (h.2.1 120) n.toInt.toNat i.toInt.toNat) = 1 := by rw [hw9]; unfold sgN; exact if_neg (fun z => by omega)
                      refine qm_Rp.go 5 (c' := (154, [.ref 118, .int i, .int c2, .int c199, .int 0, .int 3], [.long (0 : Int64), .int 0, .int i, .int 3, .ref 118], (h.1, I, J, h.2.2.2))) rfl ?_
                      refine hp_inv (o := 118) (r := []) (as := [.ref 118, .int 3, .int i, .int 0, .long (0 : Int64)]) rfl rfl (hH.1 118 (17, 105) rfl) rfl rfl rfl ?_
                      refine qm_Rp.go 1 (c' := (1, [.ref 118, .int 3, .int i, .int 0, .long (0 : Int64), .float 0], [.ref 118], (h.1, I, J, h.2.2.2))) rfl ?_
                      refine hp_getr rfl (hH.1 118 (17, 105) rfl) rfl (hH.2 118 5 (some 121) rfl) ?_
                      refine qm_Rp.go 1 (c' := (5, [.ref 118, .int 3, .int i, .int 0, .long (0 : Int64), .float 0], [.ref 118, .ref 121], (h.1, I, J, h.2.2.2))) rfl ?_
                      refine hp_geti (v := c) rfl (hH.1 118 (17, 105) rfl) rfl q_c ?_
                      refine qm_Rp.go 1 (c' := (9, [.ref 118, .int 3, .int i, .int 0, .long (0 : Int64), .float 0], [.int 3, .int c, .ref 121], (h.1, I, J, h.2.2.2))) rfl ?_
                      refine hp_ias rfl (hH.1 121 (0, 403) rfl) (fun ia_211 ib_211 => ?_)
                      refine qm_Rp.go 1 (c' := (11, [.ref 118, .int 3, .int i, .int 0, .long (0 : Int64), .float 0], [.ref 118], (h.1, qm_up I 121 c.toInt.toNat 3, J, h.2.2.2))) rfl ?_
                      refine hp_getr rfl (hH.1 118 (17, 105) rfl) rfl (hH.2 118 6 (some 122) rfl) ?_
                      refine qm_Rp.go 1 (c' := (15, [.ref 118, .int 3, .int i, .int 0, .long (0 : Int64), .float 0], [.ref 118, .ref 122], (h.1, qm_up I 121 c.toInt.toNat 3, J, h.2.2.2))) rfl ?_
                      refine hp_geti (v := c) rfl (hH.1 118 (17, 105) rfl) rfl (show (qm_up I 121 c.toInt.toNat 3) 118 10 = _ from ((hk_ot rfl).trans q_c)) ?_
                      refine qm_Rp.go 1 (c' := (19, [.ref 118, .int 3, .int i, .int 0, .long (0 : Int64), .float 0], [.int i, .int c, .ref 122], (h.1, qm_up I 121 c.toInt.toNat 3, J, h.2.2.2))) rfl ?_
                      refine hp_ias rfl (hH.1 122 (0, 403) rfl) (fun ia_212 ib_212 => ?_)
                      refine qm_Rp.go 1 (c' := (21, [.ref 118, .int 3, .int i, .int 0, .long (0 : Int64), .float 0], [.ref 118], (h.1, qm_up (qm_up I 121 c.toInt.toNat 3) 122 c.toInt.toNat i, J, h.2.2.2))) rfl ?_
                      refine hp_getr rfl (hH.1 118 (17, 105) rfl) rfl (hH.2 118 7 (some 123) rfl) ?_
                      refine qm_Rp.go 1 (c' := (25, [.ref 118, .int 3, .int i, .int 0, .long (0 : Int64), .float 0], [.ref 118, .ref 123], (h.1, qm_up (qm_up I 121 c.toInt.toNat 3) 122 c.toInt.toNat i, J, h.2.2.2))) rfl ?_
                      refine hp_geti (v := c) rfl (hH.1 118 (17, 105) rfl) rfl (show (qm_up (qm_up I 121 c.toInt.toNat 3) 122 c.toInt.toNat i) 118 10 = _ from ((hk_ot rfl).trans ((hk_ot rfl).trans q_c))) ?_
                      refine qm_Rp.go 1 (c' := (29, [.ref 118, .int 3, .int i, .int 0, .long (0 : Int64), .float 0], [.int 0, .int c, .ref 123], (h.1, qm_up (qm_up I 121 c.toInt.toNat 3) 122 c.toInt.toNat i, J, h.2.2.2))) rfl ?_
                      refine hp_ias rfl (hH.1 123 (0, 403) rfl) (fun ia_213 ib_213 => ?_)
                      refine qm_Rp.go 1 (c' := (31, [.ref 118, .int 3, .int i, .int 0, .long (0 : Int64), .float 0], [.ref 118], (h.1, qm_up (qm_up (qm_up I 121 c.toInt.toNat 3) 122 c.toInt.toNat i) 123 c.toInt.toNat 0, J, h.2.2.2))) rfl ?_
                      refine hp_getr rfl (hH.1 118 (17, 105) rfl) rfl (hH.2 118 8 (some 124) rfl) ?_
                      refine qm_Rp.go 1 (c' := (35, [.ref 118, .int 3, .int i, .int 0, .long (0 : Int64), .float 0], [.ref 118, .ref 124], (h.1, qm_up (qm_up (qm_up I 121 c.toInt.toNat 3) 122 c.toInt.toNat i) 123 c.toInt.toNat 0, J, h.2.2.2))) rfl ?_
                      refine hp_geti (v := c) rfl (hH.1 118 (17, 105) rfl) rfl (show (qm_up (qm_up (qm_up I 121 c.toInt.toNat 3) 122 c.toInt.toNat i) 123 c.toInt.toNat 0) 118 10 = _ from ((hk_ot rfl).trans ((hk_ot rfl).trans ((hk_ot rfl).trans q_c)))) ?_
                      refine qm_Rp.go 1 (c' := (40, [.ref 118, .int 3, .int i, .int 0, .long (0 : Int64), .float 0], [.long (0 : Int64), .int c, .ref 124], (h.1, qm_up (qm_up (qm_up I 121 c.toInt.toNat 3) 122 c.toInt.toNat i) 123 c.toInt.toNat 0, J, h.2.2.2))) rfl ?_
                      refine hp_las rfl (hH.1 124 (3, 403) rfl) (fun ia_214 ib_214 => ?_)
                      refine qm_Rp.go 2 (c' := (43, [.ref 118, .int 3, .int i, .int 0, .long (0 : Int64), .float 0], [.ref 118, .ref 118], (h.1, qm_up (qm_up (qm_up I 121 c.toInt.toNat 3) 122 c.toInt.toNat i) 123 c.toInt.toNat 0, qm_up J 124 c.toInt.toNat (0 : Int64), h.2.2.2))) rfl ?_
                      refine hp_geti (v := c) rfl (hH.1 118 (17, 105) rfl) rfl (show (qm_up (qm_up (qm_up I 121 c.toInt.toNat 3) 122 c.toInt.toNat i) 123 c.toInt.toNat 0) 118 10 = _ from ((hk_ot rfl).trans ((hk_ot rfl).trans ((hk_ot rfl).trans q_c)))) ?_
                      refine qm_Rp.go 2 (c' := (48, [.ref 118, .int 3, .int i, .int 0, .long (0 : Int64), .float 0], [.int (c + 1), .ref 118], (h.1, qm_up (qm_up (qm_up I 121 c.toInt.toNat 3) 122 c.toInt.toNat i) 123 c.toInt.toNat 0, qm_up J 124 c.toInt.toNat (0 : Int64), h.2.2.2))) rfl ?_
                      obtain ⟨v216, q_v216, e_v216⟩ := hk_add (x := c) (y := 1) (a := c.toInt) (b := 1) rfl rfl (by omega) (by omega)
                      rw [q_v216]
                      refine hp_puti rfl (hH.1 118 (17, 105) rfl) rfl ?_
                      refine qm_Rp.go 0 (c' := (51, [.ref 118, .int 3, .int i, .int 0, .long (0 : Int64), .float 0], [], (h.1, qm_up (qm_up (qm_up (qm_up I 121 c.toInt.toNat 3) 122 c.toInt.toNat i) 123 c.toInt.toNat 0) 118 10 v216, qm_up J 124 c.toInt.toNat (0 : Int64), h.2.2.2))) rfl ?_
                      refine qm_Rp.rt (v := none) (h' := (h.1, qm_up (qm_up (qm_up (qm_up I 121 c.toInt.toNat 3) 122 c.toInt.toNat i) 123 c.toInt.toNat 0) 118 10 v216, qm_up J 124 c.toInt.toNat (0 : Int64), h.2.2.2)) rfl ?_
                      refine qm_Rp.go 3 (c' := (167, [.ref 118, .int i, .int c2, .int c199, .int 0, .int 3], [.int 1], (h.1, qm_up (qm_up (qm_up (qm_up I 121 c.toInt.toNat 3) 122 c.toInt.toNat i) 123 c.toInt.toNat 0) 118 10 v216, qm_up J 124 c.toInt.toNat (0 : Int64), h.2.2.2))) rfl ?_
                      refine qm_Rp.rt (v := (some (.int 1))) (h' := (h.1, qm_up (qm_up (qm_up (qm_up I 121 c.toInt.toNat 3) 122 c.toInt.toNat i) 123 c.toInt.toNat 0) 118 10 v216, qm_up J 124 c.toInt.toNat (0 : Int64), h.2.2.2)) rfl ?_
                      refine qm_Rp.go 1 (c' := (290, [.ref 118, .int i, .int c2, l3, l4, l5, l6, l7], [.int (i + 1)], (h.1, qm_up (qm_up (qm_up (qm_up I 121 c.toInt.toNat 3) 122 c.toInt.toNat i) 123 c.toInt.toNat 0) 118 10 v216, qm_up J 124 c.toInt.toNat (0 : Int64), h.2.2.2))) rfl ?_
                      rw [q_v198]
                      refine qm_Rp.go 2 (c' := (7, [.ref 118, .int v198, .int c2, l3, l4, l5, l6, l7], [], (h.1, qm_up (qm_up (qm_up (qm_up I 121 c.toInt.toNat 3) 122 c.toInt.toNat i) 123 c.toInt.toNat 0) 118 10 v216, qm_up J 124 c.toInt.toNat (0 : Int64), h.2.2.2))) rfl ?_
                      have A_A217 : rA (h.2.1 120) n.toInt.toNat ((qm_up (qm_up (qm_up (qm_up I 121 c.toInt.toNat 3) 122 c.toInt.toNat i) 123 c.toInt.toNat 0) 118 10 v216) 121) ((qm_up (qm_up (qm_up (qm_up I 121 c.toInt.toNat 3) 122 c.toInt.toNat i) 123 c.toInt.toNat 0) 118 10 v216) 122) ((qm_up (qm_up (qm_up (qm_up I 121 c.toInt.toNat 3) 122 c.toInt.toNat i) 123 c.toInt.toNat 0) 118 10 v216) 123) ((qm_up J 124 c.toInt.toNat (0 : Int64)) 124) v216.toInt.toNat := rA_s (c := c.toInt.toNat) hA (fun y hy => ⟨((hk_ot rfl).trans ((hk_ot rfl).trans ((hk_ot rfl).trans ((hk_neq hy).trans rfl)))), ((hk_ot rfl).trans ((hk_ot rfl).trans ((hk_neq hy).trans ((hk_ot rfl).trans rfl)))), ((hk_ot rfl).trans ((hk_neq hy).trans ((hk_ot rfl).trans ((hk_ot rfl).trans rfl)))), ((hj_neq hy).trans rfl)⟩) (by omega) (by rw [(show (qm_up (qm_up (qm_up (qm_up I 121 c.toInt.toNat 3) 122 c.toInt.toNat i) 123 c.toInt.toNat 0) 118 10 v216) 121 c.toInt.toNat = _ from ((hk_ot rfl).trans ((hk_ot rfl).trans ((hk_ot rfl).trans (hk_same)))))]; exact (by rw [hTK.1, hsk]; rfl)) (by rw [(show (qm_up (qm_up (qm_up (qm_up I 121 c.toInt.toNat 3) 122 c.toInt.toNat i) 123 c.toInt.toNat 0) 118 10 v216) 122 c.toInt.toNat = _ from ((hk_ot rfl).trans ((hk_ot rfl).trans (hk_same))))]; omega) (fun z => by rw [(show (qm_up (qm_up (qm_up (qm_up I 121 c.toInt.toNat 3) 122 c.toInt.toNat i) 123 c.toInt.toNat 0) 118 10 v216) 123 c.toInt.toNat = _ from ((hk_ot rfl).trans (hk_same)))]; rw [hTK.1] at z; omega) (fun z => by rw [(show (qm_up J 124 c.toInt.toNat (0 : Int64)) 124 c.toInt.toNat = _ from (hj_same))]; rw [hTK.1] at z; omega)
                      have eC : v216.toInt.toNat = c.toInt.toNat + 1 := by omega
                      exact ih g (by omega) (qm_up (qm_up (qm_up (qm_up I 121 c.toInt.toNat 3) 122 c.toInt.toNat i) 123 c.toInt.toNat 0) 118 10 v216) (qm_up J 124 c.toInt.toNat (0 : Int64)) v216 v198 (fun o ho i => ((hk_mod ho rfl).trans ((hk_mod ho rfl).trans ((hk_mod ho rfl).trans ((hk_mod ho rfl).trans ((e o (hk_ms rfl ho) i).trans rfl)))))) (fun i hi => ((hk_neq (fun z => by subst z; cases hi)).trans ((hk_ot rfl).trans ((hk_ot rfl).trans ((hk_ot rfl).trans ((e8 i (hk_ms rfl hi)).trans rfl)))))) (fun o ho i => ((hj_mod ho rfl).trans ((ej o (hk_ms rfl ho) i).trans rfl))) (show (qm_up (qm_up (qm_up (qm_up I 121 c.toInt.toNat 3) 122 c.toInt.toNat i) 123 c.toInt.toNat 0) 118 10 v216) 118 10 = _ from (hk_same)) A_A217 (fun y hy => by
                        by_cases c9 : y = c.toInt.toNat
                        · rw [c9, hTK.1]; omega
                        · exact hno y (by omega)) (by omega) (by omega) (by rw [eC]; show skp (h.2.1 120) n.toInt.toNat _ = skp (h.2.1 120) n.toInt.toNat (tP (h.2.1 120) n.toInt.toNat (c.toInt.toNat + 1)); rw [hTK.2.1]; congr 1; omega) _ _ _ _ _ _
                    · refine qm_Rp.go 9 (c' := (64, [.ref 118, .int i, .int c2, .int c199, .int 0, .int 3], [.int 59, .int c2], (h.1, I, J, h.2.2.2))) rfl ?_
                      refine hp_cne (ix := c2.toInt) (iy := 59) rfl rfl rfl (fun z218 => ?_) (fun z218 => by exfalso; omega)
                      refine qm_Rp.go 2 (c' := (76, [.ref 118, .int i, .int c2, .int c199, .int 0, .int 3], [.int 40, .int c2], (h.1, I, J, h.2.2.2))) rfl ?_
                      refine hp_cne (ix := c2.toInt) (iy := 40) rfl rfl rfl (fun z219 => ?_) (fun z219 => by exfalso; omega)
                      refine qm_Rp.go 2 (c' := (89, [.ref 118, .int i, .int c2, .int c199, .int 0, .int 3], [.int 41, .int c2], (h.1, I, J, h.2.2.2))) rfl ?_
                      refine hp_cne (ix := c2.toInt) (iy := 41) rfl rfl rfl (fun z220 => ?_) (fun z220 => by exfalso; omega)
                      refine qm_Rp.go 2 (c' := (102, [.ref 118, .int i, .int c2, .int c199, .int 0, .int 3], [.int 43, .int c2], (h.1, I, J, h.2.2.2))) rfl ?_
                      refine hp_cne (ix := c2.toInt) (iy := 43) rfl rfl rfl (fun z221 => ?_) (fun z221 => by exfalso; omega)
                      refine qm_Rp.go 2 (c' := (115, [.ref 118, .int i, .int c2, .int c199, .int 0, .int 3], [.int 45, .int c2], (h.1, I, J, h.2.2.2))) rfl ?_
                      refine hp_cne (ix := c2.toInt) (iy := 45) rfl rfl rfl (fun z222 => ?_) (fun z222 => by exfalso; omega)
                      refine qm_Rp.go 2 (c' := (128, [.ref 118, .int i, .int c2, .int c199, .int 0, .int 3], [.int 42, .int c2], (h.1, I, J, h.2.2.2))) rfl ?_
                      refine hp_cne (ix := c2.toInt) (iy := 42) rfl rfl rfl (fun z223 => ?_) (fun z223 => by exfalso; omega)
                      refine qm_Rp.go 2 (c' := (141, [.ref 118, .int i, .int c2, .int c199, .int 0, .int 3], [.int 60, .int c2], (h.1, I, J, h.2.2.2))) rfl ?_
                      refine hp_cne (ix := c2.toInt) (iy := 60) rfl rfl rfl (fun z224 => ?_) (fun z224 => by exfalso; omega)
                      refine qm_Rp.go 0 (c' := (148, [.ref 118, .int i, .int c2, .int c199, .int 0, .int 3], [], (h.1, I, J, h.2.2.2))) rfl ?_
                      have hw9 : sgW (h.2.1 120) n.toInt.toNat i.toInt.toNat = false := (by
                        by_cases c9 : n.toInt ≤ i.toInt + 1
                        · exact sgW_n (by omega)
                        · exact sgW_b (b := b200) (by omega) q_b200 (by have := f1_c199 (by omega); omega))
                      have hsk : sgK b3.toInt (sgW (h.2.1 120) n.toInt.toNat i.toInt.toNat) = 38 := by rw [hw9]; exact sgK_0 (by omega)
                      have hsn : sgN b3.toInt (sgW (h.2.1 120) n.toInt.toNat i.toInt.toNat) = 1 := by rw [hw9]; unfold sgN; exact if_neg (fun z => Bool.false_ne_true z.1)
                      refine qm_Rp.go 5 (c' := (154, [.ref 118, .int i, .int c2, .int c199, .int 0, .int 3], [.long (0 : Int64), .int 0, .int i, .int 3, .ref 118], (h.1, I, J, h.2.2.2))) rfl ?_
                      refine hp_inv (o := 118) (r := []) (as := [.ref 118, .int 3, .int i, .int 0, .long (0 : Int64)]) rfl rfl (hH.1 118 (17, 105) rfl) rfl rfl rfl ?_
                      refine qm_Rp.go 1 (c' := (1, [.ref 118, .int 3, .int i, .int 0, .long (0 : Int64), .float 0], [.ref 118], (h.1, I, J, h.2.2.2))) rfl ?_
                      refine hp_getr rfl (hH.1 118 (17, 105) rfl) rfl (hH.2 118 5 (some 121) rfl) ?_
                      refine qm_Rp.go 1 (c' := (5, [.ref 118, .int 3, .int i, .int 0, .long (0 : Int64), .float 0], [.ref 118, .ref 121], (h.1, I, J, h.2.2.2))) rfl ?_
                      refine hp_geti (v := c) rfl (hH.1 118 (17, 105) rfl) rfl q_c ?_
                      refine qm_Rp.go 1 (c' := (9, [.ref 118, .int 3, .int i, .int 0, .long (0 : Int64), .float 0], [.int 3, .int c, .ref 121], (h.1, I, J, h.2.2.2))) rfl ?_
                      refine hp_ias rfl (hH.1 121 (0, 403) rfl) (fun ia_224 ib_224 => ?_)
                      refine qm_Rp.go 1 (c' := (11, [.ref 118, .int 3, .int i, .int 0, .long (0 : Int64), .float 0], [.ref 118], (h.1, qm_up I 121 c.toInt.toNat 3, J, h.2.2.2))) rfl ?_
                      refine hp_getr rfl (hH.1 118 (17, 105) rfl) rfl (hH.2 118 6 (some 122) rfl) ?_
                      refine qm_Rp.go 1 (c' := (15, [.ref 118, .int 3, .int i, .int 0, .long (0 : Int64), .float 0], [.ref 118, .ref 122], (h.1, qm_up I 121 c.toInt.toNat 3, J, h.2.2.2))) rfl ?_
                      refine hp_geti (v := c) rfl (hH.1 118 (17, 105) rfl) rfl (show (qm_up I 121 c.toInt.toNat 3) 118 10 = _ from ((hk_ot rfl).trans q_c)) ?_
                      refine qm_Rp.go 1 (c' := (19, [.ref 118, .int 3, .int i, .int 0, .long (0 : Int64), .float 0], [.int i, .int c, .ref 122], (h.1, qm_up I 121 c.toInt.toNat 3, J, h.2.2.2))) rfl ?_
                      refine hp_ias rfl (hH.1 122 (0, 403) rfl) (fun ia_225 ib_225 => ?_)
                      refine qm_Rp.go 1 (c' := (21, [.ref 118, .int 3, .int i, .int 0, .long (0 : Int64), .float 0], [.ref 118], (h.1, qm_up (qm_up I 121 c.toInt.toNat 3) 122 c.toInt.toNat i, J, h.2.2.2))) rfl ?_
                      refine hp_getr rfl (hH.1 118 (17, 105) rfl) rfl (hH.2 118 7 (some 123) rfl) ?_
                      refine qm_Rp.go 1 (c' := (25, [.ref 118, .int 3, .int i, .int 0, .long (0 : Int64), .float 0], [.ref 118, .ref 123], (h.1, qm_up (qm_up I 121 c.toInt.toNat 3) 122 c.toInt.toNat i, J, h.2.2.2))) rfl ?_
                      refine hp_geti (v := c) rfl (hH.1 118 (17, 105) rfl) rfl (show (qm_up (qm_up I 121 c.toInt.toNat 3) 122 c.toInt.toNat i) 118 10 = _ from ((hk_ot rfl).trans ((hk_ot rfl).trans q_c))) ?_
                      refine qm_Rp.go 1 (c' := (29, [.ref 118, .int 3, .int i, .int 0, .long (0 : Int64), .float 0], [.int 0, .int c, .ref 123], (h.1, qm_up (qm_up I 121 c.toInt.toNat 3) 122 c.toInt.toNat i, J, h.2.2.2))) rfl ?_
                      refine hp_ias rfl (hH.1 123 (0, 403) rfl) (fun ia_226 ib_226 => ?_)
                      refine qm_Rp.go 1 (c' := (31, [.ref 118, .int 3, .int i, .int 0, .long (0 : Int64), .float 0], [.ref 118], (h.1, qm_up (qm_up (qm_up I 121 c.toInt.toNat 3) 122 c.toInt.toNat i) 123 c.toInt.toNat 0, J, h.2.2.2))) rfl ?_
                      refine hp_getr rfl (hH.1 118 (17, 105) rfl) rfl (hH.2 118 8 (some 124) rfl) ?_
                      refine qm_Rp.go 1 (c' := (35, [.ref 118, .int 3, .int i, .int 0, .long (0 : Int64), .float 0], [.ref 118, .ref 124], (h.1, qm_up (qm_up (qm_up I 121 c.toInt.toNat 3) 122 c.toInt.toNat i) 123 c.toInt.toNat 0, J, h.2.2.2))) rfl ?_
                      refine hp_geti (v := c) rfl (hH.1 118 (17, 105) rfl) rfl (show (qm_up (qm_up (qm_up I 121 c.toInt.toNat 3) 122 c.toInt.toNat i) 123 c.toInt.toNat 0) 118 10 = _ from ((hk_ot rfl).trans ((hk_ot rfl).trans ((hk_ot rfl).trans q_c)))) ?_
                      refine qm_Rp.go 1 (c' := (40, [.ref 118, .int 3, .int i, .int 0, .long (0 : Int64), .float 0], [.long (0 : Int64), .int c, .ref 124], (h.1, qm_up (qm_up (qm_up I 121 c.toInt.toNat 3) 122 c.toInt.toNat i) 123 c.toInt.toNat 0, J, h.2.2.2))) rfl ?_
                      refine hp_las rfl (hH.1 124 (3, 403) rfl) (fun ia_227 ib_227 => ?_)
                      refine qm_Rp.go 2 (c' := (43, [.ref 118, .int 3, .int i, .int 0, .long (0 : Int64), .float 0], [.ref 118, .ref 118], (h.1, qm_up (qm_up (qm_up I 121 c.toInt.toNat 3) 122 c.toInt.toNat i) 123 c.toInt.toNat 0, qm_up J 124 c.toInt.toNat (0 : Int64), h.2.2.2))) rfl ?_
                      refine hp_geti (v := c) rfl (hH.1 118 (17, 105) rfl) rfl (show (qm_up (qm_up (qm_up I 121 c.toInt.toNat 3) 122 c.toInt.toNat i) 123 c.toInt.toNat 0) 118 10 = _ from ((hk_ot rfl).trans ((hk_ot rfl).trans ((hk_ot rfl).trans q_c)))) ?_
                      refine qm_Rp.go 2 (c' := (48, [.ref 118, .int 3, .int i, .int 0, .long (0 : Int64), .float 0], [.int (c + 1), .ref 118], (h.1, qm_up (qm_up (qm_up I 121 c.toInt.toNat 3) 122 c.toInt.toNat i) 123 c.toInt.toNat 0, qm_up J 124 c.toInt.toNat (0 : Int64), h.2.2.2))) rfl ?_
                      obtain ⟨v229, q_v229, e_v229⟩ := hk_add (x := c) (y := 1) (a := c.toInt) (b := 1) rfl rfl (by omega) (by omega)
                      rw [q_v229]
                      refine hp_puti rfl (hH.1 118 (17, 105) rfl) rfl ?_
                      refine qm_Rp.go 0 (c' := (51, [.ref 118, .int 3, .int i, .int 0, .long (0 : Int64), .float 0], [], (h.1, qm_up (qm_up (qm_up (qm_up I 121 c.toInt.toNat 3) 122 c.toInt.toNat i) 123 c.toInt.toNat 0) 118 10 v229, qm_up J 124 c.toInt.toNat (0 : Int64), h.2.2.2))) rfl ?_
                      refine qm_Rp.rt (v := none) (h' := (h.1, qm_up (qm_up (qm_up (qm_up I 121 c.toInt.toNat 3) 122 c.toInt.toNat i) 123 c.toInt.toNat 0) 118 10 v229, qm_up J 124 c.toInt.toNat (0 : Int64), h.2.2.2)) rfl ?_
                      refine qm_Rp.go 3 (c' := (167, [.ref 118, .int i, .int c2, .int c199, .int 0, .int 3], [.int 1], (h.1, qm_up (qm_up (qm_up (qm_up I 121 c.toInt.toNat 3) 122 c.toInt.toNat i) 123 c.toInt.toNat 0) 118 10 v229, qm_up J 124 c.toInt.toNat (0 : Int64), h.2.2.2))) rfl ?_
                      refine qm_Rp.rt (v := (some (.int 1))) (h' := (h.1, qm_up (qm_up (qm_up (qm_up I 121 c.toInt.toNat 3) 122 c.toInt.toNat i) 123 c.toInt.toNat 0) 118 10 v229, qm_up J 124 c.toInt.toNat (0 : Int64), h.2.2.2)) rfl ?_
                      refine qm_Rp.go 1 (c' := (290, [.ref 118, .int i, .int c2, l3, l4, l5, l6, l7], [.int (i + 1)], (h.1, qm_up (qm_up (qm_up (qm_up I 121 c.toInt.toNat 3) 122 c.toInt.toNat i) 123 c.toInt.toNat 0) 118 10 v229, qm_up J 124 c.toInt.toNat (0 : Int64), h.2.2.2))) rfl ?_
                      rw [q_v198]
                      refine qm_Rp.go 2 (c' := (7, [.ref 118, .int v198, .int c2, l3, l4, l5, l6, l7], [], (h.1, qm_up (qm_up (qm_up (qm_up I 121 c.toInt.toNat 3) 122 c.toInt.toNat i) 123 c.toInt.toNat 0) 118 10 v229, qm_up J 124 c.toInt.toNat (0 : Int64), h.2.2.2))) rfl ?_
                      have A_A230 : rA (h.2.1 120) n.toInt.toNat ((qm_up (qm_up (qm_up (qm_up I 121 c.toInt.toNat 3) 122 c.toInt.toNat i) 123 c.toInt.toNat 0) 118 10 v229) 121) ((qm_up (qm_up (qm_up (qm_up I 121 c.toInt.toNat 3) 122 c.toInt.toNat i) 123 c.toInt.toNat 0) 118 10 v229) 122) ((qm_up (qm_up (qm_up (qm_up I 121 c.toInt.toNat 3) 122 c.toInt.toNat i) 123 c.toInt.toNat 0) 118 10 v229) 123) ((qm_up J 124 c.toInt.toNat (0 : Int64)) 124) v229.toInt.toNat := rA_s (c := c.toInt.toNat) hA (fun y hy => ⟨((hk_ot rfl).trans ((hk_ot rfl).trans ((hk_ot rfl).trans ((hk_neq hy).trans rfl)))), ((hk_ot rfl).trans ((hk_ot rfl).trans ((hk_neq hy).trans ((hk_ot rfl).trans rfl)))), ((hk_ot rfl).trans ((hk_neq hy).trans ((hk_ot rfl).trans ((hk_ot rfl).trans rfl)))), ((hj_neq hy).trans rfl)⟩) (by omega) (by rw [(show (qm_up (qm_up (qm_up (qm_up I 121 c.toInt.toNat 3) 122 c.toInt.toNat i) 123 c.toInt.toNat 0) 118 10 v229) 121 c.toInt.toNat = _ from ((hk_ot rfl).trans ((hk_ot rfl).trans ((hk_ot rfl).trans (hk_same)))))]; exact (by rw [hTK.1, hsk]; rfl)) (by rw [(show (qm_up (qm_up (qm_up (qm_up I 121 c.toInt.toNat 3) 122 c.toInt.toNat i) 123 c.toInt.toNat 0) 118 10 v229) 122 c.toInt.toNat = _ from ((hk_ot rfl).trans ((hk_ot rfl).trans (hk_same))))]; omega) (fun z => by rw [(show (qm_up (qm_up (qm_up (qm_up I 121 c.toInt.toNat 3) 122 c.toInt.toNat i) 123 c.toInt.toNat 0) 118 10 v229) 123 c.toInt.toNat = _ from ((hk_ot rfl).trans (hk_same)))]; rw [hTK.1] at z; omega) (fun z => by rw [(show (qm_up J 124 c.toInt.toNat (0 : Int64)) 124 c.toInt.toNat = _ from (hj_same))]; rw [hTK.1] at z; omega)
                      have eC : v229.toInt.toNat = c.toInt.toNat + 1 := by omega
                      exact ih g (by omega) (qm_up (qm_up (qm_up (qm_up I 121 c.toInt.toNat 3) 122 c.toInt.toNat i) 123 c.toInt.toNat 0) 118 10 v229) (qm_up J 124 c.toInt.toNat (0 : Int64)) v229 v198 (fun o ho i => ((hk_mod ho rfl).trans ((hk_mod ho rfl).trans ((hk_mod ho rfl).trans ((hk_mod ho rfl).trans ((e o (hk_ms rfl ho) i).trans rfl)))))) (fun i hi => ((hk_neq (fun z => by subst z; cases hi)).trans ((hk_ot rfl).trans ((hk_ot rfl).trans ((hk_ot rfl).trans ((e8 i (hk_ms rfl hi)).trans rfl)))))) (fun o ho i => ((hj_mod ho rfl).trans ((ej o (hk_ms rfl ho) i).trans rfl))) (show (qm_up (qm_up (qm_up (qm_up I 121 c.toInt.toNat 3) 122 c.toInt.toNat i) 123 c.toInt.toNat 0) 118 10 v229) 118 10 = _ from (hk_same)) A_A230 (fun y hy => by
                        by_cases c9 : y = c.toInt.toNat
                        · rw [c9, hTK.1]; omega
                        · exact hno y (by omega)) (by omega) (by omega) (by rw [eC]; show skp (h.2.1 120) n.toInt.toNat _ = skp (h.2.1 120) n.toInt.toNat (tP (h.2.1 120) n.toInt.toNat (c.toInt.toNat + 1)); rw [hTK.2.1]; congr 1; omega) _ _ _ _ _ _
                  · refine qm_Rp.go 2 (c' := (17, [.int c2], [.int 1], (h.1, I, J, h.2.2.2))) rfl ?_
                    refine qm_Rp.rt (v := (some (.int 1))) (h' := (h.1, I, J, h.2.2.2)) rfl ?_
                    refine qm_Rp.go 5 (c' := (85, [.ref 118, .int i, .int c2, .int 0, .long (0 : Int64), .float 0, l6, l7], [], (h.1, I, J, h.2.2.2))) rfl ?_
                    have hR := tR_w (B := (h.2.1 120)) (n := n.toInt.toNat) (q := i.toInt.toNat) (b := b3) (by omega) q_b3 (by omega)
                    have hTK := tK_def hs9 hR
                    have hwl := wlp_lt (B := (h.2.1 120)) (n := n.toInt.toNat) (p := i.toInt.toNat) (c := 0) (v := 0) (by omega) (by rw [q_b3]; omega)
                    have e120 : (h.1, I, J, h.2.2.2).2.1 120 = h.2.1 120 := show I 120 = h.2.1 120 from funext fun y => e 120 rfl y
                    refine px_cutw (h := (h.1, I, J, h.2.2.2)) hH (by rw [e120]; exact hB) (n := n) ((e8 4 rfl).trans q_n) hn (q := i) (W := wlp (h.2.1 120) n.toInt.toNat i.toInt.toNat 0 0) (fu0 := g) (by omega) (fun g2 hg2 m nm hm hW1 hW2 hqm => ?_) g 0 0 (Nat.le_refl _) (by omega) (by omega) (by rw [e120, show (i.toInt + (0 : Int32).toInt).toNat = i.toInt.toNat by omega]; rfl)
                    have hkw := kw_b nm
                    have hW3 : (wlp (h.2.1 120) n.toInt.toNat i.toInt.toNat 0 0).2 = nm := hW2.symm
                    rw [hW3] at hTK
                    refine qm_Rp.go 2 (c' := (127, [.ref 118, .int i, .int c2, .int m, .long nm, .float 0, l6, l7], [.int 8, .int m], (h.1, I, J, h.2.2.2))) rfl ?_
                    refine hp_cle (ix := m.toInt) (iy := 8) rfl rfl rfl (fun z231 => ?_) (fun z231 => ?_)
                    · refine qm_Rp.go 4 (c' := (140, [.ref 118, .int i, .int c2, .int m, .long nm, .float 0, .int 1, l7], [.int 7, .int m], (h.1, I, J, h.2.2.2))) rfl ?_
                      refine hp_cgt (ix := m.toInt) (iy := 7) rfl rfl rfl (fun z232 => ?_) (fun z232 => ?_)
                      · refine qm_Rp.go 0 (c' := (179, [.ref 118, .int i, .int c2, .int m, .long nm, .float 0, .int 1, l7], [], (h.1, I, J, h.2.2.2))) rfl ?_
                        refine qm_Rp.go 5 (c' := (186, [.ref 118, .int i, .int c2, .int m, .long nm, .float 0, .int 1, l7], [.long nm, .int 0, .int i, .int 1, .ref 118], (h.1, I, J, h.2.2.2))) rfl ?_
                        refine hp_inv (o := 118) (r := []) (as := [.ref 118, .int 1, .int i, .int 0, .long nm]) rfl rfl (hH.1 118 (17, 105) rfl) rfl rfl rfl ?_
                        refine qm_Rp.go 1 (c' := (1, [.ref 118, .int 1, .int i, .int 0, .long nm, .float 0], [.ref 118], (h.1, I, J, h.2.2.2))) rfl ?_
                        refine hp_getr rfl (hH.1 118 (17, 105) rfl) rfl (hH.2 118 5 (some 121) rfl) ?_
                        refine qm_Rp.go 1 (c' := (5, [.ref 118, .int 1, .int i, .int 0, .long nm, .float 0], [.ref 118, .ref 121], (h.1, I, J, h.2.2.2))) rfl ?_
                        refine hp_geti (v := c) rfl (hH.1 118 (17, 105) rfl) rfl q_c ?_
                        refine qm_Rp.go 1 (c' := (9, [.ref 118, .int 1, .int i, .int 0, .long nm, .float 0], [.int 1, .int c, .ref 121], (h.1, I, J, h.2.2.2))) rfl ?_
                        refine hp_ias rfl (hH.1 121 (0, 403) rfl) (fun ia_232 ib_232 => ?_)
                        refine qm_Rp.go 1 (c' := (11, [.ref 118, .int 1, .int i, .int 0, .long nm, .float 0], [.ref 118], (h.1, qm_up I 121 c.toInt.toNat 1, J, h.2.2.2))) rfl ?_
                        refine hp_getr rfl (hH.1 118 (17, 105) rfl) rfl (hH.2 118 6 (some 122) rfl) ?_
                        refine qm_Rp.go 1 (c' := (15, [.ref 118, .int 1, .int i, .int 0, .long nm, .float 0], [.ref 118, .ref 122], (h.1, qm_up I 121 c.toInt.toNat 1, J, h.2.2.2))) rfl ?_
                        refine hp_geti (v := c) rfl (hH.1 118 (17, 105) rfl) rfl (show (qm_up I 121 c.toInt.toNat 1) 118 10 = _ from ((hk_ot rfl).trans q_c)) ?_
                        refine qm_Rp.go 1 (c' := (19, [.ref 118, .int 1, .int i, .int 0, .long nm, .float 0], [.int i, .int c, .ref 122], (h.1, qm_up I 121 c.toInt.toNat 1, J, h.2.2.2))) rfl ?_
                        refine hp_ias rfl (hH.1 122 (0, 403) rfl) (fun ia_233 ib_233 => ?_)
                        refine qm_Rp.go 1 (c' := (21, [.ref 118, .int 1, .int i, .int 0, .long nm, .float 0], [.ref 118], (h.1, qm_up (qm_up I 121 c.toInt.toNat 1) 122 c.toInt.toNat i, J, h.2.2.2))) rfl ?_
                        refine hp_getr rfl (hH.1 118 (17, 105) rfl) rfl (hH.2 118 7 (some 123) rfl) ?_
                        refine qm_Rp.go 1 (c' := (25, [.ref 118, .int 1, .int i, .int 0, .long nm, .float 0], [.ref 118, .ref 123], (h.1, qm_up (qm_up I 121 c.toInt.toNat 1) 122 c.toInt.toNat i, J, h.2.2.2))) rfl ?_
                        refine hp_geti (v := c) rfl (hH.1 118 (17, 105) rfl) rfl (show (qm_up (qm_up I 121 c.toInt.toNat 1) 122 c.toInt.toNat i) 118 10 = _ from ((hk_ot rfl).trans ((hk_ot rfl).trans q_c))) ?_
                        refine qm_Rp.go 1 (c' := (29, [.ref 118, .int 1, .int i, .int 0, .long nm, .float 0], [.int 0, .int c, .ref 123], (h.1, qm_up (qm_up I 121 c.toInt.toNat 1) 122 c.toInt.toNat i, J, h.2.2.2))) rfl ?_
                        refine hp_ias rfl (hH.1 123 (0, 403) rfl) (fun ia_234 ib_234 => ?_)
                        refine qm_Rp.go 1 (c' := (31, [.ref 118, .int 1, .int i, .int 0, .long nm, .float 0], [.ref 118], (h.1, qm_up (qm_up (qm_up I 121 c.toInt.toNat 1) 122 c.toInt.toNat i) 123 c.toInt.toNat 0, J, h.2.2.2))) rfl ?_
                        refine hp_getr rfl (hH.1 118 (17, 105) rfl) rfl (hH.2 118 8 (some 124) rfl) ?_
                        refine qm_Rp.go 1 (c' := (35, [.ref 118, .int 1, .int i, .int 0, .long nm, .float 0], [.ref 118, .ref 124], (h.1, qm_up (qm_up (qm_up I 121 c.toInt.toNat 1) 122 c.toInt.toNat i) 123 c.toInt.toNat 0, J, h.2.2.2))) rfl ?_
                        refine hp_geti (v := c) rfl (hH.1 118 (17, 105) rfl) rfl (show (qm_up (qm_up (qm_up I 121 c.toInt.toNat 1) 122 c.toInt.toNat i) 123 c.toInt.toNat 0) 118 10 = _ from ((hk_ot rfl).trans ((hk_ot rfl).trans ((hk_ot rfl).trans q_c)))) ?_
                        refine qm_Rp.go 1 (c' := (40, [.ref 118, .int 1, .int i, .int 0, .long nm, .float 0], [.long nm, .int c, .ref 124], (h.1, qm_up (qm_up (qm_up I 121 c.toInt.toNat 1) 122 c.toInt.toNat i) 123 c.toInt.toNat 0, J, h.2.2.2))) rfl ?_
                        refine hp_las rfl (hH.1 124 (3, 403) rfl) (fun ia_235 ib_235 => ?_)
                        refine qm_Rp.go 2 (c' := (43, [.ref 118, .int 1, .int i, .int 0, .long nm, .float 0], [.ref 118, .ref 118], (h.1, qm_up (qm_up (qm_up I 121 c.toInt.toNat 1) 122 c.toInt.toNat i) 123 c.toInt.toNat 0, qm_up J 124 c.toInt.toNat nm, h.2.2.2))) rfl ?_
                        refine hp_geti (v := c) rfl (hH.1 118 (17, 105) rfl) rfl (show (qm_up (qm_up (qm_up I 121 c.toInt.toNat 1) 122 c.toInt.toNat i) 123 c.toInt.toNat 0) 118 10 = _ from ((hk_ot rfl).trans ((hk_ot rfl).trans ((hk_ot rfl).trans q_c)))) ?_
                        refine qm_Rp.go 2 (c' := (48, [.ref 118, .int 1, .int i, .int 0, .long nm, .float 0], [.int (c + 1), .ref 118], (h.1, qm_up (qm_up (qm_up I 121 c.toInt.toNat 1) 122 c.toInt.toNat i) 123 c.toInt.toNat 0, qm_up J 124 c.toInt.toNat nm, h.2.2.2))) rfl ?_
                        obtain ⟨v237, q_v237, e_v237⟩ := hk_add (x := c) (y := 1) (a := c.toInt) (b := 1) rfl rfl (by omega) (by omega)
                        rw [q_v237]
                        refine hp_puti rfl (hH.1 118 (17, 105) rfl) rfl ?_
                        refine qm_Rp.go 0 (c' := (51, [.ref 118, .int 1, .int i, .int 0, .long nm, .float 0], [], (h.1, qm_up (qm_up (qm_up (qm_up I 121 c.toInt.toNat 1) 122 c.toInt.toNat i) 123 c.toInt.toNat 0) 118 10 v237, qm_up J 124 c.toInt.toNat nm, h.2.2.2))) rfl ?_
                        refine qm_Rp.rt (v := none) (h' := (h.1, qm_up (qm_up (qm_up (qm_up I 121 c.toInt.toNat 1) 122 c.toInt.toNat i) 123 c.toInt.toNat 0) 118 10 v237, qm_up J 124 c.toInt.toNat nm, h.2.2.2)) rfl ?_
                        refine qm_Rp.go 3 (c' := (192, [.ref 118, .int i, .int c2, .int m, .long nm, .float 0, .int 1, l7], [.int (i + m)], (h.1, qm_up (qm_up (qm_up (qm_up I 121 c.toInt.toNat 1) 122 c.toInt.toNat i) 123 c.toInt.toNat 0) 118 10 v237, qm_up J 124 c.toInt.toNat nm, h.2.2.2))) rfl ?_
                        obtain ⟨v238, q_v238, e_v238⟩ := hk_add (x := i) (y := m) (a := i.toInt) (b := m.toInt) rfl rfl (by omega) (by omega)
                        rw [q_v238]
                        refine qm_Rp.go 3 (c' := (7, [.ref 118, .int v238, .int c2, .int m, .long nm, .float 0, .int 1, l7], [], (h.1, qm_up (qm_up (qm_up (qm_up I 121 c.toInt.toNat 1) 122 c.toInt.toNat i) 123 c.toInt.toNat 0) 118 10 v237, qm_up J 124 c.toInt.toNat nm, h.2.2.2))) rfl ?_
                        have A_A239 : rA (h.2.1 120) n.toInt.toNat ((qm_up (qm_up (qm_up (qm_up I 121 c.toInt.toNat 1) 122 c.toInt.toNat i) 123 c.toInt.toNat 0) 118 10 v237) 121) ((qm_up (qm_up (qm_up (qm_up I 121 c.toInt.toNat 1) 122 c.toInt.toNat i) 123 c.toInt.toNat 0) 118 10 v237) 122) ((qm_up (qm_up (qm_up (qm_up I 121 c.toInt.toNat 1) 122 c.toInt.toNat i) 123 c.toInt.toNat 0) 118 10 v237) 123) ((qm_up J 124 c.toInt.toNat nm) 124) v237.toInt.toNat := rA_s (c := c.toInt.toNat) hA (fun y hy => ⟨((hk_ot rfl).trans ((hk_ot rfl).trans ((hk_ot rfl).trans ((hk_neq hy).trans rfl)))), ((hk_ot rfl).trans ((hk_ot rfl).trans ((hk_neq hy).trans ((hk_ot rfl).trans rfl)))), ((hk_ot rfl).trans ((hk_neq hy).trans ((hk_ot rfl).trans ((hk_ot rfl).trans rfl)))), ((hj_neq hy).trans rfl)⟩) (by omega) (by rw [(show (qm_up (qm_up (qm_up (qm_up I 121 c.toInt.toNat 1) 122 c.toInt.toNat i) 123 c.toInt.toNat 0) 118 10 v237) 121 c.toInt.toNat = _ from ((hk_ot rfl).trans ((hk_ot rfl).trans ((hk_ot rfl).trans (hk_same)))))]; exact (by have h8 := wlp_8 (B := (h.2.1 120)) (n := n.toInt.toNat) (q := i.toInt.toNat) (by omega); rw [hW3] at h8; rw [hTK.1, if_neg (by omega), h8]; rfl)) (by rw [(show (qm_up (qm_up (qm_up (qm_up I 121 c.toInt.toNat 1) 122 c.toInt.toNat i) 123 c.toInt.toNat 0) 118 10 v237) 122 c.toInt.toNat = _ from ((hk_ot rfl).trans ((hk_ot rfl).trans (hk_same))))]; omega) (fun z => by rw [(show (qm_up (qm_up (qm_up (qm_up I 121 c.toInt.toNat 1) 122 c.toInt.toNat i) 123 c.toInt.toNat 0) 118 10 v237) 123 c.toInt.toNat = _ from ((hk_ot rfl).trans (hk_same)))]; rw [hTK.1] at z; exfalso; split at z <;> omega) (fun z => by rw [(show (qm_up J 124 c.toInt.toNat nm) 124 c.toInt.toNat = _ from (hj_same))]; rw [hTK.2.2.2])
                        have eC : v237.toInt.toNat = c.toInt.toNat + 1 := by omega
                        exact ih g2 (by omega) (qm_up (qm_up (qm_up (qm_up I 121 c.toInt.toNat 1) 122 c.toInt.toNat i) 123 c.toInt.toNat 0) 118 10 v237) (qm_up J 124 c.toInt.toNat nm) v237 v238 (fun o ho i => ((hk_mod ho rfl).trans ((hk_mod ho rfl).trans ((hk_mod ho rfl).trans ((hk_mod ho rfl).trans ((e o (hk_ms rfl ho) i).trans rfl)))))) (fun i hi => ((hk_neq (fun z => by subst z; cases hi)).trans ((hk_ot rfl).trans ((hk_ot rfl).trans ((hk_ot rfl).trans ((e8 i (hk_ms rfl hi)).trans rfl)))))) (fun o ho i => ((hj_mod ho rfl).trans ((ej o (hk_ms rfl ho) i).trans rfl))) (show (qm_up (qm_up (qm_up (qm_up I 121 c.toInt.toNat 1) 122 c.toInt.toNat i) 123 c.toInt.toNat 0) 118 10 v237) 118 10 = _ from (hk_same)) A_A239 (fun y hy => by
                          by_cases c9 : y = c.toInt.toNat
                          · rw [c9, hTK.1]; split <;> omega
                          · exact hno y (by omega)) (by omega) (by omega) (by rw [eC]; show skp (h.2.1 120) n.toInt.toNat _ = skp (h.2.1 120) n.toInt.toNat (tP (h.2.1 120) n.toInt.toNat (c.toInt.toNat + 1)); rw [hTK.2.1]; congr 1; omega) _ _ _ _ _ _
                      · refine qm_Rp.go 2 (c' := (146, [.ref 118, .int i, .int c2, .int m, .long nm, .float 0, .int 1, .int 0], [], (h.1, I, J, h.2.2.2))) rfl ?_
                        have ej125 : ∀ y : Nat, y < 25 → J 125 y = kwL.getD y 0 := fun y hy => (ej 125 rfl y).trans (hKey y hy)
                        refine px_cutk (h := (h.1, I, J, h.2.2.2)) hH ej125 (fu0 := g2) (fun g3 hg3 kv y7 hkv => ?_) g2 1 0 (Nat.le_refl _) (by omega) (Or.inr ⟨fun y hy => by exfalso; omega, rfl⟩)
                        refine qm_Rp.go 0 (c' := (179, [.ref 118, .int i, .int c2, .int m, .long nm, .float 0, .int kv, .int y7], [], (h.1, I, J, h.2.2.2))) rfl ?_
                        refine qm_Rp.go 5 (c' := (186, [.ref 118, .int i, .int c2, .int m, .long nm, .float 0, .int kv, .int y7], [.long nm, .int 0, .int i, .int kv, .ref 118], (h.1, I, J, h.2.2.2))) rfl ?_
                        refine hp_inv (o := 118) (r := []) (as := [.ref 118, .int kv, .int i, .int 0, .long nm]) rfl rfl (hH.1 118 (17, 105) rfl) rfl rfl rfl ?_
                        refine qm_Rp.go 1 (c' := (1, [.ref 118, .int kv, .int i, .int 0, .long nm, .float 0], [.ref 118], (h.1, I, J, h.2.2.2))) rfl ?_
                        refine hp_getr rfl (hH.1 118 (17, 105) rfl) rfl (hH.2 118 5 (some 121) rfl) ?_
                        refine qm_Rp.go 1 (c' := (5, [.ref 118, .int kv, .int i, .int 0, .long nm, .float 0], [.ref 118, .ref 121], (h.1, I, J, h.2.2.2))) rfl ?_
                        refine hp_geti (v := c) rfl (hH.1 118 (17, 105) rfl) rfl q_c ?_
                        refine qm_Rp.go 1 (c' := (9, [.ref 118, .int kv, .int i, .int 0, .long nm, .float 0], [.int kv, .int c, .ref 121], (h.1, I, J, h.2.2.2))) rfl ?_
                        refine hp_ias rfl (hH.1 121 (0, 403) rfl) (fun ia_239 ib_239 => ?_)
                        refine qm_Rp.go 1 (c' := (11, [.ref 118, .int kv, .int i, .int 0, .long nm, .float 0], [.ref 118], (h.1, qm_up I 121 c.toInt.toNat kv, J, h.2.2.2))) rfl ?_
                        refine hp_getr rfl (hH.1 118 (17, 105) rfl) rfl (hH.2 118 6 (some 122) rfl) ?_
                        refine qm_Rp.go 1 (c' := (15, [.ref 118, .int kv, .int i, .int 0, .long nm, .float 0], [.ref 118, .ref 122], (h.1, qm_up I 121 c.toInt.toNat kv, J, h.2.2.2))) rfl ?_
                        refine hp_geti (v := c) rfl (hH.1 118 (17, 105) rfl) rfl (show (qm_up I 121 c.toInt.toNat kv) 118 10 = _ from ((hk_ot rfl).trans q_c)) ?_
                        refine qm_Rp.go 1 (c' := (19, [.ref 118, .int kv, .int i, .int 0, .long nm, .float 0], [.int i, .int c, .ref 122], (h.1, qm_up I 121 c.toInt.toNat kv, J, h.2.2.2))) rfl ?_
                        refine hp_ias rfl (hH.1 122 (0, 403) rfl) (fun ia_240 ib_240 => ?_)
                        refine qm_Rp.go 1 (c' := (21, [.ref 118, .int kv, .int i, .int 0, .long nm, .float 0], [.ref 118], (h.1, qm_up (qm_up I 121 c.toInt.toNat kv) 122 c.toInt.toNat i, J, h.2.2.2))) rfl ?_
                        refine hp_getr rfl (hH.1 118 (17, 105) rfl) rfl (hH.2 118 7 (some 123) rfl) ?_
                        refine qm_Rp.go 1 (c' := (25, [.ref 118, .int kv, .int i, .int 0, .long nm, .float 0], [.ref 118, .ref 123], (h.1, qm_up (qm_up I 121 c.toInt.toNat kv) 122 c.toInt.toNat i, J, h.2.2.2))) rfl ?_
                        refine hp_geti (v := c) rfl (hH.1 118 (17, 105) rfl) rfl (show (qm_up (qm_up I 121 c.toInt.toNat kv) 122 c.toInt.toNat i) 118 10 = _ from ((hk_ot rfl).trans ((hk_ot rfl).trans q_c))) ?_
                        refine qm_Rp.go 1 (c' := (29, [.ref 118, .int kv, .int i, .int 0, .long nm, .float 0], [.int 0, .int c, .ref 123], (h.1, qm_up (qm_up I 121 c.toInt.toNat kv) 122 c.toInt.toNat i, J, h.2.2.2))) rfl ?_
                        refine hp_ias rfl (hH.1 123 (0, 403) rfl) (fun ia_241 ib_241 => ?_)
                        refine qm_Rp.go 1 (c' := (31, [.ref 118, .int kv, .int i, .int 0, .long nm, .float 0], [.ref 118], (h.1, qm_up (qm_up (qm_up I 121 c.toInt.toNat kv) 122 c.toInt.toNat i) 123 c.toInt.toNat 0, J, h.2.2.2))) rfl ?_
                        refine hp_getr rfl (hH.1 118 (17, 105) rfl) rfl (hH.2 118 8 (some 124) rfl) ?_
                        refine qm_Rp.go 1 (c' := (35, [.ref 118, .int kv, .int i, .int 0, .long nm, .float 0], [.ref 118, .ref 124], (h.1, qm_up (qm_up (qm_up I 121 c.toInt.toNat kv) 122 c.toInt.toNat i) 123 c.toInt.toNat 0, J, h.2.2.2))) rfl ?_
                        refine hp_geti (v := c) rfl (hH.1 118 (17, 105) rfl) rfl (show (qm_up (qm_up (qm_up I 121 c.toInt.toNat kv) 122 c.toInt.toNat i) 123 c.toInt.toNat 0) 118 10 = _ from ((hk_ot rfl).trans ((hk_ot rfl).trans ((hk_ot rfl).trans q_c)))) ?_
                        refine qm_Rp.go 1 (c' := (40, [.ref 118, .int kv, .int i, .int 0, .long nm, .float 0], [.long nm, .int c, .ref 124], (h.1, qm_up (qm_up (qm_up I 121 c.toInt.toNat kv) 122 c.toInt.toNat i) 123 c.toInt.toNat 0, J, h.2.2.2))) rfl ?_
                        refine hp_las rfl (hH.1 124 (3, 403) rfl) (fun ia_242 ib_242 => ?_)
                        refine qm_Rp.go 2 (c' := (43, [.ref 118, .int kv, .int i, .int 0, .long nm, .float 0], [.ref 118, .ref 118], (h.1, qm_up (qm_up (qm_up I 121 c.toInt.toNat kv) 122 c.toInt.toNat i) 123 c.toInt.toNat 0, qm_up J 124 c.toInt.toNat nm, h.2.2.2))) rfl ?_
                        refine hp_geti (v := c) rfl (hH.1 118 (17, 105) rfl) rfl (show (qm_up (qm_up (qm_up I 121 c.toInt.toNat kv) 122 c.toInt.toNat i) 123 c.toInt.toNat 0) 118 10 = _ from ((hk_ot rfl).trans ((hk_ot rfl).trans ((hk_ot rfl).trans q_c)))) ?_
                        refine qm_Rp.go 2 (c' := (48, [.ref 118, .int kv, .int i, .int 0, .long nm, .float 0], [.int (c + 1), .ref 118], (h.1, qm_up (qm_up (qm_up I 121 c.toInt.toNat kv) 122 c.toInt.toNat i) 123 c.toInt.toNat 0, qm_up J 124 c.toInt.toNat nm, h.2.2.2))) rfl ?_
                        obtain ⟨v244, q_v244, e_v244⟩ := hk_add (x := c) (y := 1) (a := c.toInt) (b := 1) rfl rfl (by omega) (by omega)
                        rw [q_v244]
                        refine hp_puti rfl (hH.1 118 (17, 105) rfl) rfl ?_
                        refine qm_Rp.go 0 (c' := (51, [.ref 118, .int kv, .int i, .int 0, .long nm, .float 0], [], (h.1, qm_up (qm_up (qm_up (qm_up I 121 c.toInt.toNat kv) 122 c.toInt.toNat i) 123 c.toInt.toNat 0) 118 10 v244, qm_up J 124 c.toInt.toNat nm, h.2.2.2))) rfl ?_
                        refine qm_Rp.rt (v := none) (h' := (h.1, qm_up (qm_up (qm_up (qm_up I 121 c.toInt.toNat kv) 122 c.toInt.toNat i) 123 c.toInt.toNat 0) 118 10 v244, qm_up J 124 c.toInt.toNat nm, h.2.2.2)) rfl ?_
                        refine qm_Rp.go 3 (c' := (192, [.ref 118, .int i, .int c2, .int m, .long nm, .float 0, .int kv, .int y7], [.int (i + m)], (h.1, qm_up (qm_up (qm_up (qm_up I 121 c.toInt.toNat kv) 122 c.toInt.toNat i) 123 c.toInt.toNat 0) 118 10 v244, qm_up J 124 c.toInt.toNat nm, h.2.2.2))) rfl ?_
                        obtain ⟨v245, q_v245, e_v245⟩ := hk_add (x := i) (y := m) (a := i.toInt) (b := m.toInt) rfl rfl (by omega) (by omega)
                        rw [q_v245]
                        refine qm_Rp.go 3 (c' := (7, [.ref 118, .int v245, .int c2, .int m, .long nm, .float 0, .int kv, .int y7], [], (h.1, qm_up (qm_up (qm_up (qm_up I 121 c.toInt.toNat kv) 122 c.toInt.toNat i) 123 c.toInt.toNat 0) 118 10 v244, qm_up J 124 c.toInt.toNat nm, h.2.2.2))) rfl ?_
                        have A_A246 : rA (h.2.1 120) n.toInt.toNat ((qm_up (qm_up (qm_up (qm_up I 121 c.toInt.toNat kv) 122 c.toInt.toNat i) 123 c.toInt.toNat 0) 118 10 v244) 121) ((qm_up (qm_up (qm_up (qm_up I 121 c.toInt.toNat kv) 122 c.toInt.toNat i) 123 c.toInt.toNat 0) 118 10 v244) 122) ((qm_up (qm_up (qm_up (qm_up I 121 c.toInt.toNat kv) 122 c.toInt.toNat i) 123 c.toInt.toNat 0) 118 10 v244) 123) ((qm_up J 124 c.toInt.toNat nm) 124) v244.toInt.toNat := rA_s (c := c.toInt.toNat) hA (fun y hy => ⟨((hk_ot rfl).trans ((hk_ot rfl).trans ((hk_ot rfl).trans ((hk_neq hy).trans rfl)))), ((hk_ot rfl).trans ((hk_ot rfl).trans ((hk_neq hy).trans ((hk_ot rfl).trans rfl)))), ((hk_ot rfl).trans ((hk_neq hy).trans ((hk_ot rfl).trans ((hk_ot rfl).trans rfl)))), ((hj_neq hy).trans rfl)⟩) (by omega) (by rw [(show (qm_up (qm_up (qm_up (qm_up I 121 c.toInt.toNat kv) 122 c.toInt.toNat i) 123 c.toInt.toNat 0) 118 10 v244) 121 c.toInt.toNat = _ from ((hk_ot rfl).trans ((hk_ot rfl).trans ((hk_ot rfl).trans (hk_same)))))]; exact (by rw [hTK.1, if_neg (by omega), hkv]; unfold rkd; (repeat' split) <;> omega)) (by rw [(show (qm_up (qm_up (qm_up (qm_up I 121 c.toInt.toNat kv) 122 c.toInt.toNat i) 123 c.toInt.toNat 0) 118 10 v244) 122 c.toInt.toNat = _ from ((hk_ot rfl).trans ((hk_ot rfl).trans (hk_same))))]; omega) (fun z => by rw [(show (qm_up (qm_up (qm_up (qm_up I 121 c.toInt.toNat kv) 122 c.toInt.toNat i) 123 c.toInt.toNat 0) 118 10 v244) 123 c.toInt.toNat = _ from ((hk_ot rfl).trans (hk_same)))]; rw [hTK.1] at z; exfalso; split at z <;> omega) (fun z => by rw [(show (qm_up J 124 c.toInt.toNat nm) 124 c.toInt.toNat = _ from (hj_same))]; rw [hTK.2.2.2])
                        have eC : v244.toInt.toNat = c.toInt.toNat + 1 := by omega
                        exact ih g3 (by omega) (qm_up (qm_up (qm_up (qm_up I 121 c.toInt.toNat kv) 122 c.toInt.toNat i) 123 c.toInt.toNat 0) 118 10 v244) (qm_up J 124 c.toInt.toNat nm) v244 v245 (fun o ho i => ((hk_mod ho rfl).trans ((hk_mod ho rfl).trans ((hk_mod ho rfl).trans ((hk_mod ho rfl).trans ((e o (hk_ms rfl ho) i).trans rfl)))))) (fun i hi => ((hk_neq (fun z => by subst z; cases hi)).trans ((hk_ot rfl).trans ((hk_ot rfl).trans ((hk_ot rfl).trans ((e8 i (hk_ms rfl hi)).trans rfl)))))) (fun o ho i => ((hj_mod ho rfl).trans ((ej o (hk_ms rfl ho) i).trans rfl))) (show (qm_up (qm_up (qm_up (qm_up I 121 c.toInt.toNat kv) 122 c.toInt.toNat i) 123 c.toInt.toNat 0) 118 10 v244) 118 10 = _ from (hk_same)) A_A246 (fun y hy => by
                          by_cases c9 : y = c.toInt.toNat
                          · rw [c9, hTK.1]; split <;> omega
                          · exact hno y (by omega)) (by omega) (by omega) (by rw [eC]; show skp (h.2.1 120) n.toInt.toNat _ = skp (h.2.1 120) n.toInt.toNat (tP (h.2.1 120) n.toInt.toNat (c.toInt.toNat + 1)); rw [hTK.2.1]; congr 1; omega) _ _ _ _ _ _
                    · refine qm_Rp.go 5 (c' := (140, [.ref 118, .int i, .int c2, .int m, .long nm, .float 0, .int 3, l7], [.int 7, .int m], (h.1, I, J, h.2.2.2))) rfl ?_
                      refine hp_cgt (ix := m.toInt) (iy := 7) rfl rfl rfl (fun z247 => ?_) (fun z247 => by exfalso; omega)
                      refine qm_Rp.go 0 (c' := (179, [.ref 118, .int i, .int c2, .int m, .long nm, .float 0, .int 3, l7], [], (h.1, I, J, h.2.2.2))) rfl ?_
                      refine qm_Rp.go 5 (c' := (186, [.ref 118, .int i, .int c2, .int m, .long nm, .float 0, .int 3, l7], [.long nm, .int 0, .int i, .int 3, .ref 118], (h.1, I, J, h.2.2.2))) rfl ?_
                      refine hp_inv (o := 118) (r := []) (as := [.ref 118, .int 3, .int i, .int 0, .long nm]) rfl rfl (hH.1 118 (17, 105) rfl) rfl rfl rfl ?_
                      refine qm_Rp.go 1 (c' := (1, [.ref 118, .int 3, .int i, .int 0, .long nm, .float 0], [.ref 118], (h.1, I, J, h.2.2.2))) rfl ?_
                      refine hp_getr rfl (hH.1 118 (17, 105) rfl) rfl (hH.2 118 5 (some 121) rfl) ?_
                      refine qm_Rp.go 1 (c' := (5, [.ref 118, .int 3, .int i, .int 0, .long nm, .float 0], [.ref 118, .ref 121], (h.1, I, J, h.2.2.2))) rfl ?_
                      refine hp_geti (v := c) rfl (hH.1 118 (17, 105) rfl) rfl q_c ?_
                      refine qm_Rp.go 1 (c' := (9, [.ref 118, .int 3, .int i, .int 0, .long nm, .float 0], [.int 3, .int c, .ref 121], (h.1, I, J, h.2.2.2))) rfl ?_
                      refine hp_ias rfl (hH.1 121 (0, 403) rfl) (fun ia_247 ib_247 => ?_)
                      refine qm_Rp.go 1 (c' := (11, [.ref 118, .int 3, .int i, .int 0, .long nm, .float 0], [.ref 118], (h.1, qm_up I 121 c.toInt.toNat 3, J, h.2.2.2))) rfl ?_
                      refine hp_getr rfl (hH.1 118 (17, 105) rfl) rfl (hH.2 118 6 (some 122) rfl) ?_
                      refine qm_Rp.go 1 (c' := (15, [.ref 118, .int 3, .int i, .int 0, .long nm, .float 0], [.ref 118, .ref 122], (h.1, qm_up I 121 c.toInt.toNat 3, J, h.2.2.2))) rfl ?_
                      refine hp_geti (v := c) rfl (hH.1 118 (17, 105) rfl) rfl (show (qm_up I 121 c.toInt.toNat 3) 118 10 = _ from ((hk_ot rfl).trans q_c)) ?_
                      refine qm_Rp.go 1 (c' := (19, [.ref 118, .int 3, .int i, .int 0, .long nm, .float 0], [.int i, .int c, .ref 122], (h.1, qm_up I 121 c.toInt.toNat 3, J, h.2.2.2))) rfl ?_
                      refine hp_ias rfl (hH.1 122 (0, 403) rfl) (fun ia_248 ib_248 => ?_)
                      refine qm_Rp.go 1 (c' := (21, [.ref 118, .int 3, .int i, .int 0, .long nm, .float 0], [.ref 118], (h.1, qm_up (qm_up I 121 c.toInt.toNat 3) 122 c.toInt.toNat i, J, h.2.2.2))) rfl ?_
                      refine hp_getr rfl (hH.1 118 (17, 105) rfl) rfl (hH.2 118 7 (some 123) rfl) ?_
                      refine qm_Rp.go 1 (c' := (25, [.ref 118, .int 3, .int i, .int 0, .long nm, .float 0], [.ref 118, .ref 123], (h.1, qm_up (qm_up I 121 c.toInt.toNat 3) 122 c.toInt.toNat i, J, h.2.2.2))) rfl ?_
                      refine hp_geti (v := c) rfl (hH.1 118 (17, 105) rfl) rfl (show (qm_up (qm_up I 121 c.toInt.toNat 3) 122 c.toInt.toNat i) 118 10 = _ from ((hk_ot rfl).trans ((hk_ot rfl).trans q_c))) ?_
                      refine qm_Rp.go 1 (c' := (29, [.ref 118, .int 3, .int i, .int 0, .long nm, .float 0], [.int 0, .int c, .ref 123], (h.1, qm_up (qm_up I 121 c.toInt.toNat 3) 122 c.toInt.toNat i, J, h.2.2.2))) rfl ?_
                      refine hp_ias rfl (hH.1 123 (0, 403) rfl) (fun ia_249 ib_249 => ?_)
                      refine qm_Rp.go 1 (c' := (31, [.ref 118, .int 3, .int i, .int 0, .long nm, .float 0], [.ref 118], (h.1, qm_up (qm_up (qm_up I 121 c.toInt.toNat 3) 122 c.toInt.toNat i) 123 c.toInt.toNat 0, J, h.2.2.2))) rfl ?_
                      refine hp_getr rfl (hH.1 118 (17, 105) rfl) rfl (hH.2 118 8 (some 124) rfl) ?_
                      refine qm_Rp.go 1 (c' := (35, [.ref 118, .int 3, .int i, .int 0, .long nm, .float 0], [.ref 118, .ref 124], (h.1, qm_up (qm_up (qm_up I 121 c.toInt.toNat 3) 122 c.toInt.toNat i) 123 c.toInt.toNat 0, J, h.2.2.2))) rfl ?_
                      refine hp_geti (v := c) rfl (hH.1 118 (17, 105) rfl) rfl (show (qm_up (qm_up (qm_up I 121 c.toInt.toNat 3) 122 c.toInt.toNat i) 123 c.toInt.toNat 0) 118 10 = _ from ((hk_ot rfl).trans ((hk_ot rfl).trans ((hk_ot rfl).trans q_c)))) ?_
                      refine qm_Rp.go 1 (c' := (40, [.ref 118, .int 3, .int i, .int 0, .long nm, .float 0], [.long nm, .int c, .ref 124], (h.1, qm_up (qm_up (qm_up I 121 c.toInt.toNat 3) 122 c.toInt.toNat i) 123 c.toInt.toNat 0, J, h.2.2.2))) rfl ?_
                      refine hp_las rfl (hH.1 124 (3, 403) rfl) (fun ia_250 ib_250 => ?_)
                      refine qm_Rp.go 2 (c' := (43, [.ref 118, .int 3, .int i, .int 0, .long nm, .float 0], [.ref 118, .ref 118], (h.1, qm_up (qm_up (qm_up I 121 c.toInt.toNat 3) 122 c.toInt.toNat i) 123 c.toInt.toNat 0, qm_up J 124 c.toInt.toNat nm, h.2.2.2))) rfl ?_
                      refine hp_geti (v := c) rfl (hH.1 118 (17, 105) rfl) rfl (show (qm_up (qm_up (qm_up I 121 c.toInt.toNat 3) 122 c.toInt.toNat i) 123 c.toInt.toNat 0) 118 10 = _ from ((hk_ot rfl).trans ((hk_ot rfl).trans ((hk_ot rfl).trans q_c)))) ?_
                      refine qm_Rp.go 2 (c' := (48, [.ref 118, .int 3, .int i, .int 0, .long nm, .float 0], [.int (c + 1), .ref 118], (h.1, qm_up (qm_up (qm_up I 121 c.toInt.toNat 3) 122 c.toInt.toNat i) 123 c.toInt.toNat 0, qm_up J 124 c.toInt.toNat nm, h.2.2.2))) rfl ?_
                      obtain ⟨v252, q_v252, e_v252⟩ := hk_add (x := c) (y := 1) (a := c.toInt) (b := 1) rfl rfl (by omega) (by omega)
                      rw [q_v252]
                      refine hp_puti rfl (hH.1 118 (17, 105) rfl) rfl ?_
                      refine qm_Rp.go 0 (c' := (51, [.ref 118, .int 3, .int i, .int 0, .long nm, .float 0], [], (h.1, qm_up (qm_up (qm_up (qm_up I 121 c.toInt.toNat 3) 122 c.toInt.toNat i) 123 c.toInt.toNat 0) 118 10 v252, qm_up J 124 c.toInt.toNat nm, h.2.2.2))) rfl ?_
                      refine qm_Rp.rt (v := none) (h' := (h.1, qm_up (qm_up (qm_up (qm_up I 121 c.toInt.toNat 3) 122 c.toInt.toNat i) 123 c.toInt.toNat 0) 118 10 v252, qm_up J 124 c.toInt.toNat nm, h.2.2.2)) rfl ?_
                      refine qm_Rp.go 3 (c' := (192, [.ref 118, .int i, .int c2, .int m, .long nm, .float 0, .int 3, l7], [.int (i + m)], (h.1, qm_up (qm_up (qm_up (qm_up I 121 c.toInt.toNat 3) 122 c.toInt.toNat i) 123 c.toInt.toNat 0) 118 10 v252, qm_up J 124 c.toInt.toNat nm, h.2.2.2))) rfl ?_
                      obtain ⟨v253, q_v253, e_v253⟩ := hk_add (x := i) (y := m) (a := i.toInt) (b := m.toInt) rfl rfl (by omega) (by omega)
                      rw [q_v253]
                      refine qm_Rp.go 3 (c' := (7, [.ref 118, .int v253, .int c2, .int m, .long nm, .float 0, .int 3, l7], [], (h.1, qm_up (qm_up (qm_up (qm_up I 121 c.toInt.toNat 3) 122 c.toInt.toNat i) 123 c.toInt.toNat 0) 118 10 v252, qm_up J 124 c.toInt.toNat nm, h.2.2.2))) rfl ?_
                      have A_A254 : rA (h.2.1 120) n.toInt.toNat ((qm_up (qm_up (qm_up (qm_up I 121 c.toInt.toNat 3) 122 c.toInt.toNat i) 123 c.toInt.toNat 0) 118 10 v252) 121) ((qm_up (qm_up (qm_up (qm_up I 121 c.toInt.toNat 3) 122 c.toInt.toNat i) 123 c.toInt.toNat 0) 118 10 v252) 122) ((qm_up (qm_up (qm_up (qm_up I 121 c.toInt.toNat 3) 122 c.toInt.toNat i) 123 c.toInt.toNat 0) 118 10 v252) 123) ((qm_up J 124 c.toInt.toNat nm) 124) v252.toInt.toNat := rA_s (c := c.toInt.toNat) hA (fun y hy => ⟨((hk_ot rfl).trans ((hk_ot rfl).trans ((hk_ot rfl).trans ((hk_neq hy).trans rfl)))), ((hk_ot rfl).trans ((hk_ot rfl).trans ((hk_neq hy).trans ((hk_ot rfl).trans rfl)))), ((hk_ot rfl).trans ((hk_neq hy).trans ((hk_ot rfl).trans ((hk_ot rfl).trans rfl)))), ((hj_neq hy).trans rfl)⟩) (by omega) (by rw [(show (qm_up (qm_up (qm_up (qm_up I 121 c.toInt.toNat 3) 122 c.toInt.toNat i) 123 c.toInt.toNat 0) 118 10 v252) 121 c.toInt.toNat = _ from ((hk_ot rfl).trans ((hk_ot rfl).trans ((hk_ot rfl).trans (hk_same)))))]; exact (by rw [hTK.1, if_pos (by omega)]; rfl)) (by rw [(show (qm_up (qm_up (qm_up (qm_up I 121 c.toInt.toNat 3) 122 c.toInt.toNat i) 123 c.toInt.toNat 0) 118 10 v252) 122 c.toInt.toNat = _ from ((hk_ot rfl).trans ((hk_ot rfl).trans (hk_same))))]; omega) (fun z => by rw [(show (qm_up (qm_up (qm_up (qm_up I 121 c.toInt.toNat 3) 122 c.toInt.toNat i) 123 c.toInt.toNat 0) 118 10 v252) 123 c.toInt.toNat = _ from ((hk_ot rfl).trans (hk_same)))]; rw [hTK.1] at z; exfalso; split at z <;> omega) (fun z => by rw [(show (qm_up J 124 c.toInt.toNat nm) 124 c.toInt.toNat = _ from (hj_same))]; rw [hTK.2.2.2])
                      have eC : v252.toInt.toNat = c.toInt.toNat + 1 := by omega
                      exact ih g2 (by omega) (qm_up (qm_up (qm_up (qm_up I 121 c.toInt.toNat 3) 122 c.toInt.toNat i) 123 c.toInt.toNat 0) 118 10 v252) (qm_up J 124 c.toInt.toNat nm) v252 v253 (fun o ho i => ((hk_mod ho rfl).trans ((hk_mod ho rfl).trans ((hk_mod ho rfl).trans ((hk_mod ho rfl).trans ((e o (hk_ms rfl ho) i).trans rfl)))))) (fun i hi => ((hk_neq (fun z => by subst z; cases hi)).trans ((hk_ot rfl).trans ((hk_ot rfl).trans ((hk_ot rfl).trans ((e8 i (hk_ms rfl hi)).trans rfl)))))) (fun o ho i => ((hj_mod ho rfl).trans ((ej o (hk_ms rfl ho) i).trans rfl))) (show (qm_up (qm_up (qm_up (qm_up I 121 c.toInt.toNat 3) 122 c.toInt.toNat i) 123 c.toInt.toNat 0) 118 10 v252) 118 10 = _ from (hk_same)) A_A254 (fun y hy => by
                        by_cases c9 : y = c.toInt.toNat
                        · rw [c9, hTK.1]; split <;> omega
                        · exact hno y (by omega)) (by omega) (by omega) (by rw [eC]; show skp (h.2.1 120) n.toInt.toNat _ = skp (h.2.1 120) n.toInt.toNat (tP (h.2.1 120) n.toInt.toNat (c.toInt.toNat + 1)); rw [hTK.2.1]; congr 1; omega) _ _ _ _ _ _
              · refine qm_Rp.go 1 (c' := (70, [.ref 118, .int (i + 1), .int c2, l3, l4, l5, l6, l7], [], (h.1, I, J, h.2.2.2))) rfl ?_
                obtain ⟨v255, q_v255, e_v255⟩ := hk_add (x := i) (y := 1) (a := i.toInt) (b := 1) rfl rfl (by omega) (by omega)
                rw [q_v255]
                refine qm_Rp.go 2 (c' := (7, [.ref 118, .int v255, .int c2, l3, l4, l5, l6, l7], [], (h.1, I, J, h.2.2.2))) rfl ?_
                exact ih g (by omega) (I) (J) c v255 (fun o ho i => ((e o (hk_ms rfl ho) i).trans rfl)) (fun i hi => ((e8 i (hk_ms rfl hi)).trans rfl)) (fun o ho i => ((ej o (hk_ms rfl ho) i).trans rfl)) q_c hA hno hc (by omega) ((skp_y (b := b3) (by omega) q_b3 (by omega) (by omega)).symm.trans hS) _ _ _ _ _ _
      · refine qm_Rp.go 0 (c' := (31, [.ref 118, .int i, .int c2, l3, l4, l5, l6, l7], [], (h.1, I, J, h.2.2.2))) rfl ?_
        have hs9 : tS (h.2.1 120) n.toInt.toNat c.toInt.toNat = i.toInt.toNat := hS.symm.trans (skp_e (by omega))
        have hTK := tK_def hs9 (tR_end (by omega))
        have hK37 : tK (h.2.1 120) n.toInt.toNat c.toInt.toNat = 37 := hTK.1
        refine qm_Rp.go 3 (c' := (34, [.ref 118, .int i, .int c2, l3, l4, l5, l6, l7], [.ref 118, .int 0, .ref 118], (h.1, I, J, h.2.2.2))) rfl ?_
        refine hp_geti (v := n) rfl (hH.1 118 (17, 105) rfl) rfl (show (I) 118 4 = _ from ((e8 4 rfl).trans q_n)) ?_
        refine qm_Rp.go 2 (c' := (39, [.ref 118, .int i, .int c2, l3, l4, l5, l6, l7], [.long (0 : Int64), .int 0, .int n, .int 0, .ref 118], (h.1, I, J, h.2.2.2))) rfl ?_
        refine hp_inv (o := 118) (r := []) (as := [.ref 118, .int 0, .int n, .int 0, .long (0 : Int64)]) rfl rfl (hH.1 118 (17, 105) rfl) rfl rfl rfl ?_
        refine qm_Rp.go 1 (c' := (1, [.ref 118, .int 0, .int n, .int 0, .long (0 : Int64), .float 0], [.ref 118], (h.1, I, J, h.2.2.2))) rfl ?_
        refine hp_getr rfl (hH.1 118 (17, 105) rfl) rfl (hH.2 118 5 (some 121) rfl) ?_
        refine qm_Rp.go 1 (c' := (5, [.ref 118, .int 0, .int n, .int 0, .long (0 : Int64), .float 0], [.ref 118, .ref 121], (h.1, I, J, h.2.2.2))) rfl ?_
        refine hp_geti (v := c) rfl (hH.1 118 (17, 105) rfl) rfl q_c ?_
        refine qm_Rp.go 1 (c' := (9, [.ref 118, .int 0, .int n, .int 0, .long (0 : Int64), .float 0], [.int 0, .int c, .ref 121], (h.1, I, J, h.2.2.2))) rfl ?_
        refine hp_ias rfl (hH.1 121 (0, 403) rfl) (fun ia_255 ib_255 => ?_)
        refine qm_Rp.go 1 (c' := (11, [.ref 118, .int 0, .int n, .int 0, .long (0 : Int64), .float 0], [.ref 118], (h.1, qm_up I 121 c.toInt.toNat 0, J, h.2.2.2))) rfl ?_
        refine hp_getr rfl (hH.1 118 (17, 105) rfl) rfl (hH.2 118 6 (some 122) rfl) ?_
        refine qm_Rp.go 1 (c' := (15, [.ref 118, .int 0, .int n, .int 0, .long (0 : Int64), .float 0], [.ref 118, .ref 122], (h.1, qm_up I 121 c.toInt.toNat 0, J, h.2.2.2))) rfl ?_
        refine hp_geti (v := c) rfl (hH.1 118 (17, 105) rfl) rfl (show (qm_up I 121 c.toInt.toNat 0) 118 10 = _ from ((hk_ot rfl).trans q_c)) ?_
        refine qm_Rp.go 1 (c' := (19, [.ref 118, .int 0, .int n, .int 0, .long (0 : Int64), .float 0], [.int n, .int c, .ref 122], (h.1, qm_up I 121 c.toInt.toNat 0, J, h.2.2.2))) rfl ?_
        refine hp_ias rfl (hH.1 122 (0, 403) rfl) (fun ia_256 ib_256 => ?_)
        refine qm_Rp.go 1 (c' := (21, [.ref 118, .int 0, .int n, .int 0, .long (0 : Int64), .float 0], [.ref 118], (h.1, qm_up (qm_up I 121 c.toInt.toNat 0) 122 c.toInt.toNat n, J, h.2.2.2))) rfl ?_
        refine hp_getr rfl (hH.1 118 (17, 105) rfl) rfl (hH.2 118 7 (some 123) rfl) ?_
        refine qm_Rp.go 1 (c' := (25, [.ref 118, .int 0, .int n, .int 0, .long (0 : Int64), .float 0], [.ref 118, .ref 123], (h.1, qm_up (qm_up I 121 c.toInt.toNat 0) 122 c.toInt.toNat n, J, h.2.2.2))) rfl ?_
        refine hp_geti (v := c) rfl (hH.1 118 (17, 105) rfl) rfl (show (qm_up (qm_up I 121 c.toInt.toNat 0) 122 c.toInt.toNat n) 118 10 = _ from ((hk_ot rfl).trans ((hk_ot rfl).trans q_c))) ?_
        refine qm_Rp.go 1 (c' := (29, [.ref 118, .int 0, .int n, .int 0, .long (0 : Int64), .float 0], [.int 0, .int c, .ref 123], (h.1, qm_up (qm_up I 121 c.toInt.toNat 0) 122 c.toInt.toNat n, J, h.2.2.2))) rfl ?_
        refine hp_ias rfl (hH.1 123 (0, 403) rfl) (fun ia_257 ib_257 => ?_)
        refine qm_Rp.go 1 (c' := (31, [.ref 118, .int 0, .int n, .int 0, .long (0 : Int64), .float 0], [.ref 118], (h.1, qm_up (qm_up (qm_up I 121 c.toInt.toNat 0) 122 c.toInt.toNat n) 123 c.toInt.toNat 0, J, h.2.2.2))) rfl ?_
        refine hp_getr rfl (hH.1 118 (17, 105) rfl) rfl (hH.2 118 8 (some 124) rfl) ?_
        refine qm_Rp.go 1 (c' := (35, [.ref 118, .int 0, .int n, .int 0, .long (0 : Int64), .float 0], [.ref 118, .ref 124], (h.1, qm_up (qm_up (qm_up I 121 c.toInt.toNat 0) 122 c.toInt.toNat n) 123 c.toInt.toNat 0, J, h.2.2.2))) rfl ?_
        refine hp_geti (v := c) rfl (hH.1 118 (17, 105) rfl) rfl (show (qm_up (qm_up (qm_up I 121 c.toInt.toNat 0) 122 c.toInt.toNat n) 123 c.toInt.toNat 0) 118 10 = _ from ((hk_ot rfl).trans ((hk_ot rfl).trans ((hk_ot rfl).trans q_c)))) ?_
        refine qm_Rp.go 1 (c' := (40, [.ref 118, .int 0, .int n, .int 0, .long (0 : Int64), .float 0], [.long (0 : Int64), .int c, .ref 124], (h.1, qm_up (qm_up (qm_up I 121 c.toInt.toNat 0) 122 c.toInt.toNat n) 123 c.toInt.toNat 0, J, h.2.2.2))) rfl ?_
        refine hp_las rfl (hH.1 124 (3, 403) rfl) (fun ia_258 ib_258 => ?_)
        refine qm_Rp.go 2 (c' := (43, [.ref 118, .int 0, .int n, .int 0, .long (0 : Int64), .float 0], [.ref 118, .ref 118], (h.1, qm_up (qm_up (qm_up I 121 c.toInt.toNat 0) 122 c.toInt.toNat n) 123 c.toInt.toNat 0, qm_up J 124 c.toInt.toNat (0 : Int64), h.2.2.2))) rfl ?_
        refine hp_geti (v := c) rfl (hH.1 118 (17, 105) rfl) rfl (show (qm_up (qm_up (qm_up I 121 c.toInt.toNat 0) 122 c.toInt.toNat n) 123 c.toInt.toNat 0) 118 10 = _ from ((hk_ot rfl).trans ((hk_ot rfl).trans ((hk_ot rfl).trans q_c)))) ?_
        refine qm_Rp.go 2 (c' := (48, [.ref 118, .int 0, .int n, .int 0, .long (0 : Int64), .float 0], [.int (c + 1), .ref 118], (h.1, qm_up (qm_up (qm_up I 121 c.toInt.toNat 0) 122 c.toInt.toNat n) 123 c.toInt.toNat 0, qm_up J 124 c.toInt.toNat (0 : Int64), h.2.2.2))) rfl ?_
        obtain ⟨v260, q_v260, e_v260⟩ := hk_add (x := c) (y := 1) (a := c.toInt) (b := 1) rfl rfl (by omega) (by omega)
        rw [q_v260]
        refine hp_puti rfl (hH.1 118 (17, 105) rfl) rfl ?_
        refine qm_Rp.go 0 (c' := (51, [.ref 118, .int 0, .int n, .int 0, .long (0 : Int64), .float 0], [], (h.1, qm_up (qm_up (qm_up (qm_up I 121 c.toInt.toNat 0) 122 c.toInt.toNat n) 123 c.toInt.toNat 0) 118 10 v260, qm_up J 124 c.toInt.toNat (0 : Int64), h.2.2.2))) rfl ?_
        refine qm_Rp.rt (v := none) (h' := (h.1, qm_up (qm_up (qm_up (qm_up I 121 c.toInt.toNat 0) 122 c.toInt.toNat n) 123 c.toInt.toNat 0) 118 10 v260, qm_up J 124 c.toInt.toNat (0 : Int64), h.2.2.2)) rfl ?_
        refine qm_Rp.go 0 (c' := (42, [.ref 118, .int i, .int c2, l3, l4, l5, l6, l7], [], (h.1, qm_up (qm_up (qm_up (qm_up I 121 c.toInt.toNat 0) 122 c.toInt.toNat n) 123 c.toInt.toNat 0) 118 10 v260, qm_up J 124 c.toInt.toNat (0 : Int64), h.2.2.2))) rfl ?_
        refine qm_Rp.rt (v := none) (h' := (h.1, qm_up (qm_up (qm_up (qm_up I 121 c.toInt.toNat 0) 122 c.toInt.toNat n) 123 c.toInt.toNat 0) 118 10 v260, qm_up J 124 c.toInt.toNat (0 : Int64), h.2.2.2)) rfl ?_
        have A_A261 : rA (h.2.1 120) n.toInt.toNat ((qm_up (qm_up (qm_up (qm_up I 121 c.toInt.toNat 0) 122 c.toInt.toNat n) 123 c.toInt.toNat 0) 118 10 v260) 121) ((qm_up (qm_up (qm_up (qm_up I 121 c.toInt.toNat 0) 122 c.toInt.toNat n) 123 c.toInt.toNat 0) 118 10 v260) 122) ((qm_up (qm_up (qm_up (qm_up I 121 c.toInt.toNat 0) 122 c.toInt.toNat n) 123 c.toInt.toNat 0) 118 10 v260) 123) ((qm_up J 124 c.toInt.toNat (0 : Int64)) 124) (c.toInt.toNat + 1) := rA_s (c := c.toInt.toNat) hA (fun y hy => ⟨((hk_ot rfl).trans ((hk_ot rfl).trans ((hk_ot rfl).trans ((hk_neq hy).trans rfl)))), ((hk_ot rfl).trans ((hk_ot rfl).trans ((hk_neq hy).trans ((hk_ot rfl).trans rfl)))), ((hk_ot rfl).trans ((hk_neq hy).trans ((hk_ot rfl).trans ((hk_ot rfl).trans rfl)))), ((hj_neq hy).trans rfl)⟩) (by omega) (by rw [(show (qm_up (qm_up (qm_up (qm_up I 121 c.toInt.toNat 0) 122 c.toInt.toNat n) 123 c.toInt.toNat 0) 118 10 v260) 121 c.toInt.toNat = _ from ((hk_ot rfl).trans ((hk_ot rfl).trans ((hk_ot rfl).trans (hk_same)))))]; exact (by rw [hTK.1]; rfl)) (by rw [(show (qm_up (qm_up (qm_up (qm_up I 121 c.toInt.toNat 0) 122 c.toInt.toNat n) 123 c.toInt.toNat 0) 118 10 v260) 122 c.toInt.toNat = _ from ((hk_ot rfl).trans ((hk_ot rfl).trans (hk_same))))]; omega) (fun z => by rw [(show (qm_up (qm_up (qm_up (qm_up I 121 c.toInt.toNat 0) 122 c.toInt.toNat n) 123 c.toInt.toNat 0) 118 10 v260) 123 c.toInt.toNat = _ from ((hk_ot rfl).trans (hk_same)))]; rw [hTK.1] at z; exact absurd z (by decide)) (fun z => by rw [(show (qm_up J 124 c.toInt.toNat (0 : Int64)) 124 c.toInt.toNat = _ from (hj_same))]; rw [hTK.1] at z; exact absurd z (by decide))
        exact k (qm_up (qm_up (qm_up (qm_up I 121 c.toInt.toNat 0) 122 c.toInt.toNat n) 123 c.toInt.toNat 0) 118 10 v260) (qm_up J 124 c.toInt.toNat (0 : Int64)) (fun o ho i => ((hk_mod ho rfl).trans ((hk_mod ho rfl).trans ((hk_mod ho rfl).trans ((hk_mod ho rfl).trans ((e o (hk_ms rfl ho) i).trans rfl)))))) (fun i hi => ((hk_neq (fun z => by subst z; cases hi)).trans ((hk_ot rfl).trans ((hk_ot rfl).trans ((hk_ot rfl).trans ((e8 i (hk_ms rfl hi)).trans rfl)))))) (fun o ho i => ((hj_mod ho rfl).trans ((ej o (hk_ms rfl ho) i).trans rfl))) (fun y hy hno2 z hz => A_A261 z (by
          rcases Nat.lt_or_ge c.toInt.toNat y with c9 | c9
          · exact absurd hK37 (hno2 _ c9)
          · omega))
theorem px_cut {X : Option (Nat × (Nat → Int32))} {Z : Option Value → qm_H → Prop} {h : qm_H} {fu : Nat} (hH : hk_H h) (hB : ∀ i, (-128 : Int) ≤ (h.2.1 120 i).toInt ∧ (h.2.1 120 i).toInt ≤ 127) {n : Int32} (q_n : h.2.1 118 4 = n) (hn : 0 ≤ n.toInt ∧ n.toInt ≤ 2000) (hKey : ∀ y : Nat, y < 25 → h.2.2.1 125 y = kwL.getD y 0) (k : ∀ (I : Nat → Nat → Int32) (J : Nat → Nat → Int64), (∀ o, [118, 121, 122, 123].contains o = false → ∀ i, I o i = h.2.1 o i) → (∀ i, [10].contains i = false → I 118 i = h.2.1 118 i) → (∀ o, [124].contains o = false → ∀ i, J o i = h.2.2.1 o i) → (∀ y, y ≤ 400 → (∀ z, z < y → tK (h.2.1 120) n.toInt.toNat z ≠ 37) → rA (h.2.1 120) n.toInt.toNat (I 121) (I 122) (I 123) (J 124) (y + 1)) → Z none (h.1, I, J, h.2.2.2)) : qm_Rp fu X cd_249 (qm_ent 8 [.ref 118] h) Z := by
  refine qm_Rp.go 2 (c' := (2, [.ref 118, .float 0, .float 0, .float 0, .float 0, .float 0, .float 0, .float 0], [.int 0, .ref 118], h)) rfl ?_
  refine hp_puti rfl (hH.1 118 (17, 105) rfl) rfl ?_
  refine qm_Rp.go 2 (c' := (7, [.ref 118, .int 0, .float 0, .float 0, .float 0, .float 0, .float 0, .float 0], [], (h.1, qm_up h.2.1 118 10 0, h.2.2.1, h.2.2.2))) rfl ?_
  exact px_cutl hH hB q_n hn hKey k fu (qm_up h.2.1 118 10 0) h.2.2.1 0 0 (fun o ho i => hk_mod ho rfl) (fun i hi => hk_neq (fun z => by subst z; cases hi)) (fun _ _ _ => rfl) hk_same (fun y hy => absurd hy (Nat.not_lt_zero y)) (fun y hy => absurd hy (Nat.not_lt_zero y)) ⟨by decide, by decide⟩ ⟨by decide, hn.1⟩ rfl _ _ _ _ _ _
