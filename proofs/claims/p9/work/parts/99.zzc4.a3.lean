/-- the place of the box that is had first -/
noncomputable def kV (c : Nat → Int) (lo : Int) : Int := if c (lo + 1).toNat = -1 then lo else lo + 1
/-- how many are lifted -/
noncomputable def mV (c tk : Nat → Int) (lo : Int) : Int := if tk (c (kV c lo).toNat).toNat ≠ 0 ∧ kV c lo ≠ lo then 2 else 1
/-- what unloading answers -/
noncomputable def unlV (y B x g lo : Int) (c tk w hi : Nat → Int) (lift : Int) (ok : Bool) : Int := if 0 ≤ y ∧ y < B ∧ 0 ≤ x ∧ x ≤ 3 ∧ -1 ≤ g ∧ g ≤ 3 then (if c (kV c lo).toNat = -1 then -1 else if g ≠ -1 ∧ 4 < hi g.toNat + mV c tk lo then -1 else if lift < w (c (kV c lo).toNat).toNat + (if mV c tk lo = 2 then w (c lo.toNat).toNat else 0) then -2 else if ok = true then mV c tk lo else -3) else -1
/-- where the boxes are behind it -/
noncomputable def whU (c tk wh : Nat → Int) (lo : Int) : Nat → Int := if mV c tk lo = 2 then fu_up (fu_up wh (c (lo + 1).toNat).toNat 0) (c lo.toNat).toNat 0 else fu_up wh (c (kV c lo).toNat).toNat 0
section UNL
variable {y B x g lo : Int} {c tk w hi : Nat → Int} {lift : Int} {ok : Bool}
theorem unl_a (h : ¬ (0 ≤ y ∧ y < B ∧ 0 ≤ x ∧ x ≤ 3 ∧ -1 ≤ g ∧ g ≤ 3)) : unlV y B x g lo c tk w hi lift ok = -1 := if_neg h
theorem unl_b (h : 0 ≤ y ∧ y < B ∧ 0 ≤ x ∧ x ≤ 3 ∧ -1 ≤ g ∧ g ≤ 3) (h1 : c (kV c lo).toNat = -1) : unlV y B x g lo c tk w hi lift ok = -1 := by
  unfold unlV
  rw [if_pos h, if_pos h1]
theorem unl_c (h : 0 ≤ y ∧ y < B ∧ 0 ≤ x ∧ x ≤ 3 ∧ -1 ≤ g ∧ g ≤ 3) (h1 : ¬ c (kV c lo).toNat = -1) (h2 : g ≠ -1 ∧ 4 < hi g.toNat + mV c tk lo) : unlV y B x g lo c tk w hi lift ok = -1 := by
  unfold unlV
  rw [if_pos h, if_neg h1, if_pos h2]
theorem unl_d (h : 0 ≤ y ∧ y < B ∧ 0 ≤ x ∧ x ≤ 3 ∧ -1 ≤ g ∧ g ≤ 3) (h1 : ¬ c (kV c lo).toNat = -1) (h2 : ¬ (g ≠ -1 ∧ 4 < hi g.toNat + mV c tk lo)) (h3 : lift < w (c (kV c lo).toNat).toNat + (if mV c tk lo = 2 then w (c lo.toNat).toNat else 0)) : unlV y B x g lo c tk w hi lift ok = -2 := by
  unfold unlV
  rw [if_pos h, if_neg h1, if_neg h2, if_pos h3]
theorem unl_e (h : 0 ≤ y ∧ y < B ∧ 0 ≤ x ∧ x ≤ 3 ∧ -1 ≤ g ∧ g ≤ 3) (h1 : ¬ c (kV c lo).toNat = -1) (h2 : ¬ (g ≠ -1 ∧ 4 < hi g.toNat + mV c tk lo)) (h3 : ¬ lift < w (c (kV c lo).toNat).toNat + (if mV c tk lo = 2 then w (c lo.toNat).toNat else 0)) (h4 : ok = false) : unlV y B x g lo c tk w hi lift ok = -3 := by
  unfold unlV
  rw [if_pos h, if_neg h1, if_neg h2, if_neg h3, h4]
  rfl
theorem unl_f (h : 0 ≤ y ∧ y < B ∧ 0 ≤ x ∧ x ≤ 3 ∧ -1 ≤ g ∧ g ≤ 3) (h1 : ¬ c (kV c lo).toNat = -1) (h2 : ¬ (g ≠ -1 ∧ 4 < hi g.toNat + mV c tk lo)) (h3 : ¬ lift < w (c (kV c lo).toNat).toNat + (if mV c tk lo = 2 then w (c lo.toNat).toNat else 0)) (h4 : ok = true) : unlV y B x g lo c tk w hi lift ok = mV c tk lo := by
  unfold unlV
  rw [if_pos h, if_neg h1, if_neg h2, if_neg h3, h4]
  rfl
end UNL
theorem kV_0 {c : Nat → Int} {lo : Int} (h : c (lo + 1).toNat = -1) : kV c lo = lo := if_pos h
theorem kV_1 {c : Nat → Int} {lo : Int} (h : ¬ c (lo + 1).toNat = -1) : kV c lo = lo + 1 := if_neg h
theorem mV_2 {c tk : Nat → Int} {lo : Int} (h1 : ¬ c (lo + 1).toNat = -1) (h2 : tk (c (lo + 1).toNat).toNat ≠ 0) : mV c tk lo = 2 := by
  unfold mV
  rw [kV_1 h1, if_pos ⟨h2, by omega⟩]
theorem mV_1a {c tk : Nat → Int} {lo : Int} (h1 : c (lo + 1).toNat = -1) : mV c tk lo = 1 := by
  unfold mV
  rw [kV_0 h1, if_neg (fun z => z.2 rfl)]
theorem mV_1b {c tk : Nat → Int} {lo : Int} (h1 : ¬ c (lo + 1).toNat = -1) (h2 : tk (c (lo + 1).toNat).toNat = 0) : mV c tk lo = 1 := by
  unfold mV
  rw [kV_1 h1, if_neg (fun z => z.1 h2)]
theorem fu_4 {f : Nat → Int} {p q : Nat} {a b u v : Int} (hne : q ≠ p) (h1 : f p = u) (h2 : f q = v) : fu_up (fu_up (fu_up (fu_up f p a) q b) p u) q v = f := funext fun i => by
  by_cases e : i = q
  · subst e
    rw [fu_eq, h2]
  · rw [fu_ne e]
    by_cases e2 : i = p
    · subst e2
      rw [fu_eq, h1]
    · rw [fu_ne e2, fu_ne e, fu_ne e2]
theorem fu_x {f : Nat → Int} {p q : Nat} {a b u v : Int} : fu_up (fu_up (fu_up (fu_up f p a) q b) q u) p v = fu_up (fu_up f q u) p v := funext fun i => by
  by_cases e : i = p
  · subst e
    rw [fu_eq, fu_eq]
  · rw [fu_ne e, fu_ne e]
    by_cases e2 : i = q
    · subst e2
      rw [fu_eq, fu_eq]
    · rw [fu_ne e2, fu_ne e2, fu_ne e2, fu_ne e]
set_option maxHeartbeats 4000000 in
theorem px_unB01 {X : Option (Nat × (Nat → Int32))} {Z : Option Value → qm_H → Prop} {h : qm_H} {fu : Nat} (hH : hk_H h) {n y x g cv l lo k b : Int32} {tk : Nat → Int} {w wh sp : Nat → Int} (eW : pI h.2.1 146 = w) (eH : pI h.2.1 150 = wh) (eS : pI h.2.1 151 = sp) (q_n : h.2.1 118 44 = n) (hn : 0 ≤ n.toInt ∧ n.toInt ≤ 30) (hw : ∀ b, 0 ≤ w b ∧ w b ≤ 40) (hs : ∀ b, 0 ≤ sp b ∧ sp b ≤ 79) {B : Int32} (q_lv : h.2.1 118 18 = 0) (q_B : h.2.1 127 0 = B) (hB : 1 ≤ B.toInt ∧ B.toInt ≤ 5) {g0 g1 g2 : Int32} (q_g0 : h.2.1 128 0 = g0) (q_g1 : h.2.1 128 1 = g1) (q_g2 : h.2.1 128 2 = g2) {c yc hi : Nat → Int} (eC : pI h.2.1 152 = c) (eY : pI h.2.1 153 = yc) (eI : pI h.2.1 154 = hi) (hi4 : ∀ x, 0 ≤ hi x ∧ hi x ≤ 4) (eK : pI h.2.1 149 = tk) (q_cv : h.2.1 118 54 = cv) (q_l : h.2.1 129 0 = l) (hc : ∀ k, -1 ≤ c k ∧ c k ≤ 29) (hA : ∀ k : Nat, k < 80 → 0 ≤ c k → wh (c k).toNat = 1 ∧ sp (c k).toNat = (k : Int)) (hb2 : ∀ q : Nat, q < 40 → 0 ≤ c (2 * q + 1) → 0 ≤ c (2 * q)) (k0 : ∀ (I : Nat → Nat → Int32) (r : Int32), (∀ o, [150, 151, 152, 153, 154, 155, 156].contains o = false → ∀ i, I o i = h.2.1 o i) → r.toInt = unlV y.toInt B.toInt x.toInt g.toInt (lowV cv y x.toInt) c tk w hi l.toInt (okb (mayP B.toInt g0.toInt g1.toInt g2.toInt (ab (zL w wh sp n.toInt.toNat)) (ab (zT B.toInt w wh sp n.toInt.toNat)) (zD B.toInt w wh sp n.toInt.toNat) w (whU c tk wh (lowV cv y x.toInt)) sp n.toInt.toNat)) → r.toInt < 0 → pI I 150 = wh → pI I 151 = sp → pI I 152 = c → pI I 153 = yc → pI I 154 = hi → Z (some (.int r)) (h.1, I, h.2.2.1, h.2.2.2)) (k1 : ∀ (I : Nat → Nat → Int32), (∀ o, [150, 151, 152, 153, 154, 155, 156].contains o = false → ∀ i, I o i = h.2.1 o i) → (1 : Int) = unlV y.toInt B.toInt x.toInt g.toInt (lowV cv y x.toInt) c tk w hi l.toInt (okb (mayP B.toInt g0.toInt g1.toInt g2.toInt (ab (zL w wh sp n.toInt.toNat)) (ab (zT B.toInt w wh sp n.toInt.toNat)) (zD B.toInt w wh sp n.toInt.toNat) w (whU c tk wh (lowV cv y x.toInt)) sp n.toInt.toNat)) → pI I 150 = fu_up wh (c (kV c (lowV cv y x.toInt)).toNat).toNat (if g.toInt = -1 then 0 else 2) → pI I 151 = (if g.toInt = -1 then sp else fu_up sp (c (kV c (lowV cv y x.toInt)).toNat).toNat (4 * g.toInt + hi g.toInt.toNat)) → pI I 152 = fu_up c (kV c (lowV cv y x.toInt)).toNat (-1) → pI I 153 = (if g.toInt = -1 then yc else fu_up yc (4 * g.toInt + hi g.toInt.toNat).toNat (c (kV c (lowV cv y x.toInt)).toNat)) → pI I 154 = (if g.toInt = -1 then hi else fu_up hi g.toInt.toNat (hi g.toInt.toNat + 1)) → Z (some (.int 1)) (h.1, I, h.2.2.1, h.2.2.2)) (by_ : 0 ≤ y.toInt ∧ y.toInt < B.toInt) (bx_ : 0 ≤ x.toInt ∧ x.toInt ≤ 3) (bg_ : -1 ≤ g.toInt ∧ g.toInt ≤ 3) (bl_ : 0 ≤ lo.toInt ∧ lo.toInt ≤ 78) (bk_ : 0 ≤ k.toInt ∧ k.toInt ≤ 79) (bb_ : 0 ≤ b.toInt ∧ b.toInt ≤ 29) (el : lowV cv y x.toInt = lo.toInt) (ek : kV c lo.toInt = k.toInt) (eb : c k.toInt.toNat = b.toInt) (em : mV c tk lo.toInt = 1) (ab1 : wh b.toInt.toNat = 1 ∧ sp b.toInt.toNat = (k.toInt.toNat : Int)) (ek_b : sp b.toInt.toNat = k.toInt) : qm_Rp fu X cd_298 (137, [.ref 118, .int y, .int x, .int g, .int lo, .int k, .int b, .int (-1), .int 1], [], h) Z := by
  have kz0 : (0 : Int32).toInt = 0 := rfl
  have kz1 : (1 : Int32).toInt = 1 := rfl
  have kz2 : (2 : Int32).toInt = 2 := rfl
  have kz3 : (3 : Int32).toInt = 3 := rfl
  have kz4 : (4 : Int32).toInt = 4 := rfl
  have kz5 : (5 : Int32).toInt = 5 := rfl
  have kz6 : (6 : Int32).toInt = 6 := rfl
  have kz7 : (7 : Int32).toInt = 7 := rfl
  have kz8 : (8 : Int32).toInt = 8 := rfl
  have kz9 : (9 : Int32).toInt = 9 := rfl
  have kzm1 : ((-1) : Int32).toInt = (-1) := rfl
  have kzm2 : ((-2) : Int32).toInt = (-2) := rfl
  have kzm3 : ((-3) : Int32).toInt = (-3) := rfl
  refine qm_Rp.go 2 (c' := (139, [.ref 118, .int y, .int x, .int g, .int lo, .int k, .int b, .int (-1), .int 1], [.int (-1), .int g], h)) rfl ?_
  refine hp_ceq (ix := g.toInt) (iy := (-1)) rfl rfl rfl (fun z1 => ?_) (fun z1 => ?_)
  · refine qm_Rp.go 1 (c' := (158, [.ref 118, .int y, .int x, .int g, .int lo, .int k, .int b, .int (-1), .int 1], [.ref 118], h)) rfl ?_
    refine hp_getr rfl (hH.1 118 (17, 105) rfl) rfl (hH.2 118 45 (some 146) rfl) ?_
    refine qm_Rp.go 1 (c' := (163, [.ref 118, .int y, .int x, .int g, .int lo, .int k, .int b, .int (-1), .int 1], [.int b, .ref 146], h)) rfl ?_
    obtain ⟨v2, q_v2⟩ : ∃ v_, h.2.1 146 b.toInt.toNat = v_ := ⟨_, rfl⟩
    refine hp_ial (v := v2) rfl (hH.1 146 (0, 30) rfl) q_v2 (fun ia_2 ib_2 => ?_)
    refine qm_Rp.go 0 (c' := (164, [.ref 118, .int y, .int x, .int g, .int lo, .int k, .int b, .int (-1), .int 1], [.int v2], h)) rfl ?_
    have ew_b : w b.toInt.toNat = v2.toInt := by rw [← eW]; exact congrArg Int32.toInt q_v2
    have bw_b := hw b.toInt.toNat
    rw [ew_b] at bw_b
    refine qm_Rp.go 5 (c' := (181, [.ref 118, .int y, .int x, .int g, .int lo, .int k, .int b, .int (-1), .int 1], [.int 0, .int v2], h)) rfl ?_
    refine qm_Rp.go 1 (c' := (182, [.ref 118, .int y, .int x, .int g, .int lo, .int k, .int b, .int (-1), .int 1], [.int (v2 + 0)], h)) rfl ?_
    obtain ⟨v4, q_v4, e_v4⟩ := hk_add (x := v2) (y := 0) (a := v2.toInt) (b := 0) rfl rfl (by omega) (by omega)
    rw [q_v4]
    refine qm_Rp.go 1 (c' := (183, [.ref 118, .int y, .int x, .int g, .int lo, .int k, .int b, .int (-1), .int 1], [.ref 118, .int v4], h)) rfl ?_
    refine hp_getr rfl (hH.1 118 (17, 105) rfl) rfl (hH.2 118 24 (some 129) rfl) ?_
    refine qm_Rp.go 1 (c' := (187, [.ref 118, .int y, .int x, .int g, .int lo, .int k, .int b, .int (-1), .int 1], [.ref 118, .ref 129, .int v4], h)) rfl ?_
    refine hp_geti (v := 0) rfl (hH.1 118 (17, 105) rfl) rfl q_lv ?_
    refine qm_Rp.go 0 (c' := (190, [.ref 118, .int y, .int x, .int g, .int lo, .int k, .int b, .int (-1), .int 1], [.int 0, .ref 129, .int v4], h)) rfl ?_
    refine hp_ial (v := l) rfl (hH.1 129 (0, 2) rfl) q_l (fun ia_4 ib_4 => ?_)
    refine qm_Rp.go 0 (c' := (191, [.ref 118, .int y, .int x, .int g, .int lo, .int k, .int b, .int (-1), .int 1], [.int l, .int v4], h)) rfl ?_
    have ewt : w (c (kV c lo.toInt).toNat).toNat + (if mV c tk lo.toInt = 2 then w (c lo.toInt.toNat).toNat else 0) = v4.toInt := by rw [ek, eb, em, if_neg (by decide)]; omega
    refine hp_cle (ix := v4.toInt) (iy := l.toInt) rfl rfl rfl (fun z6 => ?_) (fun z6 => ?_)
    · refine qm_Rp.go 1 (c' := (198, [.ref 118, .int y, .int x, .int g, .int lo, .int k, .int b, .int (-1), .int 1], [.ref 118], h)) rfl ?_
      refine hp_inv (o := 118) (r := []) (as := [.ref 118]) rfl rfl (hH.1 118 (17, 105) rfl) rfl rfl rfl (px_looks0 (h := h) hH eW eH eS q_n hn hw hs q_lv q_B hB (fun I7 e_I7 a0_I7 a1_I7 a2_I7 => ?_))
      have e_I7 : ∀ o, [155, 156].contains o = false → ∀ i, I7 o i = (h.2.1) o i := e_I7
      have p150_I7 : pI I7 150 = wh := (funext fun i => congrArg Int32.toInt (e_I7 150 rfl i)).trans eH
      have p151_I7 : pI I7 151 = sp := (funext fun i => congrArg Int32.toInt (e_I7 151 rfl i)).trans eS
      have p152_I7 : pI I7 152 = c := (funext fun i => congrArg Int32.toInt (e_I7 152 rfl i)).trans eC
      have p153_I7 : pI I7 153 = yc := (funext fun i => congrArg Int32.toInt (e_I7 153 rfl i)).trans eY
      have p154_I7 : pI I7 154 = hi := (funext fun i => congrArg Int32.toInt (e_I7 154 rfl i)).trans eI
      obtain ⟨p0_I7, q_p0_I7⟩ : ∃ v_, I7 156 0 = v_ := ⟨_, rfl⟩
      rw [q_p0_I7] at a0_I7
      obtain ⟨p1_I7, q_p1_I7⟩ : ∃ v_, I7 156 1 = v_ := ⟨_, rfl⟩
      rw [q_p1_I7] at a1_I7
      obtain ⟨p2_I7, q_p2_I7⟩ : ∃ v_, I7 156 2 = v_ := ⟨_, rfl⟩
      rw [q_p2_I7] at a2_I7
      refine qm_Rp.go 2 (c' := (204, [.ref 118, .int y, .int x, .int g, .int lo, .int k, .int b, .int (-1), .int 1], [.int b, .ref 118], (h.1, I7, h.2.2.1, h.2.2.2))) rfl ?_
      refine hp_inv (o := 118) (r := []) (as := [.ref 118, .int b]) rfl rfl (hH.1 118 (17, 105) rfl) rfl rfl rfl (px_lv1 (h := (h.1, I7, h.2.2.1, h.2.2.2)) hH (u := (I7) 151 b.toInt.toNat) (pz_at p150_I7 ab1.1) rfl (pz_in p151_I7 hs (b.toInt.toNat)) (pz_in p154_I7 hi4) (fun I8 e_I8 x150 x152 => ?_))
      have x150 : pI I8 150 = fu_up (pI (I7) 150) (b.toInt.toNat) (Int32.toInt 0) := x150
      have x152 : pI I8 152 = fu_up (pI (I7) 152) (pI (I7) 151 (b.toInt.toNat)).toNat (Int32.toInt (-1)) := x152
      have e_I8 : ∀ o, [150, 152].contains o = false → ∀ i, I8 o i = (I7) o i := e_I8
      have p150_I8 : pI I8 150 = fu_up (wh) (b.toInt.toNat) 0 := by rw [x150, p150_I7]; exact rfl
      have p151_I8 : pI I8 151 = sp := (funext fun i => congrArg Int32.toInt (e_I8 151 rfl i)).trans p151_I7
      have p152_I8 : pI I8 152 = fu_up (c) (sp b.toInt.toNat).toNat (-1) := by rw [x152, p152_I7, p151_I7]; exact rfl
      have p153_I8 : pI I8 153 = yc := (funext fun i => congrArg Int32.toInt (e_I8 153 rfl i)).trans p153_I7
      have p154_I8 : pI I8 154 = hi := (funext fun i => congrArg Int32.toInt (e_I8 154 rfl i)).trans p154_I7
      refine qm_Rp.go 4 (c' := (220, [.ref 118, .int y, .int x, .int g, .int lo, .int k, .int b, .int (-1), .int 1], [.ref 118], (h.1, I8, h.2.2.1, h.2.2.2))) rfl ?_
      refine hp_inv (o := 118) (r := []) (as := [.ref 118]) rfl rfl (hH.1 118 (17, 105) rfl) rfl rfl rfl (px_mayb0 (h := (h.1, I8, h.2.2.1, h.2.2.2)) hH ((funext fun i => congrArg Int32.toInt ((e_I8 146 rfl i).trans ((e_I7 146 rfl i).trans rfl))).trans eW) p150_I8 p151_I8 (show (I8) 118 44 = _ from ((e_I8 118 rfl 44).trans ((e_I7 118 rfl 44).trans q_n))) hn hw hs (show (I8) 118 18 = _ from ((e_I8 118 rfl 18).trans ((e_I7 118 rfl 18).trans q_lv))) (show (I8) 127 0 = _ from ((e_I8 127 rfl 0).trans ((e_I7 127 rfl 0).trans q_B))) hB (show (I8) 128 0 = _ from ((e_I8 128 rfl 0).trans ((e_I7 128 rfl 0).trans q_g0))) (show (I8) 128 1 = _ from ((e_I8 128 rfl 1).trans ((e_I7 128 rfl 1).trans q_g1))) (show (I8) 128 2 = _ from ((e_I8 128 rfl 2).trans ((e_I7 128 rfl 2).trans q_g2))) (show (I8) 156 0 = _ from ((e_I8 156 rfl 0).trans q_p0_I7)) (show (I8) 156 1 = _ from ((e_I8 156 rfl 1).trans q_p1_I7)) (show (I8) 156 2 = _ from ((e_I8 156 rfl 2).trans q_p2_I7)) (fun I9 r10 e_I9 hm => ?_))
      have e_I9 : ∀ o, [155].contains o = false → ∀ i, I9 o i = (I8) o i := e_I9
      have p150_I9 : pI I9 150 = fu_up (wh) (b.toInt.toNat) 0 := (funext fun i => congrArg Int32.toInt (e_I9 150 rfl i)).trans p150_I8
      have p151_I9 : pI I9 151 = sp := (funext fun i => congrArg Int32.toInt (e_I9 151 rfl i)).trans p151_I8
      have p152_I9 : pI I9 152 = fu_up (c) (sp b.toInt.toNat).toNat (-1) := (funext fun i => congrArg Int32.toInt (e_I9 152 rfl i)).trans p152_I8
      have p153_I9 : pI I9 153 = yc := (funext fun i => congrArg Int32.toInt (e_I9 153 rfl i)).trans p153_I8
      have p154_I9 : pI I9 154 = hi := (funext fun i => congrArg Int32.toInt (e_I9 154 rfl i)).trans p154_I8
      rw [a0_I7, a1_I7, a2_I7] at hm
      rcases hm with ⟨hr, hm⟩ | ⟨hr, hm⟩
      · obtain rfl : r10 = 1 := hk_eqi.mpr (hr.trans rfl)
        refine qm_Rp.go 3 (c' := (253, [.ref 118, .int y, .int x, .int g, .int lo, .int k, .int b, .int (-1), .int 1], [.int (-1), .int g], (h.1, I9, h.2.2.1, h.2.2.2))) rfl ?_
        refine hp_ceq (ix := g.toInt) (iy := (-1)) rfl rfl rfl (fun z11 => ?_) (fun z11 => by exfalso; omega)
        refine qm_Rp.go 1 (c' := (278, [.ref 118, .int y, .int x, .int g, .int lo, .int k, .int b, .int (-1), .int 1], [.int 1], (h.1, I9, h.2.2.1, h.2.2.2))) rfl ?_
        refine qm_Rp.rt (v := (some (.int 1))) (h' := (h.1, I9, h.2.2.1, h.2.2.2)) rfl ?_
        exact k1 (I9) (fun o ho i => ((e_I9 o (hk_ms rfl ho) i).trans ((e_I8 o (hk_ms rfl ho) i).trans ((e_I7 o (hk_ms rfl ho) i).trans rfl)))) ((unl_f ⟨by omega, by omega, by omega, by omega, by omega, by omega⟩ (by rw [el, ek, eb]; omega) (by rw [el, em]; intro z; omega) (by rw [el, ewt]; omega) (okb_t (by rw [el, show whU c tk wh lo.toInt = fu_up wh b.toInt.toNat 0 from (if_neg (by rw [em]; decide)).trans (by rw [ek, eb])]; exact hm))).trans (by rw [el, em])).symm (p150_I9.trans (by rw [el, ek, eb, if_pos (show g.toInt = -1 by omega)])) (p151_I9.trans (by rw [if_pos (show g.toInt = -1 by omega)])) (p152_I9.trans (by rw [el, ek, ek_b])) (p153_I9.trans (by rw [if_pos (show g.toInt = -1 by omega)])) (p154_I9.trans (by rw [if_pos (show g.toInt = -1 by omega)]))
      · obtain rfl : r10 = 0 := hk_eqi.mpr (hr.trans rfl)
        refine qm_Rp.go 4 (c' := (231, [.ref 118, .int y, .int x, .int g, .int lo, .int k, .int b, .int (-1), .int 1], [.int k, .int b, .ref 118], (h.1, I9, h.2.2.1, h.2.2.2))) rfl ?_
        refine hp_inv (o := 118) (r := []) (as := [.ref 118, .int b, .int k]) rfl rfl (hH.1 118 (17, 105) rfl) rfl rfl rfl (px_brd (h := (h.1, I9, h.2.2.1, h.2.2.2)) hH (fun I12 e_I12 x150 x151 x152 => ?_))
        have x150 : pI I12 150 = fu_up (pI (I9) 150) (b.toInt.toNat) (Int32.toInt 1) := x150
        have x151 : pI I12 151 = fu_up (pI (I9) 151) (b.toInt.toNat) k.toInt := x151
        have x152 : pI I12 152 = fu_up (pI (I9) 152) k.toInt.toNat b.toInt := x152
        have e_I12 : ∀ o, [150, 151, 152].contains o = false → ∀ i, I12 o i = (I9) o i := e_I12
        have p150_I12 : pI I12 150 = fu_up (fu_up (wh) (b.toInt.toNat) 0) (b.toInt.toNat) 1 := by rw [x150, p150_I9]; exact rfl
        have p151_I12 : pI I12 151 = sp := by rw [x151, p151_I9]; exact fu_si ek_b
        have p152_I12 : pI I12 152 = fu_up (fu_up (c) (sp b.toInt.toNat).toNat (-1)) (sp b.toInt.toNat).toNat b.toInt := by rw [x152, p152_I9, show (sp b.toInt.toNat).toNat = k.toInt.toNat by rw [ek_b]]
        have p153_I12 : pI I12 153 = yc := (funext fun i => congrArg Int32.toInt (e_I12 153 rfl i)).trans p153_I9
        have p154_I12 : pI I12 154 = hi := (funext fun i => congrArg Int32.toInt (e_I12 154 rfl i)).trans p154_I9
        refine qm_Rp.go 4 (c' := (250, [.ref 118, .int y, .int x, .int g, .int lo, .int k, .int b, .int (-1), .int 1], [.int (-3)], (h.1, I12, h.2.2.1, h.2.2.2))) rfl ?_
        refine qm_Rp.rt (v := (some (.int (-3)))) (h' := (h.1, I12, h.2.2.1, h.2.2.2)) rfl ?_
        exact k0 (I12) (-3) (fun o ho i => ((e_I12 o (hk_ms rfl ho) i).trans ((e_I9 o (hk_ms rfl ho) i).trans ((e_I8 o (hk_ms rfl ho) i).trans ((e_I7 o (hk_ms rfl ho) i).trans rfl))))) (unl_e ⟨by omega, by omega, by omega, by omega, by omega, by omega⟩ (by rw [el, ek, eb]; omega) (by rw [el, em]; intro z; omega) (by rw [el, ewt]; omega) (okb_f (by rw [el, show whU c tk wh lo.toInt = fu_up wh b.toInt.toNat 0 from (if_neg (by rw [em]; decide)).trans (by rw [ek, eb])]; exact hm))).symm (by decide) (p150_I12.trans (fu_ba ab1.1)) p151_I12 (p152_I12.trans (fu_ba (by rw [ek_b]; exact eb))) p153_I12 p154_I12
    · refine qm_Rp.go 1 (c' := (196, [.ref 118, .int y, .int x, .int g, .int lo, .int k, .int b, .int (-1), .int 1], [.int (-2)], h)) rfl ?_
      refine qm_Rp.rt (v := (some (.int (-2)))) (h' := h) rfl ?_
      exact k0 (h.2.1) (-2) (fun o ho i => rfl) (unl_d ⟨by omega, by omega, by omega, by omega, by omega, by omega⟩ (by rw [el, ek, eb]; omega) (by rw [el, em]; intro z; omega) (by rw [el, ewt]; omega)).symm (by decide) eH eS eC eY eI
  · refine qm_Rp.go 1 (c' := (143, [.ref 118, .int y, .int x, .int g, .int lo, .int k, .int b, .int (-1), .int 1], [.ref 118], h)) rfl ?_
    refine hp_getr rfl (hH.1 118 (17, 105) rfl) rfl (hH.2 118 53 (some 154) rfl) ?_
    refine qm_Rp.go 1 (c' := (147, [.ref 118, .int y, .int x, .int g, .int lo, .int k, .int b, .int (-1), .int 1], [.int g, .ref 154], h)) rfl ?_
    obtain ⟨v13, q_v13⟩ : ∃ v_, h.2.1 154 g.toInt.toNat = v_ := ⟨_, rfl⟩
    refine hp_ial (v := v13) rfl (hH.1 154 (0, 4) rfl) q_v13 (fun ia_13 ib_13 => ?_)
    refine qm_Rp.go 0 (c' := (148, [.ref 118, .int y, .int x, .int g, .int lo, .int k, .int b, .int (-1), .int 1], [.int v13], h)) rfl ?_
    have eh : hi g.toInt.toNat = v13.toInt := by rw [← eI]; exact congrArg Int32.toInt q_v13
    have bh := hi4 g.toInt.toNat
    rw [eh] at bh
    refine qm_Rp.go 2 (c' := (151, [.ref 118, .int y, .int x, .int g, .int lo, .int k, .int b, .int (-1), .int 1], [.int (v13 + 1)], h)) rfl ?_
    obtain ⟨v15, q_v15, e_v15⟩ := hk_add (x := v13) (y := 1) (a := v13.toInt) (b := 1) rfl rfl (by omega) (by omega)
    rw [q_v15]
    refine qm_Rp.go 1 (c' := (152, [.ref 118, .int y, .int x, .int g, .int lo, .int k, .int b, .int (-1), .int 1], [.int 4, .int v15], h)) rfl ?_
    refine hp_cle (ix := v15.toInt) (iy := 4) rfl rfl rfl (fun z16 => ?_) (fun z16 => ?_)
    · refine qm_Rp.go 1 (c' := (158, [.ref 118, .int y, .int x, .int g, .int lo, .int k, .int b, .int (-1), .int 1], [.ref 118], h)) rfl ?_
      refine hp_getr rfl (hH.1 118 (17, 105) rfl) rfl (hH.2 118 45 (some 146) rfl) ?_
      refine qm_Rp.go 1 (c' := (163, [.ref 118, .int y, .int x, .int g, .int lo, .int k, .int b, .int (-1), .int 1], [.int b, .ref 146], h)) rfl ?_
      obtain ⟨v17, q_v17⟩ : ∃ v_, h.2.1 146 b.toInt.toNat = v_ := ⟨_, rfl⟩
      refine hp_ial (v := v17) rfl (hH.1 146 (0, 30) rfl) q_v17 (fun ia_17 ib_17 => ?_)
      refine qm_Rp.go 0 (c' := (164, [.ref 118, .int y, .int x, .int g, .int lo, .int k, .int b, .int (-1), .int 1], [.int v17], h)) rfl ?_
      have ew_b : w b.toInt.toNat = v17.toInt := by rw [← eW]; exact congrArg Int32.toInt q_v17
      have bw_b := hw b.toInt.toNat
      rw [ew_b] at bw_b
      refine qm_Rp.go 5 (c' := (181, [.ref 118, .int y, .int x, .int g, .int lo, .int k, .int b, .int (-1), .int 1], [.int 0, .int v17], h)) rfl ?_
      refine qm_Rp.go 1 (c' := (182, [.ref 118, .int y, .int x, .int g, .int lo, .int k, .int b, .int (-1), .int 1], [.int (v17 + 0)], h)) rfl ?_
      obtain ⟨v19, q_v19, e_v19⟩ := hk_add (x := v17) (y := 0) (a := v17.toInt) (b := 0) rfl rfl (by omega) (by omega)
      rw [q_v19]
      refine qm_Rp.go 1 (c' := (183, [.ref 118, .int y, .int x, .int g, .int lo, .int k, .int b, .int (-1), .int 1], [.ref 118, .int v19], h)) rfl ?_
      refine hp_getr rfl (hH.1 118 (17, 105) rfl) rfl (hH.2 118 24 (some 129) rfl) ?_
      refine qm_Rp.go 1 (c' := (187, [.ref 118, .int y, .int x, .int g, .int lo, .int k, .int b, .int (-1), .int 1], [.ref 118, .ref 129, .int v19], h)) rfl ?_
      refine hp_geti (v := 0) rfl (hH.1 118 (17, 105) rfl) rfl q_lv ?_
      refine qm_Rp.go 0 (c' := (190, [.ref 118, .int y, .int x, .int g, .int lo, .int k, .int b, .int (-1), .int 1], [.int 0, .ref 129, .int v19], h)) rfl ?_
      refine hp_ial (v := l) rfl (hH.1 129 (0, 2) rfl) q_l (fun ia_19 ib_19 => ?_)
      refine qm_Rp.go 0 (c' := (191, [.ref 118, .int y, .int x, .int g, .int lo, .int k, .int b, .int (-1), .int 1], [.int l, .int v19], h)) rfl ?_
      have ewt : w (c (kV c lo.toInt).toNat).toNat + (if mV c tk lo.toInt = 2 then w (c lo.toInt.toNat).toNat else 0) = v19.toInt := by rw [ek, eb, em, if_neg (by decide)]; omega
      refine hp_cle (ix := v19.toInt) (iy := l.toInt) rfl rfl rfl (fun z21 => ?_) (fun z21 => ?_)
      · refine qm_Rp.go 1 (c' := (198, [.ref 118, .int y, .int x, .int g, .int lo, .int k, .int b, .int (-1), .int 1], [.ref 118], h)) rfl ?_
        refine hp_inv (o := 118) (r := []) (as := [.ref 118]) rfl rfl (hH.1 118 (17, 105) rfl) rfl rfl rfl (px_looks0 (h := h) hH eW eH eS q_n hn hw hs q_lv q_B hB (fun I22 e_I22 a0_I22 a1_I22 a2_I22 => ?_))
        have e_I22 : ∀ o, [155, 156].contains o = false → ∀ i, I22 o i = (h.2.1) o i := e_I22
        have p150_I22 : pI I22 150 = wh := (funext fun i => congrArg Int32.toInt (e_I22 150 rfl i)).trans eH
        have p151_I22 : pI I22 151 = sp := (funext fun i => congrArg Int32.toInt (e_I22 151 rfl i)).trans eS
        have p152_I22 : pI I22 152 = c := (funext fun i => congrArg Int32.toInt (e_I22 152 rfl i)).trans eC
        have p153_I22 : pI I22 153 = yc := (funext fun i => congrArg Int32.toInt (e_I22 153 rfl i)).trans eY
        have p154_I22 : pI I22 154 = hi := (funext fun i => congrArg Int32.toInt (e_I22 154 rfl i)).trans eI
        obtain ⟨p0_I22, q_p0_I22⟩ : ∃ v_, I22 156 0 = v_ := ⟨_, rfl⟩
        rw [q_p0_I22] at a0_I22
        obtain ⟨p1_I22, q_p1_I22⟩ : ∃ v_, I22 156 1 = v_ := ⟨_, rfl⟩
        rw [q_p1_I22] at a1_I22
        obtain ⟨p2_I22, q_p2_I22⟩ : ∃ v_, I22 156 2 = v_ := ⟨_, rfl⟩
        rw [q_p2_I22] at a2_I22
        refine qm_Rp.go 2 (c' := (204, [.ref 118, .int y, .int x, .int g, .int lo, .int k, .int b, .int (-1), .int 1], [.int b, .ref 118], (h.1, I22, h.2.2.1, h.2.2.2))) rfl ?_
        refine hp_inv (o := 118) (r := []) (as := [.ref 118, .int b]) rfl rfl (hH.1 118 (17, 105) rfl) rfl rfl rfl (px_lv1 (h := (h.1, I22, h.2.2.1, h.2.2.2)) hH (u := (I22) 151 b.toInt.toNat) (pz_at p150_I22 ab1.1) rfl (pz_in p151_I22 hs (b.toInt.toNat)) (pz_in p154_I22 hi4) (fun I23 e_I23 x150 x152 => ?_))
        have x150 : pI I23 150 = fu_up (pI (I22) 150) (b.toInt.toNat) (Int32.toInt 0) := x150
        have x152 : pI I23 152 = fu_up (pI (I22) 152) (pI (I22) 151 (b.toInt.toNat)).toNat (Int32.toInt (-1)) := x152
        have e_I23 : ∀ o, [150, 152].contains o = false → ∀ i, I23 o i = (I22) o i := e_I23
        have p150_I23 : pI I23 150 = fu_up (wh) (b.toInt.toNat) 0 := by rw [x150, p150_I22]; exact rfl
        have p151_I23 : pI I23 151 = sp := (funext fun i => congrArg Int32.toInt (e_I23 151 rfl i)).trans p151_I22
        have p152_I23 : pI I23 152 = fu_up (c) (sp b.toInt.toNat).toNat (-1) := by rw [x152, p152_I22, p151_I22]; exact rfl
        have p153_I23 : pI I23 153 = yc := (funext fun i => congrArg Int32.toInt (e_I23 153 rfl i)).trans p153_I22
        have p154_I23 : pI I23 154 = hi := (funext fun i => congrArg Int32.toInt (e_I23 154 rfl i)).trans p154_I22
        refine qm_Rp.go 4 (c' := (220, [.ref 118, .int y, .int x, .int g, .int lo, .int k, .int b, .int (-1), .int 1], [.ref 118], (h.1, I23, h.2.2.1, h.2.2.2))) rfl ?_
        refine hp_inv (o := 118) (r := []) (as := [.ref 118]) rfl rfl (hH.1 118 (17, 105) rfl) rfl rfl rfl (px_mayb0 (h := (h.1, I23, h.2.2.1, h.2.2.2)) hH ((funext fun i => congrArg Int32.toInt ((e_I23 146 rfl i).trans ((e_I22 146 rfl i).trans rfl))).trans eW) p150_I23 p151_I23 (show (I23) 118 44 = _ from ((e_I23 118 rfl 44).trans ((e_I22 118 rfl 44).trans q_n))) hn hw hs (show (I23) 118 18 = _ from ((e_I23 118 rfl 18).trans ((e_I22 118 rfl 18).trans q_lv))) (show (I23) 127 0 = _ from ((e_I23 127 rfl 0).trans ((e_I22 127 rfl 0).trans q_B))) hB (show (I23) 128 0 = _ from ((e_I23 128 rfl 0).trans ((e_I22 128 rfl 0).trans q_g0))) (show (I23) 128 1 = _ from ((e_I23 128 rfl 1).trans ((e_I22 128 rfl 1).trans q_g1))) (show (I23) 128 2 = _ from ((e_I23 128 rfl 2).trans ((e_I22 128 rfl 2).trans q_g2))) (show (I23) 156 0 = _ from ((e_I23 156 rfl 0).trans q_p0_I22)) (show (I23) 156 1 = _ from ((e_I23 156 rfl 1).trans q_p1_I22)) (show (I23) 156 2 = _ from ((e_I23 156 rfl 2).trans q_p2_I22)) (fun I24 r25 e_I24 hm => ?_))
        have e_I24 : ∀ o, [155].contains o = false → ∀ i, I24 o i = (I23) o i := e_I24
        have p150_I24 : pI I24 150 = fu_up (wh) (b.toInt.toNat) 0 := (funext fun i => congrArg Int32.toInt (e_I24 150 rfl i)).trans p150_I23
        have p151_I24 : pI I24 151 = sp := (funext fun i => congrArg Int32.toInt (e_I24 151 rfl i)).trans p151_I23
        have p152_I24 : pI I24 152 = fu_up (c) (sp b.toInt.toNat).toNat (-1) := (funext fun i => congrArg Int32.toInt (e_I24 152 rfl i)).trans p152_I23
        have p153_I24 : pI I24 153 = yc := (funext fun i => congrArg Int32.toInt (e_I24 153 rfl i)).trans p153_I23
        have p154_I24 : pI I24 154 = hi := (funext fun i => congrArg Int32.toInt (e_I24 154 rfl i)).trans p154_I23
        rw [a0_I22, a1_I22, a2_I22] at hm
        rcases hm with ⟨hr, hm⟩ | ⟨hr, hm⟩
        · obtain rfl : r25 = 1 := hk_eqi.mpr (hr.trans rfl)
          refine qm_Rp.go 3 (c' := (253, [.ref 118, .int y, .int x, .int g, .int lo, .int k, .int b, .int (-1), .int 1], [.int (-1), .int g], (h.1, I24, h.2.2.1, h.2.2.2))) rfl ?_
          refine hp_ceq (ix := g.toInt) (iy := (-1)) rfl rfl rfl (fun z26 => by exfalso; omega) (fun z26 => ?_)
          refine qm_Rp.go 6 (c' := (273, [.ref 118, .int y, .int x, .int g, .int lo, .int k, .int b, .int (-1), .int 1], [.int g, .int b, .ref 118], (h.1, I24, h.2.2.1, h.2.2.2))) rfl ?_
          have ev : ((I24) 154 g.toInt.toNat).toInt = hi g.toInt.toNat := by rw [show ((I24) 154 g.toInt.toNat).toInt = (hi) g.toInt.toNat from congrFun p154_I24 _]
          refine hp_inv (o := 118) (r := []) (as := [.ref 118, .int b, .int g]) rfl rfl (hH.1 118 (17, 105) rfl) rfl rfl rfl (px_puts (h := (h.1, I24, h.2.2.1, h.2.2.2)) hH (v := (I24) 154 g.toInt.toNat) ⟨by omega, by omega⟩ rfl (by rw [ev]; have := hi4 g.toInt.toNat; omega) (fun I27 e_I27 x150 x151 x153 x154 => ?_))
          have x150 : pI I27 150 = fu_up (pI (I24) 150) (b.toInt.toNat) (Int32.toInt 2) := x150
          have x151 : pI I27 151 = fu_up (pI (I24) 151) (b.toInt.toNat) (4 * g.toInt + ((I24) 154 g.toInt.toNat).toInt) := x151
          have x153 : pI I27 153 = fu_up (pI (I24) 153) (4 * g.toInt + ((I24) 154 g.toInt.toNat).toInt).toNat b.toInt := x153
          have x154 : pI I27 154 = fu_up (pI (I24) 154) g.toInt.toNat (((I24) 154 g.toInt.toNat).toInt + 1) := x154
          rw [ev] at x151 x153 x154
          have e_I27 : ∀ o, [150, 151, 153, 154].contains o = false → ∀ i, I27 o i = (I24) o i := e_I27
          have p150_I27 : pI I27 150 = fu_up (fu_up (wh) (b.toInt.toNat) 0) (b.toInt.toNat) 2 := by rw [x150, p150_I24]; exact rfl
          have p151_I27 : pI I27 151 = fu_up (sp) (b.toInt.toNat) (4 * g.toInt + hi g.toInt.toNat) := by rw [x151, p151_I24]
          have p152_I27 : pI I27 152 = fu_up (c) (sp b.toInt.toNat).toNat (-1) := (funext fun i => congrArg Int32.toInt (e_I27 152 rfl i)).trans p152_I24
          have p153_I27 : pI I27 153 = fu_up (yc) (4 * g.toInt + hi g.toInt.toNat).toNat b.toInt := by rw [x153, p153_I24]
          have p154_I27 : pI I27 154 = fu_up (hi) (g.toInt.toNat) (hi g.toInt.toNat + 1) := by rw [x154, p154_I24]
          refine qm_Rp.go 1 (c' := (278, [.ref 118, .int y, .int x, .int g, .int lo, .int k, .int b, .int (-1), .int 1], [.int 1], (h.1, I27, h.2.2.1, h.2.2.2))) rfl ?_
          refine qm_Rp.rt (v := (some (.int 1))) (h' := (h.1, I27, h.2.2.1, h.2.2.2)) rfl ?_
          exact k1 (I27) (fun o ho i => ((e_I27 o (hk_ms rfl ho) i).trans ((e_I24 o (hk_ms rfl ho) i).trans ((e_I23 o (hk_ms rfl ho) i).trans ((e_I22 o (hk_ms rfl ho) i).trans rfl))))) ((unl_f ⟨by omega, by omega, by omega, by omega, by omega, by omega⟩ (by rw [el, ek, eb]; omega) (by rw [el, em]; intro z; omega) (by rw [el, ewt]; omega) (okb_t (by rw [el, show whU c tk wh lo.toInt = fu_up wh b.toInt.toNat 0 from (if_neg (by rw [em]; decide)).trans (by rw [ek, eb])]; exact hm))).trans (by rw [el, em])).symm (p150_I27.trans (by rw [el, ek, eb, if_neg (show ¬ g.toInt = -1 by omega)]; exact fu_fu2)) (p151_I27.trans (by rw [el, ek, eb, if_neg (show ¬ g.toInt = -1 by omega)])) (p152_I27.trans (by rw [el, ek, ek_b])) (p153_I27.trans (by rw [el, ek, eb, if_neg (show ¬ g.toInt = -1 by omega)])) (p154_I27.trans (by rw [if_neg (show ¬ g.toInt = -1 by omega)]))
        · obtain rfl : r25 = 0 := hk_eqi.mpr (hr.trans rfl)
          refine qm_Rp.go 4 (c' := (231, [.ref 118, .int y, .int x, .int g, .int lo, .int k, .int b, .int (-1), .int 1], [.int k, .int b, .ref 118], (h.1, I24, h.2.2.1, h.2.2.2))) rfl ?_
          refine hp_inv (o := 118) (r := []) (as := [.ref 118, .int b, .int k]) rfl rfl (hH.1 118 (17, 105) rfl) rfl rfl rfl (px_brd (h := (h.1, I24, h.2.2.1, h.2.2.2)) hH (fun I28 e_I28 x150 x151 x152 => ?_))
          have x150 : pI I28 150 = fu_up (pI (I24) 150) (b.toInt.toNat) (Int32.toInt 1) := x150
          have x151 : pI I28 151 = fu_up (pI (I24) 151) (b.toInt.toNat) k.toInt := x151
          have x152 : pI I28 152 = fu_up (pI (I24) 152) k.toInt.toNat b.toInt := x152
          have e_I28 : ∀ o, [150, 151, 152].contains o = false → ∀ i, I28 o i = (I24) o i := e_I28
          have p150_I28 : pI I28 150 = fu_up (fu_up (wh) (b.toInt.toNat) 0) (b.toInt.toNat) 1 := by rw [x150, p150_I24]; exact rfl
          have p151_I28 : pI I28 151 = sp := by rw [x151, p151_I24]; exact fu_si ek_b
          have p152_I28 : pI I28 152 = fu_up (fu_up (c) (sp b.toInt.toNat).toNat (-1)) (sp b.toInt.toNat).toNat b.toInt := by rw [x152, p152_I24, show (sp b.toInt.toNat).toNat = k.toInt.toNat by rw [ek_b]]
          have p153_I28 : pI I28 153 = yc := (funext fun i => congrArg Int32.toInt (e_I28 153 rfl i)).trans p153_I24
          have p154_I28 : pI I28 154 = hi := (funext fun i => congrArg Int32.toInt (e_I28 154 rfl i)).trans p154_I24
          refine qm_Rp.go 4 (c' := (250, [.ref 118, .int y, .int x, .int g, .int lo, .int k, .int b, .int (-1), .int 1], [.int (-3)], (h.1, I28, h.2.2.1, h.2.2.2))) rfl ?_
          refine qm_Rp.rt (v := (some (.int (-3)))) (h' := (h.1, I28, h.2.2.1, h.2.2.2)) rfl ?_
          exact k0 (I28) (-3) (fun o ho i => ((e_I28 o (hk_ms rfl ho) i).trans ((e_I24 o (hk_ms rfl ho) i).trans ((e_I23 o (hk_ms rfl ho) i).trans ((e_I22 o (hk_ms rfl ho) i).trans rfl))))) (unl_e ⟨by omega, by omega, by omega, by omega, by omega, by omega⟩ (by rw [el, ek, eb]; omega) (by rw [el, em]; intro z; omega) (by rw [el, ewt]; omega) (okb_f (by rw [el, show whU c tk wh lo.toInt = fu_up wh b.toInt.toNat 0 from (if_neg (by rw [em]; decide)).trans (by rw [ek, eb])]; exact hm))).symm (by decide) (p150_I28.trans (fu_ba ab1.1)) p151_I28 (p152_I28.trans (fu_ba (by rw [ek_b]; exact eb))) p153_I28 p154_I28
      · refine qm_Rp.go 1 (c' := (196, [.ref 118, .int y, .int x, .int g, .int lo, .int k, .int b, .int (-1), .int 1], [.int (-2)], h)) rfl ?_
        refine qm_Rp.rt (v := (some (.int (-2)))) (h' := h) rfl ?_
        exact k0 (h.2.1) (-2) (fun o ho i => rfl) (unl_d ⟨by omega, by omega, by omega, by omega, by omega, by omega⟩ (by rw [el, ek, eb]; omega) (by rw [el, em]; intro z; omega) (by rw [el, ewt]; omega)).symm (by decide) eH eS eC eY eI
    · refine qm_Rp.go 1 (c' := (156, [.ref 118, .int y, .int x, .int g, .int lo, .int k, .int b, .int (-1), .int 1], [.int (-1)], h)) rfl ?_
      refine qm_Rp.rt (v := (some (.int (-1)))) (h' := h) rfl ?_
      exact k0 (h.2.1) (-1) (fun o ho i => rfl) (unl_c ⟨by omega, by omega, by omega, by omega, by omega, by omega⟩ (by rw [el, ek, eb]; omega) ⟨by omega, by rw [el, em]; omega⟩).symm (by decide) eH eS eC eY eI
set_option maxHeartbeats 4000000 in
theorem px_unB02 {X : Option (Nat × (Nat → Int32))} {Z : Option Value → qm_H → Prop} {h : qm_H} {fu : Nat} (hH : hk_H h) {n y x g cv l lo k b tw : Int32} {tk : Nat → Int} {w wh sp : Nat → Int} (eW : pI h.2.1 146 = w) (eH : pI h.2.1 150 = wh) (eS : pI h.2.1 151 = sp) (q_n : h.2.1 118 44 = n) (hn : 0 ≤ n.toInt ∧ n.toInt ≤ 30) (hw : ∀ b, 0 ≤ w b ∧ w b ≤ 40) (hs : ∀ b, 0 ≤ sp b ∧ sp b ≤ 79) {B : Int32} (q_lv : h.2.1 118 18 = 0) (q_B : h.2.1 127 0 = B) (hB : 1 ≤ B.toInt ∧ B.toInt ≤ 5) {g0 g1 g2 : Int32} (q_g0 : h.2.1 128 0 = g0) (q_g1 : h.2.1 128 1 = g1) (q_g2 : h.2.1 128 2 = g2) {c yc hi : Nat → Int} (eC : pI h.2.1 152 = c) (eY : pI h.2.1 153 = yc) (eI : pI h.2.1 154 = hi) (hi4 : ∀ x, 0 ≤ hi x ∧ hi x ≤ 4) (eK : pI h.2.1 149 = tk) (q_cv : h.2.1 118 54 = cv) (q_l : h.2.1 129 0 = l) (hc : ∀ k, -1 ≤ c k ∧ c k ≤ 29) (hA : ∀ k : Nat, k < 80 → 0 ≤ c k → wh (c k).toNat = 1 ∧ sp (c k).toNat = (k : Int)) (hb2 : ∀ q : Nat, q < 40 → 0 ≤ c (2 * q + 1) → 0 ≤ c (2 * q)) (k0 : ∀ (I : Nat → Nat → Int32) (r : Int32), (∀ o, [150, 151, 152, 153, 154, 155, 156].contains o = false → ∀ i, I o i = h.2.1 o i) → r.toInt = unlV y.toInt B.toInt x.toInt g.toInt (lowV cv y x.toInt) c tk w hi l.toInt (okb (mayP B.toInt g0.toInt g1.toInt g2.toInt (ab (zL w wh sp n.toInt.toNat)) (ab (zT B.toInt w wh sp n.toInt.toNat)) (zD B.toInt w wh sp n.toInt.toNat) w (whU c tk wh (lowV cv y x.toInt)) sp n.toInt.toNat)) → r.toInt < 0 → pI I 150 = wh → pI I 151 = sp → pI I 152 = c → pI I 153 = yc → pI I 154 = hi → Z (some (.int r)) (h.1, I, h.2.2.1, h.2.2.2)) (k2 : ∀ (I : Nat → Nat → Int32), (∀ o, [150, 151, 152, 153, 154, 155, 156].contains o = false → ∀ i, I o i = h.2.1 o i) → (2 : Int) = unlV y.toInt B.toInt x.toInt g.toInt (lowV cv y x.toInt) c tk w hi l.toInt (okb (mayP B.toInt g0.toInt g1.toInt g2.toInt (ab (zL w wh sp n.toInt.toNat)) (ab (zT B.toInt w wh sp n.toInt.toNat)) (zD B.toInt w wh sp n.toInt.toNat) w (whU c tk wh (lowV cv y x.toInt)) sp n.toInt.toNat)) → pI I 150 = (if g.toInt = -1 then fu_up (fu_up wh (c ((lowV cv y x.toInt) + 1).toNat).toNat 0) (c (lowV cv y x.toInt).toNat).toNat 0 else fu_up (fu_up wh (c (lowV cv y x.toInt).toNat).toNat 2) (c ((lowV cv y x.toInt) + 1).toNat).toNat 2) → pI I 151 = (if g.toInt = -1 then sp else fu_up (fu_up sp (c (lowV cv y x.toInt).toNat).toNat (4 * g.toInt + hi g.toInt.toNat)) (c ((lowV cv y x.toInt) + 1).toNat).toNat (4 * g.toInt + (hi g.toInt.toNat + 1))) → pI I 152 = fu_up (fu_up c ((lowV cv y x.toInt) + 1).toNat (-1)) (lowV cv y x.toInt).toNat (-1) → pI I 153 = (if g.toInt = -1 then yc else fu_up (fu_up yc (4 * g.toInt + hi g.toInt.toNat).toNat (c (lowV cv y x.toInt).toNat)) (4 * g.toInt + (hi g.toInt.toNat + 1)).toNat (c ((lowV cv y x.toInt) + 1).toNat)) → pI I 154 = (if g.toInt = -1 then hi else fu_up hi g.toInt.toNat (hi g.toInt.toNat + 1 + 1)) → Z (some (.int 2)) (h.1, I, h.2.2.1, h.2.2.2)) (by_ : 0 ≤ y.toInt ∧ y.toInt < B.toInt) (bx_ : 0 ≤ x.toInt ∧ x.toInt ≤ 3) (bg_ : -1 ≤ g.toInt ∧ g.toInt ≤ 3) (bl_ : 0 ≤ lo.toInt ∧ lo.toInt ≤ 78) (bk_ : 0 ≤ k.toInt ∧ k.toInt ≤ 79) (bb_ : 0 ≤ b.toInt ∧ b.toInt ≤ 29) (el : lowV cv y x.toInt = lo.toInt) (ek : kV c lo.toInt = k.toInt) (eb : c k.toInt.toNat = b.toInt) (em : mV c tk lo.toInt = 2) (ab1 : wh b.toInt.toNat = 1 ∧ sp b.toInt.toNat = (k.toInt.toNat : Int)) (ek_b : sp b.toInt.toNat = k.toInt) (bt_ : 0 ≤ tw.toInt ∧ tw.toInt ≤ 29) (ekl : k.toInt = lo.toInt + 1) (ec1 : c (lo.toInt + 1).toNat = b.toInt) (etw : c lo.toInt.toNat = tw.toInt) (ab2 : wh tw.toInt.toNat = 1 ∧ sp tw.toInt.toNat = (lo.toInt.toNat : Int)) (ek_tw : sp tw.toInt.toNat = lo.toInt) (hne : tw.toInt.toNat ≠ b.toInt.toNat) : qm_Rp fu X cd_298 (137, [.ref 118, .int y, .int x, .int g, .int lo, .int k, .int b, .int tw, .int 2], [], h) Z := by
  have kz0 : (0 : Int32).toInt = 0 := rfl
  have kz1 : (1 : Int32).toInt = 1 := rfl
  have kz2 : (2 : Int32).toInt = 2 := rfl
  have kz3 : (3 : Int32).toInt = 3 := rfl
  have kz4 : (4 : Int32).toInt = 4 := rfl
  have kz5 : (5 : Int32).toInt = 5 := rfl
  have kz6 : (6 : Int32).toInt = 6 := rfl
  have kz7 : (7 : Int32).toInt = 7 := rfl
  have kz8 : (8 : Int32).toInt = 8 := rfl
  have kz9 : (9 : Int32).toInt = 9 := rfl
  have kzm1 : ((-1) : Int32).toInt = (-1) := rfl
  have kzm2 : ((-2) : Int32).toInt = (-2) := rfl
  have kzm3 : ((-3) : Int32).toInt = (-3) := rfl
  refine qm_Rp.go 2 (c' := (139, [.ref 118, .int y, .int x, .int g, .int lo, .int k, .int b, .int tw, .int 2], [.int (-1), .int g], h)) rfl ?_
  refine hp_ceq (ix := g.toInt) (iy := (-1)) rfl rfl rfl (fun z1 => ?_) (fun z1 => ?_)
  · refine qm_Rp.go 1 (c' := (158, [.ref 118, .int y, .int x, .int g, .int lo, .int k, .int b, .int tw, .int 2], [.ref 118], h)) rfl ?_
    refine hp_getr rfl (hH.1 118 (17, 105) rfl) rfl (hH.2 118 45 (some 146) rfl) ?_
    refine qm_Rp.go 1 (c' := (163, [.ref 118, .int y, .int x, .int g, .int lo, .int k, .int b, .int tw, .int 2], [.int b, .ref 146], h)) rfl ?_
    obtain ⟨v2, q_v2⟩ : ∃ v_, h.2.1 146 b.toInt.toNat = v_ := ⟨_, rfl⟩
    refine hp_ial (v := v2) rfl (hH.1 146 (0, 30) rfl) q_v2 (fun ia_2 ib_2 => ?_)
    refine qm_Rp.go 0 (c' := (164, [.ref 118, .int y, .int x, .int g, .int lo, .int k, .int b, .int tw, .int 2], [.int v2], h)) rfl ?_
    have ew_b : w b.toInt.toNat = v2.toInt := by rw [← eW]; exact congrArg Int32.toInt q_v2
    have bw_b := hw b.toInt.toNat
    rw [ew_b] at bw_b
    refine qm_Rp.go 2 (c' := (167, [.ref 118, .int y, .int x, .int g, .int lo, .int k, .int b, .int tw, .int 2], [.int (-1), .int tw, .int v2], h)) rfl ?_
    refine hp_cne (ix := tw.toInt) (iy := (-1)) rfl rfl rfl (fun z4 => ?_) (fun z4 => by exfalso; omega)
    refine qm_Rp.go 1 (c' := (175, [.ref 118, .int y, .int x, .int g, .int lo, .int k, .int b, .int tw, .int 2], [.ref 118, .int v2], h)) rfl ?_
    refine hp_getr rfl (hH.1 118 (17, 105) rfl) rfl (hH.2 118 45 (some 146) rfl) ?_
    refine qm_Rp.go 1 (c' := (180, [.ref 118, .int y, .int x, .int g, .int lo, .int k, .int b, .int tw, .int 2], [.int tw, .ref 146, .int v2], h)) rfl ?_
    obtain ⟨v5, q_v5⟩ : ∃ v_, h.2.1 146 tw.toInt.toNat = v_ := ⟨_, rfl⟩
    refine hp_ial (v := v5) rfl (hH.1 146 (0, 30) rfl) q_v5 (fun ia_5 ib_5 => ?_)
    refine qm_Rp.go 0 (c' := (181, [.ref 118, .int y, .int x, .int g, .int lo, .int k, .int b, .int tw, .int 2], [.int v5, .int v2], h)) rfl ?_
    have ew_tw : w tw.toInt.toNat = v5.toInt := by rw [← eW]; exact congrArg Int32.toInt q_v5
    have bw_tw := hw tw.toInt.toNat
    rw [ew_tw] at bw_tw
    refine qm_Rp.go 1 (c' := (182, [.ref 118, .int y, .int x, .int g, .int lo, .int k, .int b, .int tw, .int 2], [.int (v2 + v5)], h)) rfl ?_
    obtain ⟨v7, q_v7, e_v7⟩ := hk_add (x := v2) (y := v5) (a := v2.toInt) (b := v5.toInt) rfl rfl (by omega) (by omega)
    rw [q_v7]
    refine qm_Rp.go 1 (c' := (183, [.ref 118, .int y, .int x, .int g, .int lo, .int k, .int b, .int tw, .int 2], [.ref 118, .int v7], h)) rfl ?_
    refine hp_getr rfl (hH.1 118 (17, 105) rfl) rfl (hH.2 118 24 (some 129) rfl) ?_
    refine qm_Rp.go 1 (c' := (187, [.ref 118, .int y, .int x, .int g, .int lo, .int k, .int b, .int tw, .int 2], [.ref 118, .ref 129, .int v7], h)) rfl ?_
    refine hp_geti (v := 0) rfl (hH.1 118 (17, 105) rfl) rfl q_lv ?_
    refine qm_Rp.go 0 (c' := (190, [.ref 118, .int y, .int x, .int g, .int lo, .int k, .int b, .int tw, .int 2], [.int 0, .ref 129, .int v7], h)) rfl ?_
    refine hp_ial (v := l) rfl (hH.1 129 (0, 2) rfl) q_l (fun ia_7 ib_7 => ?_)
    refine qm_Rp.go 0 (c' := (191, [.ref 118, .int y, .int x, .int g, .int lo, .int k, .int b, .int tw, .int 2], [.int l, .int v7], h)) rfl ?_
    have ewt : w (c (kV c lo.toInt).toNat).toNat + (if mV c tk lo.toInt = 2 then w (c lo.toInt.toNat).toNat else 0) = v7.toInt := by rw [ek, eb, em, if_pos rfl, etw]; omega
    refine hp_cle (ix := v7.toInt) (iy := l.toInt) rfl rfl rfl (fun z9 => ?_) (fun z9 => ?_)
    · refine qm_Rp.go 1 (c' := (198, [.ref 118, .int y, .int x, .int g, .int lo, .int k, .int b, .int tw, .int 2], [.ref 118], h)) rfl ?_
      refine hp_inv (o := 118) (r := []) (as := [.ref 118]) rfl rfl (hH.1 118 (17, 105) rfl) rfl rfl rfl (px_looks0 (h := h) hH eW eH eS q_n hn hw hs q_lv q_B hB (fun I10 e_I10 a0_I10 a1_I10 a2_I10 => ?_))
      have e_I10 : ∀ o, [155, 156].contains o = false → ∀ i, I10 o i = (h.2.1) o i := e_I10
      have p150_I10 : pI I10 150 = wh := (funext fun i => congrArg Int32.toInt (e_I10 150 rfl i)).trans eH
      have p151_I10 : pI I10 151 = sp := (funext fun i => congrArg Int32.toInt (e_I10 151 rfl i)).trans eS
      have p152_I10 : pI I10 152 = c := (funext fun i => congrArg Int32.toInt (e_I10 152 rfl i)).trans eC
      have p153_I10 : pI I10 153 = yc := (funext fun i => congrArg Int32.toInt (e_I10 153 rfl i)).trans eY
      have p154_I10 : pI I10 154 = hi := (funext fun i => congrArg Int32.toInt (e_I10 154 rfl i)).trans eI
      obtain ⟨p0_I10, q_p0_I10⟩ : ∃ v_, I10 156 0 = v_ := ⟨_, rfl⟩
      rw [q_p0_I10] at a0_I10
      obtain ⟨p1_I10, q_p1_I10⟩ : ∃ v_, I10 156 1 = v_ := ⟨_, rfl⟩
      rw [q_p1_I10] at a1_I10
      obtain ⟨p2_I10, q_p2_I10⟩ : ∃ v_, I10 156 2 = v_ := ⟨_, rfl⟩
      rw [q_p2_I10] at a2_I10
      refine qm_Rp.go 2 (c' := (204, [.ref 118, .int y, .int x, .int g, .int lo, .int k, .int b, .int tw, .int 2], [.int b, .ref 118], (h.1, I10, h.2.2.1, h.2.2.2))) rfl ?_
      refine hp_inv (o := 118) (r := []) (as := [.ref 118, .int b]) rfl rfl (hH.1 118 (17, 105) rfl) rfl rfl rfl (px_lv1 (h := (h.1, I10, h.2.2.1, h.2.2.2)) hH (u := (I10) 151 b.toInt.toNat) (pz_at p150_I10 ab1.1) rfl (pz_in p151_I10 hs (b.toInt.toNat)) (pz_in p154_I10 hi4) (fun I11 e_I11 x150 x152 => ?_))
      have x150 : pI I11 150 = fu_up (pI (I10) 150) (b.toInt.toNat) (Int32.toInt 0) := x150
      have x152 : pI I11 152 = fu_up (pI (I10) 152) (pI (I10) 151 (b.toInt.toNat)).toNat (Int32.toInt (-1)) := x152
      have e_I11 : ∀ o, [150, 152].contains o = false → ∀ i, I11 o i = (I10) o i := e_I11
      have p150_I11 : pI I11 150 = fu_up (wh) (b.toInt.toNat) 0 := by rw [x150, p150_I10]; exact rfl
      have p151_I11 : pI I11 151 = sp := (funext fun i => congrArg Int32.toInt (e_I11 151 rfl i)).trans p151_I10
      have p152_I11 : pI I11 152 = fu_up (c) (sp b.toInt.toNat).toNat (-1) := by rw [x152, p152_I10, p151_I10]; exact rfl
      have p153_I11 : pI I11 153 = yc := (funext fun i => congrArg Int32.toInt (e_I11 153 rfl i)).trans p153_I10
      have p154_I11 : pI I11 154 = hi := (funext fun i => congrArg Int32.toInt (e_I11 154 rfl i)).trans p154_I10
      refine qm_Rp.go 2 (c' := (210, [.ref 118, .int y, .int x, .int g, .int lo, .int k, .int b, .int tw, .int 2], [.int (-1), .int tw], (h.1, I11, h.2.2.1, h.2.2.2))) rfl ?_
      refine hp_ceq (ix := tw.toInt) (iy := (-1)) rfl rfl rfl (fun z12 => by exfalso; omega) (fun z12 => ?_)
      refine qm_Rp.go 2 (c' := (216, [.ref 118, .int y, .int x, .int g, .int lo, .int k, .int b, .int tw, .int 2], [.int tw, .ref 118], (h.1, I11, h.2.2.1, h.2.2.2))) rfl ?_
      refine hp_inv (o := 118) (r := []) (as := [.ref 118, .int tw]) rfl rfl (hH.1 118 (17, 105) rfl) rfl rfl rfl (px_lv1 (h := (h.1, I11, h.2.2.1, h.2.2.2)) hH (u := (I11) 151 tw.toInt.toNat) (pz_at p150_I11 ((fu_ne hne).trans ab2.1)) rfl (pz_in p151_I11 hs (tw.toInt.toNat)) (pz_in p154_I11 hi4) (fun I13 e_I13 x150 x152 => ?_))
      have x150 : pI I13 150 = fu_up (pI (I11) 150) (tw.toInt.toNat) (Int32.toInt 0) := x150
      have x152 : pI I13 152 = fu_up (pI (I11) 152) (pI (I11) 151 (tw.toInt.toNat)).toNat (Int32.toInt (-1)) := x152
      have e_I13 : ∀ o, [150, 152].contains o = false → ∀ i, I13 o i = (I11) o i := e_I13
      have p150_I13 : pI I13 150 = fu_up (fu_up (wh) (b.toInt.toNat) 0) (tw.toInt.toNat) 0 := by rw [x150, p150_I11]; exact rfl
      have p151_I13 : pI I13 151 = sp := (funext fun i => congrArg Int32.toInt (e_I13 151 rfl i)).trans p151_I11
      have p152_I13 : pI I13 152 = fu_up (fu_up (c) (sp b.toInt.toNat).toNat (-1)) (sp tw.toInt.toNat).toNat (-1) := by rw [x152, p152_I11, p151_I11]; exact rfl
      have p153_I13 : pI I13 153 = yc := (funext fun i => congrArg Int32.toInt (e_I13 153 rfl i)).trans p153_I11
      have p154_I13 : pI I13 154 = hi := (funext fun i => congrArg Int32.toInt (e_I13 154 rfl i)).trans p154_I11
      refine qm_Rp.go 1 (c' := (220, [.ref 118, .int y, .int x, .int g, .int lo, .int k, .int b, .int tw, .int 2], [.ref 118], (h.1, I13, h.2.2.1, h.2.2.2))) rfl ?_
      refine hp_inv (o := 118) (r := []) (as := [.ref 118]) rfl rfl (hH.1 118 (17, 105) rfl) rfl rfl rfl (px_mayb0 (h := (h.1, I13, h.2.2.1, h.2.2.2)) hH ((funext fun i => congrArg Int32.toInt ((e_I13 146 rfl i).trans ((e_I11 146 rfl i).trans ((e_I10 146 rfl i).trans rfl)))).trans eW) p150_I13 p151_I13 (show (I13) 118 44 = _ from ((e_I13 118 rfl 44).trans ((e_I11 118 rfl 44).trans ((e_I10 118 rfl 44).trans q_n)))) hn hw hs (show (I13) 118 18 = _ from ((e_I13 118 rfl 18).trans ((e_I11 118 rfl 18).trans ((e_I10 118 rfl 18).trans q_lv)))) (show (I13) 127 0 = _ from ((e_I13 127 rfl 0).trans ((e_I11 127 rfl 0).trans ((e_I10 127 rfl 0).trans q_B)))) hB (show (I13) 128 0 = _ from ((e_I13 128 rfl 0).trans ((e_I11 128 rfl 0).trans ((e_I10 128 rfl 0).trans q_g0)))) (show (I13) 128 1 = _ from ((e_I13 128 rfl 1).trans ((e_I11 128 rfl 1).trans ((e_I10 128 rfl 1).trans q_g1)))) (show (I13) 128 2 = _ from ((e_I13 128 rfl 2).trans ((e_I11 128 rfl 2).trans ((e_I10 128 rfl 2).trans q_g2)))) (show (I13) 156 0 = _ from ((e_I13 156 rfl 0).trans ((e_I11 156 rfl 0).trans q_p0_I10))) (show (I13) 156 1 = _ from ((e_I13 156 rfl 1).trans ((e_I11 156 rfl 1).trans q_p1_I10))) (show (I13) 156 2 = _ from ((e_I13 156 rfl 2).trans ((e_I11 156 rfl 2).trans q_p2_I10))) (fun I14 r15 e_I14 hm => ?_))
      have e_I14 : ∀ o, [155].contains o = false → ∀ i, I14 o i = (I13) o i := e_I14
      have p150_I14 : pI I14 150 = fu_up (fu_up (wh) (b.toInt.toNat) 0) (tw.toInt.toNat) 0 := (funext fun i => congrArg Int32.toInt (e_I14 150 rfl i)).trans p150_I13
      have p151_I14 : pI I14 151 = sp := (funext fun i => congrArg Int32.toInt (e_I14 151 rfl i)).trans p151_I13
      have p152_I14 : pI I14 152 = fu_up (fu_up (c) (sp b.toInt.toNat).toNat (-1)) (sp tw.toInt.toNat).toNat (-1) := (funext fun i => congrArg Int32.toInt (e_I14 152 rfl i)).trans p152_I13
      have p153_I14 : pI I14 153 = yc := (funext fun i => congrArg Int32.toInt (e_I14 153 rfl i)).trans p153_I13
      have p154_I14 : pI I14 154 = hi := (funext fun i => congrArg Int32.toInt (e_I14 154 rfl i)).trans p154_I13
      rw [a0_I10, a1_I10, a2_I10] at hm
      rcases hm with ⟨hr, hm⟩ | ⟨hr, hm⟩
      · obtain rfl : r15 = 1 := hk_eqi.mpr (hr.trans rfl)
        refine qm_Rp.go 3 (c' := (253, [.ref 118, .int y, .int x, .int g, .int lo, .int k, .int b, .int tw, .int 2], [.int (-1), .int g], (h.1, I14, h.2.2.1, h.2.2.2))) rfl ?_
        refine hp_ceq (ix := g.toInt) (iy := (-1)) rfl rfl rfl (fun z16 => ?_) (fun z16 => by exfalso; omega)
        refine qm_Rp.go 1 (c' := (278, [.ref 118, .int y, .int x, .int g, .int lo, .int k, .int b, .int tw, .int 2], [.int 2], (h.1, I14, h.2.2.1, h.2.2.2))) rfl ?_
        refine qm_Rp.rt (v := (some (.int 2))) (h' := (h.1, I14, h.2.2.1, h.2.2.2)) rfl ?_
        exact k2 (I14) (fun o ho i => ((e_I14 o (hk_ms rfl ho) i).trans ((e_I13 o (hk_ms rfl ho) i).trans ((e_I11 o (hk_ms rfl ho) i).trans ((e_I10 o (hk_ms rfl ho) i).trans rfl))))) ((unl_f ⟨by omega, by omega, by omega, by omega, by omega, by omega⟩ (by rw [el, ek, eb]; omega) (by rw [el, em]; intro z; omega) (by rw [el, ewt]; omega) (okb_t (by rw [el, show whU c tk wh lo.toInt = fu_up (fu_up wh b.toInt.toNat 0) tw.toInt.toNat 0 from (if_pos em).trans (by rw [ec1, etw])]; exact hm))).trans (by rw [el, em])).symm (p150_I14.trans (by rw [el, ec1, etw, if_pos (show g.toInt = -1 by omega)])) (p151_I14.trans (by rw [if_pos (show g.toInt = -1 by omega)])) (p152_I14.trans (by rw [el, ek_b, ek_tw, show (lo.toInt + 1) = k.toInt by omega])) (p153_I14.trans (by rw [if_pos (show g.toInt = -1 by omega)])) (p154_I14.trans (by rw [if_pos (show g.toInt = -1 by omega)]))
      · obtain rfl : r15 = 0 := hk_eqi.mpr (hr.trans rfl)
        refine qm_Rp.go 4 (c' := (231, [.ref 118, .int y, .int x, .int g, .int lo, .int k, .int b, .int tw, .int 2], [.int k, .int b, .ref 118], (h.1, I14, h.2.2.1, h.2.2.2))) rfl ?_
        refine hp_inv (o := 118) (r := []) (as := [.ref 118, .int b, .int k]) rfl rfl (hH.1 118 (17, 105) rfl) rfl rfl rfl (px_brd (h := (h.1, I14, h.2.2.1, h.2.2.2)) hH (fun I17 e_I17 x150 x151 x152 => ?_))
        have x150 : pI I17 150 = fu_up (pI (I14) 150) (b.toInt.toNat) (Int32.toInt 1) := x150
        have x151 : pI I17 151 = fu_up (pI (I14) 151) (b.toInt.toNat) k.toInt := x151
        have x152 : pI I17 152 = fu_up (pI (I14) 152) k.toInt.toNat b.toInt := x152
        have e_I17 : ∀ o, [150, 151, 152].contains o = false → ∀ i, I17 o i = (I14) o i := e_I17
        have p150_I17 : pI I17 150 = fu_up (fu_up (fu_up (wh) (b.toInt.toNat) 0) (tw.toInt.toNat) 0) (b.toInt.toNat) 1 := by rw [x150, p150_I14]; exact rfl
        have p151_I17 : pI I17 151 = sp := by rw [x151, p151_I14]; exact fu_si ek_b
        have p152_I17 : pI I17 152 = fu_up (fu_up (fu_up (c) (sp b.toInt.toNat).toNat (-1)) (sp tw.toInt.toNat).toNat (-1)) (sp b.toInt.toNat).toNat b.toInt := by rw [x152, p152_I14, show (sp b.toInt.toNat).toNat = k.toInt.toNat by rw [ek_b]]
        have p153_I17 : pI I17 153 = yc := (funext fun i => congrArg Int32.toInt (e_I17 153 rfl i)).trans p153_I14
        have p154_I17 : pI I17 154 = hi := (funext fun i => congrArg Int32.toInt (e_I17 154 rfl i)).trans p154_I14
        refine qm_Rp.go 2 (c' := (237, [.ref 118, .int y, .int x, .int g, .int lo, .int k, .int b, .int tw, .int 2], [.int (-1), .int tw], (h.1, I17, h.2.2.1, h.2.2.2))) rfl ?_
        refine hp_ceq (ix := tw.toInt) (iy := (-1)) rfl rfl rfl (fun z18 => by exfalso; omega) (fun z18 => ?_)
        refine qm_Rp.go 3 (c' := (245, [.ref 118, .int y, .int x, .int g, .int lo, .int k, .int b, .int tw, .int 2], [.int lo, .int tw, .ref 118], (h.1, I17, h.2.2.1, h.2.2.2))) rfl ?_
        refine hp_inv (o := 118) (r := []) (as := [.ref 118, .int tw, .int lo]) rfl rfl (hH.1 118 (17, 105) rfl) rfl rfl rfl (px_brd (h := (h.1, I17, h.2.2.1, h.2.2.2)) hH (fun I19 e_I19 x150 x151 x152 => ?_))
        have x150 : pI I19 150 = fu_up (pI (I17) 150) (tw.toInt.toNat) (Int32.toInt 1) := x150
        have x151 : pI I19 151 = fu_up (pI (I17) 151) (tw.toInt.toNat) lo.toInt := x151
        have x152 : pI I19 152 = fu_up (pI (I17) 152) lo.toInt.toNat tw.toInt := x152
        have e_I19 : ∀ o, [150, 151, 152].contains o = false → ∀ i, I19 o i = (I17) o i := e_I19
        have p150_I19 : pI I19 150 = fu_up (fu_up (fu_up (fu_up (wh) (b.toInt.toNat) 0) (tw.toInt.toNat) 0) (b.toInt.toNat) 1) (tw.toInt.toNat) 1 := by rw [x150, p150_I17]; exact rfl
        have p151_I19 : pI I19 151 = sp := by rw [x151, p151_I17]; exact fu_si ek_tw
        have p152_I19 : pI I19 152 = fu_up (fu_up (fu_up (fu_up (c) (sp b.toInt.toNat).toNat (-1)) (sp tw.toInt.toNat).toNat (-1)) (sp b.toInt.toNat).toNat b.toInt) (sp tw.toInt.toNat).toNat tw.toInt := by rw [x152, p152_I17, show (sp tw.toInt.toNat).toNat = lo.toInt.toNat by rw [ek_tw]]
        have p153_I19 : pI I19 153 = yc := (funext fun i => congrArg Int32.toInt (e_I19 153 rfl i)).trans p153_I17
        have p154_I19 : pI I19 154 = hi := (funext fun i => congrArg Int32.toInt (e_I19 154 rfl i)).trans p154_I17
        refine qm_Rp.go 1 (c' := (250, [.ref 118, .int y, .int x, .int g, .int lo, .int k, .int b, .int tw, .int 2], [.int (-3)], (h.1, I19, h.2.2.1, h.2.2.2))) rfl ?_
        refine qm_Rp.rt (v := (some (.int (-3)))) (h' := (h.1, I19, h.2.2.1, h.2.2.2)) rfl ?_
        exact k0 (I19) (-3) (fun o ho i => ((e_I19 o (hk_ms rfl ho) i).trans ((e_I17 o (hk_ms rfl ho) i).trans ((e_I14 o (hk_ms rfl ho) i).trans ((e_I13 o (hk_ms rfl ho) i).trans ((e_I11 o (hk_ms rfl ho) i).trans ((e_I10 o (hk_ms rfl ho) i).trans rfl))))))) (unl_e ⟨by omega, by omega, by omega, by omega, by omega, by omega⟩ (by rw [el, ek, eb]; omega) (by rw [el, em]; intro z; omega) (by rw [el, ewt]; omega) (okb_f (by rw [el, show whU c tk wh lo.toInt = fu_up (fu_up wh b.toInt.toNat 0) tw.toInt.toNat 0 from (if_pos em).trans (by rw [ec1, etw])]; exact hm))).symm (by decide) (p150_I19.trans (fu_4 hne ab1.1 ab2.1)) p151_I19 (p152_I19.trans (fu_4 (by rw [ek_tw, ek_b]; omega) (by rw [ek_b]; exact eb) (by rw [ek_tw]; exact etw))) p153_I19 p154_I19
    · refine qm_Rp.go 1 (c' := (196, [.ref 118, .int y, .int x, .int g, .int lo, .int k, .int b, .int tw, .int 2], [.int (-2)], h)) rfl ?_
      refine qm_Rp.rt (v := (some (.int (-2)))) (h' := h) rfl ?_
      exact k0 (h.2.1) (-2) (fun o ho i => rfl) (unl_d ⟨by omega, by omega, by omega, by omega, by omega, by omega⟩ (by rw [el, ek, eb]; omega) (by rw [el, em]; intro z; omega) (by rw [el, ewt]; omega)).symm (by decide) eH eS eC eY eI
  · refine qm_Rp.go 1 (c' := (143, [.ref 118, .int y, .int x, .int g, .int lo, .int k, .int b, .int tw, .int 2], [.ref 118], h)) rfl ?_
    refine hp_getr rfl (hH.1 118 (17, 105) rfl) rfl (hH.2 118 53 (some 154) rfl) ?_
    refine qm_Rp.go 1 (c' := (147, [.ref 118, .int y, .int x, .int g, .int lo, .int k, .int b, .int tw, .int 2], [.int g, .ref 154], h)) rfl ?_
    obtain ⟨v20, q_v20⟩ : ∃ v_, h.2.1 154 g.toInt.toNat = v_ := ⟨_, rfl⟩
    refine hp_ial (v := v20) rfl (hH.1 154 (0, 4) rfl) q_v20 (fun ia_20 ib_20 => ?_)
    refine qm_Rp.go 0 (c' := (148, [.ref 118, .int y, .int x, .int g, .int lo, .int k, .int b, .int tw, .int 2], [.int v20], h)) rfl ?_
    have eh : hi g.toInt.toNat = v20.toInt := by rw [← eI]; exact congrArg Int32.toInt q_v20
    have bh := hi4 g.toInt.toNat
    rw [eh] at bh
    refine qm_Rp.go 2 (c' := (151, [.ref 118, .int y, .int x, .int g, .int lo, .int k, .int b, .int tw, .int 2], [.int (v20 + 2)], h)) rfl ?_
    obtain ⟨v22, q_v22, e_v22⟩ := hk_add (x := v20) (y := 2) (a := v20.toInt) (b := 2) rfl rfl (by omega) (by omega)
    rw [q_v22]
    refine qm_Rp.go 1 (c' := (152, [.ref 118, .int y, .int x, .int g, .int lo, .int k, .int b, .int tw, .int 2], [.int 4, .int v22], h)) rfl ?_
    refine hp_cle (ix := v22.toInt) (iy := 4) rfl rfl rfl (fun z23 => ?_) (fun z23 => ?_)
    · refine qm_Rp.go 1 (c' := (158, [.ref 118, .int y, .int x, .int g, .int lo, .int k, .int b, .int tw, .int 2], [.ref 118], h)) rfl ?_
      refine hp_getr rfl (hH.1 118 (17, 105) rfl) rfl (hH.2 118 45 (some 146) rfl) ?_
      refine qm_Rp.go 1 (c' := (163, [.ref 118, .int y, .int x, .int g, .int lo, .int k, .int b, .int tw, .int 2], [.int b, .ref 146], h)) rfl ?_
      obtain ⟨v24, q_v24⟩ : ∃ v_, h.2.1 146 b.toInt.toNat = v_ := ⟨_, rfl⟩
      refine hp_ial (v := v24) rfl (hH.1 146 (0, 30) rfl) q_v24 (fun ia_24 ib_24 => ?_)
      refine qm_Rp.go 0 (c' := (164, [.ref 118, .int y, .int x, .int g, .int lo, .int k, .int b, .int tw, .int 2], [.int v24], h)) rfl ?_
      have ew_b : w b.toInt.toNat = v24.toInt := by rw [← eW]; exact congrArg Int32.toInt q_v24
      have bw_b := hw b.toInt.toNat
      rw [ew_b] at bw_b
      refine qm_Rp.go 2 (c' := (167, [.ref 118, .int y, .int x, .int g, .int lo, .int k, .int b, .int tw, .int 2], [.int (-1), .int tw, .int v24], h)) rfl ?_
      refine hp_cne (ix := tw.toInt) (iy := (-1)) rfl rfl rfl (fun z26 => ?_) (fun z26 => by exfalso; omega)
      refine qm_Rp.go 1 (c' := (175, [.ref 118, .int y, .int x, .int g, .int lo, .int k, .int b, .int tw, .int 2], [.ref 118, .int v24], h)) rfl ?_
      refine hp_getr rfl (hH.1 118 (17, 105) rfl) rfl (hH.2 118 45 (some 146) rfl) ?_
      refine qm_Rp.go 1 (c' := (180, [.ref 118, .int y, .int x, .int g, .int lo, .int k, .int b, .int tw, .int 2], [.int tw, .ref 146, .int v24], h)) rfl ?_
      obtain ⟨v27, q_v27⟩ : ∃ v_, h.2.1 146 tw.toInt.toNat = v_ := ⟨_, rfl⟩
      refine hp_ial (v := v27) rfl (hH.1 146 (0, 30) rfl) q_v27 (fun ia_27 ib_27 => ?_)
      refine qm_Rp.go 0 (c' := (181, [.ref 118, .int y, .int x, .int g, .int lo, .int k, .int b, .int tw, .int 2], [.int v27, .int v24], h)) rfl ?_
      have ew_tw : w tw.toInt.toNat = v27.toInt := by rw [← eW]; exact congrArg Int32.toInt q_v27
      have bw_tw := hw tw.toInt.toNat
      rw [ew_tw] at bw_tw
      refine qm_Rp.go 1 (c' := (182, [.ref 118, .int y, .int x, .int g, .int lo, .int k, .int b, .int tw, .int 2], [.int (v24 + v27)], h)) rfl ?_
      obtain ⟨v29, q_v29, e_v29⟩ := hk_add (x := v24) (y := v27) (a := v24.toInt) (b := v27.toInt) rfl rfl (by omega) (by omega)
      rw [q_v29]
      refine qm_Rp.go 1 (c' := (183, [.ref 118, .int y, .int x, .int g, .int lo, .int k, .int b, .int tw, .int 2], [.ref 118, .int v29], h)) rfl ?_
      refine hp_getr rfl (hH.1 118 (17, 105) rfl) rfl (hH.2 118 24 (some 129) rfl) ?_
      refine qm_Rp.go 1 (c' := (187, [.ref 118, .int y, .int x, .int g, .int lo, .int k, .int b, .int tw, .int 2], [.ref 118, .ref 129, .int v29], h)) rfl ?_
      refine hp_geti (v := 0) rfl (hH.1 118 (17, 105) rfl) rfl q_lv ?_
      refine qm_Rp.go 0 (c' := (190, [.ref 118, .int y, .int x, .int g, .int lo, .int k, .int b, .int tw, .int 2], [.int 0, .ref 129, .int v29], h)) rfl ?_
      refine hp_ial (v := l) rfl (hH.1 129 (0, 2) rfl) q_l (fun ia_29 ib_29 => ?_)
      refine qm_Rp.go 0 (c' := (191, [.ref 118, .int y, .int x, .int g, .int lo, .int k, .int b, .int tw, .int 2], [.int l, .int v29], h)) rfl ?_
      have ewt : w (c (kV c lo.toInt).toNat).toNat + (if mV c tk lo.toInt = 2 then w (c lo.toInt.toNat).toNat else 0) = v29.toInt := by rw [ek, eb, em, if_pos rfl, etw]; omega
      refine hp_cle (ix := v29.toInt) (iy := l.toInt) rfl rfl rfl (fun z31 => ?_) (fun z31 => ?_)
      · refine qm_Rp.go 1 (c' := (198, [.ref 118, .int y, .int x, .int g, .int lo, .int k, .int b, .int tw, .int 2], [.ref 118], h)) rfl ?_
        refine hp_inv (o := 118) (r := []) (as := [.ref 118]) rfl rfl (hH.1 118 (17, 105) rfl) rfl rfl rfl (px_looks0 (h := h) hH eW eH eS q_n hn hw hs q_lv q_B hB (fun I32 e_I32 a0_I32 a1_I32 a2_I32 => ?_))
        have e_I32 : ∀ o, [155, 156].contains o = false → ∀ i, I32 o i = (h.2.1) o i := e_I32
        have p150_I32 : pI I32 150 = wh := (funext fun i => congrArg Int32.toInt (e_I32 150 rfl i)).trans eH
        have p151_I32 : pI I32 151 = sp := (funext fun i => congrArg Int32.toInt (e_I32 151 rfl i)).trans eS
        have p152_I32 : pI I32 152 = c := (funext fun i => congrArg Int32.toInt (e_I32 152 rfl i)).trans eC
        have p153_I32 : pI I32 153 = yc := (funext fun i => congrArg Int32.toInt (e_I32 153 rfl i)).trans eY
        have p154_I32 : pI I32 154 = hi := (funext fun i => congrArg Int32.toInt (e_I32 154 rfl i)).trans eI
        obtain ⟨p0_I32, q_p0_I32⟩ : ∃ v_, I32 156 0 = v_ := ⟨_, rfl⟩
        rw [q_p0_I32] at a0_I32
        obtain ⟨p1_I32, q_p1_I32⟩ : ∃ v_, I32 156 1 = v_ := ⟨_, rfl⟩
        rw [q_p1_I32] at a1_I32
        obtain ⟨p2_I32, q_p2_I32⟩ : ∃ v_, I32 156 2 = v_ := ⟨_, rfl⟩
        rw [q_p2_I32] at a2_I32
        refine qm_Rp.go 2 (c' := (204, [.ref 118, .int y, .int x, .int g, .int lo, .int k, .int b, .int tw, .int 2], [.int b, .ref 118], (h.1, I32, h.2.2.1, h.2.2.2))) rfl ?_
        refine hp_inv (o := 118) (r := []) (as := [.ref 118, .int b]) rfl rfl (hH.1 118 (17, 105) rfl) rfl rfl rfl (px_lv1 (h := (h.1, I32, h.2.2.1, h.2.2.2)) hH (u := (I32) 151 b.toInt.toNat) (pz_at p150_I32 ab1.1) rfl (pz_in p151_I32 hs (b.toInt.toNat)) (pz_in p154_I32 hi4) (fun I33 e_I33 x150 x152 => ?_))
        have x150 : pI I33 150 = fu_up (pI (I32) 150) (b.toInt.toNat) (Int32.toInt 0) := x150
        have x152 : pI I33 152 = fu_up (pI (I32) 152) (pI (I32) 151 (b.toInt.toNat)).toNat (Int32.toInt (-1)) := x152
        have e_I33 : ∀ o, [150, 152].contains o = false → ∀ i, I33 o i = (I32) o i := e_I33
        have p150_I33 : pI I33 150 = fu_up (wh) (b.toInt.toNat) 0 := by rw [x150, p150_I32]; exact rfl
        have p151_I33 : pI I33 151 = sp := (funext fun i => congrArg Int32.toInt (e_I33 151 rfl i)).trans p151_I32
        have p152_I33 : pI I33 152 = fu_up (c) (sp b.toInt.toNat).toNat (-1) := by rw [x152, p152_I32, p151_I32]; exact rfl
        have p153_I33 : pI I33 153 = yc := (funext fun i => congrArg Int32.toInt (e_I33 153 rfl i)).trans p153_I32
        have p154_I33 : pI I33 154 = hi := (funext fun i => congrArg Int32.toInt (e_I33 154 rfl i)).trans p154_I32
        refine qm_Rp.go 2 (c' := (210, [.ref 118, .int y, .int x, .int g, .int lo, .int k, .int b, .int tw, .int 2], [.int (-1), .int tw], (h.1, I33, h.2.2.1, h.2.2.2))) rfl ?_
        refine hp_ceq (ix := tw.toInt) (iy := (-1)) rfl rfl rfl (fun z34 => by exfalso; omega) (fun z34 => ?_)
        refine qm_Rp.go 2 (c' := (216, [.ref 118, .int y, .int x, .int g, .int lo, .int k, .int b, .int tw, .int 2], [.int tw, .ref 118], (h.1, I33, h.2.2.1, h.2.2.2))) rfl ?_
        refine hp_inv (o := 118) (r := []) (as := [.ref 118, .int tw]) rfl rfl (hH.1 118 (17, 105) rfl) rfl rfl rfl (px_lv1 (h := (h.1, I33, h.2.2.1, h.2.2.2)) hH (u := (I33) 151 tw.toInt.toNat) (pz_at p150_I33 ((fu_ne hne).trans ab2.1)) rfl (pz_in p151_I33 hs (tw.toInt.toNat)) (pz_in p154_I33 hi4) (fun I35 e_I35 x150 x152 => ?_))
        have x150 : pI I35 150 = fu_up (pI (I33) 150) (tw.toInt.toNat) (Int32.toInt 0) := x150
        have x152 : pI I35 152 = fu_up (pI (I33) 152) (pI (I33) 151 (tw.toInt.toNat)).toNat (Int32.toInt (-1)) := x152
        have e_I35 : ∀ o, [150, 152].contains o = false → ∀ i, I35 o i = (I33) o i := e_I35
        have p150_I35 : pI I35 150 = fu_up (fu_up (wh) (b.toInt.toNat) 0) (tw.toInt.toNat) 0 := by rw [x150, p150_I33]; exact rfl
        have p151_I35 : pI I35 151 = sp := (funext fun i => congrArg Int32.toInt (e_I35 151 rfl i)).trans p151_I33
        have p152_I35 : pI I35 152 = fu_up (fu_up (c) (sp b.toInt.toNat).toNat (-1)) (sp tw.toInt.toNat).toNat (-1) := by rw [x152, p152_I33, p151_I33]; exact rfl
        have p153_I35 : pI I35 153 = yc := (funext fun i => congrArg Int32.toInt (e_I35 153 rfl i)).trans p153_I33
        have p154_I35 : pI I35 154 = hi := (funext fun i => congrArg Int32.toInt (e_I35 154 rfl i)).trans p154_I33
        refine qm_Rp.go 1 (c' := (220, [.ref 118, .int y, .int x, .int g, .int lo, .int k, .int b, .int tw, .int 2], [.ref 118], (h.1, I35, h.2.2.1, h.2.2.2))) rfl ?_
        refine hp_inv (o := 118) (r := []) (as := [.ref 118]) rfl rfl (hH.1 118 (17, 105) rfl) rfl rfl rfl (px_mayb0 (h := (h.1, I35, h.2.2.1, h.2.2.2)) hH ((funext fun i => congrArg Int32.toInt ((e_I35 146 rfl i).trans ((e_I33 146 rfl i).trans ((e_I32 146 rfl i).trans rfl)))).trans eW) p150_I35 p151_I35 (show (I35) 118 44 = _ from ((e_I35 118 rfl 44).trans ((e_I33 118 rfl 44).trans ((e_I32 118 rfl 44).trans q_n)))) hn hw hs (show (I35) 118 18 = _ from ((e_I35 118 rfl 18).trans ((e_I33 118 rfl 18).trans ((e_I32 118 rfl 18).trans q_lv)))) (show (I35) 127 0 = _ from ((e_I35 127 rfl 0).trans ((e_I33 127 rfl 0).trans ((e_I32 127 rfl 0).trans q_B)))) hB (show (I35) 128 0 = _ from ((e_I35 128 rfl 0).trans ((e_I33 128 rfl 0).trans ((e_I32 128 rfl 0).trans q_g0)))) (show (I35) 128 1 = _ from ((e_I35 128 rfl 1).trans ((e_I33 128 rfl 1).trans ((e_I32 128 rfl 1).trans q_g1)))) (show (I35) 128 2 = _ from ((e_I35 128 rfl 2).trans ((e_I33 128 rfl 2).trans ((e_I32 128 rfl 2).trans q_g2)))) (show (I35) 156 0 = _ from ((e_I35 156 rfl 0).trans ((e_I33 156 rfl 0).trans q_p0_I32))) (show (I35) 156 1 = _ from ((e_I35 156 rfl 1).trans ((e_I33 156 rfl 1).trans q_p1_I32))) (show (I35) 156 2 = _ from ((e_I35 156 rfl 2).trans ((e_I33 156 rfl 2).trans q_p2_I32))) (fun I36 r37 e_I36 hm => ?_))
        have e_I36 : ∀ o, [155].contains o = false → ∀ i, I36 o i = (I35) o i := e_I36
        have p150_I36 : pI I36 150 = fu_up (fu_up (wh) (b.toInt.toNat) 0) (tw.toInt.toNat) 0 := (funext fun i => congrArg Int32.toInt (e_I36 150 rfl i)).trans p150_I35
        have p151_I36 : pI I36 151 = sp := (funext fun i => congrArg Int32.toInt (e_I36 151 rfl i)).trans p151_I35
        have p152_I36 : pI I36 152 = fu_up (fu_up (c) (sp b.toInt.toNat).toNat (-1)) (sp tw.toInt.toNat).toNat (-1) := (funext fun i => congrArg Int32.toInt (e_I36 152 rfl i)).trans p152_I35
        have p153_I36 : pI I36 153 = yc := (funext fun i => congrArg Int32.toInt (e_I36 153 rfl i)).trans p153_I35
        have p154_I36 : pI I36 154 = hi := (funext fun i => congrArg Int32.toInt (e_I36 154 rfl i)).trans p154_I35
        rw [a0_I32, a1_I32, a2_I32] at hm
        rcases hm with ⟨hr, hm⟩ | ⟨hr, hm⟩
        · obtain rfl : r37 = 1 := hk_eqi.mpr (hr.trans rfl)
          refine qm_Rp.go 3 (c' := (253, [.ref 118, .int y, .int x, .int g, .int lo, .int k, .int b, .int tw, .int 2], [.int (-1), .int g], (h.1, I36, h.2.2.1, h.2.2.2))) rfl ?_
          refine hp_ceq (ix := g.toInt) (iy := (-1)) rfl rfl rfl (fun z38 => by exfalso; omega) (fun z38 => ?_)
          refine qm_Rp.go 2 (c' := (259, [.ref 118, .int y, .int x, .int g, .int lo, .int k, .int b, .int tw, .int 2], [.int (-1), .int tw], (h.1, I36, h.2.2.1, h.2.2.2))) rfl ?_
          refine hp_ceq (ix := tw.toInt) (iy := (-1)) rfl rfl rfl (fun z39 => by exfalso; omega) (fun z39 => ?_)
          refine qm_Rp.go 3 (c' := (266, [.ref 118, .int y, .int x, .int g, .int lo, .int k, .int b, .int tw, .int 2], [.int g, .int tw, .ref 118], (h.1, I36, h.2.2.1, h.2.2.2))) rfl ?_
          have ev : ((I36) 154 g.toInt.toNat).toInt = hi g.toInt.toNat := by rw [show ((I36) 154 g.toInt.toNat).toInt = (hi) g.toInt.toNat from congrFun p154_I36 _]
          refine hp_inv (o := 118) (r := []) (as := [.ref 118, .int tw, .int g]) rfl rfl (hH.1 118 (17, 105) rfl) rfl rfl rfl (px_puts (h := (h.1, I36, h.2.2.1, h.2.2.2)) hH (v := (I36) 154 g.toInt.toNat) ⟨by omega, by omega⟩ rfl (by rw [ev]; have := hi4 g.toInt.toNat; omega) (fun I40 e_I40 x150 x151 x153 x154 => ?_))
          have x150 : pI I40 150 = fu_up (pI (I36) 150) (tw.toInt.toNat) (Int32.toInt 2) := x150
          have x151 : pI I40 151 = fu_up (pI (I36) 151) (tw.toInt.toNat) (4 * g.toInt + ((I36) 154 g.toInt.toNat).toInt) := x151
          have x153 : pI I40 153 = fu_up (pI (I36) 153) (4 * g.toInt + ((I36) 154 g.toInt.toNat).toInt).toNat tw.toInt := x153
          have x154 : pI I40 154 = fu_up (pI (I36) 154) g.toInt.toNat (((I36) 154 g.toInt.toNat).toInt + 1) := x154
          rw [ev] at x151 x153 x154
          have e_I40 : ∀ o, [150, 151, 153, 154].contains o = false → ∀ i, I40 o i = (I36) o i := e_I40
          have p150_I40 : pI I40 150 = fu_up (fu_up (fu_up (wh) (b.toInt.toNat) 0) (tw.toInt.toNat) 0) (tw.toInt.toNat) 2 := by rw [x150, p150_I36]; exact rfl
          have p151_I40 : pI I40 151 = fu_up (sp) (tw.toInt.toNat) (4 * g.toInt + hi g.toInt.toNat) := by rw [x151, p151_I36]
          have p152_I40 : pI I40 152 = fu_up (fu_up (c) (sp b.toInt.toNat).toNat (-1)) (sp tw.toInt.toNat).toNat (-1) := (funext fun i => congrArg Int32.toInt (e_I40 152 rfl i)).trans p152_I36
          have p153_I40 : pI I40 153 = fu_up (yc) (4 * g.toInt + hi g.toInt.toNat).toNat tw.toInt := by rw [x153, p153_I36]
          have p154_I40 : pI I40 154 = fu_up (hi) (g.toInt.toNat) (hi g.toInt.toNat + 1) := by rw [x154, p154_I36]
          refine qm_Rp.go 3 (c' := (273, [.ref 118, .int y, .int x, .int g, .int lo, .int k, .int b, .int tw, .int 2], [.int g, .int b, .ref 118], (h.1, I40, h.2.2.1, h.2.2.2))) rfl ?_
          have ev : ((I40) 154 g.toInt.toNat).toInt = (hi g.toInt.toNat + 1) := by rw [show ((I40) 154 g.toInt.toNat).toInt = (fu_up (hi) (g.toInt.toNat) (hi g.toInt.toNat + 1)) g.toInt.toNat from congrFun p154_I40 _]; exact fu_eq
          refine hp_inv (o := 118) (r := []) (as := [.ref 118, .int b, .int g]) rfl rfl (hH.1 118 (17, 105) rfl) rfl rfl rfl (px_puts (h := (h.1, I40, h.2.2.1, h.2.2.2)) hH (v := (I40) 154 g.toInt.toNat) ⟨by omega, by omega⟩ rfl (by rw [ev]; have := hi4 g.toInt.toNat; omega) (fun I41 e_I41 x150 x151 x153 x154 => ?_))
          have x150 : pI I41 150 = fu_up (pI (I40) 150) (b.toInt.toNat) (Int32.toInt 2) := x150
          have x151 : pI I41 151 = fu_up (pI (I40) 151) (b.toInt.toNat) (4 * g.toInt + ((I40) 154 g.toInt.toNat).toInt) := x151
          have x153 : pI I41 153 = fu_up (pI (I40) 153) (4 * g.toInt + ((I40) 154 g.toInt.toNat).toInt).toNat b.toInt := x153
          have x154 : pI I41 154 = fu_up (pI (I40) 154) g.toInt.toNat (((I40) 154 g.toInt.toNat).toInt + 1) := x154
          rw [ev] at x151 x153 x154
          have e_I41 : ∀ o, [150, 151, 153, 154].contains o = false → ∀ i, I41 o i = (I40) o i := e_I41
          have p150_I41 : pI I41 150 = fu_up (fu_up (fu_up (fu_up (wh) (b.toInt.toNat) 0) (tw.toInt.toNat) 0) (tw.toInt.toNat) 2) (b.toInt.toNat) 2 := by rw [x150, p150_I40]; exact rfl
          have p151_I41 : pI I41 151 = fu_up (fu_up (sp) (tw.toInt.toNat) (4 * g.toInt + hi g.toInt.toNat)) (b.toInt.toNat) (4 * g.toInt + (hi g.toInt.toNat + 1)) := by rw [x151, p151_I40]
          have p152_I41 : pI I41 152 = fu_up (fu_up (c) (sp b.toInt.toNat).toNat (-1)) (sp tw.toInt.toNat).toNat (-1) := (funext fun i => congrArg Int32.toInt (e_I41 152 rfl i)).trans p152_I40
          have p153_I41 : pI I41 153 = fu_up (fu_up (yc) (4 * g.toInt + hi g.toInt.toNat).toNat tw.toInt) (4 * g.toInt + (hi g.toInt.toNat + 1)).toNat b.toInt := by rw [x153, p153_I40]
          have p154_I41 : pI I41 154 = fu_up (hi) (g.toInt.toNat) ((hi g.toInt.toNat + 1) + 1) := by rw [x154, p154_I40]; exact fu_fu2
          refine qm_Rp.go 1 (c' := (278, [.ref 118, .int y, .int x, .int g, .int lo, .int k, .int b, .int tw, .int 2], [.int 2], (h.1, I41, h.2.2.1, h.2.2.2))) rfl ?_
          refine qm_Rp.rt (v := (some (.int 2))) (h' := (h.1, I41, h.2.2.1, h.2.2.2)) rfl ?_
          exact k2 (I41) (fun o ho i => ((e_I41 o (hk_ms rfl ho) i).trans ((e_I40 o (hk_ms rfl ho) i).trans ((e_I36 o (hk_ms rfl ho) i).trans ((e_I35 o (hk_ms rfl ho) i).trans ((e_I33 o (hk_ms rfl ho) i).trans ((e_I32 o (hk_ms rfl ho) i).trans rfl))))))) ((unl_f ⟨by omega, by omega, by omega, by omega, by omega, by omega⟩ (by rw [el, ek, eb]; omega) (by rw [el, em]; intro z; omega) (by rw [el, ewt]; omega) (okb_t (by rw [el, show whU c tk wh lo.toInt = fu_up (fu_up wh b.toInt.toNat 0) tw.toInt.toNat 0 from (if_pos em).trans (by rw [ec1, etw])]; exact hm))).trans (by rw [el, em])).symm (p150_I41.trans (by rw [el, ec1, etw, if_neg (show ¬ g.toInt = -1 by omega)]; exact fu_x)) (p151_I41.trans (by rw [el, ec1, etw, if_neg (show ¬ g.toInt = -1 by omega)])) (p152_I41.trans (by rw [el, ek_b, ek_tw, show (lo.toInt + 1) = k.toInt by omega])) (p153_I41.trans (by rw [el, ec1, etw, if_neg (show ¬ g.toInt = -1 by omega)])) (p154_I41.trans (by rw [if_neg (show ¬ g.toInt = -1 by omega)]))
        · obtain rfl : r37 = 0 := hk_eqi.mpr (hr.trans rfl)
          refine qm_Rp.go 4 (c' := (231, [.ref 118, .int y, .int x, .int g, .int lo, .int k, .int b, .int tw, .int 2], [.int k, .int b, .ref 118], (h.1, I36, h.2.2.1, h.2.2.2))) rfl ?_
          refine hp_inv (o := 118) (r := []) (as := [.ref 118, .int b, .int k]) rfl rfl (hH.1 118 (17, 105) rfl) rfl rfl rfl (px_brd (h := (h.1, I36, h.2.2.1, h.2.2.2)) hH (fun I42 e_I42 x150 x151 x152 => ?_))
          have x150 : pI I42 150 = fu_up (pI (I36) 150) (b.toInt.toNat) (Int32.toInt 1) := x150
          have x151 : pI I42 151 = fu_up (pI (I36) 151) (b.toInt.toNat) k.toInt := x151
          have x152 : pI I42 152 = fu_up (pI (I36) 152) k.toInt.toNat b.toInt := x152
          have e_I42 : ∀ o, [150, 151, 152].contains o = false → ∀ i, I42 o i = (I36) o i := e_I42
          have p150_I42 : pI I42 150 = fu_up (fu_up (fu_up (wh) (b.toInt.toNat) 0) (tw.toInt.toNat) 0) (b.toInt.toNat) 1 := by rw [x150, p150_I36]; exact rfl
          have p151_I42 : pI I42 151 = sp := by rw [x151, p151_I36]; exact fu_si ek_b
          have p152_I42 : pI I42 152 = fu_up (fu_up (fu_up (c) (sp b.toInt.toNat).toNat (-1)) (sp tw.toInt.toNat).toNat (-1)) (sp b.toInt.toNat).toNat b.toInt := by rw [x152, p152_I36, show (sp b.toInt.toNat).toNat = k.toInt.toNat by rw [ek_b]]
          have p153_I42 : pI I42 153 = yc := (funext fun i => congrArg Int32.toInt (e_I42 153 rfl i)).trans p153_I36
          have p154_I42 : pI I42 154 = hi := (funext fun i => congrArg Int32.toInt (e_I42 154 rfl i)).trans p154_I36
          refine qm_Rp.go 2 (c' := (237, [.ref 118, .int y, .int x, .int g, .int lo, .int k, .int b, .int tw, .int 2], [.int (-1), .int tw], (h.1, I42, h.2.2.1, h.2.2.2))) rfl ?_
          refine hp_ceq (ix := tw.toInt) (iy := (-1)) rfl rfl rfl (fun z43 => by exfalso; omega) (fun z43 => ?_)
          refine qm_Rp.go 3 (c' := (245, [.ref 118, .int y, .int x, .int g, .int lo, .int k, .int b, .int tw, .int 2], [.int lo, .int tw, .ref 118], (h.1, I42, h.2.2.1, h.2.2.2))) rfl ?_
          refine hp_inv (o := 118) (r := []) (as := [.ref 118, .int tw, .int lo]) rfl rfl (hH.1 118 (17, 105) rfl) rfl rfl rfl (px_brd (h := (h.1, I42, h.2.2.1, h.2.2.2)) hH (fun I44 e_I44 x150 x151 x152 => ?_))
          have x150 : pI I44 150 = fu_up (pI (I42) 150) (tw.toInt.toNat) (Int32.toInt 1) := x150
          have x151 : pI I44 151 = fu_up (pI (I42) 151) (tw.toInt.toNat) lo.toInt := x151
          have x152 : pI I44 152 = fu_up (pI (I42) 152) lo.toInt.toNat tw.toInt := x152
          have e_I44 : ∀ o, [150, 151, 152].contains o = false → ∀ i, I44 o i = (I42) o i := e_I44
          have p150_I44 : pI I44 150 = fu_up (fu_up (fu_up (fu_up (wh) (b.toInt.toNat) 0) (tw.toInt.toNat) 0) (b.toInt.toNat) 1) (tw.toInt.toNat) 1 := by rw [x150, p150_I42]; exact rfl
          have p151_I44 : pI I44 151 = sp := by rw [x151, p151_I42]; exact fu_si ek_tw
          have p152_I44 : pI I44 152 = fu_up (fu_up (fu_up (fu_up (c) (sp b.toInt.toNat).toNat (-1)) (sp tw.toInt.toNat).toNat (-1)) (sp b.toInt.toNat).toNat b.toInt) (sp tw.toInt.toNat).toNat tw.toInt := by rw [x152, p152_I42, show (sp tw.toInt.toNat).toNat = lo.toInt.toNat by rw [ek_tw]]
          have p153_I44 : pI I44 153 = yc := (funext fun i => congrArg Int32.toInt (e_I44 153 rfl i)).trans p153_I42
          have p154_I44 : pI I44 154 = hi := (funext fun i => congrArg Int32.toInt (e_I44 154 rfl i)).trans p154_I42
          refine qm_Rp.go 1 (c' := (250, [.ref 118, .int y, .int x, .int g, .int lo, .int k, .int b, .int tw, .int 2], [.int (-3)], (h.1, I44, h.2.2.1, h.2.2.2))) rfl ?_
          refine qm_Rp.rt (v := (some (.int (-3)))) (h' := (h.1, I44, h.2.2.1, h.2.2.2)) rfl ?_
          exact k0 (I44) (-3) (fun o ho i => ((e_I44 o (hk_ms rfl ho) i).trans ((e_I42 o (hk_ms rfl ho) i).trans ((e_I36 o (hk_ms rfl ho) i).trans ((e_I35 o (hk_ms rfl ho) i).trans ((e_I33 o (hk_ms rfl ho) i).trans ((e_I32 o (hk_ms rfl ho) i).trans rfl))))))) (unl_e ⟨by omega, by omega, by omega, by omega, by omega, by omega⟩ (by rw [el, ek, eb]; omega) (by rw [el, em]; intro z; omega) (by rw [el, ewt]; omega) (okb_f (by rw [el, show whU c tk wh lo.toInt = fu_up (fu_up wh b.toInt.toNat 0) tw.toInt.toNat 0 from (if_pos em).trans (by rw [ec1, etw])]; exact hm))).symm (by decide) (p150_I44.trans (fu_4 hne ab1.1 ab2.1)) p151_I44 (p152_I44.trans (fu_4 (by rw [ek_tw, ek_b]; omega) (by rw [ek_b]; exact eb) (by rw [ek_tw]; exact etw))) p153_I44 p154_I44
      · refine qm_Rp.go 1 (c' := (196, [.ref 118, .int y, .int x, .int g, .int lo, .int k, .int b, .int tw, .int 2], [.int (-2)], h)) rfl ?_
        refine qm_Rp.rt (v := (some (.int (-2)))) (h' := h) rfl ?_
        exact k0 (h.2.1) (-2) (fun o ho i => rfl) (unl_d ⟨by omega, by omega, by omega, by omega, by omega, by omega⟩ (by rw [el, ek, eb]; omega) (by rw [el, em]; intro z; omega) (by rw [el, ewt]; omega)).symm (by decide) eH eS eC eY eI
    · refine qm_Rp.go 1 (c' := (156, [.ref 118, .int y, .int x, .int g, .int lo, .int k, .int b, .int tw, .int 2], [.int (-1)], h)) rfl ?_
      refine qm_Rp.rt (v := (some (.int (-1)))) (h' := h) rfl ?_
      exact k0 (h.2.1) (-1) (fun o ho i => rfl) (unl_c ⟨by omega, by omega, by omega, by omega, by omega, by omega⟩ (by rw [el, ek, eb]; omega) ⟨by omega, by rw [el, em]; omega⟩).symm (by decide) eH eS eC eY eI
set_option maxHeartbeats 4000000 in
theorem px_unl0 {X : Option (Nat × (Nat → Int32))} {Z : Option Value → qm_H → Prop} {h : qm_H} {fu : Nat} (hH : hk_H h) {n y x g cv l : Int32} {tk : Nat → Int} {w wh sp : Nat → Int} (eW : pI h.2.1 146 = w) (eH : pI h.2.1 150 = wh) (eS : pI h.2.1 151 = sp) (q_n : h.2.1 118 44 = n) (hn : 0 ≤ n.toInt ∧ n.toInt ≤ 30) (hw : ∀ b, 0 ≤ w b ∧ w b ≤ 40) (hs : ∀ b, 0 ≤ sp b ∧ sp b ≤ 79) {B : Int32} (q_lv : h.2.1 118 18 = 0) (q_B : h.2.1 127 0 = B) (hB : 1 ≤ B.toInt ∧ B.toInt ≤ 5) {g0 g1 g2 : Int32} (q_g0 : h.2.1 128 0 = g0) (q_g1 : h.2.1 128 1 = g1) (q_g2 : h.2.1 128 2 = g2) {c yc hi : Nat → Int} (eC : pI h.2.1 152 = c) (eY : pI h.2.1 153 = yc) (eI : pI h.2.1 154 = hi) (hi4 : ∀ x, 0 ≤ hi x ∧ hi x ≤ 4) (eK : pI h.2.1 149 = tk) (q_cv : h.2.1 118 54 = cv) (q_l : h.2.1 129 0 = l) (hc : ∀ k, -1 ≤ c k ∧ c k ≤ 29) (hA : ∀ k : Nat, k < 80 → 0 ≤ c k → wh (c k).toNat = 1 ∧ sp (c k).toNat = (k : Int)) (hb2 : ∀ q : Nat, q < 40 → 0 ≤ c (2 * q + 1) → 0 ≤ c (2 * q)) (k0 : ∀ (I : Nat → Nat → Int32) (r : Int32), (∀ o, [150, 151, 152, 153, 154, 155, 156].contains o = false → ∀ i, I o i = h.2.1 o i) → r.toInt = unlV y.toInt B.toInt x.toInt g.toInt (lowV cv y x.toInt) c tk w hi l.toInt (okb (mayP B.toInt g0.toInt g1.toInt g2.toInt (ab (zL w wh sp n.toInt.toNat)) (ab (zT B.toInt w wh sp n.toInt.toNat)) (zD B.toInt w wh sp n.toInt.toNat) w (whU c tk wh (lowV cv y x.toInt)) sp n.toInt.toNat)) → r.toInt < 0 → pI I 150 = wh → pI I 151 = sp → pI I 152 = c → pI I 153 = yc → pI I 154 = hi → Z (some (.int r)) (h.1, I, h.2.2.1, h.2.2.2)) (k1 : ∀ (I : Nat → Nat → Int32), (∀ o, [150, 151, 152, 153, 154, 155, 156].contains o = false → ∀ i, I o i = h.2.1 o i) → (1 : Int) = unlV y.toInt B.toInt x.toInt g.toInt (lowV cv y x.toInt) c tk w hi l.toInt (okb (mayP B.toInt g0.toInt g1.toInt g2.toInt (ab (zL w wh sp n.toInt.toNat)) (ab (zT B.toInt w wh sp n.toInt.toNat)) (zD B.toInt w wh sp n.toInt.toNat) w (whU c tk wh (lowV cv y x.toInt)) sp n.toInt.toNat)) → pI I 150 = fu_up wh (c (kV c (lowV cv y x.toInt)).toNat).toNat (if g.toInt = -1 then 0 else 2) → pI I 151 = (if g.toInt = -1 then sp else fu_up sp (c (kV c (lowV cv y x.toInt)).toNat).toNat (4 * g.toInt + hi g.toInt.toNat)) → pI I 152 = fu_up c (kV c (lowV cv y x.toInt)).toNat (-1) → pI I 153 = (if g.toInt = -1 then yc else fu_up yc (4 * g.toInt + hi g.toInt.toNat).toNat (c (kV c (lowV cv y x.toInt)).toNat)) → pI I 154 = (if g.toInt = -1 then hi else fu_up hi g.toInt.toNat (hi g.toInt.toNat + 1)) → Z (some (.int 1)) (h.1, I, h.2.2.1, h.2.2.2)) (k2 : ∀ (I : Nat → Nat → Int32), (∀ o, [150, 151, 152, 153, 154, 155, 156].contains o = false → ∀ i, I o i = h.2.1 o i) → (2 : Int) = unlV y.toInt B.toInt x.toInt g.toInt (lowV cv y x.toInt) c tk w hi l.toInt (okb (mayP B.toInt g0.toInt g1.toInt g2.toInt (ab (zL w wh sp n.toInt.toNat)) (ab (zT B.toInt w wh sp n.toInt.toNat)) (zD B.toInt w wh sp n.toInt.toNat) w (whU c tk wh (lowV cv y x.toInt)) sp n.toInt.toNat)) → pI I 150 = (if g.toInt = -1 then fu_up (fu_up wh (c ((lowV cv y x.toInt) + 1).toNat).toNat 0) (c (lowV cv y x.toInt).toNat).toNat 0 else fu_up (fu_up wh (c (lowV cv y x.toInt).toNat).toNat 2) (c ((lowV cv y x.toInt) + 1).toNat).toNat 2) → pI I 151 = (if g.toInt = -1 then sp else fu_up (fu_up sp (c (lowV cv y x.toInt).toNat).toNat (4 * g.toInt + hi g.toInt.toNat)) (c ((lowV cv y x.toInt) + 1).toNat).toNat (4 * g.toInt + (hi g.toInt.toNat + 1))) → pI I 152 = fu_up (fu_up c ((lowV cv y x.toInt) + 1).toNat (-1)) (lowV cv y x.toInt).toNat (-1) → pI I 153 = (if g.toInt = -1 then yc else fu_up (fu_up yc (4 * g.toInt + hi g.toInt.toNat).toNat (c (lowV cv y x.toInt).toNat)) (4 * g.toInt + (hi g.toInt.toNat + 1)).toNat (c ((lowV cv y x.toInt) + 1).toNat)) → pI I 154 = (if g.toInt = -1 then hi else fu_up hi g.toInt.toNat (hi g.toInt.toNat + 1 + 1)) → Z (some (.int 2)) (h.1, I, h.2.2.1, h.2.2.2)) : qm_Rp fu X cd_298 (qm_ent 9 [.ref 118, .int y, .int x, .int g] h) Z := by
  refine qm_Rp.go 0 (c' := (0, [.ref 118, .int y, .int x, .int g, .float 0, .float 0, .float 0, .float 0, .float 0], [], h)) rfl ?_
  have kz0 : (0 : Int32).toInt = 0 := rfl
  have kz1 : (1 : Int32).toInt = 1 := rfl
  have kz2 : (2 : Int32).toInt = 2 := rfl
  have kz3 : (3 : Int32).toInt = 3 := rfl
  have kz4 : (4 : Int32).toInt = 4 := rfl
  have kz5 : (5 : Int32).toInt = 5 := rfl
  have kz6 : (6 : Int32).toInt = 6 := rfl
  have kz7 : (7 : Int32).toInt = 7 := rfl
  have kz8 : (8 : Int32).toInt = 8 := rfl
  have kz9 : (9 : Int32).toInt = 9 := rfl
  have kzm1 : ((-1) : Int32).toInt = (-1) := rfl
  have kzm2 : ((-2) : Int32).toInt = (-2) := rfl
  have kzm3 : ((-3) : Int32).toInt = (-3) := rfl
  refine qm_Rp.go 2 (c' := (2, [.ref 118, .int y, .int x, .int g, .float 0, .float 0, .float 0, .float 0, .float 0], [.int y, .ref 118], h)) rfl ?_
  refine hp_inv (o := 118) (r := []) (as := [.ref 118, .int y]) rfl rfl (hH.1 118 (17, 105) rfl) rfl rfl rfl ?_
  refine qm_Rp.go 3 (c' := (3, [.ref 118, .int y], [.ref 118, .int 0, .int y], h)) rfl ?_
  refine hp_getr rfl (hH.1 118 (17, 105) rfl) rfl (hH.2 118 22 (some 127) rfl) ?_
  refine qm_Rp.go 1 (c' := (7, [.ref 118, .int y], [.ref 118, .ref 127, .int 0, .int y], h)) rfl ?_
  refine hp_geti (v := 0) rfl (hH.1 118 (17, 105) rfl) rfl q_lv ?_
  refine qm_Rp.go 0 (c' := (10, [.ref 118, .int y], [.int 0, .ref 127, .int 0, .int y], h)) rfl ?_
  refine hp_ial (v := B) rfl (hH.1 127 (0, 2) rfl) q_B (fun ia_0 ib_0 => ?_)
  refine qm_Rp.go 2 (c' := (13, [.ref 118, .int y], [.int (B - 1), .int 0, .int y], h)) rfl ?_
  obtain ⟨v2, q_v2, e_v2⟩ := hk_sub (x := B) (y := 1) (a := B.toInt) (b := 1) rfl rfl (by omega) (by omega)
  rw [q_v2]
  refine qm_Rp.call (j := 270) (as := [.int y, .int 0, .int v2]) (c' := (16, [.ref 118, .int y], [], h)) rfl rfl ?_
  refine qm_Rp.go 2 (c' := (2, [.int y, .int 0, .int v2], [.int 0, .int y], h)) rfl ?_
  refine hp_clt (ix := y.toInt) (iy := 0) rfl rfl rfl (fun z3 => ?_) (fun z3 => ?_)
  · refine qm_Rp.go 1 (c' := (15, [.int y, .int 0, .int v2], [.int 0], h)) rfl ?_
    refine qm_Rp.rt (v := (some (.int 0))) (h' := h) rfl ?_
    refine qm_Rp.go 0 (c' := (16, [.ref 118, .int y], [.int 0], h)) rfl ?_
    refine qm_Rp.rt (v := (some (.int 0))) (h' := h) rfl ?_
    refine qm_Rp.go 2 (c' := (28, [.ref 118, .int y, .int x, .int g, .float 0, .float 0, .float 0, .float 0, .float 0], [.int (-1)], h)) rfl ?_
    refine qm_Rp.rt (v := (some (.int (-1)))) (h' := h) rfl ?_
    exact k0 (h.2.1) (-1) (fun o ho i => rfl) (unl_a (fun z => by omega)).symm (by decide) eH eS eC eY eI
  · refine qm_Rp.go 2 (c' := (7, [.int y, .int 0, .int v2], [.int v2, .int y], h)) rfl ?_
    refine hp_cgt (ix := y.toInt) (iy := v2.toInt) rfl rfl rfl (fun z4 => ?_) (fun z4 => ?_)
    · refine qm_Rp.go 1 (c' := (15, [.int y, .int 0, .int v2], [.int 0], h)) rfl ?_
      refine qm_Rp.rt (v := (some (.int 0))) (h' := h) rfl ?_
      refine qm_Rp.go 0 (c' := (16, [.ref 118, .int y], [.int 0], h)) rfl ?_
      refine qm_Rp.rt (v := (some (.int 0))) (h' := h) rfl ?_
      refine qm_Rp.go 2 (c' := (28, [.ref 118, .int y, .int x, .int g, .float 0, .float 0, .float 0, .float 0, .float 0], [.int (-1)], h)) rfl ?_
      refine qm_Rp.rt (v := (some (.int (-1)))) (h' := h) rfl ?_
      exact k0 (h.2.1) (-1) (fun o ho i => rfl) (unl_a (fun z => by omega)).symm (by decide) eH eS eC eY eI
    · refine qm_Rp.go 2 (c' := (15, [.int y, .int 0, .int v2], [.int 1], h)) rfl ?_
      refine qm_Rp.rt (v := (some (.int 1))) (h' := h) rfl ?_
      refine qm_Rp.go 0 (c' := (16, [.ref 118, .int y], [.int 1], h)) rfl ?_
      refine qm_Rp.rt (v := (some (.int 1))) (h' := h) rfl ?_
      refine qm_Rp.go 2 (c' := (9, [.ref 118, .int y, .int x, .int g, .float 0, .float 0, .float 0, .float 0, .float 0], [.int x], h)) rfl ?_
      refine qm_Rp.call (j := 278) (as := [.int x]) (c' := (12, [.ref 118, .int y, .int x, .int g, .float 0, .float 0, .float 0, .float 0, .float 0], [], h)) rfl rfl ?_
      refine qm_Rp.go 3 (c' := (3, [.int x], [.int 3, .int 0, .int x], h)) rfl ?_
      refine qm_Rp.call (j := 270) (as := [.int x, .int 0, .int 3]) (c' := (6, [.int x], [], h)) rfl rfl ?_
      refine qm_Rp.go 2 (c' := (2, [.int x, .int 0, .int 3], [.int 0, .int x], h)) rfl ?_
      refine hp_clt (ix := x.toInt) (iy := 0) rfl rfl rfl (fun z5 => ?_) (fun z5 => ?_)
      · refine qm_Rp.go 1 (c' := (15, [.int x, .int 0, .int 3], [.int 0], h)) rfl ?_
        refine qm_Rp.rt (v := (some (.int 0))) (h' := h) rfl ?_
        refine qm_Rp.go 0 (c' := (6, [.int x], [.int 0], h)) rfl ?_
        refine qm_Rp.rt (v := (some (.int 0))) (h' := h) rfl ?_
        refine qm_Rp.go 2 (c' := (28, [.ref 118, .int y, .int x, .int g, .float 0, .float 0, .float 0, .float 0, .float 0], [.int (-1)], h)) rfl ?_
        refine qm_Rp.rt (v := (some (.int (-1)))) (h' := h) rfl ?_
        exact k0 (h.2.1) (-1) (fun o ho i => rfl) (unl_a (fun z => by omega)).symm (by decide) eH eS eC eY eI
      · refine qm_Rp.go 2 (c' := (7, [.int x, .int 0, .int 3], [.int 3, .int x], h)) rfl ?_
        refine hp_cgt (ix := x.toInt) (iy := 3) rfl rfl rfl (fun z6 => ?_) (fun z6 => ?_)
        · refine qm_Rp.go 1 (c' := (15, [.int x, .int 0, .int 3], [.int 0], h)) rfl ?_
          refine qm_Rp.rt (v := (some (.int 0))) (h' := h) rfl ?_
          refine qm_Rp.go 0 (c' := (6, [.int x], [.int 0], h)) rfl ?_
          refine qm_Rp.rt (v := (some (.int 0))) (h' := h) rfl ?_
          refine qm_Rp.go 2 (c' := (28, [.ref 118, .int y, .int x, .int g, .float 0, .float 0, .float 0, .float 0, .float 0], [.int (-1)], h)) rfl ?_
          refine qm_Rp.rt (v := (some (.int (-1)))) (h' := h) rfl ?_
          exact k0 (h.2.1) (-1) (fun o ho i => rfl) (unl_a (fun z => by omega)).symm (by decide) eH eS eC eY eI
        · refine qm_Rp.go 2 (c' := (15, [.int x, .int 0, .int 3], [.int 1], h)) rfl ?_
          refine qm_Rp.rt (v := (some (.int 1))) (h' := h) rfl ?_
          refine qm_Rp.go 0 (c' := (6, [.int x], [.int 1], h)) rfl ?_
          refine qm_Rp.rt (v := (some (.int 1))) (h' := h) rfl ?_
          refine qm_Rp.go 3 (c' := (17, [.ref 118, .int y, .int x, .int g, .float 0, .float 0, .float 0, .float 0, .float 0], [.int (-1), .int g], h)) rfl ?_
          refine hp_ceq (ix := g.toInt) (iy := (-1)) rfl rfl rfl (fun z7 => ?_) (fun z7 => ?_)
          · refine qm_Rp.go 3 (c' := (33, [.ref 118, .int y, .int x, .int g, .float 0, .float 0, .float 0, .float 0, .float 0], [.int (16 * y)], h)) rfl ?_
            obtain ⟨v8, q_v8, e_v8⟩ := hk_mul (x := 16) (y := y) (a := 16) (b := y.toInt) rfl rfl (by omega) (by omega)
            rw [q_v8]
            refine qm_Rp.go 3 (c' := (36, [.ref 118, .int y, .int x, .int g, .float 0, .float 0, .float 0, .float 0, .float 0], [.int (4 * x), .int v8], h)) rfl ?_
            obtain ⟨v9, q_v9, e_v9⟩ := hk_mul (x := 4) (y := x) (a := 4) (b := x.toInt) rfl rfl (by omega) (by omega)
            rw [q_v9]
            refine qm_Rp.go 1 (c' := (37, [.ref 118, .int y, .int x, .int g, .float 0, .float 0, .float 0, .float 0, .float 0], [.int (v8 + v9)], h)) rfl ?_
            obtain ⟨v10, q_v10, e_v10⟩ := hk_add (x := v8) (y := v9) (a := v8.toInt) (b := v9.toInt) rfl rfl (by omega) (by omega)
            rw [q_v10]
            refine qm_Rp.go 2 (c' := (39, [.ref 118, .int y, .int x, .int g, .float 0, .float 0, .float 0, .float 0, .float 0], [.int y, .ref 118, .int v10], h)) rfl ?_
            refine hp_inv (o := 118) (r := [.int v10]) (as := [.ref 118, .int y]) rfl rfl (hH.1 118 (17, 105) rfl) rfl rfl rfl ?_
            refine qm_Rp.go 1 (c' := (1, [.ref 118, .int y], [.ref 118], h)) rfl ?_
            refine hp_geti (v := cv) rfl (hH.1 118 (17, 105) rfl) rfl q_cv ?_
            refine qm_Rp.go 2 (c' := (6, [.ref 118, .int y], [.int (cv >>> (y &&& 31))], h)) rfl ?_
            obtain ⟨v11, q_v11⟩ : ∃ v_, (cv >>> (y &&& 31)) = v_ := ⟨_, rfl⟩
            rw [q_v11]
            refine qm_Rp.go 2 (c' := (8, [.ref 118, .int y], [.int (v11 &&& 1)], h)) rfl ?_
            obtain ⟨v12, q_v12⟩ : ∃ v_, (v11 &&& 1) = v_ := ⟨_, rfl⟩
            rw [q_v12]
            refine qm_Rp.go 1 (c' := (9, [.ref 118, .int y], [.int 1, .int v12], h)) rfl ?_
            refine hp_cne (ix := v12.toInt) (iy := 1) rfl rfl rfl (fun z13 => ?_) (fun z13 => ?_)
            · refine qm_Rp.go 1 (c' := (17, [.ref 118, .int y], [.int 0], h)) rfl ?_
              refine qm_Rp.rt (v := (some (.int 0))) (h' := h) rfl ?_
              refine qm_Rp.go 1 (c' := (49, [.ref 118, .int y, .int x, .int g, .float 0, .float 0, .float 0, .float 0, .float 0], [.int v10], h)) rfl ?_
              refine qm_Rp.go 2 (c' := (51, [.ref 118, .int y, .int x, .int g, .float 0, .float 0, .float 0, .float 0, .float 0], [.int (v10 + 0)], h)) rfl ?_
              obtain ⟨v14, q_v14, e_v14⟩ := hk_add (x := v10) (y := 0) (a := v10.toInt) (b := 0) rfl rfl (by omega) (by omega)
              rw [q_v14]
              refine qm_Rp.go 1 (c' := (53, [.ref 118, .int y, .int x, .int g, .int v14, .float 0, .float 0, .float 0, .float 0], [], h)) rfl ?_
              have el : lowV cv y x.toInt = v14.toInt := low_0 (cv := cv) (bay := y) (x := x.toInt) (k := v14.toInt) q_v11 q_v12 (by omega) (by omega)
              refine qm_Rp.go 1 (c' := (54, [.ref 118, .int y, .int x, .int g, .int v14, .float 0, .float 0, .float 0, .float 0], [.ref 118], h)) rfl ?_
              refine hp_getr rfl (hH.1 118 (17, 105) rfl) rfl (hH.2 118 51 (some 152) rfl) ?_
              refine qm_Rp.go 3 (c' := (61, [.ref 118, .int y, .int x, .int g, .int v14, .float 0, .float 0, .float 0, .float 0], [.int (v14 + 1), .ref 152], h)) rfl ?_
              obtain ⟨v15, q_v15, e_v15⟩ := hk_add (x := v14) (y := 1) (a := v14.toInt) (b := 1) rfl rfl (by omega) (by omega)
              rw [q_v15]
              obtain ⟨v16, q_v16⟩ : ∃ v_, h.2.1 152 v15.toInt.toNat = v_ := ⟨_, rfl⟩
              refine hp_ial (v := v16) rfl (hH.1 152 (0, 80) rfl) q_v16 (fun ia_16 ib_16 => ?_)
              refine qm_Rp.go 0 (c' := (62, [.ref 118, .int y, .int x, .int g, .int v14, .float 0, .float 0, .float 0, .float 0], [.int v16], h)) rfl ?_
              have ec1 : c (v14.toInt + 1).toNat = v16.toInt := by rw [← eC, show (v14.toInt + 1).toNat = v15.toInt.toNat by omega]; exact congrArg Int32.toInt q_v16
              have bc1 := hc (v14.toInt + 1).toNat
              rw [ec1] at bc1
              refine qm_Rp.go 1 (c' := (63, [.ref 118, .int y, .int x, .int g, .int v14, .float 0, .float 0, .float 0, .float 0], [.int (-1), .int v16], h)) rfl ?_
              refine hp_ceq (ix := v16.toInt) (iy := (-1)) rfl rfl rfl (fun z18 => ?_) (fun z18 => ?_)
              · refine qm_Rp.go 3 (c' := (78, [.ref 118, .int y, .int x, .int g, .int v14, .int v14, .float 0, .float 0, .float 0], [.ref 118], h)) rfl ?_
                refine hp_getr rfl (hH.1 118 (17, 105) rfl) rfl (hH.2 118 51 (some 152) rfl) ?_
                refine qm_Rp.go 1 (c' := (83, [.ref 118, .int y, .int x, .int g, .int v14, .int v14, .float 0, .float 0, .float 0], [.int v14, .ref 152], h)) rfl ?_
                obtain ⟨v19, q_v19⟩ : ∃ v_, h.2.1 152 v14.toInt.toNat = v_ := ⟨_, rfl⟩
                refine hp_ial (v := v19) rfl (hH.1 152 (0, 80) rfl) q_v19 (fun ia_19 ib_19 => ?_)
                refine qm_Rp.go 0 (c' := (84, [.ref 118, .int y, .int x, .int g, .int v14, .int v14, .float 0, .float 0, .float 0], [.int v19], h)) rfl ?_
                have eb : c v14.toInt.toNat = v19.toInt := by rw [← eC, show v14.toInt.toNat = v14.toInt.toNat by omega]; exact congrArg Int32.toInt q_v19
                have bcb := hc v14.toInt.toNat
                rw [eb] at bcb
                have ek : kV c v14.toInt = v14.toInt := kV_0 (by omega)
                refine qm_Rp.go 3 (c' := (89, [.ref 118, .int y, .int x, .int g, .int v14, .int v14, .int v19, .float 0, .float 0], [.int (-1), .int v19], h)) rfl ?_
                refine hp_cne (ix := v19.toInt) (iy := (-1)) rfl rfl rfl (fun z21 => ?_) (fun z21 => ?_)
                · refine qm_Rp.go 0 (c' := (94, [.ref 118, .int y, .int x, .int g, .int v14, .int v14, .int v19, .float 0, .float 0], [], h)) rfl ?_
                  have ab1 := hA v14.toInt.toNat (by omega) (by rw [eb]; omega)
                  rw [eb] at ab1
                  have ek_v19 : sp v19.toInt.toNat = v14.toInt := by rw [ab1.2]; omega
                  refine qm_Rp.go 1 (c' := (95, [.ref 118, .int y, .int x, .int g, .int v14, .int v14, .int v19, .float 0, .float 0], [.ref 118], h)) rfl ?_
                  refine hp_getr rfl (hH.1 118 (17, 105) rfl) rfl (hH.2 118 48 (some 149) rfl) ?_
                  refine qm_Rp.go 1 (c' := (100, [.ref 118, .int y, .int x, .int g, .int v14, .int v14, .int v19, .float 0, .float 0], [.int v19, .ref 149], h)) rfl ?_
                  obtain ⟨v22, q_v22⟩ : ∃ v_, h.2.1 149 v19.toInt.toNat = v_ := ⟨_, rfl⟩
                  refine hp_bal (v := v22) rfl (hH.1 149 (2, 30) rfl) q_v22 (fun ia_22 ib_22 => ?_)
                  refine qm_Rp.go 0 (c' := (101, [.ref 118, .int y, .int x, .int g, .int v14, .int v14, .int v19, .float 0, .float 0], [.int v22], h)) rfl ?_
                  have est : tk v19.toInt.toNat = v22.toInt := by rw [← eK]; exact congrArg Int32.toInt q_v22
                  refine hp_zeq (ix := v22.toInt) rfl rfl (fun z24 => ?_) (fun z24 => ?_)
                  · refine qm_Rp.go 8 (c' := (137, [.ref 118, .int y, .int x, .int g, .int v14, .int v14, .int v19, .int (-1), .int 1], [], h)) rfl ?_
                    have em : mV c tk v14.toInt = 1 := mV_1a (by omega)
                    exact px_unB01 hH eW eH eS q_n hn hw hs q_lv q_B hB q_g0 q_g1 q_g2 eC eY eI hi4 eK q_cv q_l hc hA hb2 k0 k1 ⟨by omega, by omega⟩ ⟨by omega, by omega⟩ ⟨by omega, by omega⟩ ⟨by omega, by omega⟩ ⟨by omega, by omega⟩ ⟨by omega, by omega⟩ el ek eb em ab1 ek_v19
                  · refine qm_Rp.go 2 (c' := (108, [.ref 118, .int y, .int x, .int g, .int v14, .int v14, .int v19, .float 0, .float 0], [.int v14, .int v14], h)) rfl ?_
                    refine hp_cle (ix := v14.toInt) (iy := v14.toInt) rfl rfl rfl (fun z25 => ?_) (fun z25 => by exfalso; omega)
                    refine qm_Rp.go 8 (c' := (137, [.ref 118, .int y, .int x, .int g, .int v14, .int v14, .int v19, .int (-1), .int 1], [], h)) rfl ?_
                    have em : mV c tk v14.toInt = 1 := mV_1a (by omega)
                    exact px_unB01 hH eW eH eS q_n hn hw hs q_lv q_B hB q_g0 q_g1 q_g2 eC eY eI hi4 eK q_cv q_l hc hA hb2 k0 k1 ⟨by omega, by omega⟩ ⟨by omega, by omega⟩ ⟨by omega, by omega⟩ ⟨by omega, by omega⟩ ⟨by omega, by omega⟩ ⟨by omega, by omega⟩ el ek eb em ab1 ek_v19
                · refine qm_Rp.go 1 (c' := (93, [.ref 118, .int y, .int x, .int g, .int v14, .int v14, .int v19, .float 0, .float 0], [.int (-1)], h)) rfl ?_
                  refine qm_Rp.rt (v := (some (.int (-1)))) (h' := h) rfl ?_
                  exact k0 (h.2.1) (-1) (fun o ho i => rfl) (unl_b ⟨by omega, by omega, by omega, by omega, by omega, by omega⟩ (by rw [el, ek, eb]; omega)).symm (by decide) eH eS eC eY eI
              · refine qm_Rp.go 3 (c' := (70, [.ref 118, .int y, .int x, .int g, .int v14, .float 0, .float 0, .float 0, .float 0], [.int (v14 + 1)], h)) rfl ?_
                rw [q_v15]
                refine qm_Rp.go 3 (c' := (78, [.ref 118, .int y, .int x, .int g, .int v14, .int v15, .float 0, .float 0, .float 0], [.ref 118], h)) rfl ?_
                refine hp_getr rfl (hH.1 118 (17, 105) rfl) rfl (hH.2 118 51 (some 152) rfl) ?_
                refine qm_Rp.go 1 (c' := (83, [.ref 118, .int y, .int x, .int g, .int v14, .int v15, .float 0, .float 0, .float 0], [.int v15, .ref 152], h)) rfl ?_
                refine hp_ial (v := v16) rfl (hH.1 152 (0, 80) rfl) q_v16 (fun ia_25 ib_25 => ?_)
                refine qm_Rp.go 0 (c' := (84, [.ref 118, .int y, .int x, .int g, .int v14, .int v15, .float 0, .float 0, .float 0], [.int v16], h)) rfl ?_
                have eb : c v15.toInt.toNat = v16.toInt := by rw [← ec1, show (v14.toInt + 1).toNat = v15.toInt.toNat by omega]
                have ek : kV c v14.toInt = v15.toInt := (kV_1 (by omega)).trans (by omega)
                refine qm_Rp.go 3 (c' := (89, [.ref 118, .int y, .int x, .int g, .int v14, .int v15, .int v16, .float 0, .float 0], [.int (-1), .int v16], h)) rfl ?_
                refine hp_cne (ix := v16.toInt) (iy := (-1)) rfl rfl rfl (fun z27 => ?_) (fun z27 => by exfalso; omega)
                refine qm_Rp.go 0 (c' := (94, [.ref 118, .int y, .int x, .int g, .int v14, .int v15, .int v16, .float 0, .float 0], [], h)) rfl ?_
                have ab1 := hA v15.toInt.toNat (by omega) (by rw [eb]; omega)
                rw [eb] at ab1
                have ek_v16 : sp v16.toInt.toNat = v15.toInt := by rw [ab1.2]; omega
                refine qm_Rp.go 1 (c' := (95, [.ref 118, .int y, .int x, .int g, .int v14, .int v15, .int v16, .float 0, .float 0], [.ref 118], h)) rfl ?_
                refine hp_getr rfl (hH.1 118 (17, 105) rfl) rfl (hH.2 118 48 (some 149) rfl) ?_
                refine qm_Rp.go 1 (c' := (100, [.ref 118, .int y, .int x, .int g, .int v14, .int v15, .int v16, .float 0, .float 0], [.int v16, .ref 149], h)) rfl ?_
                obtain ⟨v28, q_v28⟩ : ∃ v_, h.2.1 149 v16.toInt.toNat = v_ := ⟨_, rfl⟩
                refine hp_bal (v := v28) rfl (hH.1 149 (2, 30) rfl) q_v28 (fun ia_28 ib_28 => ?_)
                refine qm_Rp.go 0 (c' := (101, [.ref 118, .int y, .int x, .int g, .int v14, .int v15, .int v16, .float 0, .float 0], [.int v28], h)) rfl ?_
                have est : tk v16.toInt.toNat = v28.toInt := by rw [← eK]; exact congrArg Int32.toInt q_v28
                refine hp_zeq (ix := v28.toInt) rfl rfl (fun z30 => ?_) (fun z30 => ?_)
                · refine qm_Rp.go 8 (c' := (137, [.ref 118, .int y, .int x, .int g, .int v14, .int v15, .int v16, .int (-1), .int 1], [], h)) rfl ?_
                  have em : mV c tk v14.toInt = 1 := mV_1b (by omega) (by rw [ec1, est]; omega)
                  exact px_unB01 hH eW eH eS q_n hn hw hs q_lv q_B hB q_g0 q_g1 q_g2 eC eY eI hi4 eK q_cv q_l hc hA hb2 k0 k1 ⟨by omega, by omega⟩ ⟨by omega, by omega⟩ ⟨by omega, by omega⟩ ⟨by omega, by omega⟩ ⟨by omega, by omega⟩ ⟨by omega, by omega⟩ el ek eb em ab1 ek_v16
                · refine qm_Rp.go 2 (c' := (108, [.ref 118, .int y, .int x, .int g, .int v14, .int v15, .int v16, .float 0, .float 0], [.int v14, .int v15], h)) rfl ?_
                  refine hp_cle (ix := v15.toInt) (iy := v14.toInt) rfl rfl rfl (fun z31 => ?_) (fun z31 => ?_)
                  · refine qm_Rp.go 8 (c' := (137, [.ref 118, .int y, .int x, .int g, .int v14, .int v15, .int v16, .int (-1), .int 1], [], h)) rfl ?_
                    have em : mV c tk v14.toInt = 1 := mV_1b (by omega) (by rw [ec1, est]; omega)
                    exact px_unB01 hH eW eH eS q_n hn hw hs q_lv q_B hB q_g0 q_g1 q_g2 eC eY eI hi4 eK q_cv q_l hc hA hb2 k0 k1 ⟨by omega, by omega⟩ ⟨by omega, by omega⟩ ⟨by omega, by omega⟩ ⟨by omega, by omega⟩ ⟨by omega, by omega⟩ ⟨by omega, by omega⟩ el ek eb em ab1 ek_v16
                  · refine qm_Rp.go 1 (c' := (112, [.ref 118, .int y, .int x, .int g, .int v14, .int v15, .int v16, .float 0, .float 0], [.ref 118], h)) rfl ?_
                    refine hp_getr rfl (hH.1 118 (17, 105) rfl) rfl (hH.2 118 51 (some 152) rfl) ?_
                    refine qm_Rp.go 1 (c' := (117, [.ref 118, .int y, .int x, .int g, .int v14, .int v15, .int v16, .float 0, .float 0], [.int v14, .ref 152], h)) rfl ?_
                    obtain ⟨v32, q_v32⟩ : ∃ v_, h.2.1 152 v14.toInt.toNat = v_ := ⟨_, rfl⟩
                    refine hp_ial (v := v32) rfl (hH.1 152 (0, 80) rfl) q_v32 (fun ia_32 ib_32 => ?_)
                    refine qm_Rp.go 0 (c' := (118, [.ref 118, .int y, .int x, .int g, .int v14, .int v15, .int v16, .float 0, .float 0], [.int v32], h)) rfl ?_
                    have etw : c v14.toInt.toNat = v32.toInt := by rw [← eC, show v14.toInt.toNat = v14.toInt.toNat by omega]; exact congrArg Int32.toInt q_v32
                    have bct := hc v14.toInt.toNat
                    rw [etw] at bct
                    have t0 := hb2 (v14.toInt.toNat / 2) (by omega) (by rw [show 2 * (v14.toInt.toNat / 2) + 1 = (v14.toInt + 1).toNat by omega, ec1]; omega)
                    rw [show 2 * (v14.toInt.toNat / 2) = v14.toInt.toNat by omega, etw] at t0
                    have ab2 := hA v14.toInt.toNat (by omega) (by rw [etw]; omega)
                    rw [etw] at ab2
                    have ek_v32 : sp v32.toInt.toNat = v14.toInt := by rw [ab2.2]; omega
                    have hne : v32.toInt.toNat ≠ v16.toInt.toNat := fun z => by rw [z, ab1.2] at ab2; omega
                    refine qm_Rp.go 4 (c' := (127, [.ref 118, .int y, .int x, .int g, .int v14, .int v15, .int v16, .int v32, .float 0], [.int (-1), .int v32], h)) rfl ?_
                    refine hp_cne (ix := v32.toInt) (iy := (-1)) rfl rfl rfl (fun z34 => ?_) (fun z34 => by exfalso; omega)
                    refine qm_Rp.go 2 (c' := (137, [.ref 118, .int y, .int x, .int g, .int v14, .int v15, .int v16, .int v32, .int 2], [], h)) rfl ?_
                    have em : mV c tk v14.toInt = 2 := mV_2 (by omega) (by rw [ec1, est]; omega)
                    exact px_unB02 hH eW eH eS q_n hn hw hs q_lv q_B hB q_g0 q_g1 q_g2 eC eY eI hi4 eK q_cv q_l hc hA hb2 k0 k2 ⟨by omega, by omega⟩ ⟨by omega, by omega⟩ ⟨by omega, by omega⟩ ⟨by omega, by omega⟩ ⟨by omega, by omega⟩ ⟨by omega, by omega⟩ el ek eb em ab1 ek_v16 ⟨by omega, by omega⟩ (by omega) ec1 etw ab2 ek_v32 hne
            · refine qm_Rp.go 2 (c' := (17, [.ref 118, .int y], [.int 1], h)) rfl ?_
              refine qm_Rp.rt (v := (some (.int 1))) (h' := h) rfl ?_
              refine qm_Rp.go 2 (c' := (46, [.ref 118, .int y, .int x, .int g, .float 0, .float 0, .float 0, .float 0, .float 0], [.int 2, .int v10], h)) rfl ?_
              refine qm_Rp.go 2 (c' := (51, [.ref 118, .int y, .int x, .int g, .float 0, .float 0, .float 0, .float 0, .float 0], [.int (v10 + 2)], h)) rfl ?_
              obtain ⟨v35, q_v35, e_v35⟩ := hk_add (x := v10) (y := 2) (a := v10.toInt) (b := 2) rfl rfl (by omega) (by omega)
              rw [q_v35]
              refine qm_Rp.go 1 (c' := (53, [.ref 118, .int y, .int x, .int g, .int v35, .float 0, .float 0, .float 0, .float 0], [], h)) rfl ?_
              have el : lowV cv y x.toInt = v35.toInt := low_1 (cv := cv) (bay := y) (x := x.toInt) (k := v35.toInt) q_v11 q_v12 (by omega) (by omega)
              refine qm_Rp.go 1 (c' := (54, [.ref 118, .int y, .int x, .int g, .int v35, .float 0, .float 0, .float 0, .float 0], [.ref 118], h)) rfl ?_
              refine hp_getr rfl (hH.1 118 (17, 105) rfl) rfl (hH.2 118 51 (some 152) rfl) ?_
              refine qm_Rp.go 3 (c' := (61, [.ref 118, .int y, .int x, .int g, .int v35, .float 0, .float 0, .float 0, .float 0], [.int (v35 + 1), .ref 152], h)) rfl ?_
              obtain ⟨v36, q_v36, e_v36⟩ := hk_add (x := v35) (y := 1) (a := v35.toInt) (b := 1) rfl rfl (by omega) (by omega)
              rw [q_v36]
              obtain ⟨v37, q_v37⟩ : ∃ v_, h.2.1 152 v36.toInt.toNat = v_ := ⟨_, rfl⟩
              refine hp_ial (v := v37) rfl (hH.1 152 (0, 80) rfl) q_v37 (fun ia_37 ib_37 => ?_)
              refine qm_Rp.go 0 (c' := (62, [.ref 118, .int y, .int x, .int g, .int v35, .float 0, .float 0, .float 0, .float 0], [.int v37], h)) rfl ?_
              have ec1 : c (v35.toInt + 1).toNat = v37.toInt := by rw [← eC, show (v35.toInt + 1).toNat = v36.toInt.toNat by omega]; exact congrArg Int32.toInt q_v37
              have bc1 := hc (v35.toInt + 1).toNat
              rw [ec1] at bc1
              refine qm_Rp.go 1 (c' := (63, [.ref 118, .int y, .int x, .int g, .int v35, .float 0, .float 0, .float 0, .float 0], [.int (-1), .int v37], h)) rfl ?_
              refine hp_ceq (ix := v37.toInt) (iy := (-1)) rfl rfl rfl (fun z39 => ?_) (fun z39 => ?_)
              · refine qm_Rp.go 3 (c' := (78, [.ref 118, .int y, .int x, .int g, .int v35, .int v35, .float 0, .float 0, .float 0], [.ref 118], h)) rfl ?_
                refine hp_getr rfl (hH.1 118 (17, 105) rfl) rfl (hH.2 118 51 (some 152) rfl) ?_
                refine qm_Rp.go 1 (c' := (83, [.ref 118, .int y, .int x, .int g, .int v35, .int v35, .float 0, .float 0, .float 0], [.int v35, .ref 152], h)) rfl ?_
                obtain ⟨v40, q_v40⟩ : ∃ v_, h.2.1 152 v35.toInt.toNat = v_ := ⟨_, rfl⟩
                refine hp_ial (v := v40) rfl (hH.1 152 (0, 80) rfl) q_v40 (fun ia_40 ib_40 => ?_)
                refine qm_Rp.go 0 (c' := (84, [.ref 118, .int y, .int x, .int g, .int v35, .int v35, .float 0, .float 0, .float 0], [.int v40], h)) rfl ?_
                have eb : c v35.toInt.toNat = v40.toInt := by rw [← eC, show v35.toInt.toNat = v35.toInt.toNat by omega]; exact congrArg Int32.toInt q_v40
                have bcb := hc v35.toInt.toNat
                rw [eb] at bcb
                have ek : kV c v35.toInt = v35.toInt := kV_0 (by omega)
                refine qm_Rp.go 3 (c' := (89, [.ref 118, .int y, .int x, .int g, .int v35, .int v35, .int v40, .float 0, .float 0], [.int (-1), .int v40], h)) rfl ?_
                refine hp_cne (ix := v40.toInt) (iy := (-1)) rfl rfl rfl (fun z42 => ?_) (fun z42 => ?_)
                · refine qm_Rp.go 0 (c' := (94, [.ref 118, .int y, .int x, .int g, .int v35, .int v35, .int v40, .float 0, .float 0], [], h)) rfl ?_
                  have ab1 := hA v35.toInt.toNat (by omega) (by rw [eb]; omega)
                  rw [eb] at ab1
                  have ek_v40 : sp v40.toInt.toNat = v35.toInt := by rw [ab1.2]; omega
                  refine qm_Rp.go 1 (c' := (95, [.ref 118, .int y, .int x, .int g, .int v35, .int v35, .int v40, .float 0, .float 0], [.ref 118], h)) rfl ?_
                  refine hp_getr rfl (hH.1 118 (17, 105) rfl) rfl (hH.2 118 48 (some 149) rfl) ?_
                  refine qm_Rp.go 1 (c' := (100, [.ref 118, .int y, .int x, .int g, .int v35, .int v35, .int v40, .float 0, .float 0], [.int v40, .ref 149], h)) rfl ?_
                  obtain ⟨v43, q_v43⟩ : ∃ v_, h.2.1 149 v40.toInt.toNat = v_ := ⟨_, rfl⟩
                  refine hp_bal (v := v43) rfl (hH.1 149 (2, 30) rfl) q_v43 (fun ia_43 ib_43 => ?_)
                  refine qm_Rp.go 0 (c' := (101, [.ref 118, .int y, .int x, .int g, .int v35, .int v35, .int v40, .float 0, .float 0], [.int v43], h)) rfl ?_
                  have est : tk v40.toInt.toNat = v43.toInt := by rw [← eK]; exact congrArg Int32.toInt q_v43
                  refine hp_zeq (ix := v43.toInt) rfl rfl (fun z45 => ?_) (fun z45 => ?_)
                  · refine qm_Rp.go 8 (c' := (137, [.ref 118, .int y, .int x, .int g, .int v35, .int v35, .int v40, .int (-1), .int 1], [], h)) rfl ?_
                    have em : mV c tk v35.toInt = 1 := mV_1a (by omega)
                    exact px_unB01 hH eW eH eS q_n hn hw hs q_lv q_B hB q_g0 q_g1 q_g2 eC eY eI hi4 eK q_cv q_l hc hA hb2 k0 k1 ⟨by omega, by omega⟩ ⟨by omega, by omega⟩ ⟨by omega, by omega⟩ ⟨by omega, by omega⟩ ⟨by omega, by omega⟩ ⟨by omega, by omega⟩ el ek eb em ab1 ek_v40
                  · refine qm_Rp.go 2 (c' := (108, [.ref 118, .int y, .int x, .int g, .int v35, .int v35, .int v40, .float 0, .float 0], [.int v35, .int v35], h)) rfl ?_
                    refine hp_cle (ix := v35.toInt) (iy := v35.toInt) rfl rfl rfl (fun z46 => ?_) (fun z46 => by exfalso; omega)
                    refine qm_Rp.go 8 (c' := (137, [.ref 118, .int y, .int x, .int g, .int v35, .int v35, .int v40, .int (-1), .int 1], [], h)) rfl ?_
                    have em : mV c tk v35.toInt = 1 := mV_1a (by omega)
                    exact px_unB01 hH eW eH eS q_n hn hw hs q_lv q_B hB q_g0 q_g1 q_g2 eC eY eI hi4 eK q_cv q_l hc hA hb2 k0 k1 ⟨by omega, by omega⟩ ⟨by omega, by omega⟩ ⟨by omega, by omega⟩ ⟨by omega, by omega⟩ ⟨by omega, by omega⟩ ⟨by omega, by omega⟩ el ek eb em ab1 ek_v40
                · refine qm_Rp.go 1 (c' := (93, [.ref 118, .int y, .int x, .int g, .int v35, .int v35, .int v40, .float 0, .float 0], [.int (-1)], h)) rfl ?_
                  refine qm_Rp.rt (v := (some (.int (-1)))) (h' := h) rfl ?_
                  exact k0 (h.2.1) (-1) (fun o ho i => rfl) (unl_b ⟨by omega, by omega, by omega, by omega, by omega, by omega⟩ (by rw [el, ek, eb]; omega)).symm (by decide) eH eS eC eY eI
              · refine qm_Rp.go 3 (c' := (70, [.ref 118, .int y, .int x, .int g, .int v35, .float 0, .float 0, .float 0, .float 0], [.int (v35 + 1)], h)) rfl ?_
                rw [q_v36]
                refine qm_Rp.go 3 (c' := (78, [.ref 118, .int y, .int x, .int g, .int v35, .int v36, .float 0, .float 0, .float 0], [.ref 118], h)) rfl ?_
                refine hp_getr rfl (hH.1 118 (17, 105) rfl) rfl (hH.2 118 51 (some 152) rfl) ?_
                refine qm_Rp.go 1 (c' := (83, [.ref 118, .int y, .int x, .int g, .int v35, .int v36, .float 0, .float 0, .float 0], [.int v36, .ref 152], h)) rfl ?_
                refine hp_ial (v := v37) rfl (hH.1 152 (0, 80) rfl) q_v37 (fun ia_46 ib_46 => ?_)
                refine qm_Rp.go 0 (c' := (84, [.ref 118, .int y, .int x, .int g, .int v35, .int v36, .float 0, .float 0, .float 0], [.int v37], h)) rfl ?_
                have eb : c v36.toInt.toNat = v37.toInt := by rw [← ec1, show (v35.toInt + 1).toNat = v36.toInt.toNat by omega]
                have ek : kV c v35.toInt = v36.toInt := (kV_1 (by omega)).trans (by omega)
                refine qm_Rp.go 3 (c' := (89, [.ref 118, .int y, .int x, .int g, .int v35, .int v36, .int v37, .float 0, .float 0], [.int (-1), .int v37], h)) rfl ?_
                refine hp_cne (ix := v37.toInt) (iy := (-1)) rfl rfl rfl (fun z48 => ?_) (fun z48 => by exfalso; omega)
                refine qm_Rp.go 0 (c' := (94, [.ref 118, .int y, .int x, .int g, .int v35, .int v36, .int v37, .float 0, .float 0], [], h)) rfl ?_
                have ab1 := hA v36.toInt.toNat (by omega) (by rw [eb]; omega)
                rw [eb] at ab1
                have ek_v37 : sp v37.toInt.toNat = v36.toInt := by rw [ab1.2]; omega
                refine qm_Rp.go 1 (c' := (95, [.ref 118, .int y, .int x, .int g, .int v35, .int v36, .int v37, .float 0, .float 0], [.ref 118], h)) rfl ?_
                refine hp_getr rfl (hH.1 118 (17, 105) rfl) rfl (hH.2 118 48 (some 149) rfl) ?_
                refine qm_Rp.go 1 (c' := (100, [.ref 118, .int y, .int x, .int g, .int v35, .int v36, .int v37, .float 0, .float 0], [.int v37, .ref 149], h)) rfl ?_
                obtain ⟨v49, q_v49⟩ : ∃ v_, h.2.1 149 v37.toInt.toNat = v_ := ⟨_, rfl⟩
                refine hp_bal (v := v49) rfl (hH.1 149 (2, 30) rfl) q_v49 (fun ia_49 ib_49 => ?_)
                refine qm_Rp.go 0 (c' := (101, [.ref 118, .int y, .int x, .int g, .int v35, .int v36, .int v37, .float 0, .float 0], [.int v49], h)) rfl ?_
                have est : tk v37.toInt.toNat = v49.toInt := by rw [← eK]; exact congrArg Int32.toInt q_v49
                refine hp_zeq (ix := v49.toInt) rfl rfl (fun z51 => ?_) (fun z51 => ?_)
                · refine qm_Rp.go 8 (c' := (137, [.ref 118, .int y, .int x, .int g, .int v35, .int v36, .int v37, .int (-1), .int 1], [], h)) rfl ?_
                  have em : mV c tk v35.toInt = 1 := mV_1b (by omega) (by rw [ec1, est]; omega)
                  exact px_unB01 hH eW eH eS q_n hn hw hs q_lv q_B hB q_g0 q_g1 q_g2 eC eY eI hi4 eK q_cv q_l hc hA hb2 k0 k1 ⟨by omega, by omega⟩ ⟨by omega, by omega⟩ ⟨by omega, by omega⟩ ⟨by omega, by omega⟩ ⟨by omega, by omega⟩ ⟨by omega, by omega⟩ el ek eb em ab1 ek_v37
                · refine qm_Rp.go 2 (c' := (108, [.ref 118, .int y, .int x, .int g, .int v35, .int v36, .int v37, .float 0, .float 0], [.int v35, .int v36], h)) rfl ?_
                  refine hp_cle (ix := v36.toInt) (iy := v35.toInt) rfl rfl rfl (fun z52 => ?_) (fun z52 => ?_)
                  · refine qm_Rp.go 8 (c' := (137, [.ref 118, .int y, .int x, .int g, .int v35, .int v36, .int v37, .int (-1), .int 1], [], h)) rfl ?_
                    have em : mV c tk v35.toInt = 1 := mV_1b (by omega) (by rw [ec1, est]; omega)
                    exact px_unB01 hH eW eH eS q_n hn hw hs q_lv q_B hB q_g0 q_g1 q_g2 eC eY eI hi4 eK q_cv q_l hc hA hb2 k0 k1 ⟨by omega, by omega⟩ ⟨by omega, by omega⟩ ⟨by omega, by omega⟩ ⟨by omega, by omega⟩ ⟨by omega, by omega⟩ ⟨by omega, by omega⟩ el ek eb em ab1 ek_v37
                  · refine qm_Rp.go 1 (c' := (112, [.ref 118, .int y, .int x, .int g, .int v35, .int v36, .int v37, .float 0, .float 0], [.ref 118], h)) rfl ?_
                    refine hp_getr rfl (hH.1 118 (17, 105) rfl) rfl (hH.2 118 51 (some 152) rfl) ?_
                    refine qm_Rp.go 1 (c' := (117, [.ref 118, .int y, .int x, .int g, .int v35, .int v36, .int v37, .float 0, .float 0], [.int v35, .ref 152], h)) rfl ?_
                    obtain ⟨v53, q_v53⟩ : ∃ v_, h.2.1 152 v35.toInt.toNat = v_ := ⟨_, rfl⟩
                    refine hp_ial (v := v53) rfl (hH.1 152 (0, 80) rfl) q_v53 (fun ia_53 ib_53 => ?_)
                    refine qm_Rp.go 0 (c' := (118, [.ref 118, .int y, .int x, .int g, .int v35, .int v36, .int v37, .float 0, .float 0], [.int v53], h)) rfl ?_
                    have etw : c v35.toInt.toNat = v53.toInt := by rw [← eC, show v35.toInt.toNat = v35.toInt.toNat by omega]; exact congrArg Int32.toInt q_v53
                    have bct := hc v35.toInt.toNat
                    rw [etw] at bct
                    have t0 := hb2 (v35.toInt.toNat / 2) (by omega) (by rw [show 2 * (v35.toInt.toNat / 2) + 1 = (v35.toInt + 1).toNat by omega, ec1]; omega)
                    rw [show 2 * (v35.toInt.toNat / 2) = v35.toInt.toNat by omega, etw] at t0
                    have ab2 := hA v35.toInt.toNat (by omega) (by rw [etw]; omega)
                    rw [etw] at ab2
                    have ek_v53 : sp v53.toInt.toNat = v35.toInt := by rw [ab2.2]; omega
                    have hne : v53.toInt.toNat ≠ v37.toInt.toNat := fun z => by rw [z, ab1.2] at ab2; omega
                    refine qm_Rp.go 4 (c' := (127, [.ref 118, .int y, .int x, .int g, .int v35, .int v36, .int v37, .int v53, .float 0], [.int (-1), .int v53], h)) rfl ?_
                    refine hp_cne (ix := v53.toInt) (iy := (-1)) rfl rfl rfl (fun z55 => ?_) (fun z55 => by exfalso; omega)
                    refine qm_Rp.go 2 (c' := (137, [.ref 118, .int y, .int x, .int g, .int v35, .int v36, .int v37, .int v53, .int 2], [], h)) rfl ?_
                    have em : mV c tk v35.toInt = 2 := mV_2 (by omega) (by rw [ec1, est]; omega)
                    exact px_unB02 hH eW eH eS q_n hn hw hs q_lv q_B hB q_g0 q_g1 q_g2 eC eY eI hi4 eK q_cv q_l hc hA hb2 k0 k2 ⟨by omega, by omega⟩ ⟨by omega, by omega⟩ ⟨by omega, by omega⟩ ⟨by omega, by omega⟩ ⟨by omega, by omega⟩ ⟨by omega, by omega⟩ el ek eb em ab1 ek_v37 ⟨by omega, by omega⟩ (by omega) ec1 etw ab2 ek_v53 hne
          · refine qm_Rp.go 1 (c' := (21, [.ref 118, .int y, .int x, .int g, .float 0, .float 0, .float 0, .float 0, .float 0], [.int g], h)) rfl ?_
            refine qm_Rp.call (j := 278) (as := [.int g]) (c' := (24, [.ref 118, .int y, .int x, .int g, .float 0, .float 0, .float 0, .float 0, .float 0], [], h)) rfl rfl ?_
            refine qm_Rp.go 3 (c' := (3, [.int g], [.int 3, .int 0, .int g], h)) rfl ?_
            refine qm_Rp.call (j := 270) (as := [.int g, .int 0, .int 3]) (c' := (6, [.int g], [], h)) rfl rfl ?_
            refine qm_Rp.go 2 (c' := (2, [.int g, .int 0, .int 3], [.int 0, .int g], h)) rfl ?_
            refine hp_clt (ix := g.toInt) (iy := 0) rfl rfl rfl (fun z56 => ?_) (fun z56 => ?_)
            · refine qm_Rp.go 1 (c' := (15, [.int g, .int 0, .int 3], [.int 0], h)) rfl ?_
              refine qm_Rp.rt (v := (some (.int 0))) (h' := h) rfl ?_
              refine qm_Rp.go 0 (c' := (6, [.int g], [.int 0], h)) rfl ?_
              refine qm_Rp.rt (v := (some (.int 0))) (h' := h) rfl ?_
              refine qm_Rp.go 2 (c' := (28, [.ref 118, .int y, .int x, .int g, .float 0, .float 0, .float 0, .float 0, .float 0], [.int (-1)], h)) rfl ?_
              refine qm_Rp.rt (v := (some (.int (-1)))) (h' := h) rfl ?_
              exact k0 (h.2.1) (-1) (fun o ho i => rfl) (unl_a (fun z => by omega)).symm (by decide) eH eS eC eY eI
            · refine qm_Rp.go 2 (c' := (7, [.int g, .int 0, .int 3], [.int 3, .int g], h)) rfl ?_
              refine hp_cgt (ix := g.toInt) (iy := 3) rfl rfl rfl (fun z57 => ?_) (fun z57 => ?_)
              · refine qm_Rp.go 1 (c' := (15, [.int g, .int 0, .int 3], [.int 0], h)) rfl ?_
                refine qm_Rp.rt (v := (some (.int 0))) (h' := h) rfl ?_
                refine qm_Rp.go 0 (c' := (6, [.int g], [.int 0], h)) rfl ?_
                refine qm_Rp.rt (v := (some (.int 0))) (h' := h) rfl ?_
                refine qm_Rp.go 2 (c' := (28, [.ref 118, .int y, .int x, .int g, .float 0, .float 0, .float 0, .float 0, .float 0], [.int (-1)], h)) rfl ?_
                refine qm_Rp.rt (v := (some (.int (-1)))) (h' := h) rfl ?_
                exact k0 (h.2.1) (-1) (fun o ho i => rfl) (unl_a (fun z => by omega)).symm (by decide) eH eS eC eY eI
              · refine qm_Rp.go 2 (c' := (15, [.int g, .int 0, .int 3], [.int 1], h)) rfl ?_
                refine qm_Rp.rt (v := (some (.int 1))) (h' := h) rfl ?_
                refine qm_Rp.go 0 (c' := (6, [.int g], [.int 1], h)) rfl ?_
                refine qm_Rp.rt (v := (some (.int 1))) (h' := h) rfl ?_
                refine qm_Rp.go 4 (c' := (33, [.ref 118, .int y, .int x, .int g, .float 0, .float 0, .float 0, .float 0, .float 0], [.int (16 * y)], h)) rfl ?_
                obtain ⟨v58, q_v58, e_v58⟩ := hk_mul (x := 16) (y := y) (a := 16) (b := y.toInt) rfl rfl (by omega) (by omega)
                rw [q_v58]
                refine qm_Rp.go 3 (c' := (36, [.ref 118, .int y, .int x, .int g, .float 0, .float 0, .float 0, .float 0, .float 0], [.int (4 * x), .int v58], h)) rfl ?_
                obtain ⟨v59, q_v59, e_v59⟩ := hk_mul (x := 4) (y := x) (a := 4) (b := x.toInt) rfl rfl (by omega) (by omega)
                rw [q_v59]
                refine qm_Rp.go 1 (c' := (37, [.ref 118, .int y, .int x, .int g, .float 0, .float 0, .float 0, .float 0, .float 0], [.int (v58 + v59)], h)) rfl ?_
                obtain ⟨v60, q_v60, e_v60⟩ := hk_add (x := v58) (y := v59) (a := v58.toInt) (b := v59.toInt) rfl rfl (by omega) (by omega)
                rw [q_v60]
                refine qm_Rp.go 2 (c' := (39, [.ref 118, .int y, .int x, .int g, .float 0, .float 0, .float 0, .float 0, .float 0], [.int y, .ref 118, .int v60], h)) rfl ?_
                refine hp_inv (o := 118) (r := [.int v60]) (as := [.ref 118, .int y]) rfl rfl (hH.1 118 (17, 105) rfl) rfl rfl rfl ?_
                refine qm_Rp.go 1 (c' := (1, [.ref 118, .int y], [.ref 118], h)) rfl ?_
                refine hp_geti (v := cv) rfl (hH.1 118 (17, 105) rfl) rfl q_cv ?_
                refine qm_Rp.go 2 (c' := (6, [.ref 118, .int y], [.int (cv >>> (y &&& 31))], h)) rfl ?_
                obtain ⟨v61, q_v61⟩ : ∃ v_, (cv >>> (y &&& 31)) = v_ := ⟨_, rfl⟩
                rw [q_v61]
                refine qm_Rp.go 2 (c' := (8, [.ref 118, .int y], [.int (v61 &&& 1)], h)) rfl ?_
                obtain ⟨v62, q_v62⟩ : ∃ v_, (v61 &&& 1) = v_ := ⟨_, rfl⟩
                rw [q_v62]
                refine qm_Rp.go 1 (c' := (9, [.ref 118, .int y], [.int 1, .int v62], h)) rfl ?_
                refine hp_cne (ix := v62.toInt) (iy := 1) rfl rfl rfl (fun z63 => ?_) (fun z63 => ?_)
                · refine qm_Rp.go 1 (c' := (17, [.ref 118, .int y], [.int 0], h)) rfl ?_
                  refine qm_Rp.rt (v := (some (.int 0))) (h' := h) rfl ?_
                  refine qm_Rp.go 1 (c' := (49, [.ref 118, .int y, .int x, .int g, .float 0, .float 0, .float 0, .float 0, .float 0], [.int v60], h)) rfl ?_
                  refine qm_Rp.go 2 (c' := (51, [.ref 118, .int y, .int x, .int g, .float 0, .float 0, .float 0, .float 0, .float 0], [.int (v60 + 0)], h)) rfl ?_
                  obtain ⟨v64, q_v64, e_v64⟩ := hk_add (x := v60) (y := 0) (a := v60.toInt) (b := 0) rfl rfl (by omega) (by omega)
                  rw [q_v64]
                  refine qm_Rp.go 1 (c' := (53, [.ref 118, .int y, .int x, .int g, .int v64, .float 0, .float 0, .float 0, .float 0], [], h)) rfl ?_
                  have el : lowV cv y x.toInt = v64.toInt := low_0 (cv := cv) (bay := y) (x := x.toInt) (k := v64.toInt) q_v61 q_v62 (by omega) (by omega)
                  refine qm_Rp.go 1 (c' := (54, [.ref 118, .int y, .int x, .int g, .int v64, .float 0, .float 0, .float 0, .float 0], [.ref 118], h)) rfl ?_
                  refine hp_getr rfl (hH.1 118 (17, 105) rfl) rfl (hH.2 118 51 (some 152) rfl) ?_
                  refine qm_Rp.go 3 (c' := (61, [.ref 118, .int y, .int x, .int g, .int v64, .float 0, .float 0, .float 0, .float 0], [.int (v64 + 1), .ref 152], h)) rfl ?_
                  obtain ⟨v65, q_v65, e_v65⟩ := hk_add (x := v64) (y := 1) (a := v64.toInt) (b := 1) rfl rfl (by omega) (by omega)
                  rw [q_v65]
                  obtain ⟨v66, q_v66⟩ : ∃ v_, h.2.1 152 v65.toInt.toNat = v_ := ⟨_, rfl⟩
                  refine hp_ial (v := v66) rfl (hH.1 152 (0, 80) rfl) q_v66 (fun ia_66 ib_66 => ?_)
                  refine qm_Rp.go 0 (c' := (62, [.ref 118, .int y, .int x, .int g, .int v64, .float 0, .float 0, .float 0, .float 0], [.int v66], h)) rfl ?_
                  have ec1 : c (v64.toInt + 1).toNat = v66.toInt := by rw [← eC, show (v64.toInt + 1).toNat = v65.toInt.toNat by omega]; exact congrArg Int32.toInt q_v66
                  have bc1 := hc (v64.toInt + 1).toNat
                  rw [ec1] at bc1
                  refine qm_Rp.go 1 (c' := (63, [.ref 118, .int y, .int x, .int g, .int v64, .float 0, .float 0, .float 0, .float 0], [.int (-1), .int v66], h)) rfl ?_
                  refine hp_ceq (ix := v66.toInt) (iy := (-1)) rfl rfl rfl (fun z68 => ?_) (fun z68 => ?_)
                  · refine qm_Rp.go 3 (c' := (78, [.ref 118, .int y, .int x, .int g, .int v64, .int v64, .float 0, .float 0, .float 0], [.ref 118], h)) rfl ?_
                    refine hp_getr rfl (hH.1 118 (17, 105) rfl) rfl (hH.2 118 51 (some 152) rfl) ?_
                    refine qm_Rp.go 1 (c' := (83, [.ref 118, .int y, .int x, .int g, .int v64, .int v64, .float 0, .float 0, .float 0], [.int v64, .ref 152], h)) rfl ?_
                    obtain ⟨v69, q_v69⟩ : ∃ v_, h.2.1 152 v64.toInt.toNat = v_ := ⟨_, rfl⟩
                    refine hp_ial (v := v69) rfl (hH.1 152 (0, 80) rfl) q_v69 (fun ia_69 ib_69 => ?_)
                    refine qm_Rp.go 0 (c' := (84, [.ref 118, .int y, .int x, .int g, .int v64, .int v64, .float 0, .float 0, .float 0], [.int v69], h)) rfl ?_
                    have eb : c v64.toInt.toNat = v69.toInt := by rw [← eC, show v64.toInt.toNat = v64.toInt.toNat by omega]; exact congrArg Int32.toInt q_v69
                    have bcb := hc v64.toInt.toNat
                    rw [eb] at bcb
                    have ek : kV c v64.toInt = v64.toInt := kV_0 (by omega)
                    refine qm_Rp.go 3 (c' := (89, [.ref 118, .int y, .int x, .int g, .int v64, .int v64, .int v69, .float 0, .float 0], [.int (-1), .int v69], h)) rfl ?_
                    refine hp_cne (ix := v69.toInt) (iy := (-1)) rfl rfl rfl (fun z71 => ?_) (fun z71 => ?_)
                    · refine qm_Rp.go 0 (c' := (94, [.ref 118, .int y, .int x, .int g, .int v64, .int v64, .int v69, .float 0, .float 0], [], h)) rfl ?_
                      have ab1 := hA v64.toInt.toNat (by omega) (by rw [eb]; omega)
                      rw [eb] at ab1
                      have ek_v69 : sp v69.toInt.toNat = v64.toInt := by rw [ab1.2]; omega
                      refine qm_Rp.go 1 (c' := (95, [.ref 118, .int y, .int x, .int g, .int v64, .int v64, .int v69, .float 0, .float 0], [.ref 118], h)) rfl ?_
                      refine hp_getr rfl (hH.1 118 (17, 105) rfl) rfl (hH.2 118 48 (some 149) rfl) ?_
                      refine qm_Rp.go 1 (c' := (100, [.ref 118, .int y, .int x, .int g, .int v64, .int v64, .int v69, .float 0, .float 0], [.int v69, .ref 149], h)) rfl ?_
                      obtain ⟨v72, q_v72⟩ : ∃ v_, h.2.1 149 v69.toInt.toNat = v_ := ⟨_, rfl⟩
                      refine hp_bal (v := v72) rfl (hH.1 149 (2, 30) rfl) q_v72 (fun ia_72 ib_72 => ?_)
                      refine qm_Rp.go 0 (c' := (101, [.ref 118, .int y, .int x, .int g, .int v64, .int v64, .int v69, .float 0, .float 0], [.int v72], h)) rfl ?_
                      have est : tk v69.toInt.toNat = v72.toInt := by rw [← eK]; exact congrArg Int32.toInt q_v72
                      refine hp_zeq (ix := v72.toInt) rfl rfl (fun z74 => ?_) (fun z74 => ?_)
                      · refine qm_Rp.go 8 (c' := (137, [.ref 118, .int y, .int x, .int g, .int v64, .int v64, .int v69, .int (-1), .int 1], [], h)) rfl ?_
                        have em : mV c tk v64.toInt = 1 := mV_1a (by omega)
                        exact px_unB01 hH eW eH eS q_n hn hw hs q_lv q_B hB q_g0 q_g1 q_g2 eC eY eI hi4 eK q_cv q_l hc hA hb2 k0 k1 ⟨by omega, by omega⟩ ⟨by omega, by omega⟩ ⟨by omega, by omega⟩ ⟨by omega, by omega⟩ ⟨by omega, by omega⟩ ⟨by omega, by omega⟩ el ek eb em ab1 ek_v69
                      · refine qm_Rp.go 2 (c' := (108, [.ref 118, .int y, .int x, .int g, .int v64, .int v64, .int v69, .float 0, .float 0], [.int v64, .int v64], h)) rfl ?_
                        refine hp_cle (ix := v64.toInt) (iy := v64.toInt) rfl rfl rfl (fun z75 => ?_) (fun z75 => by exfalso; omega)
                        refine qm_Rp.go 8 (c' := (137, [.ref 118, .int y, .int x, .int g, .int v64, .int v64, .int v69, .int (-1), .int 1], [], h)) rfl ?_
                        have em : mV c tk v64.toInt = 1 := mV_1a (by omega)
                        exact px_unB01 hH eW eH eS q_n hn hw hs q_lv q_B hB q_g0 q_g1 q_g2 eC eY eI hi4 eK q_cv q_l hc hA hb2 k0 k1 ⟨by omega, by omega⟩ ⟨by omega, by omega⟩ ⟨by omega, by omega⟩ ⟨by omega, by omega⟩ ⟨by omega, by omega⟩ ⟨by omega, by omega⟩ el ek eb em ab1 ek_v69
                    · refine qm_Rp.go 1 (c' := (93, [.ref 118, .int y, .int x, .int g, .int v64, .int v64, .int v69, .float 0, .float 0], [.int (-1)], h)) rfl ?_
                      refine qm_Rp.rt (v := (some (.int (-1)))) (h' := h) rfl ?_
                      exact k0 (h.2.1) (-1) (fun o ho i => rfl) (unl_b ⟨by omega, by omega, by omega, by omega, by omega, by omega⟩ (by rw [el, ek, eb]; omega)).symm (by decide) eH eS eC eY eI
                  · refine qm_Rp.go 3 (c' := (70, [.ref 118, .int y, .int x, .int g, .int v64, .float 0, .float 0, .float 0, .float 0], [.int (v64 + 1)], h)) rfl ?_
                    rw [q_v65]
                    refine qm_Rp.go 3 (c' := (78, [.ref 118, .int y, .int x, .int g, .int v64, .int v65, .float 0, .float 0, .float 0], [.ref 118], h)) rfl ?_
                    refine hp_getr rfl (hH.1 118 (17, 105) rfl) rfl (hH.2 118 51 (some 152) rfl) ?_
                    refine qm_Rp.go 1 (c' := (83, [.ref 118, .int y, .int x, .int g, .int v64, .int v65, .float 0, .float 0, .float 0], [.int v65, .ref 152], h)) rfl ?_
                    refine hp_ial (v := v66) rfl (hH.1 152 (0, 80) rfl) q_v66 (fun ia_75 ib_75 => ?_)
                    refine qm_Rp.go 0 (c' := (84, [.ref 118, .int y, .int x, .int g, .int v64, .int v65, .float 0, .float 0, .float 0], [.int v66], h)) rfl ?_
                    have eb : c v65.toInt.toNat = v66.toInt := by rw [← ec1, show (v64.toInt + 1).toNat = v65.toInt.toNat by omega]
                    have ek : kV c v64.toInt = v65.toInt := (kV_1 (by omega)).trans (by omega)
                    refine qm_Rp.go 3 (c' := (89, [.ref 118, .int y, .int x, .int g, .int v64, .int v65, .int v66, .float 0, .float 0], [.int (-1), .int v66], h)) rfl ?_
                    refine hp_cne (ix := v66.toInt) (iy := (-1)) rfl rfl rfl (fun z77 => ?_) (fun z77 => by exfalso; omega)
                    refine qm_Rp.go 0 (c' := (94, [.ref 118, .int y, .int x, .int g, .int v64, .int v65, .int v66, .float 0, .float 0], [], h)) rfl ?_
                    have ab1 := hA v65.toInt.toNat (by omega) (by rw [eb]; omega)
                    rw [eb] at ab1
                    have ek_v66 : sp v66.toInt.toNat = v65.toInt := by rw [ab1.2]; omega
                    refine qm_Rp.go 1 (c' := (95, [.ref 118, .int y, .int x, .int g, .int v64, .int v65, .int v66, .float 0, .float 0], [.ref 118], h)) rfl ?_
                    refine hp_getr rfl (hH.1 118 (17, 105) rfl) rfl (hH.2 118 48 (some 149) rfl) ?_
                    refine qm_Rp.go 1 (c' := (100, [.ref 118, .int y, .int x, .int g, .int v64, .int v65, .int v66, .float 0, .float 0], [.int v66, .ref 149], h)) rfl ?_
                    obtain ⟨v78, q_v78⟩ : ∃ v_, h.2.1 149 v66.toInt.toNat = v_ := ⟨_, rfl⟩
                    refine hp_bal (v := v78) rfl (hH.1 149 (2, 30) rfl) q_v78 (fun ia_78 ib_78 => ?_)
                    refine qm_Rp.go 0 (c' := (101, [.ref 118, .int y, .int x, .int g, .int v64, .int v65, .int v66, .float 0, .float 0], [.int v78], h)) rfl ?_
                    have est : tk v66.toInt.toNat = v78.toInt := by rw [← eK]; exact congrArg Int32.toInt q_v78
                    refine hp_zeq (ix := v78.toInt) rfl rfl (fun z80 => ?_) (fun z80 => ?_)
                    · refine qm_Rp.go 8 (c' := (137, [.ref 118, .int y, .int x, .int g, .int v64, .int v65, .int v66, .int (-1), .int 1], [], h)) rfl ?_
                      have em : mV c tk v64.toInt = 1 := mV_1b (by omega) (by rw [ec1, est]; omega)
                      exact px_unB01 hH eW eH eS q_n hn hw hs q_lv q_B hB q_g0 q_g1 q_g2 eC eY eI hi4 eK q_cv q_l hc hA hb2 k0 k1 ⟨by omega, by omega⟩ ⟨by omega, by omega⟩ ⟨by omega, by omega⟩ ⟨by omega, by omega⟩ ⟨by omega, by omega⟩ ⟨by omega, by omega⟩ el ek eb em ab1 ek_v66
                    · refine qm_Rp.go 2 (c' := (108, [.ref 118, .int y, .int x, .int g, .int v64, .int v65, .int v66, .float 0, .float 0], [.int v64, .int v65], h)) rfl ?_
                      refine hp_cle (ix := v65.toInt) (iy := v64.toInt) rfl rfl rfl (fun z81 => ?_) (fun z81 => ?_)
                      · refine qm_Rp.go 8 (c' := (137, [.ref 118, .int y, .int x, .int g, .int v64, .int v65, .int v66, .int (-1), .int 1], [], h)) rfl ?_
                        have em : mV c tk v64.toInt = 1 := mV_1b (by omega) (by rw [ec1, est]; omega)
                        exact px_unB01 hH eW eH eS q_n hn hw hs q_lv q_B hB q_g0 q_g1 q_g2 eC eY eI hi4 eK q_cv q_l hc hA hb2 k0 k1 ⟨by omega, by omega⟩ ⟨by omega, by omega⟩ ⟨by omega, by omega⟩ ⟨by omega, by omega⟩ ⟨by omega, by omega⟩ ⟨by omega, by omega⟩ el ek eb em ab1 ek_v66
                      · refine qm_Rp.go 1 (c' := (112, [.ref 118, .int y, .int x, .int g, .int v64, .int v65, .int v66, .float 0, .float 0], [.ref 118], h)) rfl ?_
                        refine hp_getr rfl (hH.1 118 (17, 105) rfl) rfl (hH.2 118 51 (some 152) rfl) ?_
                        refine qm_Rp.go 1 (c' := (117, [.ref 118, .int y, .int x, .int g, .int v64, .int v65, .int v66, .float 0, .float 0], [.int v64, .ref 152], h)) rfl ?_
                        obtain ⟨v82, q_v82⟩ : ∃ v_, h.2.1 152 v64.toInt.toNat = v_ := ⟨_, rfl⟩
                        refine hp_ial (v := v82) rfl (hH.1 152 (0, 80) rfl) q_v82 (fun ia_82 ib_82 => ?_)
                        refine qm_Rp.go 0 (c' := (118, [.ref 118, .int y, .int x, .int g, .int v64, .int v65, .int v66, .float 0, .float 0], [.int v82], h)) rfl ?_
                        have etw : c v64.toInt.toNat = v82.toInt := by rw [← eC, show v64.toInt.toNat = v64.toInt.toNat by omega]; exact congrArg Int32.toInt q_v82
                        have bct := hc v64.toInt.toNat
                        rw [etw] at bct
                        have t0 := hb2 (v64.toInt.toNat / 2) (by omega) (by rw [show 2 * (v64.toInt.toNat / 2) + 1 = (v64.toInt + 1).toNat by omega, ec1]; omega)
                        rw [show 2 * (v64.toInt.toNat / 2) = v64.toInt.toNat by omega, etw] at t0
                        have ab2 := hA v64.toInt.toNat (by omega) (by rw [etw]; omega)
                        rw [etw] at ab2
                        have ek_v82 : sp v82.toInt.toNat = v64.toInt := by rw [ab2.2]; omega
                        have hne : v82.toInt.toNat ≠ v66.toInt.toNat := fun z => by rw [z, ab1.2] at ab2; omega
                        refine qm_Rp.go 4 (c' := (127, [.ref 118, .int y, .int x, .int g, .int v64, .int v65, .int v66, .int v82, .float 0], [.int (-1), .int v82], h)) rfl ?_
                        refine hp_cne (ix := v82.toInt) (iy := (-1)) rfl rfl rfl (fun z84 => ?_) (fun z84 => by exfalso; omega)
                        refine qm_Rp.go 2 (c' := (137, [.ref 118, .int y, .int x, .int g, .int v64, .int v65, .int v66, .int v82, .int 2], [], h)) rfl ?_
                        have em : mV c tk v64.toInt = 2 := mV_2 (by omega) (by rw [ec1, est]; omega)
                        exact px_unB02 hH eW eH eS q_n hn hw hs q_lv q_B hB q_g0 q_g1 q_g2 eC eY eI hi4 eK q_cv q_l hc hA hb2 k0 k2 ⟨by omega, by omega⟩ ⟨by omega, by omega⟩ ⟨by omega, by omega⟩ ⟨by omega, by omega⟩ ⟨by omega, by omega⟩ ⟨by omega, by omega⟩ el ek eb em ab1 ek_v66 ⟨by omega, by omega⟩ (by omega) ec1 etw ab2 ek_v82 hne
                · refine qm_Rp.go 2 (c' := (17, [.ref 118, .int y], [.int 1], h)) rfl ?_
                  refine qm_Rp.rt (v := (some (.int 1))) (h' := h) rfl ?_
                  refine qm_Rp.go 2 (c' := (46, [.ref 118, .int y, .int x, .int g, .float 0, .float 0, .float 0, .float 0, .float 0], [.int 2, .int v60], h)) rfl ?_
                  refine qm_Rp.go 2 (c' := (51, [.ref 118, .int y, .int x, .int g, .float 0, .float 0, .float 0, .float 0, .float 0], [.int (v60 + 2)], h)) rfl ?_
                  obtain ⟨v85, q_v85, e_v85⟩ := hk_add (x := v60) (y := 2) (a := v60.toInt) (b := 2) rfl rfl (by omega) (by omega)
                  rw [q_v85]
                  refine qm_Rp.go 1 (c' := (53, [.ref 118, .int y, .int x, .int g, .int v85, .float 0, .float 0, .float 0, .float 0], [], h)) rfl ?_
                  have el : lowV cv y x.toInt = v85.toInt := low_1 (cv := cv) (bay := y) (x := x.toInt) (k := v85.toInt) q_v61 q_v62 (by omega) (by omega)
                  refine qm_Rp.go 1 (c' := (54, [.ref 118, .int y, .int x, .int g, .int v85, .float 0, .float 0, .float 0, .float 0], [.ref 118], h)) rfl ?_
                  refine hp_getr rfl (hH.1 118 (17, 105) rfl) rfl (hH.2 118 51 (some 152) rfl) ?_
                  refine qm_Rp.go 3 (c' := (61, [.ref 118, .int y, .int x, .int g, .int v85, .float 0, .float 0, .float 0, .float 0], [.int (v85 + 1), .ref 152], h)) rfl ?_
                  obtain ⟨v86, q_v86, e_v86⟩ := hk_add (x := v85) (y := 1) (a := v85.toInt) (b := 1) rfl rfl (by omega) (by omega)
                  rw [q_v86]
                  obtain ⟨v87, q_v87⟩ : ∃ v_, h.2.1 152 v86.toInt.toNat = v_ := ⟨_, rfl⟩
                  refine hp_ial (v := v87) rfl (hH.1 152 (0, 80) rfl) q_v87 (fun ia_87 ib_87 => ?_)
                  refine qm_Rp.go 0 (c' := (62, [.ref 118, .int y, .int x, .int g, .int v85, .float 0, .float 0, .float 0, .float 0], [.int v87], h)) rfl ?_
                  have ec1 : c (v85.toInt + 1).toNat = v87.toInt := by rw [← eC, show (v85.toInt + 1).toNat = v86.toInt.toNat by omega]; exact congrArg Int32.toInt q_v87
                  have bc1 := hc (v85.toInt + 1).toNat
                  rw [ec1] at bc1
                  refine qm_Rp.go 1 (c' := (63, [.ref 118, .int y, .int x, .int g, .int v85, .float 0, .float 0, .float 0, .float 0], [.int (-1), .int v87], h)) rfl ?_
                  refine hp_ceq (ix := v87.toInt) (iy := (-1)) rfl rfl rfl (fun z89 => ?_) (fun z89 => ?_)
                  · refine qm_Rp.go 3 (c' := (78, [.ref 118, .int y, .int x, .int g, .int v85, .int v85, .float 0, .float 0, .float 0], [.ref 118], h)) rfl ?_
                    refine hp_getr rfl (hH.1 118 (17, 105) rfl) rfl (hH.2 118 51 (some 152) rfl) ?_
                    refine qm_Rp.go 1 (c' := (83, [.ref 118, .int y, .int x, .int g, .int v85, .int v85, .float 0, .float 0, .float 0], [.int v85, .ref 152], h)) rfl ?_
                    obtain ⟨v90, q_v90⟩ : ∃ v_, h.2.1 152 v85.toInt.toNat = v_ := ⟨_, rfl⟩
                    refine hp_ial (v := v90) rfl (hH.1 152 (0, 80) rfl) q_v90 (fun ia_90 ib_90 => ?_)
                    refine qm_Rp.go 0 (c' := (84, [.ref 118, .int y, .int x, .int g, .int v85, .int v85, .float 0, .float 0, .float 0], [.int v90], h)) rfl ?_
                    have eb : c v85.toInt.toNat = v90.toInt := by rw [← eC, show v85.toInt.toNat = v85.toInt.toNat by omega]; exact congrArg Int32.toInt q_v90
                    have bcb := hc v85.toInt.toNat
                    rw [eb] at bcb
                    have ek : kV c v85.toInt = v85.toInt := kV_0 (by omega)
                    refine qm_Rp.go 3 (c' := (89, [.ref 118, .int y, .int x, .int g, .int v85, .int v85, .int v90, .float 0, .float 0], [.int (-1), .int v90], h)) rfl ?_
                    refine hp_cne (ix := v90.toInt) (iy := (-1)) rfl rfl rfl (fun z92 => ?_) (fun z92 => ?_)
                    · refine qm_Rp.go 0 (c' := (94, [.ref 118, .int y, .int x, .int g, .int v85, .int v85, .int v90, .float 0, .float 0], [], h)) rfl ?_
                      have ab1 := hA v85.toInt.toNat (by omega) (by rw [eb]; omega)
                      rw [eb] at ab1
                      have ek_v90 : sp v90.toInt.toNat = v85.toInt := by rw [ab1.2]; omega
                      refine qm_Rp.go 1 (c' := (95, [.ref 118, .int y, .int x, .int g, .int v85, .int v85, .int v90, .float 0, .float 0], [.ref 118], h)) rfl ?_
                      refine hp_getr rfl (hH.1 118 (17, 105) rfl) rfl (hH.2 118 48 (some 149) rfl) ?_
                      refine qm_Rp.go 1 (c' := (100, [.ref 118, .int y, .int x, .int g, .int v85, .int v85, .int v90, .float 0, .float 0], [.int v90, .ref 149], h)) rfl ?_
                      obtain ⟨v93, q_v93⟩ : ∃ v_, h.2.1 149 v90.toInt.toNat = v_ := ⟨_, rfl⟩
                      refine hp_bal (v := v93) rfl (hH.1 149 (2, 30) rfl) q_v93 (fun ia_93 ib_93 => ?_)
                      refine qm_Rp.go 0 (c' := (101, [.ref 118, .int y, .int x, .int g, .int v85, .int v85, .int v90, .float 0, .float 0], [.int v93], h)) rfl ?_
                      have est : tk v90.toInt.toNat = v93.toInt := by rw [← eK]; exact congrArg Int32.toInt q_v93
                      refine hp_zeq (ix := v93.toInt) rfl rfl (fun z95 => ?_) (fun z95 => ?_)
                      · refine qm_Rp.go 8 (c' := (137, [.ref 118, .int y, .int x, .int g, .int v85, .int v85, .int v90, .int (-1), .int 1], [], h)) rfl ?_
                        have em : mV c tk v85.toInt = 1 := mV_1a (by omega)
                        exact px_unB01 hH eW eH eS q_n hn hw hs q_lv q_B hB q_g0 q_g1 q_g2 eC eY eI hi4 eK q_cv q_l hc hA hb2 k0 k1 ⟨by omega, by omega⟩ ⟨by omega, by omega⟩ ⟨by omega, by omega⟩ ⟨by omega, by omega⟩ ⟨by omega, by omega⟩ ⟨by omega, by omega⟩ el ek eb em ab1 ek_v90
                      · refine qm_Rp.go 2 (c' := (108, [.ref 118, .int y, .int x, .int g, .int v85, .int v85, .int v90, .float 0, .float 0], [.int v85, .int v85], h)) rfl ?_
                        refine hp_cle (ix := v85.toInt) (iy := v85.toInt) rfl rfl rfl (fun z96 => ?_) (fun z96 => by exfalso; omega)
                        refine qm_Rp.go 8 (c' := (137, [.ref 118, .int y, .int x, .int g, .int v85, .int v85, .int v90, .int (-1), .int 1], [], h)) rfl ?_
                        have em : mV c tk v85.toInt = 1 := mV_1a (by omega)
                        exact px_unB01 hH eW eH eS q_n hn hw hs q_lv q_B hB q_g0 q_g1 q_g2 eC eY eI hi4 eK q_cv q_l hc hA hb2 k0 k1 ⟨by omega, by omega⟩ ⟨by omega, by omega⟩ ⟨by omega, by omega⟩ ⟨by omega, by omega⟩ ⟨by omega, by omega⟩ ⟨by omega, by omega⟩ el ek eb em ab1 ek_v90
                    · refine qm_Rp.go 1 (c' := (93, [.ref 118, .int y, .int x, .int g, .int v85, .int v85, .int v90, .float 0, .float 0], [.int (-1)], h)) rfl ?_
                      refine qm_Rp.rt (v := (some (.int (-1)))) (h' := h) rfl ?_
                      exact k0 (h.2.1) (-1) (fun o ho i => rfl) (unl_b ⟨by omega, by omega, by omega, by omega, by omega, by omega⟩ (by rw [el, ek, eb]; omega)).symm (by decide) eH eS eC eY eI
                  · refine qm_Rp.go 3 (c' := (70, [.ref 118, .int y, .int x, .int g, .int v85, .float 0, .float 0, .float 0, .float 0], [.int (v85 + 1)], h)) rfl ?_
                    rw [q_v86]
                    refine qm_Rp.go 3 (c' := (78, [.ref 118, .int y, .int x, .int g, .int v85, .int v86, .float 0, .float 0, .float 0], [.ref 118], h)) rfl ?_
                    refine hp_getr rfl (hH.1 118 (17, 105) rfl) rfl (hH.2 118 51 (some 152) rfl) ?_
                    refine qm_Rp.go 1 (c' := (83, [.ref 118, .int y, .int x, .int g, .int v85, .int v86, .float 0, .float 0, .float 0], [.int v86, .ref 152], h)) rfl ?_
                    refine hp_ial (v := v87) rfl (hH.1 152 (0, 80) rfl) q_v87 (fun ia_96 ib_96 => ?_)
                    refine qm_Rp.go 0 (c' := (84, [.ref 118, .int y, .int x, .int g, .int v85, .int v86, .float 0, .float 0, .float 0], [.int v87], h)) rfl ?_
                    have eb : c v86.toInt.toNat = v87.toInt := by rw [← ec1, show (v85.toInt + 1).toNat = v86.toInt.toNat by omega]
                    have ek : kV c v85.toInt = v86.toInt := (kV_1 (by omega)).trans (by omega)
                    refine qm_Rp.go 3 (c' := (89, [.ref 118, .int y, .int x, .int g, .int v85, .int v86, .int v87, .float 0, .float 0], [.int (-1), .int v87], h)) rfl ?_
                    refine hp_cne (ix := v87.toInt) (iy := (-1)) rfl rfl rfl (fun z98 => ?_) (fun z98 => by exfalso; omega)
                    refine qm_Rp.go 0 (c' := (94, [.ref 118, .int y, .int x, .int g, .int v85, .int v86, .int v87, .float 0, .float 0], [], h)) rfl ?_
                    have ab1 := hA v86.toInt.toNat (by omega) (by rw [eb]; omega)
                    rw [eb] at ab1
                    have ek_v87 : sp v87.toInt.toNat = v86.toInt := by rw [ab1.2]; omega
                    refine qm_Rp.go 1 (c' := (95, [.ref 118, .int y, .int x, .int g, .int v85, .int v86, .int v87, .float 0, .float 0], [.ref 118], h)) rfl ?_
                    refine hp_getr rfl (hH.1 118 (17, 105) rfl) rfl (hH.2 118 48 (some 149) rfl) ?_
                    refine qm_Rp.go 1 (c' := (100, [.ref 118, .int y, .int x, .int g, .int v85, .int v86, .int v87, .float 0, .float 0], [.int v87, .ref 149], h)) rfl ?_
                    obtain ⟨v99, q_v99⟩ : ∃ v_, h.2.1 149 v87.toInt.toNat = v_ := ⟨_, rfl⟩
                    refine hp_bal (v := v99) rfl (hH.1 149 (2, 30) rfl) q_v99 (fun ia_99 ib_99 => ?_)
                    refine qm_Rp.go 0 (c' := (101, [.ref 118, .int y, .int x, .int g, .int v85, .int v86, .int v87, .float 0, .float 0], [.int v99], h)) rfl ?_
                    have est : tk v87.toInt.toNat = v99.toInt := by rw [← eK]; exact congrArg Int32.toInt q_v99
                    refine hp_zeq (ix := v99.toInt) rfl rfl (fun z101 => ?_) (fun z101 => ?_)
                    · refine qm_Rp.go 8 (c' := (137, [.ref 118, .int y, .int x, .int g, .int v85, .int v86, .int v87, .int (-1), .int 1], [], h)) rfl ?_
                      have em : mV c tk v85.toInt = 1 := mV_1b (by omega) (by rw [ec1, est]; omega)
                      exact px_unB01 hH eW eH eS q_n hn hw hs q_lv q_B hB q_g0 q_g1 q_g2 eC eY eI hi4 eK q_cv q_l hc hA hb2 k0 k1 ⟨by omega, by omega⟩ ⟨by omega, by omega⟩ ⟨by omega, by omega⟩ ⟨by omega, by omega⟩ ⟨by omega, by omega⟩ ⟨by omega, by omega⟩ el ek eb em ab1 ek_v87
                    · refine qm_Rp.go 2 (c' := (108, [.ref 118, .int y, .int x, .int g, .int v85, .int v86, .int v87, .float 0, .float 0], [.int v85, .int v86], h)) rfl ?_
                      refine hp_cle (ix := v86.toInt) (iy := v85.toInt) rfl rfl rfl (fun z102 => ?_) (fun z102 => ?_)
                      · refine qm_Rp.go 8 (c' := (137, [.ref 118, .int y, .int x, .int g, .int v85, .int v86, .int v87, .int (-1), .int 1], [], h)) rfl ?_
                        have em : mV c tk v85.toInt = 1 := mV_1b (by omega) (by rw [ec1, est]; omega)
                        exact px_unB01 hH eW eH eS q_n hn hw hs q_lv q_B hB q_g0 q_g1 q_g2 eC eY eI hi4 eK q_cv q_l hc hA hb2 k0 k1 ⟨by omega, by omega⟩ ⟨by omega, by omega⟩ ⟨by omega, by omega⟩ ⟨by omega, by omega⟩ ⟨by omega, by omega⟩ ⟨by omega, by omega⟩ el ek eb em ab1 ek_v87
                      · refine qm_Rp.go 1 (c' := (112, [.ref 118, .int y, .int x, .int g, .int v85, .int v86, .int v87, .float 0, .float 0], [.ref 118], h)) rfl ?_
                        refine hp_getr rfl (hH.1 118 (17, 105) rfl) rfl (hH.2 118 51 (some 152) rfl) ?_
                        refine qm_Rp.go 1 (c' := (117, [.ref 118, .int y, .int x, .int g, .int v85, .int v86, .int v87, .float 0, .float 0], [.int v85, .ref 152], h)) rfl ?_
                        obtain ⟨v103, q_v103⟩ : ∃ v_, h.2.1 152 v85.toInt.toNat = v_ := ⟨_, rfl⟩
                        refine hp_ial (v := v103) rfl (hH.1 152 (0, 80) rfl) q_v103 (fun ia_103 ib_103 => ?_)
                        refine qm_Rp.go 0 (c' := (118, [.ref 118, .int y, .int x, .int g, .int v85, .int v86, .int v87, .float 0, .float 0], [.int v103], h)) rfl ?_
                        have etw : c v85.toInt.toNat = v103.toInt := by rw [← eC, show v85.toInt.toNat = v85.toInt.toNat by omega]; exact congrArg Int32.toInt q_v103
                        have bct := hc v85.toInt.toNat
                        rw [etw] at bct
                        have t0 := hb2 (v85.toInt.toNat / 2) (by omega) (by rw [show 2 * (v85.toInt.toNat / 2) + 1 = (v85.toInt + 1).toNat by omega, ec1]; omega)
                        rw [show 2 * (v85.toInt.toNat / 2) = v85.toInt.toNat by omega, etw] at t0
                        have ab2 := hA v85.toInt.toNat (by omega) (by rw [etw]; omega)
                        rw [etw] at ab2
                        have ek_v103 : sp v103.toInt.toNat = v85.toInt := by rw [ab2.2]; omega
                        have hne : v103.toInt.toNat ≠ v87.toInt.toNat := fun z => by rw [z, ab1.2] at ab2; omega
                        refine qm_Rp.go 4 (c' := (127, [.ref 118, .int y, .int x, .int g, .int v85, .int v86, .int v87, .int v103, .float 0], [.int (-1), .int v103], h)) rfl ?_
                        refine hp_cne (ix := v103.toInt) (iy := (-1)) rfl rfl rfl (fun z105 => ?_) (fun z105 => by exfalso; omega)
                        refine qm_Rp.go 2 (c' := (137, [.ref 118, .int y, .int x, .int g, .int v85, .int v86, .int v87, .int v103, .int 2], [], h)) rfl ?_
                        have em : mV c tk v85.toInt = 2 := mV_2 (by omega) (by rw [ec1, est]; omega)
                        exact px_unB02 hH eW eH eS q_n hn hw hs q_lv q_B hB q_g0 q_g1 q_g2 eC eY eI hi4 eK q_cv q_l hc hA hb2 k0 k2 ⟨by omega, by omega⟩ ⟨by omega, by omega⟩ ⟨by omega, by omega⟩ ⟨by omega, by omega⟩ ⟨by omega, by omega⟩ ⟨by omega, by omega⟩ el ek eb em ab1 ek_v87 ⟨by omega, by omega⟩ (by omega) ec1 etw ab2 ek_v103 hne
set_option maxHeartbeats 4000000 in
theorem px_unB11 {X : Option (Nat × (Nat → Int32))} {Z : Option Value → qm_H → Prop} {h : qm_H} {fu : Nat} (hH : hk_H h) {n y x g cv l lo k b : Int32} {tk : Nat → Int} {w wh sp : Nat → Int} (eW : pI h.2.1 146 = w) (eH : pI h.2.1 150 = wh) (eS : pI h.2.1 151 = sp) (q_n : h.2.1 118 44 = n) (hn : 0 ≤ n.toInt ∧ n.toInt ≤ 30) (hw : ∀ b, 0 ≤ w b ∧ w b ≤ 40) (hs : ∀ b, 0 ≤ sp b ∧ sp b ≤ 79) {B : Int32} (q_lv : h.2.1 118 18 = 1) (q_B : h.2.1 127 1 = B) (hB : 1 ≤ B.toInt ∧ B.toInt ≤ 5) {g0 g1 g2 : Int32} (q_g0 : h.2.1 128 3 = g0) (q_g1 : h.2.1 128 4 = g1) (q_g2 : h.2.1 128 5 = g2) {c yc hi : Nat → Int} (eC : pI h.2.1 152 = c) (eY : pI h.2.1 153 = yc) (eI : pI h.2.1 154 = hi) (hi4 : ∀ x, 0 ≤ hi x ∧ hi x ≤ 4) (eK : pI h.2.1 149 = tk) (q_cv : h.2.1 118 54 = cv) (q_l : h.2.1 129 1 = l) (hc : ∀ k, -1 ≤ c k ∧ c k ≤ 29) (hA : ∀ k : Nat, k < 80 → 0 ≤ c k → wh (c k).toNat = 1 ∧ sp (c k).toNat = (k : Int)) (hb2 : ∀ q : Nat, q < 40 → 0 ≤ c (2 * q + 1) → 0 ≤ c (2 * q)) (k0 : ∀ (I : Nat → Nat → Int32) (r : Int32), (∀ o, [150, 151, 152, 153, 154, 155, 156].contains o = false → ∀ i, I o i = h.2.1 o i) → r.toInt = unlV y.toInt B.toInt x.toInt g.toInt (lowV cv y x.toInt) c tk w hi l.toInt (okb (mayP B.toInt g0.toInt g1.toInt g2.toInt (ab (zL w wh sp n.toInt.toNat)) (ab (zT B.toInt w wh sp n.toInt.toNat)) (zD B.toInt w wh sp n.toInt.toNat) w (whU c tk wh (lowV cv y x.toInt)) sp n.toInt.toNat)) → r.toInt < 0 → pI I 150 = wh → pI I 151 = sp → pI I 152 = c → pI I 153 = yc → pI I 154 = hi → Z (some (.int r)) (h.1, I, h.2.2.1, h.2.2.2)) (k1 : ∀ (I : Nat → Nat → Int32), (∀ o, [150, 151, 152, 153, 154, 155, 156].contains o = false → ∀ i, I o i = h.2.1 o i) → (1 : Int) = unlV y.toInt B.toInt x.toInt g.toInt (lowV cv y x.toInt) c tk w hi l.toInt (okb (mayP B.toInt g0.toInt g1.toInt g2.toInt (ab (zL w wh sp n.toInt.toNat)) (ab (zT B.toInt w wh sp n.toInt.toNat)) (zD B.toInt w wh sp n.toInt.toNat) w (whU c tk wh (lowV cv y x.toInt)) sp n.toInt.toNat)) → pI I 150 = fu_up wh (c (kV c (lowV cv y x.toInt)).toNat).toNat (if g.toInt = -1 then 0 else 2) → pI I 151 = (if g.toInt = -1 then sp else fu_up sp (c (kV c (lowV cv y x.toInt)).toNat).toNat (4 * g.toInt + hi g.toInt.toNat)) → pI I 152 = fu_up c (kV c (lowV cv y x.toInt)).toNat (-1) → pI I 153 = (if g.toInt = -1 then yc else fu_up yc (4 * g.toInt + hi g.toInt.toNat).toNat (c (kV c (lowV cv y x.toInt)).toNat)) → pI I 154 = (if g.toInt = -1 then hi else fu_up hi g.toInt.toNat (hi g.toInt.toNat + 1)) → Z (some (.int 1)) (h.1, I, h.2.2.1, h.2.2.2)) (by_ : 0 ≤ y.toInt ∧ y.toInt < B.toInt) (bx_ : 0 ≤ x.toInt ∧ x.toInt ≤ 3) (bg_ : -1 ≤ g.toInt ∧ g.toInt ≤ 3) (bl_ : 0 ≤ lo.toInt ∧ lo.toInt ≤ 78) (bk_ : 0 ≤ k.toInt ∧ k.toInt ≤ 79) (bb_ : 0 ≤ b.toInt ∧ b.toInt ≤ 29) (el : lowV cv y x.toInt = lo.toInt) (ek : kV c lo.toInt = k.toInt) (eb : c k.toInt.toNat = b.toInt) (em : mV c tk lo.toInt = 1) (ab1 : wh b.toInt.toNat = 1 ∧ sp b.toInt.toNat = (k.toInt.toNat : Int)) (ek_b : sp b.toInt.toNat = k.toInt) : qm_Rp fu X cd_298 (137, [.ref 118, .int y, .int x, .int g, .int lo, .int k, .int b, .int (-1), .int 1], [], h) Z := by
  have kz0 : (0 : Int32).toInt = 0 := rfl
  have kz1 : (1 : Int32).toInt = 1 := rfl
  have kz2 : (2 : Int32).toInt = 2 := rfl
  have kz3 : (3 : Int32).toInt = 3 := rfl
  have kz4 : (4 : Int32).toInt = 4 := rfl
  have kz5 : (5 : Int32).toInt = 5 := rfl
  have kz6 : (6 : Int32).toInt = 6 := rfl
  have kz7 : (7 : Int32).toInt = 7 := rfl
  have kz8 : (8 : Int32).toInt = 8 := rfl
  have kz9 : (9 : Int32).toInt = 9 := rfl
  have kzm1 : ((-1) : Int32).toInt = (-1) := rfl
  have kzm2 : ((-2) : Int32).toInt = (-2) := rfl
  have kzm3 : ((-3) : Int32).toInt = (-3) := rfl
  refine qm_Rp.go 2 (c' := (139, [.ref 118, .int y, .int x, .int g, .int lo, .int k, .int b, .int (-1), .int 1], [.int (-1), .int g], h)) rfl ?_
  refine hp_ceq (ix := g.toInt) (iy := (-1)) rfl rfl rfl (fun z1 => ?_) (fun z1 => ?_)
  · refine qm_Rp.go 1 (c' := (158, [.ref 118, .int y, .int x, .int g, .int lo, .int k, .int b, .int (-1), .int 1], [.ref 118], h)) rfl ?_
    refine hp_getr rfl (hH.1 118 (17, 105) rfl) rfl (hH.2 118 45 (some 146) rfl) ?_
    refine qm_Rp.go 1 (c' := (163, [.ref 118, .int y, .int x, .int g, .int lo, .int k, .int b, .int (-1), .int 1], [.int b, .ref 146], h)) rfl ?_
    obtain ⟨v2, q_v2⟩ : ∃ v_, h.2.1 146 b.toInt.toNat = v_ := ⟨_, rfl⟩
    refine hp_ial (v := v2) rfl (hH.1 146 (0, 30) rfl) q_v2 (fun ia_2 ib_2 => ?_)
    refine qm_Rp.go 0 (c' := (164, [.ref 118, .int y, .int x, .int g, .int lo, .int k, .int b, .int (-1), .int 1], [.int v2], h)) rfl ?_
    have ew_b : w b.toInt.toNat = v2.toInt := by rw [← eW]; exact congrArg Int32.toInt q_v2
    have bw_b := hw b.toInt.toNat
    rw [ew_b] at bw_b
    refine qm_Rp.go 5 (c' := (181, [.ref 118, .int y, .int x, .int g, .int lo, .int k, .int b, .int (-1), .int 1], [.int 0, .int v2], h)) rfl ?_
    refine qm_Rp.go 1 (c' := (182, [.ref 118, .int y, .int x, .int g, .int lo, .int k, .int b, .int (-1), .int 1], [.int (v2 + 0)], h)) rfl ?_
    obtain ⟨v4, q_v4, e_v4⟩ := hk_add (x := v2) (y := 0) (a := v2.toInt) (b := 0) rfl rfl (by omega) (by omega)
    rw [q_v4]
    refine qm_Rp.go 1 (c' := (183, [.ref 118, .int y, .int x, .int g, .int lo, .int k, .int b, .int (-1), .int 1], [.ref 118, .int v4], h)) rfl ?_
    refine hp_getr rfl (hH.1 118 (17, 105) rfl) rfl (hH.2 118 24 (some 129) rfl) ?_
    refine qm_Rp.go 1 (c' := (187, [.ref 118, .int y, .int x, .int g, .int lo, .int k, .int b, .int (-1), .int 1], [.ref 118, .ref 129, .int v4], h)) rfl ?_
    refine hp_geti (v := 1) rfl (hH.1 118 (17, 105) rfl) rfl q_lv ?_
    refine qm_Rp.go 0 (c' := (190, [.ref 118, .int y, .int x, .int g, .int lo, .int k, .int b, .int (-1), .int 1], [.int 1, .ref 129, .int v4], h)) rfl ?_
    refine hp_ial (v := l) rfl (hH.1 129 (0, 2) rfl) q_l (fun ia_4 ib_4 => ?_)
    refine qm_Rp.go 0 (c' := (191, [.ref 118, .int y, .int x, .int g, .int lo, .int k, .int b, .int (-1), .int 1], [.int l, .int v4], h)) rfl ?_
    have ewt : w (c (kV c lo.toInt).toNat).toNat + (if mV c tk lo.toInt = 2 then w (c lo.toInt.toNat).toNat else 0) = v4.toInt := by rw [ek, eb, em, if_neg (by decide)]; omega
    refine hp_cle (ix := v4.toInt) (iy := l.toInt) rfl rfl rfl (fun z6 => ?_) (fun z6 => ?_)
    · refine qm_Rp.go 1 (c' := (198, [.ref 118, .int y, .int x, .int g, .int lo, .int k, .int b, .int (-1), .int 1], [.ref 118], h)) rfl ?_
      refine hp_inv (o := 118) (r := []) (as := [.ref 118]) rfl rfl (hH.1 118 (17, 105) rfl) rfl rfl rfl (px_looks1 (h := h) hH eW eH eS q_n hn hw hs q_lv q_B hB (fun I7 e_I7 a0_I7 a1_I7 a2_I7 => ?_))
      have e_I7 : ∀ o, [155, 156].contains o = false → ∀ i, I7 o i = (h.2.1) o i := e_I7
      have p150_I7 : pI I7 150 = wh := (funext fun i => congrArg Int32.toInt (e_I7 150 rfl i)).trans eH
      have p151_I7 : pI I7 151 = sp := (funext fun i => congrArg Int32.toInt (e_I7 151 rfl i)).trans eS
      have p152_I7 : pI I7 152 = c := (funext fun i => congrArg Int32.toInt (e_I7 152 rfl i)).trans eC
      have p153_I7 : pI I7 153 = yc := (funext fun i => congrArg Int32.toInt (e_I7 153 rfl i)).trans eY
      have p154_I7 : pI I7 154 = hi := (funext fun i => congrArg Int32.toInt (e_I7 154 rfl i)).trans eI
      obtain ⟨p0_I7, q_p0_I7⟩ : ∃ v_, I7 156 0 = v_ := ⟨_, rfl⟩
      rw [q_p0_I7] at a0_I7
      obtain ⟨p1_I7, q_p1_I7⟩ : ∃ v_, I7 156 1 = v_ := ⟨_, rfl⟩
      rw [q_p1_I7] at a1_I7
      obtain ⟨p2_I7, q_p2_I7⟩ : ∃ v_, I7 156 2 = v_ := ⟨_, rfl⟩
      rw [q_p2_I7] at a2_I7
      refine qm_Rp.go 2 (c' := (204, [.ref 118, .int y, .int x, .int g, .int lo, .int k, .int b, .int (-1), .int 1], [.int b, .ref 118], (h.1, I7, h.2.2.1, h.2.2.2))) rfl ?_
      refine hp_inv (o := 118) (r := []) (as := [.ref 118, .int b]) rfl rfl (hH.1 118 (17, 105) rfl) rfl rfl rfl (px_lv1 (h := (h.1, I7, h.2.2.1, h.2.2.2)) hH (u := (I7) 151 b.toInt.toNat) (pz_at p150_I7 ab1.1) rfl (pz_in p151_I7 hs (b.toInt.toNat)) (pz_in p154_I7 hi4) (fun I8 e_I8 x150 x152 => ?_))
      have x150 : pI I8 150 = fu_up (pI (I7) 150) (b.toInt.toNat) (Int32.toInt 0) := x150
      have x152 : pI I8 152 = fu_up (pI (I7) 152) (pI (I7) 151 (b.toInt.toNat)).toNat (Int32.toInt (-1)) := x152
      have e_I8 : ∀ o, [150, 152].contains o = false → ∀ i, I8 o i = (I7) o i := e_I8
      have p150_I8 : pI I8 150 = fu_up (wh) (b.toInt.toNat) 0 := by rw [x150, p150_I7]; exact rfl
      have p151_I8 : pI I8 151 = sp := (funext fun i => congrArg Int32.toInt (e_I8 151 rfl i)).trans p151_I7
      have p152_I8 : pI I8 152 = fu_up (c) (sp b.toInt.toNat).toNat (-1) := by rw [x152, p152_I7, p151_I7]; exact rfl
      have p153_I8 : pI I8 153 = yc := (funext fun i => congrArg Int32.toInt (e_I8 153 rfl i)).trans p153_I7
      have p154_I8 : pI I8 154 = hi := (funext fun i => congrArg Int32.toInt (e_I8 154 rfl i)).trans p154_I7
      refine qm_Rp.go 4 (c' := (220, [.ref 118, .int y, .int x, .int g, .int lo, .int k, .int b, .int (-1), .int 1], [.ref 118], (h.1, I8, h.2.2.1, h.2.2.2))) rfl ?_
      refine hp_inv (o := 118) (r := []) (as := [.ref 118]) rfl rfl (hH.1 118 (17, 105) rfl) rfl rfl rfl (px_mayb1 (h := (h.1, I8, h.2.2.1, h.2.2.2)) hH ((funext fun i => congrArg Int32.toInt ((e_I8 146 rfl i).trans ((e_I7 146 rfl i).trans rfl))).trans eW) p150_I8 p151_I8 (show (I8) 118 44 = _ from ((e_I8 118 rfl 44).trans ((e_I7 118 rfl 44).trans q_n))) hn hw hs (show (I8) 118 18 = _ from ((e_I8 118 rfl 18).trans ((e_I7 118 rfl 18).trans q_lv))) (show (I8) 127 1 = _ from ((e_I8 127 rfl 1).trans ((e_I7 127 rfl 1).trans q_B))) hB (show (I8) 128 3 = _ from ((e_I8 128 rfl 3).trans ((e_I7 128 rfl 3).trans q_g0))) (show (I8) 128 4 = _ from ((e_I8 128 rfl 4).trans ((e_I7 128 rfl 4).trans q_g1))) (show (I8) 128 5 = _ from ((e_I8 128 rfl 5).trans ((e_I7 128 rfl 5).trans q_g2))) (show (I8) 156 0 = _ from ((e_I8 156 rfl 0).trans q_p0_I7)) (show (I8) 156 1 = _ from ((e_I8 156 rfl 1).trans q_p1_I7)) (show (I8) 156 2 = _ from ((e_I8 156 rfl 2).trans q_p2_I7)) (fun I9 r10 e_I9 hm => ?_))
      have e_I9 : ∀ o, [155].contains o = false → ∀ i, I9 o i = (I8) o i := e_I9
      have p150_I9 : pI I9 150 = fu_up (wh) (b.toInt.toNat) 0 := (funext fun i => congrArg Int32.toInt (e_I9 150 rfl i)).trans p150_I8
      have p151_I9 : pI I9 151 = sp := (funext fun i => congrArg Int32.toInt (e_I9 151 rfl i)).trans p151_I8
      have p152_I9 : pI I9 152 = fu_up (c) (sp b.toInt.toNat).toNat (-1) := (funext fun i => congrArg Int32.toInt (e_I9 152 rfl i)).trans p152_I8
      have p153_I9 : pI I9 153 = yc := (funext fun i => congrArg Int32.toInt (e_I9 153 rfl i)).trans p153_I8
      have p154_I9 : pI I9 154 = hi := (funext fun i => congrArg Int32.toInt (e_I9 154 rfl i)).trans p154_I8
      rw [a0_I7, a1_I7, a2_I7] at hm
      rcases hm with ⟨hr, hm⟩ | ⟨hr, hm⟩
      · obtain rfl : r10 = 1 := hk_eqi.mpr (hr.trans rfl)
        refine qm_Rp.go 3 (c' := (253, [.ref 118, .int y, .int x, .int g, .int lo, .int k, .int b, .int (-1), .int 1], [.int (-1), .int g], (h.1, I9, h.2.2.1, h.2.2.2))) rfl ?_
        refine hp_ceq (ix := g.toInt) (iy := (-1)) rfl rfl rfl (fun z11 => ?_) (fun z11 => by exfalso; omega)
        refine qm_Rp.go 1 (c' := (278, [.ref 118, .int y, .int x, .int g, .int lo, .int k, .int b, .int (-1), .int 1], [.int 1], (h.1, I9, h.2.2.1, h.2.2.2))) rfl ?_
        refine qm_Rp.rt (v := (some (.int 1))) (h' := (h.1, I9, h.2.2.1, h.2.2.2)) rfl ?_
        exact k1 (I9) (fun o ho i => ((e_I9 o (hk_ms rfl ho) i).trans ((e_I8 o (hk_ms rfl ho) i).trans ((e_I7 o (hk_ms rfl ho) i).trans rfl)))) ((unl_f ⟨by omega, by omega, by omega, by omega, by omega, by omega⟩ (by rw [el, ek, eb]; omega) (by rw [el, em]; intro z; omega) (by rw [el, ewt]; omega) (okb_t (by rw [el, show whU c tk wh lo.toInt = fu_up wh b.toInt.toNat 0 from (if_neg (by rw [em]; decide)).trans (by rw [ek, eb])]; exact hm))).trans (by rw [el, em])).symm (p150_I9.trans (by rw [el, ek, eb, if_pos (show g.toInt = -1 by omega)])) (p151_I9.trans (by rw [if_pos (show g.toInt = -1 by omega)])) (p152_I9.trans (by rw [el, ek, ek_b])) (p153_I9.trans (by rw [if_pos (show g.toInt = -1 by omega)])) (p154_I9.trans (by rw [if_pos (show g.toInt = -1 by omega)]))
      · obtain rfl : r10 = 0 := hk_eqi.mpr (hr.trans rfl)
        refine qm_Rp.go 4 (c' := (231, [.ref 118, .int y, .int x, .int g, .int lo, .int k, .int b, .int (-1), .int 1], [.int k, .int b, .ref 118], (h.1, I9, h.2.2.1, h.2.2.2))) rfl ?_
        refine hp_inv (o := 118) (r := []) (as := [.ref 118, .int b, .int k]) rfl rfl (hH.1 118 (17, 105) rfl) rfl rfl rfl (px_brd (h := (h.1, I9, h.2.2.1, h.2.2.2)) hH (fun I12 e_I12 x150 x151 x152 => ?_))
        have x150 : pI I12 150 = fu_up (pI (I9) 150) (b.toInt.toNat) (Int32.toInt 1) := x150
        have x151 : pI I12 151 = fu_up (pI (I9) 151) (b.toInt.toNat) k.toInt := x151
        have x152 : pI I12 152 = fu_up (pI (I9) 152) k.toInt.toNat b.toInt := x152
        have e_I12 : ∀ o, [150, 151, 152].contains o = false → ∀ i, I12 o i = (I9) o i := e_I12
        have p150_I12 : pI I12 150 = fu_up (fu_up (wh) (b.toInt.toNat) 0) (b.toInt.toNat) 1 := by rw [x150, p150_I9]; exact rfl
        have p151_I12 : pI I12 151 = sp := by rw [x151, p151_I9]; exact fu_si ek_b
        have p152_I12 : pI I12 152 = fu_up (fu_up (c) (sp b.toInt.toNat).toNat (-1)) (sp b.toInt.toNat).toNat b.toInt := by rw [x152, p152_I9, show (sp b.toInt.toNat).toNat = k.toInt.toNat by rw [ek_b]]
        have p153_I12 : pI I12 153 = yc := (funext fun i => congrArg Int32.toInt (e_I12 153 rfl i)).trans p153_I9
        have p154_I12 : pI I12 154 = hi := (funext fun i => congrArg Int32.toInt (e_I12 154 rfl i)).trans p154_I9
        refine qm_Rp.go 4 (c' := (250, [.ref 118, .int y, .int x, .int g, .int lo, .int k, .int b, .int (-1), .int 1], [.int (-3)], (h.1, I12, h.2.2.1, h.2.2.2))) rfl ?_
        refine qm_Rp.rt (v := (some (.int (-3)))) (h' := (h.1, I12, h.2.2.1, h.2.2.2)) rfl ?_
        exact k0 (I12) (-3) (fun o ho i => ((e_I12 o (hk_ms rfl ho) i).trans ((e_I9 o (hk_ms rfl ho) i).trans ((e_I8 o (hk_ms rfl ho) i).trans ((e_I7 o (hk_ms rfl ho) i).trans rfl))))) (unl_e ⟨by omega, by omega, by omega, by omega, by omega, by omega⟩ (by rw [el, ek, eb]; omega) (by rw [el, em]; intro z; omega) (by rw [el, ewt]; omega) (okb_f (by rw [el, show whU c tk wh lo.toInt = fu_up wh b.toInt.toNat 0 from (if_neg (by rw [em]; decide)).trans (by rw [ek, eb])]; exact hm))).symm (by decide) (p150_I12.trans (fu_ba ab1.1)) p151_I12 (p152_I12.trans (fu_ba (by rw [ek_b]; exact eb))) p153_I12 p154_I12
    · refine qm_Rp.go 1 (c' := (196, [.ref 118, .int y, .int x, .int g, .int lo, .int k, .int b, .int (-1), .int 1], [.int (-2)], h)) rfl ?_
      refine qm_Rp.rt (v := (some (.int (-2)))) (h' := h) rfl ?_
      exact k0 (h.2.1) (-2) (fun o ho i => rfl) (unl_d ⟨by omega, by omega, by omega, by omega, by omega, by omega⟩ (by rw [el, ek, eb]; omega) (by rw [el, em]; intro z; omega) (by rw [el, ewt]; omega)).symm (by decide) eH eS eC eY eI
  · refine qm_Rp.go 1 (c' := (143, [.ref 118, .int y, .int x, .int g, .int lo, .int k, .int b, .int (-1), .int 1], [.ref 118], h)) rfl ?_
    refine hp_getr rfl (hH.1 118 (17, 105) rfl) rfl (hH.2 118 53 (some 154) rfl) ?_
    refine qm_Rp.go 1 (c' := (147, [.ref 118, .int y, .int x, .int g, .int lo, .int k, .int b, .int (-1), .int 1], [.int g, .ref 154], h)) rfl ?_
    obtain ⟨v13, q_v13⟩ : ∃ v_, h.2.1 154 g.toInt.toNat = v_ := ⟨_, rfl⟩
    refine hp_ial (v := v13) rfl (hH.1 154 (0, 4) rfl) q_v13 (fun ia_13 ib_13 => ?_)
    refine qm_Rp.go 0 (c' := (148, [.ref 118, .int y, .int x, .int g, .int lo, .int k, .int b, .int (-1), .int 1], [.int v13], h)) rfl ?_
    have eh : hi g.toInt.toNat = v13.toInt := by rw [← eI]; exact congrArg Int32.toInt q_v13
    have bh := hi4 g.toInt.toNat
    rw [eh] at bh
    refine qm_Rp.go 2 (c' := (151, [.ref 118, .int y, .int x, .int g, .int lo, .int k, .int b, .int (-1), .int 1], [.int (v13 + 1)], h)) rfl ?_
    obtain ⟨v15, q_v15, e_v15⟩ := hk_add (x := v13) (y := 1) (a := v13.toInt) (b := 1) rfl rfl (by omega) (by omega)
    rw [q_v15]
    refine qm_Rp.go 1 (c' := (152, [.ref 118, .int y, .int x, .int g, .int lo, .int k, .int b, .int (-1), .int 1], [.int 4, .int v15], h)) rfl ?_
    refine hp_cle (ix := v15.toInt) (iy := 4) rfl rfl rfl (fun z16 => ?_) (fun z16 => ?_)
    · refine qm_Rp.go 1 (c' := (158, [.ref 118, .int y, .int x, .int g, .int lo, .int k, .int b, .int (-1), .int 1], [.ref 118], h)) rfl ?_
      refine hp_getr rfl (hH.1 118 (17, 105) rfl) rfl (hH.2 118 45 (some 146) rfl) ?_
      refine qm_Rp.go 1 (c' := (163, [.ref 118, .int y, .int x, .int g, .int lo, .int k, .int b, .int (-1), .int 1], [.int b, .ref 146], h)) rfl ?_
      obtain ⟨v17, q_v17⟩ : ∃ v_, h.2.1 146 b.toInt.toNat = v_ := ⟨_, rfl⟩
      refine hp_ial (v := v17) rfl (hH.1 146 (0, 30) rfl) q_v17 (fun ia_17 ib_17 => ?_)
      refine qm_Rp.go 0 (c' := (164, [.ref 118, .int y, .int x, .int g, .int lo, .int k, .int b, .int (-1), .int 1], [.int v17], h)) rfl ?_
      have ew_b : w b.toInt.toNat = v17.toInt := by rw [← eW]; exact congrArg Int32.toInt q_v17
      have bw_b := hw b.toInt.toNat
      rw [ew_b] at bw_b
      refine qm_Rp.go 5 (c' := (181, [.ref 118, .int y, .int x, .int g, .int lo, .int k, .int b, .int (-1), .int 1], [.int 0, .int v17], h)) rfl ?_
      refine qm_Rp.go 1 (c' := (182, [.ref 118, .int y, .int x, .int g, .int lo, .int k, .int b, .int (-1), .int 1], [.int (v17 + 0)], h)) rfl ?_
      obtain ⟨v19, q_v19, e_v19⟩ := hk_add (x := v17) (y := 0) (a := v17.toInt) (b := 0) rfl rfl (by omega) (by omega)
      rw [q_v19]
      refine qm_Rp.go 1 (c' := (183, [.ref 118, .int y, .int x, .int g, .int lo, .int k, .int b, .int (-1), .int 1], [.ref 118, .int v19], h)) rfl ?_
      refine hp_getr rfl (hH.1 118 (17, 105) rfl) rfl (hH.2 118 24 (some 129) rfl) ?_
      refine qm_Rp.go 1 (c' := (187, [.ref 118, .int y, .int x, .int g, .int lo, .int k, .int b, .int (-1), .int 1], [.ref 118, .ref 129, .int v19], h)) rfl ?_
      refine hp_geti (v := 1) rfl (hH.1 118 (17, 105) rfl) rfl q_lv ?_
      refine qm_Rp.go 0 (c' := (190, [.ref 118, .int y, .int x, .int g, .int lo, .int k, .int b, .int (-1), .int 1], [.int 1, .ref 129, .int v19], h)) rfl ?_
      refine hp_ial (v := l) rfl (hH.1 129 (0, 2) rfl) q_l (fun ia_19 ib_19 => ?_)
      refine qm_Rp.go 0 (c' := (191, [.ref 118, .int y, .int x, .int g, .int lo, .int k, .int b, .int (-1), .int 1], [.int l, .int v19], h)) rfl ?_
      have ewt : w (c (kV c lo.toInt).toNat).toNat + (if mV c tk lo.toInt = 2 then w (c lo.toInt.toNat).toNat else 0) = v19.toInt := by rw [ek, eb, em, if_neg (by decide)]; omega
      refine hp_cle (ix := v19.toInt) (iy := l.toInt) rfl rfl rfl (fun z21 => ?_) (fun z21 => ?_)
      · refine qm_Rp.go 1 (c' := (198, [.ref 118, .int y, .int x, .int g, .int lo, .int k, .int b, .int (-1), .int 1], [.ref 118], h)) rfl ?_
        refine hp_inv (o := 118) (r := []) (as := [.ref 118]) rfl rfl (hH.1 118 (17, 105) rfl) rfl rfl rfl (px_looks1 (h := h) hH eW eH eS q_n hn hw hs q_lv q_B hB (fun I22 e_I22 a0_I22 a1_I22 a2_I22 => ?_))
        have e_I22 : ∀ o, [155, 156].contains o = false → ∀ i, I22 o i = (h.2.1) o i := e_I22
        have p150_I22 : pI I22 150 = wh := (funext fun i => congrArg Int32.toInt (e_I22 150 rfl i)).trans eH
        have p151_I22 : pI I22 151 = sp := (funext fun i => congrArg Int32.toInt (e_I22 151 rfl i)).trans eS
        have p152_I22 : pI I22 152 = c := (funext fun i => congrArg Int32.toInt (e_I22 152 rfl i)).trans eC
        have p153_I22 : pI I22 153 = yc := (funext fun i => congrArg Int32.toInt (e_I22 153 rfl i)).trans eY
        have p154_I22 : pI I22 154 = hi := (funext fun i => congrArg Int32.toInt (e_I22 154 rfl i)).trans eI
        obtain ⟨p0_I22, q_p0_I22⟩ : ∃ v_, I22 156 0 = v_ := ⟨_, rfl⟩
        rw [q_p0_I22] at a0_I22
        obtain ⟨p1_I22, q_p1_I22⟩ : ∃ v_, I22 156 1 = v_ := ⟨_, rfl⟩
        rw [q_p1_I22] at a1_I22
        obtain ⟨p2_I22, q_p2_I22⟩ : ∃ v_, I22 156 2 = v_ := ⟨_, rfl⟩
        rw [q_p2_I22] at a2_I22
        refine qm_Rp.go 2 (c' := (204, [.ref 118, .int y, .int x, .int g, .int lo, .int k, .int b, .int (-1), .int 1], [.int b, .ref 118], (h.1, I22, h.2.2.1, h.2.2.2))) rfl ?_
        refine hp_inv (o := 118) (r := []) (as := [.ref 118, .int b]) rfl rfl (hH.1 118 (17, 105) rfl) rfl rfl rfl (px_lv1 (h := (h.1, I22, h.2.2.1, h.2.2.2)) hH (u := (I22) 151 b.toInt.toNat) (pz_at p150_I22 ab1.1) rfl (pz_in p151_I22 hs (b.toInt.toNat)) (pz_in p154_I22 hi4) (fun I23 e_I23 x150 x152 => ?_))
        have x150 : pI I23 150 = fu_up (pI (I22) 150) (b.toInt.toNat) (Int32.toInt 0) := x150
        have x152 : pI I23 152 = fu_up (pI (I22) 152) (pI (I22) 151 (b.toInt.toNat)).toNat (Int32.toInt (-1)) := x152
        have e_I23 : ∀ o, [150, 152].contains o = false → ∀ i, I23 o i = (I22) o i := e_I23
        have p150_I23 : pI I23 150 = fu_up (wh) (b.toInt.toNat) 0 := by rw [x150, p150_I22]; exact rfl
        have p151_I23 : pI I23 151 = sp := (funext fun i => congrArg Int32.toInt (e_I23 151 rfl i)).trans p151_I22
        have p152_I23 : pI I23 152 = fu_up (c) (sp b.toInt.toNat).toNat (-1) := by rw [x152, p152_I22, p151_I22]; exact rfl
        have p153_I23 : pI I23 153 = yc := (funext fun i => congrArg Int32.toInt (e_I23 153 rfl i)).trans p153_I22
        have p154_I23 : pI I23 154 = hi := (funext fun i => congrArg Int32.toInt (e_I23 154 rfl i)).trans p154_I22
        refine qm_Rp.go 4 (c' := (220, [.ref 118, .int y, .int x, .int g, .int lo, .int k, .int b, .int (-1), .int 1], [.ref 118], (h.1, I23, h.2.2.1, h.2.2.2))) rfl ?_
        refine hp_inv (o := 118) (r := []) (as := [.ref 118]) rfl rfl (hH.1 118 (17, 105) rfl) rfl rfl rfl (px_mayb1 (h := (h.1, I23, h.2.2.1, h.2.2.2)) hH ((funext fun i => congrArg Int32.toInt ((e_I23 146 rfl i).trans ((e_I22 146 rfl i).trans rfl))).trans eW) p150_I23 p151_I23 (show (I23) 118 44 = _ from ((e_I23 118 rfl 44).trans ((e_I22 118 rfl 44).trans q_n))) hn hw hs (show (I23) 118 18 = _ from ((e_I23 118 rfl 18).trans ((e_I22 118 rfl 18).trans q_lv))) (show (I23) 127 1 = _ from ((e_I23 127 rfl 1).trans ((e_I22 127 rfl 1).trans q_B))) hB (show (I23) 128 3 = _ from ((e_I23 128 rfl 3).trans ((e_I22 128 rfl 3).trans q_g0))) (show (I23) 128 4 = _ from ((e_I23 128 rfl 4).trans ((e_I22 128 rfl 4).trans q_g1))) (show (I23) 128 5 = _ from ((e_I23 128 rfl 5).trans ((e_I22 128 rfl 5).trans q_g2))) (show (I23) 156 0 = _ from ((e_I23 156 rfl 0).trans q_p0_I22)) (show (I23) 156 1 = _ from ((e_I23 156 rfl 1).trans q_p1_I22)) (show (I23) 156 2 = _ from ((e_I23 156 rfl 2).trans q_p2_I22)) (fun I24 r25 e_I24 hm => ?_))
        have e_I24 : ∀ o, [155].contains o = false → ∀ i, I24 o i = (I23) o i := e_I24
        have p150_I24 : pI I24 150 = fu_up (wh) (b.toInt.toNat) 0 := (funext fun i => congrArg Int32.toInt (e_I24 150 rfl i)).trans p150_I23
        have p151_I24 : pI I24 151 = sp := (funext fun i => congrArg Int32.toInt (e_I24 151 rfl i)).trans p151_I23
        have p152_I24 : pI I24 152 = fu_up (c) (sp b.toInt.toNat).toNat (-1) := (funext fun i => congrArg Int32.toInt (e_I24 152 rfl i)).trans p152_I23
        have p153_I24 : pI I24 153 = yc := (funext fun i => congrArg Int32.toInt (e_I24 153 rfl i)).trans p153_I23
        have p154_I24 : pI I24 154 = hi := (funext fun i => congrArg Int32.toInt (e_I24 154 rfl i)).trans p154_I23
        rw [a0_I22, a1_I22, a2_I22] at hm
        rcases hm with ⟨hr, hm⟩ | ⟨hr, hm⟩
        · obtain rfl : r25 = 1 := hk_eqi.mpr (hr.trans rfl)
          refine qm_Rp.go 3 (c' := (253, [.ref 118, .int y, .int x, .int g, .int lo, .int k, .int b, .int (-1), .int 1], [.int (-1), .int g], (h.1, I24, h.2.2.1, h.2.2.2))) rfl ?_
          refine hp_ceq (ix := g.toInt) (iy := (-1)) rfl rfl rfl (fun z26 => by exfalso; omega) (fun z26 => ?_)
          refine qm_Rp.go 6 (c' := (273, [.ref 118, .int y, .int x, .int g, .int lo, .int k, .int b, .int (-1), .int 1], [.int g, .int b, .ref 118], (h.1, I24, h.2.2.1, h.2.2.2))) rfl ?_
          have ev : ((I24) 154 g.toInt.toNat).toInt = hi g.toInt.toNat := by rw [show ((I24) 154 g.toInt.toNat).toInt = (hi) g.toInt.toNat from congrFun p154_I24 _]
          refine hp_inv (o := 118) (r := []) (as := [.ref 118, .int b, .int g]) rfl rfl (hH.1 118 (17, 105) rfl) rfl rfl rfl (px_puts (h := (h.1, I24, h.2.2.1, h.2.2.2)) hH (v := (I24) 154 g.toInt.toNat) ⟨by omega, by omega⟩ rfl (by rw [ev]; have := hi4 g.toInt.toNat; omega) (fun I27 e_I27 x150 x151 x153 x154 => ?_))
          have x150 : pI I27 150 = fu_up (pI (I24) 150) (b.toInt.toNat) (Int32.toInt 2) := x150
          have x151 : pI I27 151 = fu_up (pI (I24) 151) (b.toInt.toNat) (4 * g.toInt + ((I24) 154 g.toInt.toNat).toInt) := x151
          have x153 : pI I27 153 = fu_up (pI (I24) 153) (4 * g.toInt + ((I24) 154 g.toInt.toNat).toInt).toNat b.toInt := x153
          have x154 : pI I27 154 = fu_up (pI (I24) 154) g.toInt.toNat (((I24) 154 g.toInt.toNat).toInt + 1) := x154
          rw [ev] at x151 x153 x154
          have e_I27 : ∀ o, [150, 151, 153, 154].contains o = false → ∀ i, I27 o i = (I24) o i := e_I27
          have p150_I27 : pI I27 150 = fu_up (fu_up (wh) (b.toInt.toNat) 0) (b.toInt.toNat) 2 := by rw [x150, p150_I24]; exact rfl
          have p151_I27 : pI I27 151 = fu_up (sp) (b.toInt.toNat) (4 * g.toInt + hi g.toInt.toNat) := by rw [x151, p151_I24]
          have p152_I27 : pI I27 152 = fu_up (c) (sp b.toInt.toNat).toNat (-1) := (funext fun i => congrArg Int32.toInt (e_I27 152 rfl i)).trans p152_I24
          have p153_I27 : pI I27 153 = fu_up (yc) (4 * g.toInt + hi g.toInt.toNat).toNat b.toInt := by rw [x153, p153_I24]
          have p154_I27 : pI I27 154 = fu_up (hi) (g.toInt.toNat) (hi g.toInt.toNat + 1) := by rw [x154, p154_I24]
          refine qm_Rp.go 1 (c' := (278, [.ref 118, .int y, .int x, .int g, .int lo, .int k, .int b, .int (-1), .int 1], [.int 1], (h.1, I27, h.2.2.1, h.2.2.2))) rfl ?_
          refine qm_Rp.rt (v := (some (.int 1))) (h' := (h.1, I27, h.2.2.1, h.2.2.2)) rfl ?_
          exact k1 (I27) (fun o ho i => ((e_I27 o (hk_ms rfl ho) i).trans ((e_I24 o (hk_ms rfl ho) i).trans ((e_I23 o (hk_ms rfl ho) i).trans ((e_I22 o (hk_ms rfl ho) i).trans rfl))))) ((unl_f ⟨by omega, by omega, by omega, by omega, by omega, by omega⟩ (by rw [el, ek, eb]; omega) (by rw [el, em]; intro z; omega) (by rw [el, ewt]; omega) (okb_t (by rw [el, show whU c tk wh lo.toInt = fu_up wh b.toInt.toNat 0 from (if_neg (by rw [em]; decide)).trans (by rw [ek, eb])]; exact hm))).trans (by rw [el, em])).symm (p150_I27.trans (by rw [el, ek, eb, if_neg (show ¬ g.toInt = -1 by omega)]; exact fu_fu2)) (p151_I27.trans (by rw [el, ek, eb, if_neg (show ¬ g.toInt = -1 by omega)])) (p152_I27.trans (by rw [el, ek, ek_b])) (p153_I27.trans (by rw [el, ek, eb, if_neg (show ¬ g.toInt = -1 by omega)])) (p154_I27.trans (by rw [if_neg (show ¬ g.toInt = -1 by omega)]))
        · obtain rfl : r25 = 0 := hk_eqi.mpr (hr.trans rfl)
          refine qm_Rp.go 4 (c' := (231, [.ref 118, .int y, .int x, .int g, .int lo, .int k, .int b, .int (-1), .int 1], [.int k, .int b, .ref 118], (h.1, I24, h.2.2.1, h.2.2.2))) rfl ?_
          refine hp_inv (o := 118) (r := []) (as := [.ref 118, .int b, .int k]) rfl rfl (hH.1 118 (17, 105) rfl) rfl rfl rfl (px_brd (h := (h.1, I24, h.2.2.1, h.2.2.2)) hH (fun I28 e_I28 x150 x151 x152 => ?_))
          have x150 : pI I28 150 = fu_up (pI (I24) 150) (b.toInt.toNat) (Int32.toInt 1) := x150
          have x151 : pI I28 151 = fu_up (pI (I24) 151) (b.toInt.toNat) k.toInt := x151
          have x152 : pI I28 152 = fu_up (pI (I24) 152) k.toInt.toNat b.toInt := x152
          have e_I28 : ∀ o, [150, 151, 152].contains o = false → ∀ i, I28 o i = (I24) o i := e_I28
          have p150_I28 : pI I28 150 = fu_up (fu_up (wh) (b.toInt.toNat) 0) (b.toInt.toNat) 1 := by rw [x150, p150_I24]; exact rfl
          have p151_I28 : pI I28 151 = sp := by rw [x151, p151_I24]; exact fu_si ek_b
          have p152_I28 : pI I28 152 = fu_up (fu_up (c) (sp b.toInt.toNat).toNat (-1)) (sp b.toInt.toNat).toNat b.toInt := by rw [x152, p152_I24, show (sp b.toInt.toNat).toNat = k.toInt.toNat by rw [ek_b]]
          have p153_I28 : pI I28 153 = yc := (funext fun i => congrArg Int32.toInt (e_I28 153 rfl i)).trans p153_I24
          have p154_I28 : pI I28 154 = hi := (funext fun i => congrArg Int32.toInt (e_I28 154 rfl i)).trans p154_I24
          refine qm_Rp.go 4 (c' := (250, [.ref 118, .int y, .int x, .int g, .int lo, .int k, .int b, .int (-1), .int 1], [.int (-3)], (h.1, I28, h.2.2.1, h.2.2.2))) rfl ?_
          refine qm_Rp.rt (v := (some (.int (-3)))) (h' := (h.1, I28, h.2.2.1, h.2.2.2)) rfl ?_
          exact k0 (I28) (-3) (fun o ho i => ((e_I28 o (hk_ms rfl ho) i).trans ((e_I24 o (hk_ms rfl ho) i).trans ((e_I23 o (hk_ms rfl ho) i).trans ((e_I22 o (hk_ms rfl ho) i).trans rfl))))) (unl_e ⟨by omega, by omega, by omega, by omega, by omega, by omega⟩ (by rw [el, ek, eb]; omega) (by rw [el, em]; intro z; omega) (by rw [el, ewt]; omega) (okb_f (by rw [el, show whU c tk wh lo.toInt = fu_up wh b.toInt.toNat 0 from (if_neg (by rw [em]; decide)).trans (by rw [ek, eb])]; exact hm))).symm (by decide) (p150_I28.trans (fu_ba ab1.1)) p151_I28 (p152_I28.trans (fu_ba (by rw [ek_b]; exact eb))) p153_I28 p154_I28
      · refine qm_Rp.go 1 (c' := (196, [.ref 118, .int y, .int x, .int g, .int lo, .int k, .int b, .int (-1), .int 1], [.int (-2)], h)) rfl ?_
        refine qm_Rp.rt (v := (some (.int (-2)))) (h' := h) rfl ?_
        exact k0 (h.2.1) (-2) (fun o ho i => rfl) (unl_d ⟨by omega, by omega, by omega, by omega, by omega, by omega⟩ (by rw [el, ek, eb]; omega) (by rw [el, em]; intro z; omega) (by rw [el, ewt]; omega)).symm (by decide) eH eS eC eY eI
    · refine qm_Rp.go 1 (c' := (156, [.ref 118, .int y, .int x, .int g, .int lo, .int k, .int b, .int (-1), .int 1], [.int (-1)], h)) rfl ?_
      refine qm_Rp.rt (v := (some (.int (-1)))) (h' := h) rfl ?_
      exact k0 (h.2.1) (-1) (fun o ho i => rfl) (unl_c ⟨by omega, by omega, by omega, by omega, by omega, by omega⟩ (by rw [el, ek, eb]; omega) ⟨by omega, by rw [el, em]; omega⟩).symm (by decide) eH eS eC eY eI
set_option maxHeartbeats 4000000 in
theorem px_unB12 {X : Option (Nat × (Nat → Int32))} {Z : Option Value → qm_H → Prop} {h : qm_H} {fu : Nat} (hH : hk_H h) {n y x g cv l lo k b tw : Int32} {tk : Nat → Int} {w wh sp : Nat → Int} (eW : pI h.2.1 146 = w) (eH : pI h.2.1 150 = wh) (eS : pI h.2.1 151 = sp) (q_n : h.2.1 118 44 = n) (hn : 0 ≤ n.toInt ∧ n.toInt ≤ 30) (hw : ∀ b, 0 ≤ w b ∧ w b ≤ 40) (hs : ∀ b, 0 ≤ sp b ∧ sp b ≤ 79) {B : Int32} (q_lv : h.2.1 118 18 = 1) (q_B : h.2.1 127 1 = B) (hB : 1 ≤ B.toInt ∧ B.toInt ≤ 5) {g0 g1 g2 : Int32} (q_g0 : h.2.1 128 3 = g0) (q_g1 : h.2.1 128 4 = g1) (q_g2 : h.2.1 128 5 = g2) {c yc hi : Nat → Int} (eC : pI h.2.1 152 = c) (eY : pI h.2.1 153 = yc) (eI : pI h.2.1 154 = hi) (hi4 : ∀ x, 0 ≤ hi x ∧ hi x ≤ 4) (eK : pI h.2.1 149 = tk) (q_cv : h.2.1 118 54 = cv) (q_l : h.2.1 129 1 = l) (hc : ∀ k, -1 ≤ c k ∧ c k ≤ 29) (hA : ∀ k : Nat, k < 80 → 0 ≤ c k → wh (c k).toNat = 1 ∧ sp (c k).toNat = (k : Int)) (hb2 : ∀ q : Nat, q < 40 → 0 ≤ c (2 * q + 1) → 0 ≤ c (2 * q)) (k0 : ∀ (I : Nat → Nat → Int32) (r : Int32), (∀ o, [150, 151, 152, 153, 154, 155, 156].contains o = false → ∀ i, I o i = h.2.1 o i) → r.toInt = unlV y.toInt B.toInt x.toInt g.toInt (lowV cv y x.toInt) c tk w hi l.toInt (okb (mayP B.toInt g0.toInt g1.toInt g2.toInt (ab (zL w wh sp n.toInt.toNat)) (ab (zT B.toInt w wh sp n.toInt.toNat)) (zD B.toInt w wh sp n.toInt.toNat) w (whU c tk wh (lowV cv y x.toInt)) sp n.toInt.toNat)) → r.toInt < 0 → pI I 150 = wh → pI I 151 = sp → pI I 152 = c → pI I 153 = yc → pI I 154 = hi → Z (some (.int r)) (h.1, I, h.2.2.1, h.2.2.2)) (k2 : ∀ (I : Nat → Nat → Int32), (∀ o, [150, 151, 152, 153, 154, 155, 156].contains o = false → ∀ i, I o i = h.2.1 o i) → (2 : Int) = unlV y.toInt B.toInt x.toInt g.toInt (lowV cv y x.toInt) c tk w hi l.toInt (okb (mayP B.toInt g0.toInt g1.toInt g2.toInt (ab (zL w wh sp n.toInt.toNat)) (ab (zT B.toInt w wh sp n.toInt.toNat)) (zD B.toInt w wh sp n.toInt.toNat) w (whU c tk wh (lowV cv y x.toInt)) sp n.toInt.toNat)) → pI I 150 = (if g.toInt = -1 then fu_up (fu_up wh (c ((lowV cv y x.toInt) + 1).toNat).toNat 0) (c (lowV cv y x.toInt).toNat).toNat 0 else fu_up (fu_up wh (c (lowV cv y x.toInt).toNat).toNat 2) (c ((lowV cv y x.toInt) + 1).toNat).toNat 2) → pI I 151 = (if g.toInt = -1 then sp else fu_up (fu_up sp (c (lowV cv y x.toInt).toNat).toNat (4 * g.toInt + hi g.toInt.toNat)) (c ((lowV cv y x.toInt) + 1).toNat).toNat (4 * g.toInt + (hi g.toInt.toNat + 1))) → pI I 152 = fu_up (fu_up c ((lowV cv y x.toInt) + 1).toNat (-1)) (lowV cv y x.toInt).toNat (-1) → pI I 153 = (if g.toInt = -1 then yc else fu_up (fu_up yc (4 * g.toInt + hi g.toInt.toNat).toNat (c (lowV cv y x.toInt).toNat)) (4 * g.toInt + (hi g.toInt.toNat + 1)).toNat (c ((lowV cv y x.toInt) + 1).toNat)) → pI I 154 = (if g.toInt = -1 then hi else fu_up hi g.toInt.toNat (hi g.toInt.toNat + 1 + 1)) → Z (some (.int 2)) (h.1, I, h.2.2.1, h.2.2.2)) (by_ : 0 ≤ y.toInt ∧ y.toInt < B.toInt) (bx_ : 0 ≤ x.toInt ∧ x.toInt ≤ 3) (bg_ : -1 ≤ g.toInt ∧ g.toInt ≤ 3) (bl_ : 0 ≤ lo.toInt ∧ lo.toInt ≤ 78) (bk_ : 0 ≤ k.toInt ∧ k.toInt ≤ 79) (bb_ : 0 ≤ b.toInt ∧ b.toInt ≤ 29) (el : lowV cv y x.toInt = lo.toInt) (ek : kV c lo.toInt = k.toInt) (eb : c k.toInt.toNat = b.toInt) (em : mV c tk lo.toInt = 2) (ab1 : wh b.toInt.toNat = 1 ∧ sp b.toInt.toNat = (k.toInt.toNat : Int)) (ek_b : sp b.toInt.toNat = k.toInt) (bt_ : 0 ≤ tw.toInt ∧ tw.toInt ≤ 29) (ekl : k.toInt = lo.toInt + 1) (ec1 : c (lo.toInt + 1).toNat = b.toInt) (etw : c lo.toInt.toNat = tw.toInt) (ab2 : wh tw.toInt.toNat = 1 ∧ sp tw.toInt.toNat = (lo.toInt.toNat : Int)) (ek_tw : sp tw.toInt.toNat = lo.toInt) (hne : tw.toInt.toNat ≠ b.toInt.toNat) : qm_Rp fu X cd_298 (137, [.ref 118, .int y, .int x, .int g, .int lo, .int k, .int b, .int tw, .int 2], [], h) Z := by
  have kz0 : (0 : Int32).toInt = 0 := rfl
  have kz1 : (1 : Int32).toInt = 1 := rfl
  have kz2 : (2 : Int32).toInt = 2 := rfl
  have kz3 : (3 : Int32).toInt = 3 := rfl
  have kz4 : (4 : Int32).toInt = 4 := rfl
  have kz5 : (5 : Int32).toInt = 5 := rfl
  have kz6 : (6 : Int32).toInt = 6 := rfl
  have kz7 : (7 : Int32).toInt = 7 := rfl
  have kz8 : (8 : Int32).toInt = 8 := rfl
  have kz9 : (9 : Int32).toInt = 9 := rfl
  have kzm1 : ((-1) : Int32).toInt = (-1) := rfl
  have kzm2 : ((-2) : Int32).toInt = (-2) := rfl
  have kzm3 : ((-3) : Int32).toInt = (-3) := rfl
  refine qm_Rp.go 2 (c' := (139, [.ref 118, .int y, .int x, .int g, .int lo, .int k, .int b, .int tw, .int 2], [.int (-1), .int g], h)) rfl ?_
  refine hp_ceq (ix := g.toInt) (iy := (-1)) rfl rfl rfl (fun z1 => ?_) (fun z1 => ?_)
  · refine qm_Rp.go 1 (c' := (158, [.ref 118, .int y, .int x, .int g, .int lo, .int k, .int b, .int tw, .int 2], [.ref 118], h)) rfl ?_
    refine hp_getr rfl (hH.1 118 (17, 105) rfl) rfl (hH.2 118 45 (some 146) rfl) ?_
    refine qm_Rp.go 1 (c' := (163, [.ref 118, .int y, .int x, .int g, .int lo, .int k, .int b, .int tw, .int 2], [.int b, .ref 146], h)) rfl ?_
    obtain ⟨v2, q_v2⟩ : ∃ v_, h.2.1 146 b.toInt.toNat = v_ := ⟨_, rfl⟩
    refine hp_ial (v := v2) rfl (hH.1 146 (0, 30) rfl) q_v2 (fun ia_2 ib_2 => ?_)
    refine qm_Rp.go 0 (c' := (164, [.ref 118, .int y, .int x, .int g, .int lo, .int k, .int b, .int tw, .int 2], [.int v2], h)) rfl ?_
    have ew_b : w b.toInt.toNat = v2.toInt := by rw [← eW]; exact congrArg Int32.toInt q_v2
    have bw_b := hw b.toInt.toNat
    rw [ew_b] at bw_b
    refine qm_Rp.go 2 (c' := (167, [.ref 118, .int y, .int x, .int g, .int lo, .int k, .int b, .int tw, .int 2], [.int (-1), .int tw, .int v2], h)) rfl ?_
    refine hp_cne (ix := tw.toInt) (iy := (-1)) rfl rfl rfl (fun z4 => ?_) (fun z4 => by exfalso; omega)
    refine qm_Rp.go 1 (c' := (175, [.ref 118, .int y, .int x, .int g, .int lo, .int k, .int b, .int tw, .int 2], [.ref 118, .int v2], h)) rfl ?_
    refine hp_getr rfl (hH.1 118 (17, 105) rfl) rfl (hH.2 118 45 (some 146) rfl) ?_
    refine qm_Rp.go 1 (c' := (180, [.ref 118, .int y, .int x, .int g, .int lo, .int k, .int b, .int tw, .int 2], [.int tw, .ref 146, .int v2], h)) rfl ?_
    obtain ⟨v5, q_v5⟩ : ∃ v_, h.2.1 146 tw.toInt.toNat = v_ := ⟨_, rfl⟩
    refine hp_ial (v := v5) rfl (hH.1 146 (0, 30) rfl) q_v5 (fun ia_5 ib_5 => ?_)
    refine qm_Rp.go 0 (c' := (181, [.ref 118, .int y, .int x, .int g, .int lo, .int k, .int b, .int tw, .int 2], [.int v5, .int v2], h)) rfl ?_
    have ew_tw : w tw.toInt.toNat = v5.toInt := by rw [← eW]; exact congrArg Int32.toInt q_v5
    have bw_tw := hw tw.toInt.toNat
    rw [ew_tw] at bw_tw
    refine qm_Rp.go 1 (c' := (182, [.ref 118, .int y, .int x, .int g, .int lo, .int k, .int b, .int tw, .int 2], [.int (v2 + v5)], h)) rfl ?_
    obtain ⟨v7, q_v7, e_v7⟩ := hk_add (x := v2) (y := v5) (a := v2.toInt) (b := v5.toInt) rfl rfl (by omega) (by omega)
    rw [q_v7]
    refine qm_Rp.go 1 (c' := (183, [.ref 118, .int y, .int x, .int g, .int lo, .int k, .int b, .int tw, .int 2], [.ref 118, .int v7], h)) rfl ?_
    refine hp_getr rfl (hH.1 118 (17, 105) rfl) rfl (hH.2 118 24 (some 129) rfl) ?_
    refine qm_Rp.go 1 (c' := (187, [.ref 118, .int y, .int x, .int g, .int lo, .int k, .int b, .int tw, .int 2], [.ref 118, .ref 129, .int v7], h)) rfl ?_
    refine hp_geti (v := 1) rfl (hH.1 118 (17, 105) rfl) rfl q_lv ?_
    refine qm_Rp.go 0 (c' := (190, [.ref 118, .int y, .int x, .int g, .int lo, .int k, .int b, .int tw, .int 2], [.int 1, .ref 129, .int v7], h)) rfl ?_
    refine hp_ial (v := l) rfl (hH.1 129 (0, 2) rfl) q_l (fun ia_7 ib_7 => ?_)
    refine qm_Rp.go 0 (c' := (191, [.ref 118, .int y, .int x, .int g, .int lo, .int k, .int b, .int tw, .int 2], [.int l, .int v7], h)) rfl ?_
    have ewt : w (c (kV c lo.toInt).toNat).toNat + (if mV c tk lo.toInt = 2 then w (c lo.toInt.toNat).toNat else 0) = v7.toInt := by rw [ek, eb, em, if_pos rfl, etw]; omega
    refine hp_cle (ix := v7.toInt) (iy := l.toInt) rfl rfl rfl (fun z9 => ?_) (fun z9 => ?_)
    · refine qm_Rp.go 1 (c' := (198, [.ref 118, .int y, .int x, .int g, .int lo, .int k, .int b, .int tw, .int 2], [.ref 118], h)) rfl ?_
      refine hp_inv (o := 118) (r := []) (as := [.ref 118]) rfl rfl (hH.1 118 (17, 105) rfl) rfl rfl rfl (px_looks1 (h := h) hH eW eH eS q_n hn hw hs q_lv q_B hB (fun I10 e_I10 a0_I10 a1_I10 a2_I10 => ?_))
      have e_I10 : ∀ o, [155, 156].contains o = false → ∀ i, I10 o i = (h.2.1) o i := e_I10
      have p150_I10 : pI I10 150 = wh := (funext fun i => congrArg Int32.toInt (e_I10 150 rfl i)).trans eH
      have p151_I10 : pI I10 151 = sp := (funext fun i => congrArg Int32.toInt (e_I10 151 rfl i)).trans eS
      have p152_I10 : pI I10 152 = c := (funext fun i => congrArg Int32.toInt (e_I10 152 rfl i)).trans eC
      have p153_I10 : pI I10 153 = yc := (funext fun i => congrArg Int32.toInt (e_I10 153 rfl i)).trans eY
      have p154_I10 : pI I10 154 = hi := (funext fun i => congrArg Int32.toInt (e_I10 154 rfl i)).trans eI
      obtain ⟨p0_I10, q_p0_I10⟩ : ∃ v_, I10 156 0 = v_ := ⟨_, rfl⟩
      rw [q_p0_I10] at a0_I10
      obtain ⟨p1_I10, q_p1_I10⟩ : ∃ v_, I10 156 1 = v_ := ⟨_, rfl⟩
      rw [q_p1_I10] at a1_I10
      obtain ⟨p2_I10, q_p2_I10⟩ : ∃ v_, I10 156 2 = v_ := ⟨_, rfl⟩
      rw [q_p2_I10] at a2_I10
      refine qm_Rp.go 2 (c' := (204, [.ref 118, .int y, .int x, .int g, .int lo, .int k, .int b, .int tw, .int 2], [.int b, .ref 118], (h.1, I10, h.2.2.1, h.2.2.2))) rfl ?_
      refine hp_inv (o := 118) (r := []) (as := [.ref 118, .int b]) rfl rfl (hH.1 118 (17, 105) rfl) rfl rfl rfl (px_lv1 (h := (h.1, I10, h.2.2.1, h.2.2.2)) hH (u := (I10) 151 b.toInt.toNat) (pz_at p150_I10 ab1.1) rfl (pz_in p151_I10 hs (b.toInt.toNat)) (pz_in p154_I10 hi4) (fun I11 e_I11 x150 x152 => ?_))
      have x150 : pI I11 150 = fu_up (pI (I10) 150) (b.toInt.toNat) (Int32.toInt 0) := x150
      have x152 : pI I11 152 = fu_up (pI (I10) 152) (pI (I10) 151 (b.toInt.toNat)).toNat (Int32.toInt (-1)) := x152
      have e_I11 : ∀ o, [150, 152].contains o = false → ∀ i, I11 o i = (I10) o i := e_I11
      have p150_I11 : pI I11 150 = fu_up (wh) (b.toInt.toNat) 0 := by rw [x150, p150_I10]; exact rfl
      have p151_I11 : pI I11 151 = sp := (funext fun i => congrArg Int32.toInt (e_I11 151 rfl i)).trans p151_I10
      have p152_I11 : pI I11 152 = fu_up (c) (sp b.toInt.toNat).toNat (-1) := by rw [x152, p152_I10, p151_I10]; exact rfl
      have p153_I11 : pI I11 153 = yc := (funext fun i => congrArg Int32.toInt (e_I11 153 rfl i)).trans p153_I10
      have p154_I11 : pI I11 154 = hi := (funext fun i => congrArg Int32.toInt (e_I11 154 rfl i)).trans p154_I10
      refine qm_Rp.go 2 (c' := (210, [.ref 118, .int y, .int x, .int g, .int lo, .int k, .int b, .int tw, .int 2], [.int (-1), .int tw], (h.1, I11, h.2.2.1, h.2.2.2))) rfl ?_
      refine hp_ceq (ix := tw.toInt) (iy := (-1)) rfl rfl rfl (fun z12 => by exfalso; omega) (fun z12 => ?_)
      refine qm_Rp.go 2 (c' := (216, [.ref 118, .int y, .int x, .int g, .int lo, .int k, .int b, .int tw, .int 2], [.int tw, .ref 118], (h.1, I11, h.2.2.1, h.2.2.2))) rfl ?_
      refine hp_inv (o := 118) (r := []) (as := [.ref 118, .int tw]) rfl rfl (hH.1 118 (17, 105) rfl) rfl rfl rfl (px_lv1 (h := (h.1, I11, h.2.2.1, h.2.2.2)) hH (u := (I11) 151 tw.toInt.toNat) (pz_at p150_I11 ((fu_ne hne).trans ab2.1)) rfl (pz_in p151_I11 hs (tw.toInt.toNat)) (pz_in p154_I11 hi4) (fun I13 e_I13 x150 x152 => ?_))
      have x150 : pI I13 150 = fu_up (pI (I11) 150) (tw.toInt.toNat) (Int32.toInt 0) := x150
      have x152 : pI I13 152 = fu_up (pI (I11) 152) (pI (I11) 151 (tw.toInt.toNat)).toNat (Int32.toInt (-1)) := x152
      have e_I13 : ∀ o, [150, 152].contains o = false → ∀ i, I13 o i = (I11) o i := e_I13
      have p150_I13 : pI I13 150 = fu_up (fu_up (wh) (b.toInt.toNat) 0) (tw.toInt.toNat) 0 := by rw [x150, p150_I11]; exact rfl
      have p151_I13 : pI I13 151 = sp := (funext fun i => congrArg Int32.toInt (e_I13 151 rfl i)).trans p151_I11
      have p152_I13 : pI I13 152 = fu_up (fu_up (c) (sp b.toInt.toNat).toNat (-1)) (sp tw.toInt.toNat).toNat (-1) := by rw [x152, p152_I11, p151_I11]; exact rfl
      have p153_I13 : pI I13 153 = yc := (funext fun i => congrArg Int32.toInt (e_I13 153 rfl i)).trans p153_I11
      have p154_I13 : pI I13 154 = hi := (funext fun i => congrArg Int32.toInt (e_I13 154 rfl i)).trans p154_I11
      refine qm_Rp.go 1 (c' := (220, [.ref 118, .int y, .int x, .int g, .int lo, .int k, .int b, .int tw, .int 2], [.ref 118], (h.1, I13, h.2.2.1, h.2.2.2))) rfl ?_
      refine hp_inv (o := 118) (r := []) (as := [.ref 118]) rfl rfl (hH.1 118 (17, 105) rfl) rfl rfl rfl (px_mayb1 (h := (h.1, I13, h.2.2.1, h.2.2.2)) hH ((funext fun i => congrArg Int32.toInt ((e_I13 146 rfl i).trans ((e_I11 146 rfl i).trans ((e_I10 146 rfl i).trans rfl)))).trans eW) p150_I13 p151_I13 (show (I13) 118 44 = _ from ((e_I13 118 rfl 44).trans ((e_I11 118 rfl 44).trans ((e_I10 118 rfl 44).trans q_n)))) hn hw hs (show (I13) 118 18 = _ from ((e_I13 118 rfl 18).trans ((e_I11 118 rfl 18).trans ((e_I10 118 rfl 18).trans q_lv)))) (show (I13) 127 1 = _ from ((e_I13 127 rfl 1).trans ((e_I11 127 rfl 1).trans ((e_I10 127 rfl 1).trans q_B)))) hB (show (I13) 128 3 = _ from ((e_I13 128 rfl 3).trans ((e_I11 128 rfl 3).trans ((e_I10 128 rfl 3).trans q_g0)))) (show (I13) 128 4 = _ from ((e_I13 128 rfl 4).trans ((e_I11 128 rfl 4).trans ((e_I10 128 rfl 4).trans q_g1)))) (show (I13) 128 5 = _ from ((e_I13 128 rfl 5).trans ((e_I11 128 rfl 5).trans ((e_I10 128 rfl 5).trans q_g2)))) (show (I13) 156 0 = _ from ((e_I13 156 rfl 0).trans ((e_I11 156 rfl 0).trans q_p0_I10))) (show (I13) 156 1 = _ from ((e_I13 156 rfl 1).trans ((e_I11 156 rfl 1).trans q_p1_I10))) (show (I13) 156 2 = _ from ((e_I13 156 rfl 2).trans ((e_I11 156 rfl 2).trans q_p2_I10))) (fun I14 r15 e_I14 hm => ?_))
      have e_I14 : ∀ o, [155].contains o = false → ∀ i, I14 o i = (I13) o i := e_I14
      have p150_I14 : pI I14 150 = fu_up (fu_up (wh) (b.toInt.toNat) 0) (tw.toInt.toNat) 0 := (funext fun i => congrArg Int32.toInt (e_I14 150 rfl i)).trans p150_I13
      have p151_I14 : pI I14 151 = sp := (funext fun i => congrArg Int32.toInt (e_I14 151 rfl i)).trans p151_I13
      have p152_I14 : pI I14 152 = fu_up (fu_up (c) (sp b.toInt.toNat).toNat (-1)) (sp tw.toInt.toNat).toNat (-1) := (funext fun i => congrArg Int32.toInt (e_I14 152 rfl i)).trans p152_I13
      have p153_I14 : pI I14 153 = yc := (funext fun i => congrArg Int32.toInt (e_I14 153 rfl i)).trans p153_I13
      have p154_I14 : pI I14 154 = hi := (funext fun i => congrArg Int32.toInt (e_I14 154 rfl i)).trans p154_I13
      rw [a0_I10, a1_I10, a2_I10] at hm
      rcases hm with ⟨hr, hm⟩ | ⟨hr, hm⟩
      · obtain rfl : r15 = 1 := hk_eqi.mpr (hr.trans rfl)
        refine qm_Rp.go 3 (c' := (253, [.ref 118, .int y, .int x, .int g, .int lo, .int k, .int b, .int tw, .int 2], [.int (-1), .int g], (h.1, I14, h.2.2.1, h.2.2.2))) rfl ?_
        refine hp_ceq (ix := g.toInt) (iy := (-1)) rfl rfl rfl (fun z16 => ?_) (fun z16 => by exfalso; omega)
        refine qm_Rp.go 1 (c' := (278, [.ref 118, .int y, .int x, .int g, .int lo, .int k, .int b, .int tw, .int 2], [.int 2], (h.1, I14, h.2.2.1, h.2.2.2))) rfl ?_
        refine qm_Rp.rt (v := (some (.int 2))) (h' := (h.1, I14, h.2.2.1, h.2.2.2)) rfl ?_
        exact k2 (I14) (fun o ho i => ((e_I14 o (hk_ms rfl ho) i).trans ((e_I13 o (hk_ms rfl ho) i).trans ((e_I11 o (hk_ms rfl ho) i).trans ((e_I10 o (hk_ms rfl ho) i).trans rfl))))) ((unl_f ⟨by omega, by omega, by omega, by omega, by omega, by omega⟩ (by rw [el, ek, eb]; omega) (by rw [el, em]; intro z; omega) (by rw [el, ewt]; omega) (okb_t (by rw [el, show whU c tk wh lo.toInt = fu_up (fu_up wh b.toInt.toNat 0) tw.toInt.toNat 0 from (if_pos em).trans (by rw [ec1, etw])]; exact hm))).trans (by rw [el, em])).symm (p150_I14.trans (by rw [el, ec1, etw, if_pos (show g.toInt = -1 by omega)])) (p151_I14.trans (by rw [if_pos (show g.toInt = -1 by omega)])) (p152_I14.trans (by rw [el, ek_b, ek_tw, show (lo.toInt + 1) = k.toInt by omega])) (p153_I14.trans (by rw [if_pos (show g.toInt = -1 by omega)])) (p154_I14.trans (by rw [if_pos (show g.toInt = -1 by omega)]))
      · obtain rfl : r15 = 0 := hk_eqi.mpr (hr.trans rfl)
        refine qm_Rp.go 4 (c' := (231, [.ref 118, .int y, .int x, .int g, .int lo, .int k, .int b, .int tw, .int 2], [.int k, .int b, .ref 118], (h.1, I14, h.2.2.1, h.2.2.2))) rfl ?_
        refine hp_inv (o := 118) (r := []) (as := [.ref 118, .int b, .int k]) rfl rfl (hH.1 118 (17, 105) rfl) rfl rfl rfl (px_brd (h := (h.1, I14, h.2.2.1, h.2.2.2)) hH (fun I17 e_I17 x150 x151 x152 => ?_))
        have x150 : pI I17 150 = fu_up (pI (I14) 150) (b.toInt.toNat) (Int32.toInt 1) := x150
        have x151 : pI I17 151 = fu_up (pI (I14) 151) (b.toInt.toNat) k.toInt := x151
        have x152 : pI I17 152 = fu_up (pI (I14) 152) k.toInt.toNat b.toInt := x152
        have e_I17 : ∀ o, [150, 151, 152].contains o = false → ∀ i, I17 o i = (I14) o i := e_I17
        have p150_I17 : pI I17 150 = fu_up (fu_up (fu_up (wh) (b.toInt.toNat) 0) (tw.toInt.toNat) 0) (b.toInt.toNat) 1 := by rw [x150, p150_I14]; exact rfl
        have p151_I17 : pI I17 151 = sp := by rw [x151, p151_I14]; exact fu_si ek_b
        have p152_I17 : pI I17 152 = fu_up (fu_up (fu_up (c) (sp b.toInt.toNat).toNat (-1)) (sp tw.toInt.toNat).toNat (-1)) (sp b.toInt.toNat).toNat b.toInt := by rw [x152, p152_I14, show (sp b.toInt.toNat).toNat = k.toInt.toNat by rw [ek_b]]
        have p153_I17 : pI I17 153 = yc := (funext fun i => congrArg Int32.toInt (e_I17 153 rfl i)).trans p153_I14
        have p154_I17 : pI I17 154 = hi := (funext fun i => congrArg Int32.toInt (e_I17 154 rfl i)).trans p154_I14
        refine qm_Rp.go 2 (c' := (237, [.ref 118, .int y, .int x, .int g, .int lo, .int k, .int b, .int tw, .int 2], [.int (-1), .int tw], (h.1, I17, h.2.2.1, h.2.2.2))) rfl ?_
        refine hp_ceq (ix := tw.toInt) (iy := (-1)) rfl rfl rfl (fun z18 => by exfalso; omega) (fun z18 => ?_)
        refine qm_Rp.go 3 (c' := (245, [.ref 118, .int y, .int x, .int g, .int lo, .int k, .int b, .int tw, .int 2], [.int lo, .int tw, .ref 118], (h.1, I17, h.2.2.1, h.2.2.2))) rfl ?_
        refine hp_inv (o := 118) (r := []) (as := [.ref 118, .int tw, .int lo]) rfl rfl (hH.1 118 (17, 105) rfl) rfl rfl rfl (px_brd (h := (h.1, I17, h.2.2.1, h.2.2.2)) hH (fun I19 e_I19 x150 x151 x152 => ?_))
        have x150 : pI I19 150 = fu_up (pI (I17) 150) (tw.toInt.toNat) (Int32.toInt 1) := x150
        have x151 : pI I19 151 = fu_up (pI (I17) 151) (tw.toInt.toNat) lo.toInt := x151
        have x152 : pI I19 152 = fu_up (pI (I17) 152) lo.toInt.toNat tw.toInt := x152
        have e_I19 : ∀ o, [150, 151, 152].contains o = false → ∀ i, I19 o i = (I17) o i := e_I19
        have p150_I19 : pI I19 150 = fu_up (fu_up (fu_up (fu_up (wh) (b.toInt.toNat) 0) (tw.toInt.toNat) 0) (b.toInt.toNat) 1) (tw.toInt.toNat) 1 := by rw [x150, p150_I17]; exact rfl
        have p151_I19 : pI I19 151 = sp := by rw [x151, p151_I17]; exact fu_si ek_tw
        have p152_I19 : pI I19 152 = fu_up (fu_up (fu_up (fu_up (c) (sp b.toInt.toNat).toNat (-1)) (sp tw.toInt.toNat).toNat (-1)) (sp b.toInt.toNat).toNat b.toInt) (sp tw.toInt.toNat).toNat tw.toInt := by rw [x152, p152_I17, show (sp tw.toInt.toNat).toNat = lo.toInt.toNat by rw [ek_tw]]
        have p153_I19 : pI I19 153 = yc := (funext fun i => congrArg Int32.toInt (e_I19 153 rfl i)).trans p153_I17
        have p154_I19 : pI I19 154 = hi := (funext fun i => congrArg Int32.toInt (e_I19 154 rfl i)).trans p154_I17
        refine qm_Rp.go 1 (c' := (250, [.ref 118, .int y, .int x, .int g, .int lo, .int k, .int b, .int tw, .int 2], [.int (-3)], (h.1, I19, h.2.2.1, h.2.2.2))) rfl ?_
        refine qm_Rp.rt (v := (some (.int (-3)))) (h' := (h.1, I19, h.2.2.1, h.2.2.2)) rfl ?_
        exact k0 (I19) (-3) (fun o ho i => ((e_I19 o (hk_ms rfl ho) i).trans ((e_I17 o (hk_ms rfl ho) i).trans ((e_I14 o (hk_ms rfl ho) i).trans ((e_I13 o (hk_ms rfl ho) i).trans ((e_I11 o (hk_ms rfl ho) i).trans ((e_I10 o (hk_ms rfl ho) i).trans rfl))))))) (unl_e ⟨by omega, by omega, by omega, by omega, by omega, by omega⟩ (by rw [el, ek, eb]; omega) (by rw [el, em]; intro z; omega) (by rw [el, ewt]; omega) (okb_f (by rw [el, show whU c tk wh lo.toInt = fu_up (fu_up wh b.toInt.toNat 0) tw.toInt.toNat 0 from (if_pos em).trans (by rw [ec1, etw])]; exact hm))).symm (by decide) (p150_I19.trans (fu_4 hne ab1.1 ab2.1)) p151_I19 (p152_I19.trans (fu_4 (by rw [ek_tw, ek_b]; omega) (by rw [ek_b]; exact eb) (by rw [ek_tw]; exact etw))) p153_I19 p154_I19
    · refine qm_Rp.go 1 (c' := (196, [.ref 118, .int y, .int x, .int g, .int lo, .int k, .int b, .int tw, .int 2], [.int (-2)], h)) rfl ?_
      refine qm_Rp.rt (v := (some (.int (-2)))) (h' := h) rfl ?_
      exact k0 (h.2.1) (-2) (fun o ho i => rfl) (unl_d ⟨by omega, by omega, by omega, by omega, by omega, by omega⟩ (by rw [el, ek, eb]; omega) (by rw [el, em]; intro z; omega) (by rw [el, ewt]; omega)).symm (by decide) eH eS eC eY eI
  · refine qm_Rp.go 1 (c' := (143, [.ref 118, .int y, .int x, .int g, .int lo, .int k, .int b, .int tw, .int 2], [.ref 118], h)) rfl ?_
    refine hp_getr rfl (hH.1 118 (17, 105) rfl) rfl (hH.2 118 53 (some 154) rfl) ?_
    refine qm_Rp.go 1 (c' := (147, [.ref 118, .int y, .int x, .int g, .int lo, .int k, .int b, .int tw, .int 2], [.int g, .ref 154], h)) rfl ?_
    obtain ⟨v20, q_v20⟩ : ∃ v_, h.2.1 154 g.toInt.toNat = v_ := ⟨_, rfl⟩
    refine hp_ial (v := v20) rfl (hH.1 154 (0, 4) rfl) q_v20 (fun ia_20 ib_20 => ?_)
    refine qm_Rp.go 0 (c' := (148, [.ref 118, .int y, .int x, .int g, .int lo, .int k, .int b, .int tw, .int 2], [.int v20], h)) rfl ?_
    have eh : hi g.toInt.toNat = v20.toInt := by rw [← eI]; exact congrArg Int32.toInt q_v20
    have bh := hi4 g.toInt.toNat
    rw [eh] at bh
    refine qm_Rp.go 2 (c' := (151, [.ref 118, .int y, .int x, .int g, .int lo, .int k, .int b, .int tw, .int 2], [.int (v20 + 2)], h)) rfl ?_
    obtain ⟨v22, q_v22, e_v22⟩ := hk_add (x := v20) (y := 2) (a := v20.toInt) (b := 2) rfl rfl (by omega) (by omega)
    rw [q_v22]
    refine qm_Rp.go 1 (c' := (152, [.ref 118, .int y, .int x, .int g, .int lo, .int k, .int b, .int tw, .int 2], [.int 4, .int v22], h)) rfl ?_
    refine hp_cle (ix := v22.toInt) (iy := 4) rfl rfl rfl (fun z23 => ?_) (fun z23 => ?_)
    · refine qm_Rp.go 1 (c' := (158, [.ref 118, .int y, .int x, .int g, .int lo, .int k, .int b, .int tw, .int 2], [.ref 118], h)) rfl ?_
      refine hp_getr rfl (hH.1 118 (17, 105) rfl) rfl (hH.2 118 45 (some 146) rfl) ?_
      refine qm_Rp.go 1 (c' := (163, [.ref 118, .int y, .int x, .int g, .int lo, .int k, .int b, .int tw, .int 2], [.int b, .ref 146], h)) rfl ?_
      obtain ⟨v24, q_v24⟩ : ∃ v_, h.2.1 146 b.toInt.toNat = v_ := ⟨_, rfl⟩
      refine hp_ial (v := v24) rfl (hH.1 146 (0, 30) rfl) q_v24 (fun ia_24 ib_24 => ?_)
      refine qm_Rp.go 0 (c' := (164, [.ref 118, .int y, .int x, .int g, .int lo, .int k, .int b, .int tw, .int 2], [.int v24], h)) rfl ?_
      have ew_b : w b.toInt.toNat = v24.toInt := by rw [← eW]; exact congrArg Int32.toInt q_v24
      have bw_b := hw b.toInt.toNat
      rw [ew_b] at bw_b
      refine qm_Rp.go 2 (c' := (167, [.ref 118, .int y, .int x, .int g, .int lo, .int k, .int b, .int tw, .int 2], [.int (-1), .int tw, .int v24], h)) rfl ?_
      refine hp_cne (ix := tw.toInt) (iy := (-1)) rfl rfl rfl (fun z26 => ?_) (fun z26 => by exfalso; omega)
      refine qm_Rp.go 1 (c' := (175, [.ref 118, .int y, .int x, .int g, .int lo, .int k, .int b, .int tw, .int 2], [.ref 118, .int v24], h)) rfl ?_
      refine hp_getr rfl (hH.1 118 (17, 105) rfl) rfl (hH.2 118 45 (some 146) rfl) ?_
      refine qm_Rp.go 1 (c' := (180, [.ref 118, .int y, .int x, .int g, .int lo, .int k, .int b, .int tw, .int 2], [.int tw, .ref 146, .int v24], h)) rfl ?_
      obtain ⟨v27, q_v27⟩ : ∃ v_, h.2.1 146 tw.toInt.toNat = v_ := ⟨_, rfl⟩
      refine hp_ial (v := v27) rfl (hH.1 146 (0, 30) rfl) q_v27 (fun ia_27 ib_27 => ?_)
      refine qm_Rp.go 0 (c' := (181, [.ref 118, .int y, .int x, .int g, .int lo, .int k, .int b, .int tw, .int 2], [.int v27, .int v24], h)) rfl ?_
      have ew_tw : w tw.toInt.toNat = v27.toInt := by rw [← eW]; exact congrArg Int32.toInt q_v27
      have bw_tw := hw tw.toInt.toNat
      rw [ew_tw] at bw_tw
      refine qm_Rp.go 1 (c' := (182, [.ref 118, .int y, .int x, .int g, .int lo, .int k, .int b, .int tw, .int 2], [.int (v24 + v27)], h)) rfl ?_
      obtain ⟨v29, q_v29, e_v29⟩ := hk_add (x := v24) (y := v27) (a := v24.toInt) (b := v27.toInt) rfl rfl (by omega) (by omega)
      rw [q_v29]
      refine qm_Rp.go 1 (c' := (183, [.ref 118, .int y, .int x, .int g, .int lo, .int k, .int b, .int tw, .int 2], [.ref 118, .int v29], h)) rfl ?_
      refine hp_getr rfl (hH.1 118 (17, 105) rfl) rfl (hH.2 118 24 (some 129) rfl) ?_
      refine qm_Rp.go 1 (c' := (187, [.ref 118, .int y, .int x, .int g, .int lo, .int k, .int b, .int tw, .int 2], [.ref 118, .ref 129, .int v29], h)) rfl ?_
      refine hp_geti (v := 1) rfl (hH.1 118 (17, 105) rfl) rfl q_lv ?_
      refine qm_Rp.go 0 (c' := (190, [.ref 118, .int y, .int x, .int g, .int lo, .int k, .int b, .int tw, .int 2], [.int 1, .ref 129, .int v29], h)) rfl ?_
      refine hp_ial (v := l) rfl (hH.1 129 (0, 2) rfl) q_l (fun ia_29 ib_29 => ?_)
      refine qm_Rp.go 0 (c' := (191, [.ref 118, .int y, .int x, .int g, .int lo, .int k, .int b, .int tw, .int 2], [.int l, .int v29], h)) rfl ?_
      have ewt : w (c (kV c lo.toInt).toNat).toNat + (if mV c tk lo.toInt = 2 then w (c lo.toInt.toNat).toNat else 0) = v29.toInt := by rw [ek, eb, em, if_pos rfl, etw]; omega
      refine hp_cle (ix := v29.toInt) (iy := l.toInt) rfl rfl rfl (fun z31 => ?_) (fun z31 => ?_)
      · refine qm_Rp.go 1 (c' := (198, [.ref 118, .int y, .int x, .int g, .int lo, .int k, .int b, .int tw, .int 2], [.ref 118], h)) rfl ?_
        refine hp_inv (o := 118) (r := []) (as := [.ref 118]) rfl rfl (hH.1 118 (17, 105) rfl) rfl rfl rfl (px_looks1 (h := h) hH eW eH eS q_n hn hw hs q_lv q_B hB (fun I32 e_I32 a0_I32 a1_I32 a2_I32 => ?_))
        have e_I32 : ∀ o, [155, 156].contains o = false → ∀ i, I32 o i = (h.2.1) o i := e_I32
        have p150_I32 : pI I32 150 = wh := (funext fun i => congrArg Int32.toInt (e_I32 150 rfl i)).trans eH
        have p151_I32 : pI I32 151 = sp := (funext fun i => congrArg Int32.toInt (e_I32 151 rfl i)).trans eS
        have p152_I32 : pI I32 152 = c := (funext fun i => congrArg Int32.toInt (e_I32 152 rfl i)).trans eC
        have p153_I32 : pI I32 153 = yc := (funext fun i => congrArg Int32.toInt (e_I32 153 rfl i)).trans eY
        have p154_I32 : pI I32 154 = hi := (funext fun i => congrArg Int32.toInt (e_I32 154 rfl i)).trans eI
        obtain ⟨p0_I32, q_p0_I32⟩ : ∃ v_, I32 156 0 = v_ := ⟨_, rfl⟩
        rw [q_p0_I32] at a0_I32
        obtain ⟨p1_I32, q_p1_I32⟩ : ∃ v_, I32 156 1 = v_ := ⟨_, rfl⟩
        rw [q_p1_I32] at a1_I32
        obtain ⟨p2_I32, q_p2_I32⟩ : ∃ v_, I32 156 2 = v_ := ⟨_, rfl⟩
        rw [q_p2_I32] at a2_I32
        refine qm_Rp.go 2 (c' := (204, [.ref 118, .int y, .int x, .int g, .int lo, .int k, .int b, .int tw, .int 2], [.int b, .ref 118], (h.1, I32, h.2.2.1, h.2.2.2))) rfl ?_
        refine hp_inv (o := 118) (r := []) (as := [.ref 118, .int b]) rfl rfl (hH.1 118 (17, 105) rfl) rfl rfl rfl (px_lv1 (h := (h.1, I32, h.2.2.1, h.2.2.2)) hH (u := (I32) 151 b.toInt.toNat) (pz_at p150_I32 ab1.1) rfl (pz_in p151_I32 hs (b.toInt.toNat)) (pz_in p154_I32 hi4) (fun I33 e_I33 x150 x152 => ?_))
        have x150 : pI I33 150 = fu_up (pI (I32) 150) (b.toInt.toNat) (Int32.toInt 0) := x150
        have x152 : pI I33 152 = fu_up (pI (I32) 152) (pI (I32) 151 (b.toInt.toNat)).toNat (Int32.toInt (-1)) := x152
        have e_I33 : ∀ o, [150, 152].contains o = false → ∀ i, I33 o i = (I32) o i := e_I33
        have p150_I33 : pI I33 150 = fu_up (wh) (b.toInt.toNat) 0 := by rw [x150, p150_I32]; exact rfl
        have p151_I33 : pI I33 151 = sp := (funext fun i => congrArg Int32.toInt (e_I33 151 rfl i)).trans p151_I32
        have p152_I33 : pI I33 152 = fu_up (c) (sp b.toInt.toNat).toNat (-1) := by rw [x152, p152_I32, p151_I32]; exact rfl
        have p153_I33 : pI I33 153 = yc := (funext fun i => congrArg Int32.toInt (e_I33 153 rfl i)).trans p153_I32
        have p154_I33 : pI I33 154 = hi := (funext fun i => congrArg Int32.toInt (e_I33 154 rfl i)).trans p154_I32
        refine qm_Rp.go 2 (c' := (210, [.ref 118, .int y, .int x, .int g, .int lo, .int k, .int b, .int tw, .int 2], [.int (-1), .int tw], (h.1, I33, h.2.2.1, h.2.2.2))) rfl ?_
        refine hp_ceq (ix := tw.toInt) (iy := (-1)) rfl rfl rfl (fun z34 => by exfalso; omega) (fun z34 => ?_)
        refine qm_Rp.go 2 (c' := (216, [.ref 118, .int y, .int x, .int g, .int lo, .int k, .int b, .int tw, .int 2], [.int tw, .ref 118], (h.1, I33, h.2.2.1, h.2.2.2))) rfl ?_
        refine hp_inv (o := 118) (r := []) (as := [.ref 118, .int tw]) rfl rfl (hH.1 118 (17, 105) rfl) rfl rfl rfl (px_lv1 (h := (h.1, I33, h.2.2.1, h.2.2.2)) hH (u := (I33) 151 tw.toInt.toNat) (pz_at p150_I33 ((fu_ne hne).trans ab2.1)) rfl (pz_in p151_I33 hs (tw.toInt.toNat)) (pz_in p154_I33 hi4) (fun I35 e_I35 x150 x152 => ?_))
        have x150 : pI I35 150 = fu_up (pI (I33) 150) (tw.toInt.toNat) (Int32.toInt 0) := x150
        have x152 : pI I35 152 = fu_up (pI (I33) 152) (pI (I33) 151 (tw.toInt.toNat)).toNat (Int32.toInt (-1)) := x152
        have e_I35 : ∀ o, [150, 152].contains o = false → ∀ i, I35 o i = (I33) o i := e_I35
        have p150_I35 : pI I35 150 = fu_up (fu_up (wh) (b.toInt.toNat) 0) (tw.toInt.toNat) 0 := by rw [x150, p150_I33]; exact rfl
        have p151_I35 : pI I35 151 = sp := (funext fun i => congrArg Int32.toInt (e_I35 151 rfl i)).trans p151_I33
        have p152_I35 : pI I35 152 = fu_up (fu_up (c) (sp b.toInt.toNat).toNat (-1)) (sp tw.toInt.toNat).toNat (-1) := by rw [x152, p152_I33, p151_I33]; exact rfl
        have p153_I35 : pI I35 153 = yc := (funext fun i => congrArg Int32.toInt (e_I35 153 rfl i)).trans p153_I33
        have p154_I35 : pI I35 154 = hi := (funext fun i => congrArg Int32.toInt (e_I35 154 rfl i)).trans p154_I33
        refine qm_Rp.go 1 (c' := (220, [.ref 118, .int y, .int x, .int g, .int lo, .int k, .int b, .int tw, .int 2], [.ref 118], (h.1, I35, h.2.2.1, h.2.2.2))) rfl ?_
        refine hp_inv (o := 118) (r := []) (as := [.ref 118]) rfl rfl (hH.1 118 (17, 105) rfl) rfl rfl rfl (px_mayb1 (h := (h.1, I35, h.2.2.1, h.2.2.2)) hH ((funext fun i => congrArg Int32.toInt ((e_I35 146 rfl i).trans ((e_I33 146 rfl i).trans ((e_I32 146 rfl i).trans rfl)))).trans eW) p150_I35 p151_I35 (show (I35) 118 44 = _ from ((e_I35 118 rfl 44).trans ((e_I33 118 rfl 44).trans ((e_I32 118 rfl 44).trans q_n)))) hn hw hs (show (I35) 118 18 = _ from ((e_I35 118 rfl 18).trans ((e_I33 118 rfl 18).trans ((e_I32 118 rfl 18).trans q_lv)))) (show (I35) 127 1 = _ from ((e_I35 127 rfl 1).trans ((e_I33 127 rfl 1).trans ((e_I32 127 rfl 1).trans q_B)))) hB (show (I35) 128 3 = _ from ((e_I35 128 rfl 3).trans ((e_I33 128 rfl 3).trans ((e_I32 128 rfl 3).trans q_g0)))) (show (I35) 128 4 = _ from ((e_I35 128 rfl 4).trans ((e_I33 128 rfl 4).trans ((e_I32 128 rfl 4).trans q_g1)))) (show (I35) 128 5 = _ from ((e_I35 128 rfl 5).trans ((e_I33 128 rfl 5).trans ((e_I32 128 rfl 5).trans q_g2)))) (show (I35) 156 0 = _ from ((e_I35 156 rfl 0).trans ((e_I33 156 rfl 0).trans q_p0_I32))) (show (I35) 156 1 = _ from ((e_I35 156 rfl 1).trans ((e_I33 156 rfl 1).trans q_p1_I32))) (show (I35) 156 2 = _ from ((e_I35 156 rfl 2).trans ((e_I33 156 rfl 2).trans q_p2_I32))) (fun I36 r37 e_I36 hm => ?_))
        have e_I36 : ∀ o, [155].contains o = false → ∀ i, I36 o i = (I35) o i := e_I36
        have p150_I36 : pI I36 150 = fu_up (fu_up (wh) (b.toInt.toNat) 0) (tw.toInt.toNat) 0 := (funext fun i => congrArg Int32.toInt (e_I36 150 rfl i)).trans p150_I35
        have p151_I36 : pI I36 151 = sp := (funext fun i => congrArg Int32.toInt (e_I36 151 rfl i)).trans p151_I35
        have p152_I36 : pI I36 152 = fu_up (fu_up (c) (sp b.toInt.toNat).toNat (-1)) (sp tw.toInt.toNat).toNat (-1) := (funext fun i => congrArg Int32.toInt (e_I36 152 rfl i)).trans p152_I35
        have p153_I36 : pI I36 153 = yc := (funext fun i => congrArg Int32.toInt (e_I36 153 rfl i)).trans p153_I35
        have p154_I36 : pI I36 154 = hi := (funext fun i => congrArg Int32.toInt (e_I36 154 rfl i)).trans p154_I35
        rw [a0_I32, a1_I32, a2_I32] at hm
        rcases hm with ⟨hr, hm⟩ | ⟨hr, hm⟩
        · obtain rfl : r37 = 1 := hk_eqi.mpr (hr.trans rfl)
          refine qm_Rp.go 3 (c' := (253, [.ref 118, .int y, .int x, .int g, .int lo, .int k, .int b, .int tw, .int 2], [.int (-1), .int g], (h.1, I36, h.2.2.1, h.2.2.2))) rfl ?_
          refine hp_ceq (ix := g.toInt) (iy := (-1)) rfl rfl rfl (fun z38 => by exfalso; omega) (fun z38 => ?_)
          refine qm_Rp.go 2 (c' := (259, [.ref 118, .int y, .int x, .int g, .int lo, .int k, .int b, .int tw, .int 2], [.int (-1), .int tw], (h.1, I36, h.2.2.1, h.2.2.2))) rfl ?_
          refine hp_ceq (ix := tw.toInt) (iy := (-1)) rfl rfl rfl (fun z39 => by exfalso; omega) (fun z39 => ?_)
          refine qm_Rp.go 3 (c' := (266, [.ref 118, .int y, .int x, .int g, .int lo, .int k, .int b, .int tw, .int 2], [.int g, .int tw, .ref 118], (h.1, I36, h.2.2.1, h.2.2.2))) rfl ?_
          have ev : ((I36) 154 g.toInt.toNat).toInt = hi g.toInt.toNat := by rw [show ((I36) 154 g.toInt.toNat).toInt = (hi) g.toInt.toNat from congrFun p154_I36 _]
          refine hp_inv (o := 118) (r := []) (as := [.ref 118, .int tw, .int g]) rfl rfl (hH.1 118 (17, 105) rfl) rfl rfl rfl (px_puts (h := (h.1, I36, h.2.2.1, h.2.2.2)) hH (v := (I36) 154 g.toInt.toNat) ⟨by omega, by omega⟩ rfl (by rw [ev]; have := hi4 g.toInt.toNat; omega) (fun I40 e_I40 x150 x151 x153 x154 => ?_))
          have x150 : pI I40 150 = fu_up (pI (I36) 150) (tw.toInt.toNat) (Int32.toInt 2) := x150
          have x151 : pI I40 151 = fu_up (pI (I36) 151) (tw.toInt.toNat) (4 * g.toInt + ((I36) 154 g.toInt.toNat).toInt) := x151
          have x153 : pI I40 153 = fu_up (pI (I36) 153) (4 * g.toInt + ((I36) 154 g.toInt.toNat).toInt).toNat tw.toInt := x153
          have x154 : pI I40 154 = fu_up (pI (I36) 154) g.toInt.toNat (((I36) 154 g.toInt.toNat).toInt + 1) := x154
          rw [ev] at x151 x153 x154
          have e_I40 : ∀ o, [150, 151, 153, 154].contains o = false → ∀ i, I40 o i = (I36) o i := e_I40
          have p150_I40 : pI I40 150 = fu_up (fu_up (fu_up (wh) (b.toInt.toNat) 0) (tw.toInt.toNat) 0) (tw.toInt.toNat) 2 := by rw [x150, p150_I36]; exact rfl
          have p151_I40 : pI I40 151 = fu_up (sp) (tw.toInt.toNat) (4 * g.toInt + hi g.toInt.toNat) := by rw [x151, p151_I36]
          have p152_I40 : pI I40 152 = fu_up (fu_up (c) (sp b.toInt.toNat).toNat (-1)) (sp tw.toInt.toNat).toNat (-1) := (funext fun i => congrArg Int32.toInt (e_I40 152 rfl i)).trans p152_I36
          have p153_I40 : pI I40 153 = fu_up (yc) (4 * g.toInt + hi g.toInt.toNat).toNat tw.toInt := by rw [x153, p153_I36]
          have p154_I40 : pI I40 154 = fu_up (hi) (g.toInt.toNat) (hi g.toInt.toNat + 1) := by rw [x154, p154_I36]
          refine qm_Rp.go 3 (c' := (273, [.ref 118, .int y, .int x, .int g, .int lo, .int k, .int b, .int tw, .int 2], [.int g, .int b, .ref 118], (h.1, I40, h.2.2.1, h.2.2.2))) rfl ?_
          have ev : ((I40) 154 g.toInt.toNat).toInt = (hi g.toInt.toNat + 1) := by rw [show ((I40) 154 g.toInt.toNat).toInt = (fu_up (hi) (g.toInt.toNat) (hi g.toInt.toNat + 1)) g.toInt.toNat from congrFun p154_I40 _]; exact fu_eq
          refine hp_inv (o := 118) (r := []) (as := [.ref 118, .int b, .int g]) rfl rfl (hH.1 118 (17, 105) rfl) rfl rfl rfl (px_puts (h := (h.1, I40, h.2.2.1, h.2.2.2)) hH (v := (I40) 154 g.toInt.toNat) ⟨by omega, by omega⟩ rfl (by rw [ev]; have := hi4 g.toInt.toNat; omega) (fun I41 e_I41 x150 x151 x153 x154 => ?_))
          have x150 : pI I41 150 = fu_up (pI (I40) 150) (b.toInt.toNat) (Int32.toInt 2) := x150
          have x151 : pI I41 151 = fu_up (pI (I40) 151) (b.toInt.toNat) (4 * g.toInt + ((I40) 154 g.toInt.toNat).toInt) := x151
          have x153 : pI I41 153 = fu_up (pI (I40) 153) (4 * g.toInt + ((I40) 154 g.toInt.toNat).toInt).toNat b.toInt := x153
          have x154 : pI I41 154 = fu_up (pI (I40) 154) g.toInt.toNat (((I40) 154 g.toInt.toNat).toInt + 1) := x154
          rw [ev] at x151 x153 x154
          have e_I41 : ∀ o, [150, 151, 153, 154].contains o = false → ∀ i, I41 o i = (I40) o i := e_I41
          have p150_I41 : pI I41 150 = fu_up (fu_up (fu_up (fu_up (wh) (b.toInt.toNat) 0) (tw.toInt.toNat) 0) (tw.toInt.toNat) 2) (b.toInt.toNat) 2 := by rw [x150, p150_I40]; exact rfl
          have p151_I41 : pI I41 151 = fu_up (fu_up (sp) (tw.toInt.toNat) (4 * g.toInt + hi g.toInt.toNat)) (b.toInt.toNat) (4 * g.toInt + (hi g.toInt.toNat + 1)) := by rw [x151, p151_I40]
          have p152_I41 : pI I41 152 = fu_up (fu_up (c) (sp b.toInt.toNat).toNat (-1)) (sp tw.toInt.toNat).toNat (-1) := (funext fun i => congrArg Int32.toInt (e_I41 152 rfl i)).trans p152_I40
          have p153_I41 : pI I41 153 = fu_up (fu_up (yc) (4 * g.toInt + hi g.toInt.toNat).toNat tw.toInt) (4 * g.toInt + (hi g.toInt.toNat + 1)).toNat b.toInt := by rw [x153, p153_I40]
          have p154_I41 : pI I41 154 = fu_up (hi) (g.toInt.toNat) ((hi g.toInt.toNat + 1) + 1) := by rw [x154, p154_I40]; exact fu_fu2
          refine qm_Rp.go 1 (c' := (278, [.ref 118, .int y, .int x, .int g, .int lo, .int k, .int b, .int tw, .int 2], [.int 2], (h.1, I41, h.2.2.1, h.2.2.2))) rfl ?_
          refine qm_Rp.rt (v := (some (.int 2))) (h' := (h.1, I41, h.2.2.1, h.2.2.2)) rfl ?_
          exact k2 (I41) (fun o ho i => ((e_I41 o (hk_ms rfl ho) i).trans ((e_I40 o (hk_ms rfl ho) i).trans ((e_I36 o (hk_ms rfl ho) i).trans ((e_I35 o (hk_ms rfl ho) i).trans ((e_I33 o (hk_ms rfl ho) i).trans ((e_I32 o (hk_ms rfl ho) i).trans rfl))))))) ((unl_f ⟨by omega, by omega, by omega, by omega, by omega, by omega⟩ (by rw [el, ek, eb]; omega) (by rw [el, em]; intro z; omega) (by rw [el, ewt]; omega) (okb_t (by rw [el, show whU c tk wh lo.toInt = fu_up (fu_up wh b.toInt.toNat 0) tw.toInt.toNat 0 from (if_pos em).trans (by rw [ec1, etw])]; exact hm))).trans (by rw [el, em])).symm (p150_I41.trans (by rw [el, ec1, etw, if_neg (show ¬ g.toInt = -1 by omega)]; exact fu_x)) (p151_I41.trans (by rw [el, ec1, etw, if_neg (show ¬ g.toInt = -1 by omega)])) (p152_I41.trans (by rw [el, ek_b, ek_tw, show (lo.toInt + 1) = k.toInt by omega])) (p153_I41.trans (by rw [el, ec1, etw, if_neg (show ¬ g.toInt = -1 by omega)])) (p154_I41.trans (by rw [if_neg (show ¬ g.toInt = -1 by omega)]))
        · obtain rfl : r37 = 0 := hk_eqi.mpr (hr.trans rfl)
          refine qm_Rp.go 4 (c' := (231, [.ref 118, .int y, .int x, .int g, .int lo, .int k, .int b, .int tw, .int 2], [.int k, .int b, .ref 118], (h.1, I36, h.2.2.1, h.2.2.2))) rfl ?_
          refine hp_inv (o := 118) (r := []) (as := [.ref 118, .int b, .int k]) rfl rfl (hH.1 118 (17, 105) rfl) rfl rfl rfl (px_brd (h := (h.1, I36, h.2.2.1, h.2.2.2)) hH (fun I42 e_I42 x150 x151 x152 => ?_))
          have x150 : pI I42 150 = fu_up (pI (I36) 150) (b.toInt.toNat) (Int32.toInt 1) := x150
          have x151 : pI I42 151 = fu_up (pI (I36) 151) (b.toInt.toNat) k.toInt := x151
          have x152 : pI I42 152 = fu_up (pI (I36) 152) k.toInt.toNat b.toInt := x152
          have e_I42 : ∀ o, [150, 151, 152].contains o = false → ∀ i, I42 o i = (I36) o i := e_I42
          have p150_I42 : pI I42 150 = fu_up (fu_up (fu_up (wh) (b.toInt.toNat) 0) (tw.toInt.toNat) 0) (b.toInt.toNat) 1 := by rw [x150, p150_I36]; exact rfl
          have p151_I42 : pI I42 151 = sp := by rw [x151, p151_I36]; exact fu_si ek_b
          have p152_I42 : pI I42 152 = fu_up (fu_up (fu_up (c) (sp b.toInt.toNat).toNat (-1)) (sp tw.toInt.toNat).toNat (-1)) (sp b.toInt.toNat).toNat b.toInt := by rw [x152, p152_I36, show (sp b.toInt.toNat).toNat = k.toInt.toNat by rw [ek_b]]
          have p153_I42 : pI I42 153 = yc := (funext fun i => congrArg Int32.toInt (e_I42 153 rfl i)).trans p153_I36
          have p154_I42 : pI I42 154 = hi := (funext fun i => congrArg Int32.toInt (e_I42 154 rfl i)).trans p154_I36
          refine qm_Rp.go 2 (c' := (237, [.ref 118, .int y, .int x, .int g, .int lo, .int k, .int b, .int tw, .int 2], [.int (-1), .int tw], (h.1, I42, h.2.2.1, h.2.2.2))) rfl ?_
          refine hp_ceq (ix := tw.toInt) (iy := (-1)) rfl rfl rfl (fun z43 => by exfalso; omega) (fun z43 => ?_)
          refine qm_Rp.go 3 (c' := (245, [.ref 118, .int y, .int x, .int g, .int lo, .int k, .int b, .int tw, .int 2], [.int lo, .int tw, .ref 118], (h.1, I42, h.2.2.1, h.2.2.2))) rfl ?_
          refine hp_inv (o := 118) (r := []) (as := [.ref 118, .int tw, .int lo]) rfl rfl (hH.1 118 (17, 105) rfl) rfl rfl rfl (px_brd (h := (h.1, I42, h.2.2.1, h.2.2.2)) hH (fun I44 e_I44 x150 x151 x152 => ?_))
          have x150 : pI I44 150 = fu_up (pI (I42) 150) (tw.toInt.toNat) (Int32.toInt 1) := x150
          have x151 : pI I44 151 = fu_up (pI (I42) 151) (tw.toInt.toNat) lo.toInt := x151
          have x152 : pI I44 152 = fu_up (pI (I42) 152) lo.toInt.toNat tw.toInt := x152
          have e_I44 : ∀ o, [150, 151, 152].contains o = false → ∀ i, I44 o i = (I42) o i := e_I44
          have p150_I44 : pI I44 150 = fu_up (fu_up (fu_up (fu_up (wh) (b.toInt.toNat) 0) (tw.toInt.toNat) 0) (b.toInt.toNat) 1) (tw.toInt.toNat) 1 := by rw [x150, p150_I42]; exact rfl
          have p151_I44 : pI I44 151 = sp := by rw [x151, p151_I42]; exact fu_si ek_tw
          have p152_I44 : pI I44 152 = fu_up (fu_up (fu_up (fu_up (c) (sp b.toInt.toNat).toNat (-1)) (sp tw.toInt.toNat).toNat (-1)) (sp b.toInt.toNat).toNat b.toInt) (sp tw.toInt.toNat).toNat tw.toInt := by rw [x152, p152_I42, show (sp tw.toInt.toNat).toNat = lo.toInt.toNat by rw [ek_tw]]
          have p153_I44 : pI I44 153 = yc := (funext fun i => congrArg Int32.toInt (e_I44 153 rfl i)).trans p153_I42
          have p154_I44 : pI I44 154 = hi := (funext fun i => congrArg Int32.toInt (e_I44 154 rfl i)).trans p154_I42
          refine qm_Rp.go 1 (c' := (250, [.ref 118, .int y, .int x, .int g, .int lo, .int k, .int b, .int tw, .int 2], [.int (-3)], (h.1, I44, h.2.2.1, h.2.2.2))) rfl ?_
          refine qm_Rp.rt (v := (some (.int (-3)))) (h' := (h.1, I44, h.2.2.1, h.2.2.2)) rfl ?_
          exact k0 (I44) (-3) (fun o ho i => ((e_I44 o (hk_ms rfl ho) i).trans ((e_I42 o (hk_ms rfl ho) i).trans ((e_I36 o (hk_ms rfl ho) i).trans ((e_I35 o (hk_ms rfl ho) i).trans ((e_I33 o (hk_ms rfl ho) i).trans ((e_I32 o (hk_ms rfl ho) i).trans rfl))))))) (unl_e ⟨by omega, by omega, by omega, by omega, by omega, by omega⟩ (by rw [el, ek, eb]; omega) (by rw [el, em]; intro z; omega) (by rw [el, ewt]; omega) (okb_f (by rw [el, show whU c tk wh lo.toInt = fu_up (fu_up wh b.toInt.toNat 0) tw.toInt.toNat 0 from (if_pos em).trans (by rw [ec1, etw])]; exact hm))).symm (by decide) (p150_I44.trans (fu_4 hne ab1.1 ab2.1)) p151_I44 (p152_I44.trans (fu_4 (by rw [ek_tw, ek_b]; omega) (by rw [ek_b]; exact eb) (by rw [ek_tw]; exact etw))) p153_I44 p154_I44
      · refine qm_Rp.go 1 (c' := (196, [.ref 118, .int y, .int x, .int g, .int lo, .int k, .int b, .int tw, .int 2], [.int (-2)], h)) rfl ?_
        refine qm_Rp.rt (v := (some (.int (-2)))) (h' := h) rfl ?_
        exact k0 (h.2.1) (-2) (fun o ho i => rfl) (unl_d ⟨by omega, by omega, by omega, by omega, by omega, by omega⟩ (by rw [el, ek, eb]; omega) (by rw [el, em]; intro z; omega) (by rw [el, ewt]; omega)).symm (by decide) eH eS eC eY eI
    · refine qm_Rp.go 1 (c' := (156, [.ref 118, .int y, .int x, .int g, .int lo, .int k, .int b, .int tw, .int 2], [.int (-1)], h)) rfl ?_
      refine qm_Rp.rt (v := (some (.int (-1)))) (h' := h) rfl ?_
      exact k0 (h.2.1) (-1) (fun o ho i => rfl) (unl_c ⟨by omega, by omega, by omega, by omega, by omega, by omega⟩ (by rw [el, ek, eb]; omega) ⟨by omega, by rw [el, em]; omega⟩).symm (by decide) eH eS eC eY eI
set_option maxHeartbeats 4000000 in
theorem px_unl1 {X : Option (Nat × (Nat → Int32))} {Z : Option Value → qm_H → Prop} {h : qm_H} {fu : Nat} (hH : hk_H h) {n y x g cv l : Int32} {tk : Nat → Int} {w wh sp : Nat → Int} (eW : pI h.2.1 146 = w) (eH : pI h.2.1 150 = wh) (eS : pI h.2.1 151 = sp) (q_n : h.2.1 118 44 = n) (hn : 0 ≤ n.toInt ∧ n.toInt ≤ 30) (hw : ∀ b, 0 ≤ w b ∧ w b ≤ 40) (hs : ∀ b, 0 ≤ sp b ∧ sp b ≤ 79) {B : Int32} (q_lv : h.2.1 118 18 = 1) (q_B : h.2.1 127 1 = B) (hB : 1 ≤ B.toInt ∧ B.toInt ≤ 5) {g0 g1 g2 : Int32} (q_g0 : h.2.1 128 3 = g0) (q_g1 : h.2.1 128 4 = g1) (q_g2 : h.2.1 128 5 = g2) {c yc hi : Nat → Int} (eC : pI h.2.1 152 = c) (eY : pI h.2.1 153 = yc) (eI : pI h.2.1 154 = hi) (hi4 : ∀ x, 0 ≤ hi x ∧ hi x ≤ 4) (eK : pI h.2.1 149 = tk) (q_cv : h.2.1 118 54 = cv) (q_l : h.2.1 129 1 = l) (hc : ∀ k, -1 ≤ c k ∧ c k ≤ 29) (hA : ∀ k : Nat, k < 80 → 0 ≤ c k → wh (c k).toNat = 1 ∧ sp (c k).toNat = (k : Int)) (hb2 : ∀ q : Nat, q < 40 → 0 ≤ c (2 * q + 1) → 0 ≤ c (2 * q)) (k0 : ∀ (I : Nat → Nat → Int32) (r : Int32), (∀ o, [150, 151, 152, 153, 154, 155, 156].contains o = false → ∀ i, I o i = h.2.1 o i) → r.toInt = unlV y.toInt B.toInt x.toInt g.toInt (lowV cv y x.toInt) c tk w hi l.toInt (okb (mayP B.toInt g0.toInt g1.toInt g2.toInt (ab (zL w wh sp n.toInt.toNat)) (ab (zT B.toInt w wh sp n.toInt.toNat)) (zD B.toInt w wh sp n.toInt.toNat) w (whU c tk wh (lowV cv y x.toInt)) sp n.toInt.toNat)) → r.toInt < 0 → pI I 150 = wh → pI I 151 = sp → pI I 152 = c → pI I 153 = yc → pI I 154 = hi → Z (some (.int r)) (h.1, I, h.2.2.1, h.2.2.2)) (k1 : ∀ (I : Nat → Nat → Int32), (∀ o, [150, 151, 152, 153, 154, 155, 156].contains o = false → ∀ i, I o i = h.2.1 o i) → (1 : Int) = unlV y.toInt B.toInt x.toInt g.toInt (lowV cv y x.toInt) c tk w hi l.toInt (okb (mayP B.toInt g0.toInt g1.toInt g2.toInt (ab (zL w wh sp n.toInt.toNat)) (ab (zT B.toInt w wh sp n.toInt.toNat)) (zD B.toInt w wh sp n.toInt.toNat) w (whU c tk wh (lowV cv y x.toInt)) sp n.toInt.toNat)) → pI I 150 = fu_up wh (c (kV c (lowV cv y x.toInt)).toNat).toNat (if g.toInt = -1 then 0 else 2) → pI I 151 = (if g.toInt = -1 then sp else fu_up sp (c (kV c (lowV cv y x.toInt)).toNat).toNat (4 * g.toInt + hi g.toInt.toNat)) → pI I 152 = fu_up c (kV c (lowV cv y x.toInt)).toNat (-1) → pI I 153 = (if g.toInt = -1 then yc else fu_up yc (4 * g.toInt + hi g.toInt.toNat).toNat (c (kV c (lowV cv y x.toInt)).toNat)) → pI I 154 = (if g.toInt = -1 then hi else fu_up hi g.toInt.toNat (hi g.toInt.toNat + 1)) → Z (some (.int 1)) (h.1, I, h.2.2.1, h.2.2.2)) (k2 : ∀ (I : Nat → Nat → Int32), (∀ o, [150, 151, 152, 153, 154, 155, 156].contains o = false → ∀ i, I o i = h.2.1 o i) → (2 : Int) = unlV y.toInt B.toInt x.toInt g.toInt (lowV cv y x.toInt) c tk w hi l.toInt (okb (mayP B.toInt g0.toInt g1.toInt g2.toInt (ab (zL w wh sp n.toInt.toNat)) (ab (zT B.toInt w wh sp n.toInt.toNat)) (zD B.toInt w wh sp n.toInt.toNat) w (whU c tk wh (lowV cv y x.toInt)) sp n.toInt.toNat)) → pI I 150 = (if g.toInt = -1 then fu_up (fu_up wh (c ((lowV cv y x.toInt) + 1).toNat).toNat 0) (c (lowV cv y x.toInt).toNat).toNat 0 else fu_up (fu_up wh (c (lowV cv y x.toInt).toNat).toNat 2) (c ((lowV cv y x.toInt) + 1).toNat).toNat 2) → pI I 151 = (if g.toInt = -1 then sp else fu_up (fu_up sp (c (lowV cv y x.toInt).toNat).toNat (4 * g.toInt + hi g.toInt.toNat)) (c ((lowV cv y x.toInt) + 1).toNat).toNat (4 * g.toInt + (hi g.toInt.toNat + 1))) → pI I 152 = fu_up (fu_up c ((lowV cv y x.toInt) + 1).toNat (-1)) (lowV cv y x.toInt).toNat (-1) → pI I 153 = (if g.toInt = -1 then yc else fu_up (fu_up yc (4 * g.toInt + hi g.toInt.toNat).toNat (c (lowV cv y x.toInt).toNat)) (4 * g.toInt + (hi g.toInt.toNat + 1)).toNat (c ((lowV cv y x.toInt) + 1).toNat)) → pI I 154 = (if g.toInt = -1 then hi else fu_up hi g.toInt.toNat (hi g.toInt.toNat + 1 + 1)) → Z (some (.int 2)) (h.1, I, h.2.2.1, h.2.2.2)) : qm_Rp fu X cd_298 (qm_ent 9 [.ref 118, .int y, .int x, .int g] h) Z := by
  refine qm_Rp.go 0 (c' := (0, [.ref 118, .int y, .int x, .int g, .float 0, .float 0, .float 0, .float 0, .float 0], [], h)) rfl ?_
  have kz0 : (0 : Int32).toInt = 0 := rfl
  have kz1 : (1 : Int32).toInt = 1 := rfl
  have kz2 : (2 : Int32).toInt = 2 := rfl
  have kz3 : (3 : Int32).toInt = 3 := rfl
  have kz4 : (4 : Int32).toInt = 4 := rfl
  have kz5 : (5 : Int32).toInt = 5 := rfl
  have kz6 : (6 : Int32).toInt = 6 := rfl
  have kz7 : (7 : Int32).toInt = 7 := rfl
  have kz8 : (8 : Int32).toInt = 8 := rfl
  have kz9 : (9 : Int32).toInt = 9 := rfl
  have kzm1 : ((-1) : Int32).toInt = (-1) := rfl
  have kzm2 : ((-2) : Int32).toInt = (-2) := rfl
  have kzm3 : ((-3) : Int32).toInt = (-3) := rfl
  refine qm_Rp.go 2 (c' := (2, [.ref 118, .int y, .int x, .int g, .float 0, .float 0, .float 0, .float 0, .float 0], [.int y, .ref 118], h)) rfl ?_
  refine hp_inv (o := 118) (r := []) (as := [.ref 118, .int y]) rfl rfl (hH.1 118 (17, 105) rfl) rfl rfl rfl ?_
  refine qm_Rp.go 3 (c' := (3, [.ref 118, .int y], [.ref 118, .int 0, .int y], h)) rfl ?_
  refine hp_getr rfl (hH.1 118 (17, 105) rfl) rfl (hH.2 118 22 (some 127) rfl) ?_
  refine qm_Rp.go 1 (c' := (7, [.ref 118, .int y], [.ref 118, .ref 127, .int 0, .int y], h)) rfl ?_
  refine hp_geti (v := 1) rfl (hH.1 118 (17, 105) rfl) rfl q_lv ?_
  refine qm_Rp.go 0 (c' := (10, [.ref 118, .int y], [.int 1, .ref 127, .int 0, .int y], h)) rfl ?_
  refine hp_ial (v := B) rfl (hH.1 127 (0, 2) rfl) q_B (fun ia_0 ib_0 => ?_)
  refine qm_Rp.go 2 (c' := (13, [.ref 118, .int y], [.int (B - 1), .int 0, .int y], h)) rfl ?_
  obtain ⟨v2, q_v2, e_v2⟩ := hk_sub (x := B) (y := 1) (a := B.toInt) (b := 1) rfl rfl (by omega) (by omega)
  rw [q_v2]
  refine qm_Rp.call (j := 270) (as := [.int y, .int 0, .int v2]) (c' := (16, [.ref 118, .int y], [], h)) rfl rfl ?_
  refine qm_Rp.go 2 (c' := (2, [.int y, .int 0, .int v2], [.int 0, .int y], h)) rfl ?_
  refine hp_clt (ix := y.toInt) (iy := 0) rfl rfl rfl (fun z3 => ?_) (fun z3 => ?_)
  · refine qm_Rp.go 1 (c' := (15, [.int y, .int 0, .int v2], [.int 0], h)) rfl ?_
    refine qm_Rp.rt (v := (some (.int 0))) (h' := h) rfl ?_
    refine qm_Rp.go 0 (c' := (16, [.ref 118, .int y], [.int 0], h)) rfl ?_
    refine qm_Rp.rt (v := (some (.int 0))) (h' := h) rfl ?_
    refine qm_Rp.go 2 (c' := (28, [.ref 118, .int y, .int x, .int g, .float 0, .float 0, .float 0, .float 0, .float 0], [.int (-1)], h)) rfl ?_
    refine qm_Rp.rt (v := (some (.int (-1)))) (h' := h) rfl ?_
    exact k0 (h.2.1) (-1) (fun o ho i => rfl) (unl_a (fun z => by omega)).symm (by decide) eH eS eC eY eI
  · refine qm_Rp.go 2 (c' := (7, [.int y, .int 0, .int v2], [.int v2, .int y], h)) rfl ?_
    refine hp_cgt (ix := y.toInt) (iy := v2.toInt) rfl rfl rfl (fun z4 => ?_) (fun z4 => ?_)
    · refine qm_Rp.go 1 (c' := (15, [.int y, .int 0, .int v2], [.int 0], h)) rfl ?_
      refine qm_Rp.rt (v := (some (.int 0))) (h' := h) rfl ?_
      refine qm_Rp.go 0 (c' := (16, [.ref 118, .int y], [.int 0], h)) rfl ?_
      refine qm_Rp.rt (v := (some (.int 0))) (h' := h) rfl ?_
      refine qm_Rp.go 2 (c' := (28, [.ref 118, .int y, .int x, .int g, .float 0, .float 0, .float 0, .float 0, .float 0], [.int (-1)], h)) rfl ?_
      refine qm_Rp.rt (v := (some (.int (-1)))) (h' := h) rfl ?_
      exact k0 (h.2.1) (-1) (fun o ho i => rfl) (unl_a (fun z => by omega)).symm (by decide) eH eS eC eY eI
    · refine qm_Rp.go 2 (c' := (15, [.int y, .int 0, .int v2], [.int 1], h)) rfl ?_
      refine qm_Rp.rt (v := (some (.int 1))) (h' := h) rfl ?_
      refine qm_Rp.go 0 (c' := (16, [.ref 118, .int y], [.int 1], h)) rfl ?_
      refine qm_Rp.rt (v := (some (.int 1))) (h' := h) rfl ?_
      refine qm_Rp.go 2 (c' := (9, [.ref 118, .int y, .int x, .int g, .float 0, .float 0, .float 0, .float 0, .float 0], [.int x], h)) rfl ?_
      refine qm_Rp.call (j := 278) (as := [.int x]) (c' := (12, [.ref 118, .int y, .int x, .int g, .float 0, .float 0, .float 0, .float 0, .float 0], [], h)) rfl rfl ?_
      refine qm_Rp.go 3 (c' := (3, [.int x], [.int 3, .int 0, .int x], h)) rfl ?_
      refine qm_Rp.call (j := 270) (as := [.int x, .int 0, .int 3]) (c' := (6, [.int x], [], h)) rfl rfl ?_
      refine qm_Rp.go 2 (c' := (2, [.int x, .int 0, .int 3], [.int 0, .int x], h)) rfl ?_
      refine hp_clt (ix := x.toInt) (iy := 0) rfl rfl rfl (fun z5 => ?_) (fun z5 => ?_)
      · refine qm_Rp.go 1 (c' := (15, [.int x, .int 0, .int 3], [.int 0], h)) rfl ?_
        refine qm_Rp.rt (v := (some (.int 0))) (h' := h) rfl ?_
        refine qm_Rp.go 0 (c' := (6, [.int x], [.int 0], h)) rfl ?_
        refine qm_Rp.rt (v := (some (.int 0))) (h' := h) rfl ?_
        refine qm_Rp.go 2 (c' := (28, [.ref 118, .int y, .int x, .int g, .float 0, .float 0, .float 0, .float 0, .float 0], [.int (-1)], h)) rfl ?_
        refine qm_Rp.rt (v := (some (.int (-1)))) (h' := h) rfl ?_
        exact k0 (h.2.1) (-1) (fun o ho i => rfl) (unl_a (fun z => by omega)).symm (by decide) eH eS eC eY eI
      · refine qm_Rp.go 2 (c' := (7, [.int x, .int 0, .int 3], [.int 3, .int x], h)) rfl ?_
        refine hp_cgt (ix := x.toInt) (iy := 3) rfl rfl rfl (fun z6 => ?_) (fun z6 => ?_)
        · refine qm_Rp.go 1 (c' := (15, [.int x, .int 0, .int 3], [.int 0], h)) rfl ?_
          refine qm_Rp.rt (v := (some (.int 0))) (h' := h) rfl ?_
          refine qm_Rp.go 0 (c' := (6, [.int x], [.int 0], h)) rfl ?_
          refine qm_Rp.rt (v := (some (.int 0))) (h' := h) rfl ?_
          refine qm_Rp.go 2 (c' := (28, [.ref 118, .int y, .int x, .int g, .float 0, .float 0, .float 0, .float 0, .float 0], [.int (-1)], h)) rfl ?_
          refine qm_Rp.rt (v := (some (.int (-1)))) (h' := h) rfl ?_
          exact k0 (h.2.1) (-1) (fun o ho i => rfl) (unl_a (fun z => by omega)).symm (by decide) eH eS eC eY eI
        · refine qm_Rp.go 2 (c' := (15, [.int x, .int 0, .int 3], [.int 1], h)) rfl ?_
          refine qm_Rp.rt (v := (some (.int 1))) (h' := h) rfl ?_
          refine qm_Rp.go 0 (c' := (6, [.int x], [.int 1], h)) rfl ?_
          refine qm_Rp.rt (v := (some (.int 1))) (h' := h) rfl ?_
          refine qm_Rp.go 3 (c' := (17, [.ref 118, .int y, .int x, .int g, .float 0, .float 0, .float 0, .float 0, .float 0], [.int (-1), .int g], h)) rfl ?_
          refine hp_ceq (ix := g.toInt) (iy := (-1)) rfl rfl rfl (fun z7 => ?_) (fun z7 => ?_)
          · refine qm_Rp.go 3 (c' := (33, [.ref 118, .int y, .int x, .int g, .float 0, .float 0, .float 0, .float 0, .float 0], [.int (16 * y)], h)) rfl ?_
            obtain ⟨v8, q_v8, e_v8⟩ := hk_mul (x := 16) (y := y) (a := 16) (b := y.toInt) rfl rfl (by omega) (by omega)
            rw [q_v8]
            refine qm_Rp.go 3 (c' := (36, [.ref 118, .int y, .int x, .int g, .float 0, .float 0, .float 0, .float 0, .float 0], [.int (4 * x), .int v8], h)) rfl ?_
            obtain ⟨v9, q_v9, e_v9⟩ := hk_mul (x := 4) (y := x) (a := 4) (b := x.toInt) rfl rfl (by omega) (by omega)
            rw [q_v9]
            refine qm_Rp.go 1 (c' := (37, [.ref 118, .int y, .int x, .int g, .float 0, .float 0, .float 0, .float 0, .float 0], [.int (v8 + v9)], h)) rfl ?_
            obtain ⟨v10, q_v10, e_v10⟩ := hk_add (x := v8) (y := v9) (a := v8.toInt) (b := v9.toInt) rfl rfl (by omega) (by omega)
            rw [q_v10]
            refine qm_Rp.go 2 (c' := (39, [.ref 118, .int y, .int x, .int g, .float 0, .float 0, .float 0, .float 0, .float 0], [.int y, .ref 118, .int v10], h)) rfl ?_
            refine hp_inv (o := 118) (r := [.int v10]) (as := [.ref 118, .int y]) rfl rfl (hH.1 118 (17, 105) rfl) rfl rfl rfl ?_
            refine qm_Rp.go 1 (c' := (1, [.ref 118, .int y], [.ref 118], h)) rfl ?_
            refine hp_geti (v := cv) rfl (hH.1 118 (17, 105) rfl) rfl q_cv ?_
            refine qm_Rp.go 2 (c' := (6, [.ref 118, .int y], [.int (cv >>> (y &&& 31))], h)) rfl ?_
            obtain ⟨v11, q_v11⟩ : ∃ v_, (cv >>> (y &&& 31)) = v_ := ⟨_, rfl⟩
            rw [q_v11]
            refine qm_Rp.go 2 (c' := (8, [.ref 118, .int y], [.int (v11 &&& 1)], h)) rfl ?_
            obtain ⟨v12, q_v12⟩ : ∃ v_, (v11 &&& 1) = v_ := ⟨_, rfl⟩
            rw [q_v12]
            refine qm_Rp.go 1 (c' := (9, [.ref 118, .int y], [.int 1, .int v12], h)) rfl ?_
            refine hp_cne (ix := v12.toInt) (iy := 1) rfl rfl rfl (fun z13 => ?_) (fun z13 => ?_)
            · refine qm_Rp.go 1 (c' := (17, [.ref 118, .int y], [.int 0], h)) rfl ?_
              refine qm_Rp.rt (v := (some (.int 0))) (h' := h) rfl ?_
              refine qm_Rp.go 1 (c' := (49, [.ref 118, .int y, .int x, .int g, .float 0, .float 0, .float 0, .float 0, .float 0], [.int v10], h)) rfl ?_
              refine qm_Rp.go 2 (c' := (51, [.ref 118, .int y, .int x, .int g, .float 0, .float 0, .float 0, .float 0, .float 0], [.int (v10 + 0)], h)) rfl ?_
              obtain ⟨v14, q_v14, e_v14⟩ := hk_add (x := v10) (y := 0) (a := v10.toInt) (b := 0) rfl rfl (by omega) (by omega)
              rw [q_v14]
              refine qm_Rp.go 1 (c' := (53, [.ref 118, .int y, .int x, .int g, .int v14, .float 0, .float 0, .float 0, .float 0], [], h)) rfl ?_
              have el : lowV cv y x.toInt = v14.toInt := low_0 (cv := cv) (bay := y) (x := x.toInt) (k := v14.toInt) q_v11 q_v12 (by omega) (by omega)
              refine qm_Rp.go 1 (c' := (54, [.ref 118, .int y, .int x, .int g, .int v14, .float 0, .float 0, .float 0, .float 0], [.ref 118], h)) rfl ?_
              refine hp_getr rfl (hH.1 118 (17, 105) rfl) rfl (hH.2 118 51 (some 152) rfl) ?_
              refine qm_Rp.go 3 (c' := (61, [.ref 118, .int y, .int x, .int g, .int v14, .float 0, .float 0, .float 0, .float 0], [.int (v14 + 1), .ref 152], h)) rfl ?_
              obtain ⟨v15, q_v15, e_v15⟩ := hk_add (x := v14) (y := 1) (a := v14.toInt) (b := 1) rfl rfl (by omega) (by omega)
              rw [q_v15]
              obtain ⟨v16, q_v16⟩ : ∃ v_, h.2.1 152 v15.toInt.toNat = v_ := ⟨_, rfl⟩
              refine hp_ial (v := v16) rfl (hH.1 152 (0, 80) rfl) q_v16 (fun ia_16 ib_16 => ?_)
              refine qm_Rp.go 0 (c' := (62, [.ref 118, .int y, .int x, .int g, .int v14, .float 0, .float 0, .float 0, .float 0], [.int v16], h)) rfl ?_
              have ec1 : c (v14.toInt + 1).toNat = v16.toInt := by rw [← eC, show (v14.toInt + 1).toNat = v15.toInt.toNat by omega]; exact congrArg Int32.toInt q_v16
              have bc1 := hc (v14.toInt + 1).toNat
              rw [ec1] at bc1
              refine qm_Rp.go 1 (c' := (63, [.ref 118, .int y, .int x, .int g, .int v14, .float 0, .float 0, .float 0, .float 0], [.int (-1), .int v16], h)) rfl ?_
              refine hp_ceq (ix := v16.toInt) (iy := (-1)) rfl rfl rfl (fun z18 => ?_) (fun z18 => ?_)
              · refine qm_Rp.go 3 (c' := (78, [.ref 118, .int y, .int x, .int g, .int v14, .int v14, .float 0, .float 0, .float 0], [.ref 118], h)) rfl ?_
                refine hp_getr rfl (hH.1 118 (17, 105) rfl) rfl (hH.2 118 51 (some 152) rfl) ?_
                refine qm_Rp.go 1 (c' := (83, [.ref 118, .int y, .int x, .int g, .int v14, .int v14, .float 0, .float 0, .float 0], [.int v14, .ref 152], h)) rfl ?_
                obtain ⟨v19, q_v19⟩ : ∃ v_, h.2.1 152 v14.toInt.toNat = v_ := ⟨_, rfl⟩
                refine hp_ial (v := v19) rfl (hH.1 152 (0, 80) rfl) q_v19 (fun ia_19 ib_19 => ?_)
                refine qm_Rp.go 0 (c' := (84, [.ref 118, .int y, .int x, .int g, .int v14, .int v14, .float 0, .float 0, .float 0], [.int v19], h)) rfl ?_
                have eb : c v14.toInt.toNat = v19.toInt := by rw [← eC, show v14.toInt.toNat = v14.toInt.toNat by omega]; exact congrArg Int32.toInt q_v19
                have bcb := hc v14.toInt.toNat
                rw [eb] at bcb
                have ek : kV c v14.toInt = v14.toInt := kV_0 (by omega)
                refine qm_Rp.go 3 (c' := (89, [.ref 118, .int y, .int x, .int g, .int v14, .int v14, .int v19, .float 0, .float 0], [.int (-1), .int v19], h)) rfl ?_
                refine hp_cne (ix := v19.toInt) (iy := (-1)) rfl rfl rfl (fun z21 => ?_) (fun z21 => ?_)
                · refine qm_Rp.go 0 (c' := (94, [.ref 118, .int y, .int x, .int g, .int v14, .int v14, .int v19, .float 0, .float 0], [], h)) rfl ?_
                  have ab1 := hA v14.toInt.toNat (by omega) (by rw [eb]; omega)
                  rw [eb] at ab1
                  have ek_v19 : sp v19.toInt.toNat = v14.toInt := by rw [ab1.2]; omega
                  refine qm_Rp.go 1 (c' := (95, [.ref 118, .int y, .int x, .int g, .int v14, .int v14, .int v19, .float 0, .float 0], [.ref 118], h)) rfl ?_
                  refine hp_getr rfl (hH.1 118 (17, 105) rfl) rfl (hH.2 118 48 (some 149) rfl) ?_
                  refine qm_Rp.go 1 (c' := (100, [.ref 118, .int y, .int x, .int g, .int v14, .int v14, .int v19, .float 0, .float 0], [.int v19, .ref 149], h)) rfl ?_
                  obtain ⟨v22, q_v22⟩ : ∃ v_, h.2.1 149 v19.toInt.toNat = v_ := ⟨_, rfl⟩
                  refine hp_bal (v := v22) rfl (hH.1 149 (2, 30) rfl) q_v22 (fun ia_22 ib_22 => ?_)
                  refine qm_Rp.go 0 (c' := (101, [.ref 118, .int y, .int x, .int g, .int v14, .int v14, .int v19, .float 0, .float 0], [.int v22], h)) rfl ?_
                  have est : tk v19.toInt.toNat = v22.toInt := by rw [← eK]; exact congrArg Int32.toInt q_v22
                  refine hp_zeq (ix := v22.toInt) rfl rfl (fun z24 => ?_) (fun z24 => ?_)
                  · refine qm_Rp.go 8 (c' := (137, [.ref 118, .int y, .int x, .int g, .int v14, .int v14, .int v19, .int (-1), .int 1], [], h)) rfl ?_
                    have em : mV c tk v14.toInt = 1 := mV_1a (by omega)
                    exact px_unB11 hH eW eH eS q_n hn hw hs q_lv q_B hB q_g0 q_g1 q_g2 eC eY eI hi4 eK q_cv q_l hc hA hb2 k0 k1 ⟨by omega, by omega⟩ ⟨by omega, by omega⟩ ⟨by omega, by omega⟩ ⟨by omega, by omega⟩ ⟨by omega, by omega⟩ ⟨by omega, by omega⟩ el ek eb em ab1 ek_v19
                  · refine qm_Rp.go 2 (c' := (108, [.ref 118, .int y, .int x, .int g, .int v14, .int v14, .int v19, .float 0, .float 0], [.int v14, .int v14], h)) rfl ?_
                    refine hp_cle (ix := v14.toInt) (iy := v14.toInt) rfl rfl rfl (fun z25 => ?_) (fun z25 => by exfalso; omega)
                    refine qm_Rp.go 8 (c' := (137, [.ref 118, .int y, .int x, .int g, .int v14, .int v14, .int v19, .int (-1), .int 1], [], h)) rfl ?_
                    have em : mV c tk v14.toInt = 1 := mV_1a (by omega)
                    exact px_unB11 hH eW eH eS q_n hn hw hs q_lv q_B hB q_g0 q_g1 q_g2 eC eY eI hi4 eK q_cv q_l hc hA hb2 k0 k1 ⟨by omega, by omega⟩ ⟨by omega, by omega⟩ ⟨by omega, by omega⟩ ⟨by omega, by omega⟩ ⟨by omega, by omega⟩ ⟨by omega, by omega⟩ el ek eb em ab1 ek_v19
                · refine qm_Rp.go 1 (c' := (93, [.ref 118, .int y, .int x, .int g, .int v14, .int v14, .int v19, .float 0, .float 0], [.int (-1)], h)) rfl ?_
                  refine qm_Rp.rt (v := (some (.int (-1)))) (h' := h) rfl ?_
                  exact k0 (h.2.1) (-1) (fun o ho i => rfl) (unl_b ⟨by omega, by omega, by omega, by omega, by omega, by omega⟩ (by rw [el, ek, eb]; omega)).symm (by decide) eH eS eC eY eI
              · refine qm_Rp.go 3 (c' := (70, [.ref 118, .int y, .int x, .int g, .int v14, .float 0, .float 0, .float 0, .float 0], [.int (v14 + 1)], h)) rfl ?_
                rw [q_v15]
                refine qm_Rp.go 3 (c' := (78, [.ref 118, .int y, .int x, .int g, .int v14, .int v15, .float 0, .float 0, .float 0], [.ref 118], h)) rfl ?_
                refine hp_getr rfl (hH.1 118 (17, 105) rfl) rfl (hH.2 118 51 (some 152) rfl) ?_
                refine qm_Rp.go 1 (c' := (83, [.ref 118, .int y, .int x, .int g, .int v14, .int v15, .float 0, .float 0, .float 0], [.int v15, .ref 152], h)) rfl ?_
                refine hp_ial (v := v16) rfl (hH.1 152 (0, 80) rfl) q_v16 (fun ia_25 ib_25 => ?_)
                refine qm_Rp.go 0 (c' := (84, [.ref 118, .int y, .int x, .int g, .int v14, .int v15, .float 0, .float 0, .float 0], [.int v16], h)) rfl ?_
                have eb : c v15.toInt.toNat = v16.toInt := by rw [← ec1, show (v14.toInt + 1).toNat = v15.toInt.toNat by omega]
                have ek : kV c v14.toInt = v15.toInt := (kV_1 (by omega)).trans (by omega)
                refine qm_Rp.go 3 (c' := (89, [.ref 118, .int y, .int x, .int g, .int v14, .int v15, .int v16, .float 0, .float 0], [.int (-1), .int v16], h)) rfl ?_
                refine hp_cne (ix := v16.toInt) (iy := (-1)) rfl rfl rfl (fun z27 => ?_) (fun z27 => by exfalso; omega)
                refine qm_Rp.go 0 (c' := (94, [.ref 118, .int y, .int x, .int g, .int v14, .int v15, .int v16, .float 0, .float 0], [], h)) rfl ?_
                have ab1 := hA v15.toInt.toNat (by omega) (by rw [eb]; omega)
                rw [eb] at ab1
                have ek_v16 : sp v16.toInt.toNat = v15.toInt := by rw [ab1.2]; omega
                refine qm_Rp.go 1 (c' := (95, [.ref 118, .int y, .int x, .int g, .int v14, .int v15, .int v16, .float 0, .float 0], [.ref 118], h)) rfl ?_
                refine hp_getr rfl (hH.1 118 (17, 105) rfl) rfl (hH.2 118 48 (some 149) rfl) ?_
                refine qm_Rp.go 1 (c' := (100, [.ref 118, .int y, .int x, .int g, .int v14, .int v15, .int v16, .float 0, .float 0], [.int v16, .ref 149], h)) rfl ?_
                obtain ⟨v28, q_v28⟩ : ∃ v_, h.2.1 149 v16.toInt.toNat = v_ := ⟨_, rfl⟩
                refine hp_bal (v := v28) rfl (hH.1 149 (2, 30) rfl) q_v28 (fun ia_28 ib_28 => ?_)
                refine qm_Rp.go 0 (c' := (101, [.ref 118, .int y, .int x, .int g, .int v14, .int v15, .int v16, .float 0, .float 0], [.int v28], h)) rfl ?_
                have est : tk v16.toInt.toNat = v28.toInt := by rw [← eK]; exact congrArg Int32.toInt q_v28
                refine hp_zeq (ix := v28.toInt) rfl rfl (fun z30 => ?_) (fun z30 => ?_)
                · refine qm_Rp.go 8 (c' := (137, [.ref 118, .int y, .int x, .int g, .int v14, .int v15, .int v16, .int (-1), .int 1], [], h)) rfl ?_
                  have em : mV c tk v14.toInt = 1 := mV_1b (by omega) (by rw [ec1, est]; omega)
                  exact px_unB11 hH eW eH eS q_n hn hw hs q_lv q_B hB q_g0 q_g1 q_g2 eC eY eI hi4 eK q_cv q_l hc hA hb2 k0 k1 ⟨by omega, by omega⟩ ⟨by omega, by omega⟩ ⟨by omega, by omega⟩ ⟨by omega, by omega⟩ ⟨by omega, by omega⟩ ⟨by omega, by omega⟩ el ek eb em ab1 ek_v16
                · refine qm_Rp.go 2 (c' := (108, [.ref 118, .int y, .int x, .int g, .int v14, .int v15, .int v16, .float 0, .float 0], [.int v14, .int v15], h)) rfl ?_
                  refine hp_cle (ix := v15.toInt) (iy := v14.toInt) rfl rfl rfl (fun z31 => ?_) (fun z31 => ?_)
                  · refine qm_Rp.go 8 (c' := (137, [.ref 118, .int y, .int x, .int g, .int v14, .int v15, .int v16, .int (-1), .int 1], [], h)) rfl ?_
                    have em : mV c tk v14.toInt = 1 := mV_1b (by omega) (by rw [ec1, est]; omega)
                    exact px_unB11 hH eW eH eS q_n hn hw hs q_lv q_B hB q_g0 q_g1 q_g2 eC eY eI hi4 eK q_cv q_l hc hA hb2 k0 k1 ⟨by omega, by omega⟩ ⟨by omega, by omega⟩ ⟨by omega, by omega⟩ ⟨by omega, by omega⟩ ⟨by omega, by omega⟩ ⟨by omega, by omega⟩ el ek eb em ab1 ek_v16
                  · refine qm_Rp.go 1 (c' := (112, [.ref 118, .int y, .int x, .int g, .int v14, .int v15, .int v16, .float 0, .float 0], [.ref 118], h)) rfl ?_
                    refine hp_getr rfl (hH.1 118 (17, 105) rfl) rfl (hH.2 118 51 (some 152) rfl) ?_
                    refine qm_Rp.go 1 (c' := (117, [.ref 118, .int y, .int x, .int g, .int v14, .int v15, .int v16, .float 0, .float 0], [.int v14, .ref 152], h)) rfl ?_
                    obtain ⟨v32, q_v32⟩ : ∃ v_, h.2.1 152 v14.toInt.toNat = v_ := ⟨_, rfl⟩
                    refine hp_ial (v := v32) rfl (hH.1 152 (0, 80) rfl) q_v32 (fun ia_32 ib_32 => ?_)
                    refine qm_Rp.go 0 (c' := (118, [.ref 118, .int y, .int x, .int g, .int v14, .int v15, .int v16, .float 0, .float 0], [.int v32], h)) rfl ?_
                    have etw : c v14.toInt.toNat = v32.toInt := by rw [← eC, show v14.toInt.toNat = v14.toInt.toNat by omega]; exact congrArg Int32.toInt q_v32
                    have bct := hc v14.toInt.toNat
                    rw [etw] at bct
                    have t0 := hb2 (v14.toInt.toNat / 2) (by omega) (by rw [show 2 * (v14.toInt.toNat / 2) + 1 = (v14.toInt + 1).toNat by omega, ec1]; omega)
                    rw [show 2 * (v14.toInt.toNat / 2) = v14.toInt.toNat by omega, etw] at t0
                    have ab2 := hA v14.toInt.toNat (by omega) (by rw [etw]; omega)
                    rw [etw] at ab2
                    have ek_v32 : sp v32.toInt.toNat = v14.toInt := by rw [ab2.2]; omega
                    have hne : v32.toInt.toNat ≠ v16.toInt.toNat := fun z => by rw [z, ab1.2] at ab2; omega
                    refine qm_Rp.go 4 (c' := (127, [.ref 118, .int y, .int x, .int g, .int v14, .int v15, .int v16, .int v32, .float 0], [.int (-1), .int v32], h)) rfl ?_
                    refine hp_cne (ix := v32.toInt) (iy := (-1)) rfl rfl rfl (fun z34 => ?_) (fun z34 => by exfalso; omega)
                    refine qm_Rp.go 2 (c' := (137, [.ref 118, .int y, .int x, .int g, .int v14, .int v15, .int v16, .int v32, .int 2], [], h)) rfl ?_
                    have em : mV c tk v14.toInt = 2 := mV_2 (by omega) (by rw [ec1, est]; omega)
                    exact px_unB12 hH eW eH eS q_n hn hw hs q_lv q_B hB q_g0 q_g1 q_g2 eC eY eI hi4 eK q_cv q_l hc hA hb2 k0 k2 ⟨by omega, by omega⟩ ⟨by omega, by omega⟩ ⟨by omega, by omega⟩ ⟨by omega, by omega⟩ ⟨by omega, by omega⟩ ⟨by omega, by omega⟩ el ek eb em ab1 ek_v16 ⟨by omega, by omega⟩ (by omega) ec1 etw ab2 ek_v32 hne
            · refine qm_Rp.go 2 (c' := (17, [.ref 118, .int y], [.int 1], h)) rfl ?_
              refine qm_Rp.rt (v := (some (.int 1))) (h' := h) rfl ?_
              refine qm_Rp.go 2 (c' := (46, [.ref 118, .int y, .int x, .int g, .float 0, .float 0, .float 0, .float 0, .float 0], [.int 2, .int v10], h)) rfl ?_
              refine qm_Rp.go 2 (c' := (51, [.ref 118, .int y, .int x, .int g, .float 0, .float 0, .float 0, .float 0, .float 0], [.int (v10 + 2)], h)) rfl ?_
              obtain ⟨v35, q_v35, e_v35⟩ := hk_add (x := v10) (y := 2) (a := v10.toInt) (b := 2) rfl rfl (by omega) (by omega)
              rw [q_v35]
              refine qm_Rp.go 1 (c' := (53, [.ref 118, .int y, .int x, .int g, .int v35, .float 0, .float 0, .float 0, .float 0], [], h)) rfl ?_
              have el : lowV cv y x.toInt = v35.toInt := low_1 (cv := cv) (bay := y) (x := x.toInt) (k := v35.toInt) q_v11 q_v12 (by omega) (by omega)
              refine qm_Rp.go 1 (c' := (54, [.ref 118, .int y, .int x, .int g, .int v35, .float 0, .float 0, .float 0, .float 0], [.ref 118], h)) rfl ?_
              refine hp_getr rfl (hH.1 118 (17, 105) rfl) rfl (hH.2 118 51 (some 152) rfl) ?_
              refine qm_Rp.go 3 (c' := (61, [.ref 118, .int y, .int x, .int g, .int v35, .float 0, .float 0, .float 0, .float 0], [.int (v35 + 1), .ref 152], h)) rfl ?_
              obtain ⟨v36, q_v36, e_v36⟩ := hk_add (x := v35) (y := 1) (a := v35.toInt) (b := 1) rfl rfl (by omega) (by omega)
              rw [q_v36]
              obtain ⟨v37, q_v37⟩ : ∃ v_, h.2.1 152 v36.toInt.toNat = v_ := ⟨_, rfl⟩
              refine hp_ial (v := v37) rfl (hH.1 152 (0, 80) rfl) q_v37 (fun ia_37 ib_37 => ?_)
              refine qm_Rp.go 0 (c' := (62, [.ref 118, .int y, .int x, .int g, .int v35, .float 0, .float 0, .float 0, .float 0], [.int v37], h)) rfl ?_
              have ec1 : c (v35.toInt + 1).toNat = v37.toInt := by rw [← eC, show (v35.toInt + 1).toNat = v36.toInt.toNat by omega]; exact congrArg Int32.toInt q_v37
              have bc1 := hc (v35.toInt + 1).toNat
              rw [ec1] at bc1
              refine qm_Rp.go 1 (c' := (63, [.ref 118, .int y, .int x, .int g, .int v35, .float 0, .float 0, .float 0, .float 0], [.int (-1), .int v37], h)) rfl ?_
              refine hp_ceq (ix := v37.toInt) (iy := (-1)) rfl rfl rfl (fun z39 => ?_) (fun z39 => ?_)
              · refine qm_Rp.go 3 (c' := (78, [.ref 118, .int y, .int x, .int g, .int v35, .int v35, .float 0, .float 0, .float 0], [.ref 118], h)) rfl ?_
                refine hp_getr rfl (hH.1 118 (17, 105) rfl) rfl (hH.2 118 51 (some 152) rfl) ?_
                refine qm_Rp.go 1 (c' := (83, [.ref 118, .int y, .int x, .int g, .int v35, .int v35, .float 0, .float 0, .float 0], [.int v35, .ref 152], h)) rfl ?_
                obtain ⟨v40, q_v40⟩ : ∃ v_, h.2.1 152 v35.toInt.toNat = v_ := ⟨_, rfl⟩
                refine hp_ial (v := v40) rfl (hH.1 152 (0, 80) rfl) q_v40 (fun ia_40 ib_40 => ?_)
                refine qm_Rp.go 0 (c' := (84, [.ref 118, .int y, .int x, .int g, .int v35, .int v35, .float 0, .float 0, .float 0], [.int v40], h)) rfl ?_
                have eb : c v35.toInt.toNat = v40.toInt := by rw [← eC, show v35.toInt.toNat = v35.toInt.toNat by omega]; exact congrArg Int32.toInt q_v40
                have bcb := hc v35.toInt.toNat
                rw [eb] at bcb
                have ek : kV c v35.toInt = v35.toInt := kV_0 (by omega)
                refine qm_Rp.go 3 (c' := (89, [.ref 118, .int y, .int x, .int g, .int v35, .int v35, .int v40, .float 0, .float 0], [.int (-1), .int v40], h)) rfl ?_
                refine hp_cne (ix := v40.toInt) (iy := (-1)) rfl rfl rfl (fun z42 => ?_) (fun z42 => ?_)
                · refine qm_Rp.go 0 (c' := (94, [.ref 118, .int y, .int x, .int g, .int v35, .int v35, .int v40, .float 0, .float 0], [], h)) rfl ?_
                  have ab1 := hA v35.toInt.toNat (by omega) (by rw [eb]; omega)
                  rw [eb] at ab1
                  have ek_v40 : sp v40.toInt.toNat = v35.toInt := by rw [ab1.2]; omega
                  refine qm_Rp.go 1 (c' := (95, [.ref 118, .int y, .int x, .int g, .int v35, .int v35, .int v40, .float 0, .float 0], [.ref 118], h)) rfl ?_
                  refine hp_getr rfl (hH.1 118 (17, 105) rfl) rfl (hH.2 118 48 (some 149) rfl) ?_
                  refine qm_Rp.go 1 (c' := (100, [.ref 118, .int y, .int x, .int g, .int v35, .int v35, .int v40, .float 0, .float 0], [.int v40, .ref 149], h)) rfl ?_
                  obtain ⟨v43, q_v43⟩ : ∃ v_, h.2.1 149 v40.toInt.toNat = v_ := ⟨_, rfl⟩
                  refine hp_bal (v := v43) rfl (hH.1 149 (2, 30) rfl) q_v43 (fun ia_43 ib_43 => ?_)
                  refine qm_Rp.go 0 (c' := (101, [.ref 118, .int y, .int x, .int g, .int v35, .int v35, .int v40, .float 0, .float 0], [.int v43], h)) rfl ?_
                  have est : tk v40.toInt.toNat = v43.toInt := by rw [← eK]; exact congrArg Int32.toInt q_v43
                  refine hp_zeq (ix := v43.toInt) rfl rfl (fun z45 => ?_) (fun z45 => ?_)
                  · refine qm_Rp.go 8 (c' := (137, [.ref 118, .int y, .int x, .int g, .int v35, .int v35, .int v40, .int (-1), .int 1], [], h)) rfl ?_
                    have em : mV c tk v35.toInt = 1 := mV_1a (by omega)
                    exact px_unB11 hH eW eH eS q_n hn hw hs q_lv q_B hB q_g0 q_g1 q_g2 eC eY eI hi4 eK q_cv q_l hc hA hb2 k0 k1 ⟨by omega, by omega⟩ ⟨by omega, by omega⟩ ⟨by omega, by omega⟩ ⟨by omega, by omega⟩ ⟨by omega, by omega⟩ ⟨by omega, by omega⟩ el ek eb em ab1 ek_v40
                  · refine qm_Rp.go 2 (c' := (108, [.ref 118, .int y, .int x, .int g, .int v35, .int v35, .int v40, .float 0, .float 0], [.int v35, .int v35], h)) rfl ?_
                    refine hp_cle (ix := v35.toInt) (iy := v35.toInt) rfl rfl rfl (fun z46 => ?_) (fun z46 => by exfalso; omega)
                    refine qm_Rp.go 8 (c' := (137, [.ref 118, .int y, .int x, .int g, .int v35, .int v35, .int v40, .int (-1), .int 1], [], h)) rfl ?_
                    have em : mV c tk v35.toInt = 1 := mV_1a (by omega)
                    exact px_unB11 hH eW eH eS q_n hn hw hs q_lv q_B hB q_g0 q_g1 q_g2 eC eY eI hi4 eK q_cv q_l hc hA hb2 k0 k1 ⟨by omega, by omega⟩ ⟨by omega, by omega⟩ ⟨by omega, by omega⟩ ⟨by omega, by omega⟩ ⟨by omega, by omega⟩ ⟨by omega, by omega⟩ el ek eb em ab1 ek_v40
                · refine qm_Rp.go 1 (c' := (93, [.ref 118, .int y, .int x, .int g, .int v35, .int v35, .int v40, .float 0, .float 0], [.int (-1)], h)) rfl ?_
                  refine qm_Rp.rt (v := (some (.int (-1)))) (h' := h) rfl ?_
                  exact k0 (h.2.1) (-1) (fun o ho i => rfl) (unl_b ⟨by omega, by omega, by omega, by omega, by omega, by omega⟩ (by rw [el, ek, eb]; omega)).symm (by decide) eH eS eC eY eI
              · refine qm_Rp.go 3 (c' := (70, [.ref 118, .int y, .int x, .int g, .int v35, .float 0, .float 0, .float 0, .float 0], [.int (v35 + 1)], h)) rfl ?_
                rw [q_v36]
                refine qm_Rp.go 3 (c' := (78, [.ref 118, .int y, .int x, .int g, .int v35, .int v36, .float 0, .float 0, .float 0], [.ref 118], h)) rfl ?_
                refine hp_getr rfl (hH.1 118 (17, 105) rfl) rfl (hH.2 118 51 (some 152) rfl) ?_
                refine qm_Rp.go 1 (c' := (83, [.ref 118, .int y, .int x, .int g, .int v35, .int v36, .float 0, .float 0, .float 0], [.int v36, .ref 152], h)) rfl ?_
                refine hp_ial (v := v37) rfl (hH.1 152 (0, 80) rfl) q_v37 (fun ia_46 ib_46 => ?_)
                refine qm_Rp.go 0 (c' := (84, [.ref 118, .int y, .int x, .int g, .int v35, .int v36, .float 0, .float 0, .float 0], [.int v37], h)) rfl ?_
                have eb : c v36.toInt.toNat = v37.toInt := by rw [← ec1, show (v35.toInt + 1).toNat = v36.toInt.toNat by omega]
                have ek : kV c v35.toInt = v36.toInt := (kV_1 (by omega)).trans (by omega)
                refine qm_Rp.go 3 (c' := (89, [.ref 118, .int y, .int x, .int g, .int v35, .int v36, .int v37, .float 0, .float 0], [.int (-1), .int v37], h)) rfl ?_
                refine hp_cne (ix := v37.toInt) (iy := (-1)) rfl rfl rfl (fun z48 => ?_) (fun z48 => by exfalso; omega)
                refine qm_Rp.go 0 (c' := (94, [.ref 118, .int y, .int x, .int g, .int v35, .int v36, .int v37, .float 0, .float 0], [], h)) rfl ?_
                have ab1 := hA v36.toInt.toNat (by omega) (by rw [eb]; omega)
                rw [eb] at ab1
                have ek_v37 : sp v37.toInt.toNat = v36.toInt := by rw [ab1.2]; omega
                refine qm_Rp.go 1 (c' := (95, [.ref 118, .int y, .int x, .int g, .int v35, .int v36, .int v37, .float 0, .float 0], [.ref 118], h)) rfl ?_
                refine hp_getr rfl (hH.1 118 (17, 105) rfl) rfl (hH.2 118 48 (some 149) rfl) ?_
                refine qm_Rp.go 1 (c' := (100, [.ref 118, .int y, .int x, .int g, .int v35, .int v36, .int v37, .float 0, .float 0], [.int v37, .ref 149], h)) rfl ?_
                obtain ⟨v49, q_v49⟩ : ∃ v_, h.2.1 149 v37.toInt.toNat = v_ := ⟨_, rfl⟩
                refine hp_bal (v := v49) rfl (hH.1 149 (2, 30) rfl) q_v49 (fun ia_49 ib_49 => ?_)
                refine qm_Rp.go 0 (c' := (101, [.ref 118, .int y, .int x, .int g, .int v35, .int v36, .int v37, .float 0, .float 0], [.int v49], h)) rfl ?_
                have est : tk v37.toInt.toNat = v49.toInt := by rw [← eK]; exact congrArg Int32.toInt q_v49
                refine hp_zeq (ix := v49.toInt) rfl rfl (fun z51 => ?_) (fun z51 => ?_)
                · refine qm_Rp.go 8 (c' := (137, [.ref 118, .int y, .int x, .int g, .int v35, .int v36, .int v37, .int (-1), .int 1], [], h)) rfl ?_
                  have em : mV c tk v35.toInt = 1 := mV_1b (by omega) (by rw [ec1, est]; omega)
                  exact px_unB11 hH eW eH eS q_n hn hw hs q_lv q_B hB q_g0 q_g1 q_g2 eC eY eI hi4 eK q_cv q_l hc hA hb2 k0 k1 ⟨by omega, by omega⟩ ⟨by omega, by omega⟩ ⟨by omega, by omega⟩ ⟨by omega, by omega⟩ ⟨by omega, by omega⟩ ⟨by omega, by omega⟩ el ek eb em ab1 ek_v37
                · refine qm_Rp.go 2 (c' := (108, [.ref 118, .int y, .int x, .int g, .int v35, .int v36, .int v37, .float 0, .float 0], [.int v35, .int v36], h)) rfl ?_
                  refine hp_cle (ix := v36.toInt) (iy := v35.toInt) rfl rfl rfl (fun z52 => ?_) (fun z52 => ?_)
                  · refine qm_Rp.go 8 (c' := (137, [.ref 118, .int y, .int x, .int g, .int v35, .int v36, .int v37, .int (-1), .int 1], [], h)) rfl ?_
                    have em : mV c tk v35.toInt = 1 := mV_1b (by omega) (by rw [ec1, est]; omega)
                    exact px_unB11 hH eW eH eS q_n hn hw hs q_lv q_B hB q_g0 q_g1 q_g2 eC eY eI hi4 eK q_cv q_l hc hA hb2 k0 k1 ⟨by omega, by omega⟩ ⟨by omega, by omega⟩ ⟨by omega, by omega⟩ ⟨by omega, by omega⟩ ⟨by omega, by omega⟩ ⟨by omega, by omega⟩ el ek eb em ab1 ek_v37
                  · refine qm_Rp.go 1 (c' := (112, [.ref 118, .int y, .int x, .int g, .int v35, .int v36, .int v37, .float 0, .float 0], [.ref 118], h)) rfl ?_
                    refine hp_getr rfl (hH.1 118 (17, 105) rfl) rfl (hH.2 118 51 (some 152) rfl) ?_
                    refine qm_Rp.go 1 (c' := (117, [.ref 118, .int y, .int x, .int g, .int v35, .int v36, .int v37, .float 0, .float 0], [.int v35, .ref 152], h)) rfl ?_
                    obtain ⟨v53, q_v53⟩ : ∃ v_, h.2.1 152 v35.toInt.toNat = v_ := ⟨_, rfl⟩
                    refine hp_ial (v := v53) rfl (hH.1 152 (0, 80) rfl) q_v53 (fun ia_53 ib_53 => ?_)
                    refine qm_Rp.go 0 (c' := (118, [.ref 118, .int y, .int x, .int g, .int v35, .int v36, .int v37, .float 0, .float 0], [.int v53], h)) rfl ?_
                    have etw : c v35.toInt.toNat = v53.toInt := by rw [← eC, show v35.toInt.toNat = v35.toInt.toNat by omega]; exact congrArg Int32.toInt q_v53
                    have bct := hc v35.toInt.toNat
                    rw [etw] at bct
                    have t0 := hb2 (v35.toInt.toNat / 2) (by omega) (by rw [show 2 * (v35.toInt.toNat / 2) + 1 = (v35.toInt + 1).toNat by omega, ec1]; omega)
                    rw [show 2 * (v35.toInt.toNat / 2) = v35.toInt.toNat by omega, etw] at t0
                    have ab2 := hA v35.toInt.toNat (by omega) (by rw [etw]; omega)
                    rw [etw] at ab2
                    have ek_v53 : sp v53.toInt.toNat = v35.toInt := by rw [ab2.2]; omega
                    have hne : v53.toInt.toNat ≠ v37.toInt.toNat := fun z => by rw [z, ab1.2] at ab2; omega
                    refine qm_Rp.go 4 (c' := (127, [.ref 118, .int y, .int x, .int g, .int v35, .int v36, .int v37, .int v53, .float 0], [.int (-1), .int v53], h)) rfl ?_
                    refine hp_cne (ix := v53.toInt) (iy := (-1)) rfl rfl rfl (fun z55 => ?_) (fun z55 => by exfalso; omega)
                    refine qm_Rp.go 2 (c' := (137, [.ref 118, .int y, .int x, .int g, .int v35, .int v36, .int v37, .int v53, .int 2], [], h)) rfl ?_
                    have em : mV c tk v35.toInt = 2 := mV_2 (by omega) (by rw [ec1, est]; omega)
                    exact px_unB12 hH eW eH eS q_n hn hw hs q_lv q_B hB q_g0 q_g1 q_g2 eC eY eI hi4 eK q_cv q_l hc hA hb2 k0 k2 ⟨by omega, by omega⟩ ⟨by omega, by omega⟩ ⟨by omega, by omega⟩ ⟨by omega, by omega⟩ ⟨by omega, by omega⟩ ⟨by omega, by omega⟩ el ek eb em ab1 ek_v37 ⟨by omega, by omega⟩ (by omega) ec1 etw ab2 ek_v53 hne
          · refine qm_Rp.go 1 (c' := (21, [.ref 118, .int y, .int x, .int g, .float 0, .float 0, .float 0, .float 0, .float 0], [.int g], h)) rfl ?_
            refine qm_Rp.call (j := 278) (as := [.int g]) (c' := (24, [.ref 118, .int y, .int x, .int g, .float 0, .float 0, .float 0, .float 0, .float 0], [], h)) rfl rfl ?_
            refine qm_Rp.go 3 (c' := (3, [.int g], [.int 3, .int 0, .int g], h)) rfl ?_
            refine qm_Rp.call (j := 270) (as := [.int g, .int 0, .int 3]) (c' := (6, [.int g], [], h)) rfl rfl ?_
            refine qm_Rp.go 2 (c' := (2, [.int g, .int 0, .int 3], [.int 0, .int g], h)) rfl ?_
            refine hp_clt (ix := g.toInt) (iy := 0) rfl rfl rfl (fun z56 => ?_) (fun z56 => ?_)
            · refine qm_Rp.go 1 (c' := (15, [.int g, .int 0, .int 3], [.int 0], h)) rfl ?_
              refine qm_Rp.rt (v := (some (.int 0))) (h' := h) rfl ?_
              refine qm_Rp.go 0 (c' := (6, [.int g], [.int 0], h)) rfl ?_
              refine qm_Rp.rt (v := (some (.int 0))) (h' := h) rfl ?_
              refine qm_Rp.go 2 (c' := (28, [.ref 118, .int y, .int x, .int g, .float 0, .float 0, .float 0, .float 0, .float 0], [.int (-1)], h)) rfl ?_
              refine qm_Rp.rt (v := (some (.int (-1)))) (h' := h) rfl ?_
              exact k0 (h.2.1) (-1) (fun o ho i => rfl) (unl_a (fun z => by omega)).symm (by decide) eH eS eC eY eI
            · refine qm_Rp.go 2 (c' := (7, [.int g, .int 0, .int 3], [.int 3, .int g], h)) rfl ?_
              refine hp_cgt (ix := g.toInt) (iy := 3) rfl rfl rfl (fun z57 => ?_) (fun z57 => ?_)
              · refine qm_Rp.go 1 (c' := (15, [.int g, .int 0, .int 3], [.int 0], h)) rfl ?_
                refine qm_Rp.rt (v := (some (.int 0))) (h' := h) rfl ?_
                refine qm_Rp.go 0 (c' := (6, [.int g], [.int 0], h)) rfl ?_
                refine qm_Rp.rt (v := (some (.int 0))) (h' := h) rfl ?_
                refine qm_Rp.go 2 (c' := (28, [.ref 118, .int y, .int x, .int g, .float 0, .float 0, .float 0, .float 0, .float 0], [.int (-1)], h)) rfl ?_
                refine qm_Rp.rt (v := (some (.int (-1)))) (h' := h) rfl ?_
                exact k0 (h.2.1) (-1) (fun o ho i => rfl) (unl_a (fun z => by omega)).symm (by decide) eH eS eC eY eI
              · refine qm_Rp.go 2 (c' := (15, [.int g, .int 0, .int 3], [.int 1], h)) rfl ?_
                refine qm_Rp.rt (v := (some (.int 1))) (h' := h) rfl ?_
                refine qm_Rp.go 0 (c' := (6, [.int g], [.int 1], h)) rfl ?_
                refine qm_Rp.rt (v := (some (.int 1))) (h' := h) rfl ?_
                refine qm_Rp.go 4 (c' := (33, [.ref 118, .int y, .int x, .int g, .float 0, .float 0, .float 0, .float 0, .float 0], [.int (16 * y)], h)) rfl ?_
                obtain ⟨v58, q_v58, e_v58⟩ := hk_mul (x := 16) (y := y) (a := 16) (b := y.toInt) rfl rfl (by omega) (by omega)
                rw [q_v58]
                refine qm_Rp.go 3 (c' := (36, [.ref 118, .int y, .int x, .int g, .float 0, .float 0, .float 0, .float 0, .float 0], [.int (4 * x), .int v58], h)) rfl ?_
                obtain ⟨v59, q_v59, e_v59⟩ := hk_mul (x := 4) (y := x) (a := 4) (b := x.toInt) rfl rfl (by omega) (by omega)
                rw [q_v59]
                refine qm_Rp.go 1 (c' := (37, [.ref 118, .int y, .int x, .int g, .float 0, .float 0, .float 0, .float 0, .float 0], [.int (v58 + v59)], h)) rfl ?_
                obtain ⟨v60, q_v60, e_v60⟩ := hk_add (x := v58) (y := v59) (a := v58.toInt) (b := v59.toInt) rfl rfl (by omega) (by omega)
                rw [q_v60]
                refine qm_Rp.go 2 (c' := (39, [.ref 118, .int y, .int x, .int g, .float 0, .float 0, .float 0, .float 0, .float 0], [.int y, .ref 118, .int v60], h)) rfl ?_
                refine hp_inv (o := 118) (r := [.int v60]) (as := [.ref 118, .int y]) rfl rfl (hH.1 118 (17, 105) rfl) rfl rfl rfl ?_
                refine qm_Rp.go 1 (c' := (1, [.ref 118, .int y], [.ref 118], h)) rfl ?_
                refine hp_geti (v := cv) rfl (hH.1 118 (17, 105) rfl) rfl q_cv ?_
                refine qm_Rp.go 2 (c' := (6, [.ref 118, .int y], [.int (cv >>> (y &&& 31))], h)) rfl ?_
                obtain ⟨v61, q_v61⟩ : ∃ v_, (cv >>> (y &&& 31)) = v_ := ⟨_, rfl⟩
                rw [q_v61]
                refine qm_Rp.go 2 (c' := (8, [.ref 118, .int y], [.int (v61 &&& 1)], h)) rfl ?_
                obtain ⟨v62, q_v62⟩ : ∃ v_, (v61 &&& 1) = v_ := ⟨_, rfl⟩
                rw [q_v62]
                refine qm_Rp.go 1 (c' := (9, [.ref 118, .int y], [.int 1, .int v62], h)) rfl ?_
                refine hp_cne (ix := v62.toInt) (iy := 1) rfl rfl rfl (fun z63 => ?_) (fun z63 => ?_)
                · refine qm_Rp.go 1 (c' := (17, [.ref 118, .int y], [.int 0], h)) rfl ?_
                  refine qm_Rp.rt (v := (some (.int 0))) (h' := h) rfl ?_
                  refine qm_Rp.go 1 (c' := (49, [.ref 118, .int y, .int x, .int g, .float 0, .float 0, .float 0, .float 0, .float 0], [.int v60], h)) rfl ?_
                  refine qm_Rp.go 2 (c' := (51, [.ref 118, .int y, .int x, .int g, .float 0, .float 0, .float 0, .float 0, .float 0], [.int (v60 + 0)], h)) rfl ?_
                  obtain ⟨v64, q_v64, e_v64⟩ := hk_add (x := v60) (y := 0) (a := v60.toInt) (b := 0) rfl rfl (by omega) (by omega)
                  rw [q_v64]
                  refine qm_Rp.go 1 (c' := (53, [.ref 118, .int y, .int x, .int g, .int v64, .float 0, .float 0, .float 0, .float 0], [], h)) rfl ?_
                  have el : lowV cv y x.toInt = v64.toInt := low_0 (cv := cv) (bay := y) (x := x.toInt) (k := v64.toInt) q_v61 q_v62 (by omega) (by omega)
                  refine qm_Rp.go 1 (c' := (54, [.ref 118, .int y, .int x, .int g, .int v64, .float 0, .float 0, .float 0, .float 0], [.ref 118], h)) rfl ?_
                  refine hp_getr rfl (hH.1 118 (17, 105) rfl) rfl (hH.2 118 51 (some 152) rfl) ?_
                  refine qm_Rp.go 3 (c' := (61, [.ref 118, .int y, .int x, .int g, .int v64, .float 0, .float 0, .float 0, .float 0], [.int (v64 + 1), .ref 152], h)) rfl ?_
                  obtain ⟨v65, q_v65, e_v65⟩ := hk_add (x := v64) (y := 1) (a := v64.toInt) (b := 1) rfl rfl (by omega) (by omega)
                  rw [q_v65]
                  obtain ⟨v66, q_v66⟩ : ∃ v_, h.2.1 152 v65.toInt.toNat = v_ := ⟨_, rfl⟩
                  refine hp_ial (v := v66) rfl (hH.1 152 (0, 80) rfl) q_v66 (fun ia_66 ib_66 => ?_)
                  refine qm_Rp.go 0 (c' := (62, [.ref 118, .int y, .int x, .int g, .int v64, .float 0, .float 0, .float 0, .float 0], [.int v66], h)) rfl ?_
                  have ec1 : c (v64.toInt + 1).toNat = v66.toInt := by rw [← eC, show (v64.toInt + 1).toNat = v65.toInt.toNat by omega]; exact congrArg Int32.toInt q_v66
                  have bc1 := hc (v64.toInt + 1).toNat
                  rw [ec1] at bc1
                  refine qm_Rp.go 1 (c' := (63, [.ref 118, .int y, .int x, .int g, .int v64, .float 0, .float 0, .float 0, .float 0], [.int (-1), .int v66], h)) rfl ?_
                  refine hp_ceq (ix := v66.toInt) (iy := (-1)) rfl rfl rfl (fun z68 => ?_) (fun z68 => ?_)
                  · refine qm_Rp.go 3 (c' := (78, [.ref 118, .int y, .int x, .int g, .int v64, .int v64, .float 0, .float 0, .float 0], [.ref 118], h)) rfl ?_
                    refine hp_getr rfl (hH.1 118 (17, 105) rfl) rfl (hH.2 118 51 (some 152) rfl) ?_
                    refine qm_Rp.go 1 (c' := (83, [.ref 118, .int y, .int x, .int g, .int v64, .int v64, .float 0, .float 0, .float 0], [.int v64, .ref 152], h)) rfl ?_
                    obtain ⟨v69, q_v69⟩ : ∃ v_, h.2.1 152 v64.toInt.toNat = v_ := ⟨_, rfl⟩
                    refine hp_ial (v := v69) rfl (hH.1 152 (0, 80) rfl) q_v69 (fun ia_69 ib_69 => ?_)
                    refine qm_Rp.go 0 (c' := (84, [.ref 118, .int y, .int x, .int g, .int v64, .int v64, .float 0, .float 0, .float 0], [.int v69], h)) rfl ?_
                    have eb : c v64.toInt.toNat = v69.toInt := by rw [← eC, show v64.toInt.toNat = v64.toInt.toNat by omega]; exact congrArg Int32.toInt q_v69
                    have bcb := hc v64.toInt.toNat
                    rw [eb] at bcb
                    have ek : kV c v64.toInt = v64.toInt := kV_0 (by omega)
                    refine qm_Rp.go 3 (c' := (89, [.ref 118, .int y, .int x, .int g, .int v64, .int v64, .int v69, .float 0, .float 0], [.int (-1), .int v69], h)) rfl ?_
                    refine hp_cne (ix := v69.toInt) (iy := (-1)) rfl rfl rfl (fun z71 => ?_) (fun z71 => ?_)
                    · refine qm_Rp.go 0 (c' := (94, [.ref 118, .int y, .int x, .int g, .int v64, .int v64, .int v69, .float 0, .float 0], [], h)) rfl ?_
                      have ab1 := hA v64.toInt.toNat (by omega) (by rw [eb]; omega)
                      rw [eb] at ab1
                      have ek_v69 : sp v69.toInt.toNat = v64.toInt := by rw [ab1.2]; omega
                      refine qm_Rp.go 1 (c' := (95, [.ref 118, .int y, .int x, .int g, .int v64, .int v64, .int v69, .float 0, .float 0], [.ref 118], h)) rfl ?_
                      refine hp_getr rfl (hH.1 118 (17, 105) rfl) rfl (hH.2 118 48 (some 149) rfl) ?_
                      refine qm_Rp.go 1 (c' := (100, [.ref 118, .int y, .int x, .int g, .int v64, .int v64, .int v69, .float 0, .float 0], [.int v69, .ref 149], h)) rfl ?_
                      obtain ⟨v72, q_v72⟩ : ∃ v_, h.2.1 149 v69.toInt.toNat = v_ := ⟨_, rfl⟩
                      refine hp_bal (v := v72) rfl (hH.1 149 (2, 30) rfl) q_v72 (fun ia_72 ib_72 => ?_)
                      refine qm_Rp.go 0 (c' := (101, [.ref 118, .int y, .int x, .int g, .int v64, .int v64, .int v69, .float 0, .float 0], [.int v72], h)) rfl ?_
                      have est : tk v69.toInt.toNat = v72.toInt := by rw [← eK]; exact congrArg Int32.toInt q_v72
                      refine hp_zeq (ix := v72.toInt) rfl rfl (fun z74 => ?_) (fun z74 => ?_)
                      · refine qm_Rp.go 8 (c' := (137, [.ref 118, .int y, .int x, .int g, .int v64, .int v64, .int v69, .int (-1), .int 1], [], h)) rfl ?_
                        have em : mV c tk v64.toInt = 1 := mV_1a (by omega)
                        exact px_unB11 hH eW eH eS q_n hn hw hs q_lv q_B hB q_g0 q_g1 q_g2 eC eY eI hi4 eK q_cv q_l hc hA hb2 k0 k1 ⟨by omega, by omega⟩ ⟨by omega, by omega⟩ ⟨by omega, by omega⟩ ⟨by omega, by omega⟩ ⟨by omega, by omega⟩ ⟨by omega, by omega⟩ el ek eb em ab1 ek_v69
                      · refine qm_Rp.go 2 (c' := (108, [.ref 118, .int y, .int x, .int g, .int v64, .int v64, .int v69, .float 0, .float 0], [.int v64, .int v64], h)) rfl ?_
                        refine hp_cle (ix := v64.toInt) (iy := v64.toInt) rfl rfl rfl (fun z75 => ?_) (fun z75 => by exfalso; omega)
                        refine qm_Rp.go 8 (c' := (137, [.ref 118, .int y, .int x, .int g, .int v64, .int v64, .int v69, .int (-1), .int 1], [], h)) rfl ?_
                        have em : mV c tk v64.toInt = 1 := mV_1a (by omega)
                        exact px_unB11 hH eW eH eS q_n hn hw hs q_lv q_B hB q_g0 q_g1 q_g2 eC eY eI hi4 eK q_cv q_l hc hA hb2 k0 k1 ⟨by omega, by omega⟩ ⟨by omega, by omega⟩ ⟨by omega, by omega⟩ ⟨by omega, by omega⟩ ⟨by omega, by omega⟩ ⟨by omega, by omega⟩ el ek eb em ab1 ek_v69
                    · refine qm_Rp.go 1 (c' := (93, [.ref 118, .int y, .int x, .int g, .int v64, .int v64, .int v69, .float 0, .float 0], [.int (-1)], h)) rfl ?_
                      refine qm_Rp.rt (v := (some (.int (-1)))) (h' := h) rfl ?_
                      exact k0 (h.2.1) (-1) (fun o ho i => rfl) (unl_b ⟨by omega, by omega, by omega, by omega, by omega, by omega⟩ (by rw [el, ek, eb]; omega)).symm (by decide) eH eS eC eY eI
                  · refine qm_Rp.go 3 (c' := (70, [.ref 118, .int y, .int x, .int g, .int v64, .float 0, .float 0, .float 0, .float 0], [.int (v64 + 1)], h)) rfl ?_
                    rw [q_v65]
                    refine qm_Rp.go 3 (c' := (78, [.ref 118, .int y, .int x, .int g, .int v64, .int v65, .float 0, .float 0, .float 0], [.ref 118], h)) rfl ?_
                    refine hp_getr rfl (hH.1 118 (17, 105) rfl) rfl (hH.2 118 51 (some 152) rfl) ?_
                    refine qm_Rp.go 1 (c' := (83, [.ref 118, .int y, .int x, .int g, .int v64, .int v65, .float 0, .float 0, .float 0], [.int v65, .ref 152], h)) rfl ?_
                    refine hp_ial (v := v66) rfl (hH.1 152 (0, 80) rfl) q_v66 (fun ia_75 ib_75 => ?_)
                    refine qm_Rp.go 0 (c' := (84, [.ref 118, .int y, .int x, .int g, .int v64, .int v65, .float 0, .float 0, .float 0], [.int v66], h)) rfl ?_
                    have eb : c v65.toInt.toNat = v66.toInt := by rw [← ec1, show (v64.toInt + 1).toNat = v65.toInt.toNat by omega]
                    have ek : kV c v64.toInt = v65.toInt := (kV_1 (by omega)).trans (by omega)
                    refine qm_Rp.go 3 (c' := (89, [.ref 118, .int y, .int x, .int g, .int v64, .int v65, .int v66, .float 0, .float 0], [.int (-1), .int v66], h)) rfl ?_
                    refine hp_cne (ix := v66.toInt) (iy := (-1)) rfl rfl rfl (fun z77 => ?_) (fun z77 => by exfalso; omega)
                    refine qm_Rp.go 0 (c' := (94, [.ref 118, .int y, .int x, .int g, .int v64, .int v65, .int v66, .float 0, .float 0], [], h)) rfl ?_
                    have ab1 := hA v65.toInt.toNat (by omega) (by rw [eb]; omega)
                    rw [eb] at ab1
                    have ek_v66 : sp v66.toInt.toNat = v65.toInt := by rw [ab1.2]; omega
                    refine qm_Rp.go 1 (c' := (95, [.ref 118, .int y, .int x, .int g, .int v64, .int v65, .int v66, .float 0, .float 0], [.ref 118], h)) rfl ?_
                    refine hp_getr rfl (hH.1 118 (17, 105) rfl) rfl (hH.2 118 48 (some 149) rfl) ?_
                    refine qm_Rp.go 1 (c' := (100, [.ref 118, .int y, .int x, .int g, .int v64, .int v65, .int v66, .float 0, .float 0], [.int v66, .ref 149], h)) rfl ?_
                    obtain ⟨v78, q_v78⟩ : ∃ v_, h.2.1 149 v66.toInt.toNat = v_ := ⟨_, rfl⟩
                    refine hp_bal (v := v78) rfl (hH.1 149 (2, 30) rfl) q_v78 (fun ia_78 ib_78 => ?_)
                    refine qm_Rp.go 0 (c' := (101, [.ref 118, .int y, .int x, .int g, .int v64, .int v65, .int v66, .float 0, .float 0], [.int v78], h)) rfl ?_
                    have est : tk v66.toInt.toNat = v78.toInt := by rw [← eK]; exact congrArg Int32.toInt q_v78
                    refine hp_zeq (ix := v78.toInt) rfl rfl (fun z80 => ?_) (fun z80 => ?_)
                    · refine qm_Rp.go 8 (c' := (137, [.ref 118, .int y, .int x, .int g, .int v64, .int v65, .int v66, .int (-1), .int 1], [], h)) rfl ?_
                      have em : mV c tk v64.toInt = 1 := mV_1b (by omega) (by rw [ec1, est]; omega)
                      exact px_unB11 hH eW eH eS q_n hn hw hs q_lv q_B hB q_g0 q_g1 q_g2 eC eY eI hi4 eK q_cv q_l hc hA hb2 k0 k1 ⟨by omega, by omega⟩ ⟨by omega, by omega⟩ ⟨by omega, by omega⟩ ⟨by omega, by omega⟩ ⟨by omega, by omega⟩ ⟨by omega, by omega⟩ el ek eb em ab1 ek_v66
                    · refine qm_Rp.go 2 (c' := (108, [.ref 118, .int y, .int x, .int g, .int v64, .int v65, .int v66, .float 0, .float 0], [.int v64, .int v65], h)) rfl ?_
                      refine hp_cle (ix := v65.toInt) (iy := v64.toInt) rfl rfl rfl (fun z81 => ?_) (fun z81 => ?_)
                      · refine qm_Rp.go 8 (c' := (137, [.ref 118, .int y, .int x, .int g, .int v64, .int v65, .int v66, .int (-1), .int 1], [], h)) rfl ?_
                        have em : mV c tk v64.toInt = 1 := mV_1b (by omega) (by rw [ec1, est]; omega)
                        exact px_unB11 hH eW eH eS q_n hn hw hs q_lv q_B hB q_g0 q_g1 q_g2 eC eY eI hi4 eK q_cv q_l hc hA hb2 k0 k1 ⟨by omega, by omega⟩ ⟨by omega, by omega⟩ ⟨by omega, by omega⟩ ⟨by omega, by omega⟩ ⟨by omega, by omega⟩ ⟨by omega, by omega⟩ el ek eb em ab1 ek_v66
                      · refine qm_Rp.go 1 (c' := (112, [.ref 118, .int y, .int x, .int g, .int v64, .int v65, .int v66, .float 0, .float 0], [.ref 118], h)) rfl ?_
                        refine hp_getr rfl (hH.1 118 (17, 105) rfl) rfl (hH.2 118 51 (some 152) rfl) ?_
                        refine qm_Rp.go 1 (c' := (117, [.ref 118, .int y, .int x, .int g, .int v64, .int v65, .int v66, .float 0, .float 0], [.int v64, .ref 152], h)) rfl ?_
                        obtain ⟨v82, q_v82⟩ : ∃ v_, h.2.1 152 v64.toInt.toNat = v_ := ⟨_, rfl⟩
                        refine hp_ial (v := v82) rfl (hH.1 152 (0, 80) rfl) q_v82 (fun ia_82 ib_82 => ?_)
                        refine qm_Rp.go 0 (c' := (118, [.ref 118, .int y, .int x, .int g, .int v64, .int v65, .int v66, .float 0, .float 0], [.int v82], h)) rfl ?_
                        have etw : c v64.toInt.toNat = v82.toInt := by rw [← eC, show v64.toInt.toNat = v64.toInt.toNat by omega]; exact congrArg Int32.toInt q_v82
                        have bct := hc v64.toInt.toNat
                        rw [etw] at bct
                        have t0 := hb2 (v64.toInt.toNat / 2) (by omega) (by rw [show 2 * (v64.toInt.toNat / 2) + 1 = (v64.toInt + 1).toNat by omega, ec1]; omega)
                        rw [show 2 * (v64.toInt.toNat / 2) = v64.toInt.toNat by omega, etw] at t0
                        have ab2 := hA v64.toInt.toNat (by omega) (by rw [etw]; omega)
                        rw [etw] at ab2
                        have ek_v82 : sp v82.toInt.toNat = v64.toInt := by rw [ab2.2]; omega
                        have hne : v82.toInt.toNat ≠ v66.toInt.toNat := fun z => by rw [z, ab1.2] at ab2; omega
                        refine qm_Rp.go 4 (c' := (127, [.ref 118, .int y, .int x, .int g, .int v64, .int v65, .int v66, .int v82, .float 0], [.int (-1), .int v82], h)) rfl ?_
                        refine hp_cne (ix := v82.toInt) (iy := (-1)) rfl rfl rfl (fun z84 => ?_) (fun z84 => by exfalso; omega)
                        refine qm_Rp.go 2 (c' := (137, [.ref 118, .int y, .int x, .int g, .int v64, .int v65, .int v66, .int v82, .int 2], [], h)) rfl ?_
                        have em : mV c tk v64.toInt = 2 := mV_2 (by omega) (by rw [ec1, est]; omega)
                        exact px_unB12 hH eW eH eS q_n hn hw hs q_lv q_B hB q_g0 q_g1 q_g2 eC eY eI hi4 eK q_cv q_l hc hA hb2 k0 k2 ⟨by omega, by omega⟩ ⟨by omega, by omega⟩ ⟨by omega, by omega⟩ ⟨by omega, by omega⟩ ⟨by omega, by omega⟩ ⟨by omega, by omega⟩ el ek eb em ab1 ek_v66 ⟨by omega, by omega⟩ (by omega) ec1 etw ab2 ek_v82 hne
                · refine qm_Rp.go 2 (c' := (17, [.ref 118, .int y], [.int 1], h)) rfl ?_
                  refine qm_Rp.rt (v := (some (.int 1))) (h' := h) rfl ?_
                  refine qm_Rp.go 2 (c' := (46, [.ref 118, .int y, .int x, .int g, .float 0, .float 0, .float 0, .float 0, .float 0], [.int 2, .int v60], h)) rfl ?_
                  refine qm_Rp.go 2 (c' := (51, [.ref 118, .int y, .int x, .int g, .float 0, .float 0, .float 0, .float 0, .float 0], [.int (v60 + 2)], h)) rfl ?_
                  obtain ⟨v85, q_v85, e_v85⟩ := hk_add (x := v60) (y := 2) (a := v60.toInt) (b := 2) rfl rfl (by omega) (by omega)
                  rw [q_v85]
                  refine qm_Rp.go 1 (c' := (53, [.ref 118, .int y, .int x, .int g, .int v85, .float 0, .float 0, .float 0, .float 0], [], h)) rfl ?_
                  have el : lowV cv y x.toInt = v85.toInt := low_1 (cv := cv) (bay := y) (x := x.toInt) (k := v85.toInt) q_v61 q_v62 (by omega) (by omega)
                  refine qm_Rp.go 1 (c' := (54, [.ref 118, .int y, .int x, .int g, .int v85, .float 0, .float 0, .float 0, .float 0], [.ref 118], h)) rfl ?_
                  refine hp_getr rfl (hH.1 118 (17, 105) rfl) rfl (hH.2 118 51 (some 152) rfl) ?_
                  refine qm_Rp.go 3 (c' := (61, [.ref 118, .int y, .int x, .int g, .int v85, .float 0, .float 0, .float 0, .float 0], [.int (v85 + 1), .ref 152], h)) rfl ?_
                  obtain ⟨v86, q_v86, e_v86⟩ := hk_add (x := v85) (y := 1) (a := v85.toInt) (b := 1) rfl rfl (by omega) (by omega)
                  rw [q_v86]
                  obtain ⟨v87, q_v87⟩ : ∃ v_, h.2.1 152 v86.toInt.toNat = v_ := ⟨_, rfl⟩
                  refine hp_ial (v := v87) rfl (hH.1 152 (0, 80) rfl) q_v87 (fun ia_87 ib_87 => ?_)
                  refine qm_Rp.go 0 (c' := (62, [.ref 118, .int y, .int x, .int g, .int v85, .float 0, .float 0, .float 0, .float 0], [.int v87], h)) rfl ?_
                  have ec1 : c (v85.toInt + 1).toNat = v87.toInt := by rw [← eC, show (v85.toInt + 1).toNat = v86.toInt.toNat by omega]; exact congrArg Int32.toInt q_v87
                  have bc1 := hc (v85.toInt + 1).toNat
                  rw [ec1] at bc1
                  refine qm_Rp.go 1 (c' := (63, [.ref 118, .int y, .int x, .int g, .int v85, .float 0, .float 0, .float 0, .float 0], [.int (-1), .int v87], h)) rfl ?_
                  refine hp_ceq (ix := v87.toInt) (iy := (-1)) rfl rfl rfl (fun z89 => ?_) (fun z89 => ?_)
                  · refine qm_Rp.go 3 (c' := (78, [.ref 118, .int y, .int x, .int g, .int v85, .int v85, .float 0, .float 0, .float 0], [.ref 118], h)) rfl ?_
                    refine hp_getr rfl (hH.1 118 (17, 105) rfl) rfl (hH.2 118 51 (some 152) rfl) ?_
                    refine qm_Rp.go 1 (c' := (83, [.ref 118, .int y, .int x, .int g, .int v85, .int v85, .float 0, .float 0, .float 0], [.int v85, .ref 152], h)) rfl ?_
                    obtain ⟨v90, q_v90⟩ : ∃ v_, h.2.1 152 v85.toInt.toNat = v_ := ⟨_, rfl⟩
                    refine hp_ial (v := v90) rfl (hH.1 152 (0, 80) rfl) q_v90 (fun ia_90 ib_90 => ?_)
                    refine qm_Rp.go 0 (c' := (84, [.ref 118, .int y, .int x, .int g, .int v85, .int v85, .float 0, .float 0, .float 0], [.int v90], h)) rfl ?_
                    have eb : c v85.toInt.toNat = v90.toInt := by rw [← eC, show v85.toInt.toNat = v85.toInt.toNat by omega]; exact congrArg Int32.toInt q_v90
                    have bcb := hc v85.toInt.toNat
                    rw [eb] at bcb
                    have ek : kV c v85.toInt = v85.toInt := kV_0 (by omega)
                    refine qm_Rp.go 3 (c' := (89, [.ref 118, .int y, .int x, .int g, .int v85, .int v85, .int v90, .float 0, .float 0], [.int (-1), .int v90], h)) rfl ?_
                    refine hp_cne (ix := v90.toInt) (iy := (-1)) rfl rfl rfl (fun z92 => ?_) (fun z92 => ?_)
                    · refine qm_Rp.go 0 (c' := (94, [.ref 118, .int y, .int x, .int g, .int v85, .int v85, .int v90, .float 0, .float 0], [], h)) rfl ?_
                      have ab1 := hA v85.toInt.toNat (by omega) (by rw [eb]; omega)
                      rw [eb] at ab1
                      have ek_v90 : sp v90.toInt.toNat = v85.toInt := by rw [ab1.2]; omega
                      refine qm_Rp.go 1 (c' := (95, [.ref 118, .int y, .int x, .int g, .int v85, .int v85, .int v90, .float 0, .float 0], [.ref 118], h)) rfl ?_
                      refine hp_getr rfl (hH.1 118 (17, 105) rfl) rfl (hH.2 118 48 (some 149) rfl) ?_
                      refine qm_Rp.go 1 (c' := (100, [.ref 118, .int y, .int x, .int g, .int v85, .int v85, .int v90, .float 0, .float 0], [.int v90, .ref 149], h)) rfl ?_
                      obtain ⟨v93, q_v93⟩ : ∃ v_, h.2.1 149 v90.toInt.toNat = v_ := ⟨_, rfl⟩
                      refine hp_bal (v := v93) rfl (hH.1 149 (2, 30) rfl) q_v93 (fun ia_93 ib_93 => ?_)
                      refine qm_Rp.go 0 (c' := (101, [.ref 118, .int y, .int x, .int g, .int v85, .int v85, .int v90, .float 0, .float 0], [.int v93], h)) rfl ?_
                      have est : tk v90.toInt.toNat = v93.toInt := by rw [← eK]; exact congrArg Int32.toInt q_v93
                      refine hp_zeq (ix := v93.toInt) rfl rfl (fun z95 => ?_) (fun z95 => ?_)
                      · refine qm_Rp.go 8 (c' := (137, [.ref 118, .int y, .int x, .int g, .int v85, .int v85, .int v90, .int (-1), .int 1], [], h)) rfl ?_
                        have em : mV c tk v85.toInt = 1 := mV_1a (by omega)
                        exact px_unB11 hH eW eH eS q_n hn hw hs q_lv q_B hB q_g0 q_g1 q_g2 eC eY eI hi4 eK q_cv q_l hc hA hb2 k0 k1 ⟨by omega, by omega⟩ ⟨by omega, by omega⟩ ⟨by omega, by omega⟩ ⟨by omega, by omega⟩ ⟨by omega, by omega⟩ ⟨by omega, by omega⟩ el ek eb em ab1 ek_v90
                      · refine qm_Rp.go 2 (c' := (108, [.ref 118, .int y, .int x, .int g, .int v85, .int v85, .int v90, .float 0, .float 0], [.int v85, .int v85], h)) rfl ?_
                        refine hp_cle (ix := v85.toInt) (iy := v85.toInt) rfl rfl rfl (fun z96 => ?_) (fun z96 => by exfalso; omega)
                        refine qm_Rp.go 8 (c' := (137, [.ref 118, .int y, .int x, .int g, .int v85, .int v85, .int v90, .int (-1), .int 1], [], h)) rfl ?_
                        have em : mV c tk v85.toInt = 1 := mV_1a (by omega)
                        exact px_unB11 hH eW eH eS q_n hn hw hs q_lv q_B hB q_g0 q_g1 q_g2 eC eY eI hi4 eK q_cv q_l hc hA hb2 k0 k1 ⟨by omega, by omega⟩ ⟨by omega, by omega⟩ ⟨by omega, by omega⟩ ⟨by omega, by omega⟩ ⟨by omega, by omega⟩ ⟨by omega, by omega⟩ el ek eb em ab1 ek_v90
                    · refine qm_Rp.go 1 (c' := (93, [.ref 118, .int y, .int x, .int g, .int v85, .int v85, .int v90, .float 0, .float 0], [.int (-1)], h)) rfl ?_
                      refine qm_Rp.rt (v := (some (.int (-1)))) (h' := h) rfl ?_
                      exact k0 (h.2.1) (-1) (fun o ho i => rfl) (unl_b ⟨by omega, by omega, by omega, by omega, by omega, by omega⟩ (by rw [el, ek, eb]; omega)).symm (by decide) eH eS eC eY eI
                  · refine qm_Rp.go 3 (c' := (70, [.ref 118, .int y, .int x, .int g, .int v85, .float 0, .float 0, .float 0, .float 0], [.int (v85 + 1)], h)) rfl ?_
                    rw [q_v86]
                    refine qm_Rp.go 3 (c' := (78, [.ref 118, .int y, .int x, .int g, .int v85, .int v86, .float 0, .float 0, .float 0], [.ref 118], h)) rfl ?_
                    refine hp_getr rfl (hH.1 118 (17, 105) rfl) rfl (hH.2 118 51 (some 152) rfl) ?_
                    refine qm_Rp.go 1 (c' := (83, [.ref 118, .int y, .int x, .int g, .int v85, .int v86, .float 0, .float 0, .float 0], [.int v86, .ref 152], h)) rfl ?_
                    refine hp_ial (v := v87) rfl (hH.1 152 (0, 80) rfl) q_v87 (fun ia_96 ib_96 => ?_)
                    refine qm_Rp.go 0 (c' := (84, [.ref 118, .int y, .int x, .int g, .int v85, .int v86, .float 0, .float 0, .float 0], [.int v87], h)) rfl ?_
                    have eb : c v86.toInt.toNat = v87.toInt := by rw [← ec1, show (v85.toInt + 1).toNat = v86.toInt.toNat by omega]
                    have ek : kV c v85.toInt = v86.toInt := (kV_1 (by omega)).trans (by omega)
                    refine qm_Rp.go 3 (c' := (89, [.ref 118, .int y, .int x, .int g, .int v85, .int v86, .int v87, .float 0, .float 0], [.int (-1), .int v87], h)) rfl ?_
                    refine hp_cne (ix := v87.toInt) (iy := (-1)) rfl rfl rfl (fun z98 => ?_) (fun z98 => by exfalso; omega)
                    refine qm_Rp.go 0 (c' := (94, [.ref 118, .int y, .int x, .int g, .int v85, .int v86, .int v87, .float 0, .float 0], [], h)) rfl ?_
                    have ab1 := hA v86.toInt.toNat (by omega) (by rw [eb]; omega)
                    rw [eb] at ab1
                    have ek_v87 : sp v87.toInt.toNat = v86.toInt := by rw [ab1.2]; omega
                    refine qm_Rp.go 1 (c' := (95, [.ref 118, .int y, .int x, .int g, .int v85, .int v86, .int v87, .float 0, .float 0], [.ref 118], h)) rfl ?_
                    refine hp_getr rfl (hH.1 118 (17, 105) rfl) rfl (hH.2 118 48 (some 149) rfl) ?_
                    refine qm_Rp.go 1 (c' := (100, [.ref 118, .int y, .int x, .int g, .int v85, .int v86, .int v87, .float 0, .float 0], [.int v87, .ref 149], h)) rfl ?_
                    obtain ⟨v99, q_v99⟩ : ∃ v_, h.2.1 149 v87.toInt.toNat = v_ := ⟨_, rfl⟩
                    refine hp_bal (v := v99) rfl (hH.1 149 (2, 30) rfl) q_v99 (fun ia_99 ib_99 => ?_)
                    refine qm_Rp.go 0 (c' := (101, [.ref 118, .int y, .int x, .int g, .int v85, .int v86, .int v87, .float 0, .float 0], [.int v99], h)) rfl ?_
                    have est : tk v87.toInt.toNat = v99.toInt := by rw [← eK]; exact congrArg Int32.toInt q_v99
                    refine hp_zeq (ix := v99.toInt) rfl rfl (fun z101 => ?_) (fun z101 => ?_)
                    · refine qm_Rp.go 8 (c' := (137, [.ref 118, .int y, .int x, .int g, .int v85, .int v86, .int v87, .int (-1), .int 1], [], h)) rfl ?_
                      have em : mV c tk v85.toInt = 1 := mV_1b (by omega) (by rw [ec1, est]; omega)
                      exact px_unB11 hH eW eH eS q_n hn hw hs q_lv q_B hB q_g0 q_g1 q_g2 eC eY eI hi4 eK q_cv q_l hc hA hb2 k0 k1 ⟨by omega, by omega⟩ ⟨by omega, by omega⟩ ⟨by omega, by omega⟩ ⟨by omega, by omega⟩ ⟨by omega, by omega⟩ ⟨by omega, by omega⟩ el ek eb em ab1 ek_v87
                    · refine qm_Rp.go 2 (c' := (108, [.ref 118, .int y, .int x, .int g, .int v85, .int v86, .int v87, .float 0, .float 0], [.int v85, .int v86], h)) rfl ?_
                      refine hp_cle (ix := v86.toInt) (iy := v85.toInt) rfl rfl rfl (fun z102 => ?_) (fun z102 => ?_)
                      · refine qm_Rp.go 8 (c' := (137, [.ref 118, .int y, .int x, .int g, .int v85, .int v86, .int v87, .int (-1), .int 1], [], h)) rfl ?_
                        have em : mV c tk v85.toInt = 1 := mV_1b (by omega) (by rw [ec1, est]; omega)
                        exact px_unB11 hH eW eH eS q_n hn hw hs q_lv q_B hB q_g0 q_g1 q_g2 eC eY eI hi4 eK q_cv q_l hc hA hb2 k0 k1 ⟨by omega, by omega⟩ ⟨by omega, by omega⟩ ⟨by omega, by omega⟩ ⟨by omega, by omega⟩ ⟨by omega, by omega⟩ ⟨by omega, by omega⟩ el ek eb em ab1 ek_v87
                      · refine qm_Rp.go 1 (c' := (112, [.ref 118, .int y, .int x, .int g, .int v85, .int v86, .int v87, .float 0, .float 0], [.ref 118], h)) rfl ?_
                        refine hp_getr rfl (hH.1 118 (17, 105) rfl) rfl (hH.2 118 51 (some 152) rfl) ?_
                        refine qm_Rp.go 1 (c' := (117, [.ref 118, .int y, .int x, .int g, .int v85, .int v86, .int v87, .float 0, .float 0], [.int v85, .ref 152], h)) rfl ?_
                        obtain ⟨v103, q_v103⟩ : ∃ v_, h.2.1 152 v85.toInt.toNat = v_ := ⟨_, rfl⟩
                        refine hp_ial (v := v103) rfl (hH.1 152 (0, 80) rfl) q_v103 (fun ia_103 ib_103 => ?_)
                        refine qm_Rp.go 0 (c' := (118, [.ref 118, .int y, .int x, .int g, .int v85, .int v86, .int v87, .float 0, .float 0], [.int v103], h)) rfl ?_
                        have etw : c v85.toInt.toNat = v103.toInt := by rw [← eC, show v85.toInt.toNat = v85.toInt.toNat by omega]; exact congrArg Int32.toInt q_v103
                        have bct := hc v85.toInt.toNat
                        rw [etw] at bct
                        have t0 := hb2 (v85.toInt.toNat / 2) (by omega) (by rw [show 2 * (v85.toInt.toNat / 2) + 1 = (v85.toInt + 1).toNat by omega, ec1]; omega)
                        rw [show 2 * (v85.toInt.toNat / 2) = v85.toInt.toNat by omega, etw] at t0
                        have ab2 := hA v85.toInt.toNat (by omega) (by rw [etw]; omega)
                        rw [etw] at ab2
                        have ek_v103 : sp v103.toInt.toNat = v85.toInt := by rw [ab2.2]; omega
                        have hne : v103.toInt.toNat ≠ v87.toInt.toNat := fun z => by rw [z, ab1.2] at ab2; omega
                        refine qm_Rp.go 4 (c' := (127, [.ref 118, .int y, .int x, .int g, .int v85, .int v86, .int v87, .int v103, .float 0], [.int (-1), .int v103], h)) rfl ?_
                        refine hp_cne (ix := v103.toInt) (iy := (-1)) rfl rfl rfl (fun z105 => ?_) (fun z105 => by exfalso; omega)
                        refine qm_Rp.go 2 (c' := (137, [.ref 118, .int y, .int x, .int g, .int v85, .int v86, .int v87, .int v103, .int 2], [], h)) rfl ?_
                        have em : mV c tk v85.toInt = 2 := mV_2 (by omega) (by rw [ec1, est]; omega)
                        exact px_unB12 hH eW eH eS q_n hn hw hs q_lv q_B hB q_g0 q_g1 q_g2 eC eY eI hi4 eK q_cv q_l hc hA hb2 k0 k2 ⟨by omega, by omega⟩ ⟨by omega, by omega⟩ ⟨by omega, by omega⟩ ⟨by omega, by omega⟩ ⟨by omega, by omega⟩ ⟨by omega, by omega⟩ el ek eb em ab1 ek_v87 ⟨by omega, by omega⟩ (by omega) ec1 etw ab2 ek_v103 hne
