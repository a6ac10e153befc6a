/-! boxes made, stored, fetched; covers; locks: class and reference the same -/
/-- a box aboard is what stands at its place -/
noncomputable def zO (wh sp c : Nat → Int) : Prop := ∀ b : Nat, wh b = 1 → c (sp b).toNat = (b : Int)
theorem zO_cg {wh sp c wh' sp' : Nat → Int} (h : zO wh sp c) (e : ∀ x, wh' x = 1 → wh x = 1 ∧ sp' x = sp x) : zO wh' sp' c := fun x hx => by
  obtain ⟨e1, e2⟩ := e x hx
  rw [e2]
  exact h x e1
theorem zO_on {wh sp c : Nat → Int} {b : Nat} {s v : Int} (h : zO wh sp c) (hc : c s.toNat = -1) (hv : v = (b : Int)) : zO (fu_up wh b 1) (fu_up sp b s) (fu_up c s.toNat v) := fun x hx => by
  by_cases e : x = b
  · subst e
    rw [fu_eq, fu_eq, hv]
  · rw [fu_ne e] at hx
    have k := h x hx
    rw [fu_ne e, fu_ne (fun z => by
      rw [z] at k
      omega)]
    exact k
theorem zO_off {wh sp c sp' wh' : Nat → Int} {k : Nat} (h : zO wh sp c) (hw : ∀ x : Nat, wh' x = 1 → wh x = 1 ∧ (x : Int) ≠ c k) (hs : ∀ x : Nat, (x : Int) ≠ c k → sp' x = sp x) : zO wh' sp' (fu_up c k (-1)) := fun x hx => by
  obtain ⟨e1, e2⟩ := hw x hx
  have q := h x e1
  rw [hs x e2, fu_ne (fun z => by
    rw [z] at q
    exact e2 q.symm)]
  exact q
/-- locks of boxes to come are open; boxes weigh something; a box aboard stands at its place -/
noncomputable def zK (A : Nat → Nat → Int) : Prop := (∀ b : Nat, A 118 44 ≤ (b : Int) → A 149 b = 0) ∧ (∀ b : Nat, (b : Int) < A 118 44 → 1 ≤ A 146 b) ∧ zO (A 150) (A 151) (A 152)
noncomputable def mkS (A : Nat → Nat → Int) (w p s : Int) : Nat → Nat → Int := aS (aS (aS (aS (aS (aS A 146 (fu_up (A 146) (A 118 44).toNat w)) 147 (fu_up (A 147) (A 118 44).toNat p)) 148 (fu_up (A 148) (A 118 44).toNat s)) 149 (fu_up (A 149) (A 118 44).toNat 0)) 150 (fu_up (A 150) (A 118 44).toNat 0)) 118 (fu_up (A 118) 44 (A 118 44 + 1))
noncomputable def stS (A : Nat → Nat → Int) (b g : Int) : Nat → Nat → Int := aS (aS (aS (aS A 150 (fu_up (A 150) b.toNat 2)) 151 (fu_up (A 151) b.toNat (4 * g + A 154 g.toNat))) 153 (fu_up (A 153) (4 * g + A 154 g.toNat).toNat b)) 154 (fu_up (A 154) g.toNat (A 154 g.toNat + 1))
noncomputable def feS (A : Nat → Nat → Int) (b g : Int) : Nat → Nat → Int := aS (aS A 150 (fu_up (A 150) b.toNat 0)) 154 (fu_up (A 154) g.toNat (A 154 g.toNat - 1))
noncomputable def cvS (A : Nat → Nat → Int) (v : Int) : Nat → Nat → Int := aS A 118 (fu_up (A 118) 54 v)
noncomputable def skS (A : Nat → Nat → Int) (b : Nat) (v : Int) : Nat → Nat → Int := aS A 149 (fu_up (A 149) b v)
section QB
variable {A : Nat → Nat → Int} {I I' : Nat → Nat → Int32} {s : Nat}
theorem mk_zC {n w p s : Int} {n2 : Int32} (hc : zC A I) (hk : zK A) (hn : 0 ≤ A 118 44) (e10 : pI I' 10 = pI I 10) (e36 : pI I' 36 = pI I 36) (e16 : pI I' 16 = pI I 16) (e17 : pI I' 17 = pI I 17) (e37 : pI I' 37 = pI I 37) (e4 : I' 28 4 = I 28 4) (e5 : I' 28 5 = I 28 5) (e6 : I' 28 6 = I 28 6) (q6 : I' 6 0 = n2) (x6 : n2.toInt = n + 1) (en : n = A 118 44) (x7 : pI I' 7 = fu_up (pI I 7) n.toNat w) (x8 : pI I' 8 = fu_up (pI I 8) n.toNat p) (x9 : pI I' 9 = fu_up (pI I 9) n.toNat s) (x11 : pI I' 11 = fu_up (pI I 11) n.toNat 0) (x12 : pI I' 12 = fu_up (pI I 12) n.toNat (-1)) (x13 : pI I' 13 = fu_up (pI I 13) n.toNat (-1)) (x14 : pI I' 14 = fu_up (pI I 14) n.toNat (-1)) : zC (mkS A w p s) I' := by
  subst en
  obtain ⟨⟨c1, c2, c3, c4, c5, c6, c7, c8⟩, ⟨c9, c10⟩, hp, hs⟩ := hc
  refine ⟨⟨by rw [x7, c1]; rfl, by rw [x8, c2]; rfl, by rw [x9, c3]; rfl, ?_, by rw [x11, c5]; rfl, e36.trans c6, e16.trans c7, e17.trans c8⟩, ⟨by rw [e4]; exact c9, by rw [q6, x6]; rfl⟩, ?_, ?_⟩
  · rw [e10, c4]
    show A 149 = fu_up (A 149) (A 118 44).toNat 0
    exact (fu_si (hk.1 _ (by omega))).symm
  · show zPos (fu_up (A 150) (A 118 44).toNat 0) (A 151) (pI I' 12) (pI I' 13) (pI I' 14) (A 118 44 + 1)
    rw [x12, x13, x14]
    exact zPos_new hp (by omega)
  · show zSum (I' 28 5).toInt (I' 28 6).toInt (pI I' 37) (fu_up (A 146) (A 118 44).toNat w) (fu_up (A 150) (A 118 44).toNat 0) (A 151) (A 118 44 + 1).toNat
    rw [e5, e6, e37, show (A 118 44 + 1).toNat = (A 118 44).toNat + 1 by omega]
    exact zSum_new hs
theorem mk_zK {w p s : Int} (hk : zK A) (hn : 0 ≤ A 118 44) (hw : 1 ≤ w) : zK (mkS A w p s) := by
  refine ⟨fun b hb => ?_, fun b hb => ?_, ?_⟩
  · have hb : A 118 44 + 1 ≤ (b : Int) := hb
    show fu_up (A 149) (A 118 44).toNat 0 b = 0
    rw [fu_ne (by omega)]
    exact hk.1 b (by omega)
  · have hb : (b : Int) < A 118 44 + 1 := hb
    show 1 ≤ fu_up (A 146) (A 118 44).toNat w b
    by_cases e : b = (A 118 44).toNat
    · subst e
      rw [fu_eq]
      exact hw
    · rw [fu_ne e]
      exact hk.2.1 b (by omega)
  · show zO (fu_up (A 150) (A 118 44).toNat 0) (A 151) (A 152)
    refine zO_cg hk.2.2 (fun x hx => ?_)
    by_cases e : x = (A 118 44).toNat
    · subst e
      rw [fu_eq] at hx
      omega
    · rw [fu_ne e] at hx
      exact ⟨hx, rfl⟩
theorem st_zC {n b g : Int} (hc : zC A I) (hb : 0 ≤ b) (hw : A 150 b.toNat = 0) (hg : 0 ≤ g ∧ g ≤ 3) (h4 : 0 ≤ A 154 g.toNat ∧ A 154 g.toNat ≤ 3) (e7 : pI I' 7 = pI I 7) (e8 : pI I' 8 = pI I 8) (e9 : pI I' 9 = pI I 9) (e10 : pI I' 10 = pI I 10) (e36 : pI I' 36 = pI I 36) (e37 : pI I' 37 = pI I 37) (e4 : I' 28 4 = I 28 4) (e5 : I' 28 5 = I 28 5) (e6 : I' 28 6 = I 28 6) (e0 : I' 6 0 = I 6 0) (x11 : pI I' 11 = fu_up (pI I 11) b.toNat 2) (x12 : pI I' 12 = fu_up (pI I 12) b.toNat g) (x13 : pI I' 13 = fu_up (pI I 13) b.toNat (-1)) (x14 : pI I' 14 = fu_up (pI I 14) b.toNat (pI I 17 g.toNat)) (x16 : pI I' 16 = fu_up (pI I 16) (4 * g + pI I 17 g.toNat).toNat b) (x17 : pI I' 17 = fu_up (pI I 17) g.toNat (pI I 17 g.toNat + 1)) : zC (stS A b g) I' := by
  obtain ⟨⟨c1, c2, c3, c4, c5, c6, c7, c8⟩, ⟨c9, c10⟩, hp, hs⟩ := hc
  rw [c8] at x14 x16 x17
  refine ⟨⟨e7.trans c1, e8.trans c2, e9.trans c3, e10.trans c4, by rw [x11, c5]; rfl, e36.trans c6, by rw [x16, c7]; rfl, x17⟩, ⟨by rw [e4]; exact c9, by rw [e0]; exact c10⟩, ?_, ?_⟩
  · show zPos (fu_up (A 150) b.toNat 2) (fu_up (A 151) b.toNat (4 * g + A 154 g.toNat)) (pI I' 12) (pI I' 13) (pI I' 14) (A 118 44)
    rw [x12, x13, x14]
    exact zPos_yard hp rfl hg h4
  · show zSum (I' 28 5).toInt (I' 28 6).toInt (pI I' 37) (A 146) (fu_up (A 150) b.toNat 2) (fu_up (A 151) b.toNat (4 * g + A 154 g.toNat)) (A 118 44).toNat
    rw [e5, e6, e37]
    exact zSum_no hs (by omega) (by omega)
theorem fe_zC {b g : Int} (hc : zC A I) (hw : A 150 b.toNat = 2) (e7 : pI I' 7 = pI I 7) (e8 : pI I' 8 = pI I 8) (e9 : pI I' 9 = pI I 9) (e10 : pI I' 10 = pI I 10) (e36 : pI I' 36 = pI I 36) (e16 : pI I' 16 = pI I 16) (e37 : pI I' 37 = pI I 37) (e4 : I' 28 4 = I 28 4) (e5 : I' 28 5 = I 28 5) (e6 : I' 28 6 = I 28 6) (e0 : I' 6 0 = I 6 0) (x11 : pI I' 11 = fu_up (pI I 11) b.toNat 0) (x12 : pI I' 12 = fu_up (pI I 12) b.toNat (-1)) (x13 : pI I' 13 = fu_up (pI I 13) b.toNat (-1)) (x14 : pI I' 14 = fu_up (pI I 14) b.toNat (-1)) (x17 : pI I' 17 = fu_up (pI I 17) g.toNat (pI I 17 g.toNat - 1)) : zC (feS A b g) I' := by
  obtain ⟨⟨c1, c2, c3, c4, c5, c6, c7, c8⟩, ⟨c9, c10⟩, hp, hs⟩ := hc
  rw [c8] at x17
  refine ⟨⟨e7.trans c1, e8.trans c2, e9.trans c3, e10.trans c4, by rw [x11, c5]; rfl, e36.trans c6, e16.trans c7, x17⟩, ⟨by rw [e4]; exact c9, by rw [e0]; exact c10⟩, ?_, ?_⟩
  · show zPos (fu_up (A 150) b.toNat 0) (A 151) (pI I' 12) (pI I' 13) (pI I' 14) (A 118 44)
    rw [x12, x13, x14]
    exact zPos_away hp
  · show zSum (I' 28 5).toInt (I' 28 6).toInt (pI I' 37) (A 146) (fu_up (A 150) b.toNat 0) (A 151) (A 118 44).toNat
    rw [e5, e6, e37]
    have k := zSum_no (b := b.toNat) (v := 0) (s := A 151 b.toNat) hs (by omega) (by omega)
    rw [fu_id] at k
    exact k
theorem cv_zC {v : Int} {v2 : Int32} (hc : zC A I) (e : ∀ o, [28].contains o = false → ∀ i, I' o i = I o i) (e28 : ∀ i, [4].contains i = false → I' 28 i = I 28 i) (q : I' 28 4 = v2) (hv : v2.toInt = v) : zC (cvS A v) I' := by
  obtain ⟨⟨c1, c2, c3, c4, c5, c6, c7, c8⟩, ⟨c9, c10⟩, hp, hs⟩ := hc
  have f : ∀ o, [28].contains o = false → pI I' o = pI I o := fun o ho => funext fun i => congrArg Int32.toInt (e o ho i)
  refine ⟨⟨(f 7 rfl).trans c1, (f 8 rfl).trans c2, (f 9 rfl).trans c3, (f 10 rfl).trans c4, (f 11 rfl).trans c5, (f 36 rfl).trans c6, (f 16 rfl).trans c7, (f 17 rfl).trans c8⟩, ⟨by rw [q, hv]; rfl, by rw [e 6 rfl 0]; exact c10⟩, ?_, ?_⟩
  · show zPos (A 150) (A 151) (pI I' 12) (pI I' 13) (pI I' 14) (A 118 44)
    rw [f 12 rfl, f 13 rfl, f 14 rfl]
    exact hp
  · show zSum (I' 28 5).toInt (I' 28 6).toInt (pI I' 37) (A 146) (A 150) (A 151) (A 118 44).toNat
    rw [e28 5 rfl, e28 6 rfl, f 37 rfl]
    exact hs
theorem sk_zC {b : Nat} {v : Int} (hc : zC A I) (e : ∀ o, [10].contains o = false → ∀ i, I' o i = I o i) (x10 : pI I' 10 = fu_up (pI I 10) b v) : zC (skS A b v) I' := by
  obtain ⟨⟨c1, c2, c3, c4, c5, c6, c7, c8⟩, ⟨c9, c10⟩, hp, hs⟩ := hc
  have f : ∀ o, [10].contains o = false → pI I' o = pI I o := fun o ho => funext fun i => congrArg Int32.toInt (e o ho i)
  refine ⟨⟨(f 7 rfl).trans c1, (f 8 rfl).trans c2, (f 9 rfl).trans c3, by rw [x10, c4]; rfl, (f 11 rfl).trans c5, (f 36 rfl).trans c6, (f 16 rfl).trans c7, (f 17 rfl).trans c8⟩, ⟨by rw [e 28 rfl 4]; exact c9, by rw [e 6 rfl 0]; exact c10⟩, ?_, ?_⟩
  · show zPos (A 150) (A 151) (pI I' 12) (pI I' 13) (pI I' 14) (A 118 44)
    rw [f 12 rfl, f 13 rfl, f 14 rfl]
    exact hp
  · show zSum (I' 28 5).toInt (I' 28 6).toInt (pI I' 37) (A 146) (A 150) (A 151) (A 118 44).toNat
    rw [e 28 rfl 5, e 28 rfl 6, f 37 rfl]
    exact hs
end QB
