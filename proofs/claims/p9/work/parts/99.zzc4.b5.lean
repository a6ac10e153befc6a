/-! class and reference: the same boxes, ship, yard: pure -/
/-- cells as functions: object o is f -/
noncomputable def aS (A : Nat → Nat → Int) (o : Nat) (f : Nat → Int) : Nat → Nat → Int := fun o' => bif Nat.beq o' o then f else A o'
theorem aS_eq {A : Nat → Nat → Int} {o : Nat} {f : Nat → Int} : aS A o f o = f := by
  unfold aS
  rw [Nat.beq_refl]
  rfl
theorem aS_ne {A : Nat → Nat → Int} {o o' : Nat} {f : Nat → Int} (h : Nat.beq o' o = false) : aS A o f o' = A o' := by
  unfold aS
  rw [h]
  rfl
/-- where boxes stand: the reference's spot, the class's bay, row, tier -/
noncomputable def zPos (wh sp yb rb tb : Nat → Int) (n : Int) : Prop := ∀ b : Nat, (wh b = 1 → sp b = 16 * yb b + 4 * rb b + tb b ∧ (0 ≤ yb b ∧ yb b ≤ 4) ∧ (0 ≤ rb b ∧ rb b ≤ 3) ∧ (0 ≤ tb b ∧ tb b ≤ 3)) ∧ (wh b = 2 → sp b = 4 * yb b + tb b ∧ rb b = -1 ∧ (0 ≤ yb b ∧ yb b ≤ 3) ∧ (0 ≤ tb b ∧ tb b ≤ 3)) ∧ (wh b = 0 → (b : Int) < n → yb b = -1 ∧ rb b = -1 ∧ tb b = -1)
/-- the sums that the class keeps -/
noncomputable def zSum (l a : Int) (bw w wh sp : Nat → Int) (n : Nat) : Prop := l = zL w wh sp n ∧ a = zA w wh sp n ∧ ∀ c : Nat, c < 5 → bw c = zB w wh sp n c
section ZM
variable {wh sp yb rb tb w : Nat → Int} {n : Int} {b : Nat}
theorem zPos_on {y r t s : Int} (h : zPos wh sp yb rb tb n) (hs : s = 16 * y + 4 * r + t) (hy : 0 ≤ y ∧ y ≤ 4) (hr : 0 ≤ r ∧ r ≤ 3) (ht : 0 ≤ t ∧ t ≤ 3) : zPos (fu_up wh b 1) (fu_up sp b s) (fu_up yb b y) (fu_up rb b r) (fu_up tb b t) n := fun x => by
  by_cases e : x = b
  · subst e
    rw [fu_eq, fu_eq, fu_eq, fu_eq, fu_eq]
    exact ⟨fun _ => ⟨hs, hy, hr, ht⟩, fun z => by omega, fun z => by omega⟩
  · rw [fu_ne e, fu_ne e, fu_ne e, fu_ne e, fu_ne e]
    exact h x
theorem zPos_yard {y t s : Int} (h : zPos wh sp yb rb tb n) (hs : s = 4 * y + t) (hy : 0 ≤ y ∧ y ≤ 3) (ht : 0 ≤ t ∧ t ≤ 3) : zPos (fu_up wh b 2) (fu_up sp b s) (fu_up yb b y) (fu_up rb b (-1)) (fu_up tb b t) n := fun x => by
  by_cases e : x = b
  · subst e
    rw [fu_eq, fu_eq, fu_eq, fu_eq, fu_eq]
    exact ⟨fun z => by omega, fun _ => ⟨hs, rfl, hy, ht⟩, fun z => by omega⟩
  · rw [fu_ne e, fu_ne e, fu_ne e, fu_ne e, fu_ne e]
    exact h x
theorem zPos_away (h : zPos wh sp yb rb tb n) : zPos (fu_up wh b 0) sp (fu_up yb b (-1)) (fu_up rb b (-1)) (fu_up tb b (-1)) n := fun x => by
  by_cases e : x = b
  · subst e
    rw [fu_eq, fu_eq, fu_eq, fu_eq]
    exact ⟨fun z => by omega, fun z => by omega, fun _ _ => ⟨rfl, rfl, rfl⟩⟩
  · rw [fu_ne e, fu_ne e, fu_ne e, fu_ne e]
    exact h x
theorem zPos_sp {s : Int} (h : zPos wh sp yb rb tb n) (hw : wh b = 0) : zPos wh (fu_up sp b s) yb rb tb n := fun x => by
  by_cases e : x = b
  · subst e
    have k := h x
    exact ⟨fun z => by omega, fun z => by omega, k.2.2⟩
  · rw [fu_ne e]
    exact h x
theorem zPos_new (h : zPos wh sp yb rb tb n) (hb : (b : Int) = n) : zPos (fu_up wh b 0) sp (fu_up yb b (-1)) (fu_up rb b (-1)) (fu_up tb b (-1)) (n + 1) := fun x => by
  by_cases e : x = b
  · subst e
    rw [fu_eq, fu_eq, fu_eq, fu_eq]
    exact ⟨fun z => by omega, fun z => by omega, fun _ _ => ⟨rfl, rfl, rfl⟩⟩
  · rw [fu_ne e, fu_ne e, fu_ne e, fu_ne e]
    have k := h x
    exact ⟨k.1, k.2.1, fun z z2 => k.2.2 z (by omega)⟩
variable {l a : Int} {bw : Nat → Int} {m : Nat}
theorem zSum_on {s : Int} (h : zSum l a bw w wh sp m) (hb : b < m) (hw : wh b ≠ 1) (hs : 0 ≤ s ∧ s ≤ 79) : zSum (l + pL (w b) s) (a + w b) (fu_up bw (s / 16).toNat (bw (s / 16).toNat + w b)) w (fu_up wh b 1) (fu_up sp b s) m := by
  obtain ⟨h1, h2, h3⟩ := h
  refine ⟨?_, ?_, fun c hc => ?_⟩
  · show _ = nS (wF pL w (fu_up wh b 1) (fu_up sp b s)) m
    rw [wF_on hb hw, h1]
    rfl
  · show _ = nS (wF pA w (fu_up wh b 1) (fu_up sp b s)) m
    rw [wF_on hb hw, h2]
    rfl
  · show _ = nS (wF (pB c) w (fu_up wh b 1) (fu_up sp b s)) m
    rw [wF_on hb hw]
    have q : bw c = nS (wF (pB c) w wh sp) m := h3 c hc
    by_cases e : c = (s / 16).toNat
    · subst e
      rw [fu_eq, q]
      unfold pB
      rw [if_pos (by omega)]
    · rw [fu_ne e, q]
      unfold pB
      rw [if_neg (by omega)]
      omega
theorem zSum_off {v : Int} (h : zSum l a bw w wh sp m) (hb : b < m) (hw : wh b = 1) (hv : v ≠ 1) (hs : 0 ≤ sp b ∧ sp b ≤ 79) : zSum (l - pL (w b) (sp b)) (a - w b) (fu_up bw (sp b / 16).toNat (bw (sp b / 16).toNat + -w b)) w (fu_up wh b v) sp m := by
  obtain ⟨h1, h2, h3⟩ := h
  refine ⟨?_, ?_, fun c hc => ?_⟩
  · show _ = nS (wF pL w (fu_up wh b v) sp) m
    rw [wF_off hb hw hv, h1]
    rfl
  · show _ = nS (wF pA w (fu_up wh b v) sp) m
    rw [wF_off hb hw hv, h2]
    rfl
  · show _ = nS (wF (pB c) w (fu_up wh b v) sp) m
    rw [wF_off hb hw hv]
    have q : bw c = nS (wF (pB c) w wh sp) m := h3 c hc
    by_cases e : c = (sp b / 16).toNat
    · subst e
      rw [fu_eq, q]
      unfold pB
      rw [if_pos (by omega)]
      omega
    · rw [fu_ne e, q]
      unfold pB
      rw [if_neg (by omega)]
      omega
theorem zSum_no {v s : Int} (h : zSum l a bw w wh sp m) (hw : wh b ≠ 1) (hv : v ≠ 1) : zSum l a bw w (fu_up wh b v) (fu_up sp b s) m := by
  obtain ⟨h1, h2, h3⟩ := h
  refine ⟨h1.trans ?_, h2.trans ?_, fun c hc => (h3 c hc).trans ?_⟩
  · exact (wF_no hw hv).symm
  · exact (wF_no hw hv).symm
  · exact (wF_no hw hv).symm
theorem zSum_cg {wh' sp' : Nat → Int} (h : zSum l a bw w wh sp m) (e : ∀ x, x < m → wh x = wh' x ∧ (wh x = 1 → sp x = sp' x)) : zSum l a bw w wh' sp' m := by
  obtain ⟨h1, h2, h3⟩ := h
  have k : ∀ p : Int → Int → Int, nS (wF p w wh sp) m = nS (wF p w wh' sp') m := fun p => wF_cg (fun x hx => ⟨(e x hx).1, fun z => ⟨rfl, (e x hx).2 z⟩⟩)
  exact ⟨h1.trans (k _), h2.trans (k _), fun c hc => (h3 c hc).trans (k _)⟩
theorem zSum_new {v : Int} (h : zSum l a bw w wh sp m) : zSum l a bw (fu_up w m v) (fu_up wh m 0) sp (m + 1) := by
  obtain ⟨h1, h2, h3⟩ := h
  have k : ∀ p : Int → Int → Int, nS (wF p (fu_up w m v) (fu_up wh m 0) sp) (m + 1) = nS (wF p w wh sp) m := fun p => by
    show nS (wF p (fu_up w m v) (fu_up wh m 0) sp) m + wF p (fu_up w m v) (fu_up wh m 0) sp m = _
    rw [show wF p (fu_up w m v) (fu_up wh m 0) sp m = 0 from if_neg (by rw [fu_eq]; omega), wF_cg (wt' := w) (wh' := wh) (sp' := sp) (fun x hx => ⟨fu_ne (by omega), fun _ => ⟨fu_ne (by omega), rfl⟩⟩)]
    omega
  exact ⟨h1.trans (k _).symm, h2.trans (k _).symm, fun c hc => (h3 c hc).trans (k _).symm⟩
end ZM
/-- may the ship be so: as the class reckons it, a box coming on at s -/
theorem may_on {B g0 g1 g2 l a : Int} {bw w wh sp : Nat → Int} {m b : Nat} {s y x : Int} (h : zSum l a bw w wh sp m) (hb : b < m) (hw : wh b ≠ 1) (hB : 1 ≤ B ∧ B ≤ 5) (hs : 0 ≤ s ∧ s ≤ 79) (hy : s / 16 = y) (hx : s / 4 % 4 = x) (hsp : ∀ b, 0 ≤ sp b ∧ sp b ≤ 79) : mayC B g0 g1 g2 l a bw y x (w b) ↔ mayP B g0 g1 g2 (ab (zL w wh sp m)) (ab (zT B w wh sp m)) (zD B w wh sp m) w (fu_up wh b 1) (fu_up sp b s) m := by
  have h' := zSum_on h hb hw hs
  obtain ⟨h1, h2, h3⟩ := h
  obtain ⟨k1, k2, k3⟩ := h'
  have e1 : l + w b * (2 * x - 3) = zL w (fu_up wh b 1) (fu_up sp b s) m := by
    rw [← k1]
    show _ = l + w b * (2 * (s / 4 % 4) - 3)
    rw [hx]
  have t5 : ∀ f : Nat → Int, nS (cF B f) 5 = f 0 * (1 - B) + f 1 * (3 - B) + f 2 * (5 - B) + f 3 * (7 - B) + f 4 * (9 - B) := fun f => by
    show (0 : Int) + f 0 * (2 * ((0 : Nat) : Int) + 1 - B) + f 1 * (2 * ((1 : Nat) : Int) + 1 - B) + f 2 * (2 * ((2 : Nat) : Int) + 1 - B) + f 3 * (2 * ((3 : Nat) : Int) + 1 - B) + f 4 * (2 * ((4 : Nat) : Int) + 1 - B) = _
    rw [show 2 * ((0 : Nat) : Int) + 1 - B = 1 - B by omega, show 2 * ((1 : Nat) : Int) + 1 - B = 3 - B by omega, show 2 * ((2 : Nat) : Int) + 1 - B = 5 - B by omega, show 2 * ((3 : Nat) : Int) + 1 - B = 7 - B by omega, show 2 * ((4 : Nat) : Int) + 1 - B = 9 - B by omega]
    omega
  have z0 : nS (cF B bw) 5 = zT B w wh sp m := by
    rw [t5, h3 0 (by omega), h3 1 (by omega), h3 2 (by omega), h3 3 (by omega), h3 4 (by omega)]
    exact (zT_5 (fun b _ _ => hsp b)).symm
  have e2 : cT B bw y (w b) = zT B w (fu_up wh b 1) (fu_up sp b s) m := by
    unfold cT
    rw [z0]
    show _ = nS (wF (pT B) w (fu_up wh b 1) (fu_up sp b s)) m
    rw [wF_on hb hw, ← hy]
    show w b * (2 * (s / 16) + 1 - B) + zT B w wh sp m = zT B w wh sp m + w b * (2 * (s / 16) + 1 - B)
    omega
  have e3 : cT B bw y 0 = zT B w wh sp m := by
    unfold cT
    rw [z0, Int.zero_mul]
    omega
  have e4 : cD B a bw y (w b) = zD B w (fu_up wh b 1) (fu_up sp b s) m := by
    unfold cD zD
    rw [k2]
    refine bnM_cg (fun c hc => ?_)
    rw [← k3 c (by omega)]
    unfold cE
    by_cases e : c = (s / 16).toNat
    · subst e
      rw [fu_eq, if_pos (by omega)]
    · rw [fu_ne e, if_neg (by omega)]
      omega
  have e5 : cD B a bw y 0 = zD B w wh sp m := by
    unfold cD zD
    rw [h2, Int.add_zero]
    refine bnM_cg (fun c hc => ?_)
    rw [← h3 c (by omega)]
    unfold cE
    split <;> omega
  unfold mayC mayP bo nw
  rw [e1, e2, e3, e4, e5, h1]
/-- .. a box that is aboard leaving -/
theorem may_off {B g0 g1 g2 l a : Int} {bw w wh sp : Nat → Int} {m b : Nat} {y x : Int} (h : zSum l a bw w wh sp m) (hb : b < m) (hw : wh b = 1) (hB : 1 ≤ B ∧ B ≤ 5) (hy : sp b / 16 = y) (hx : sp b / 4 % 4 = x) (hsp : ∀ b, 0 ≤ sp b ∧ sp b ≤ 79) : mayC B g0 g1 g2 l a bw y x (-w b) ↔ mayP B g0 g1 g2 (ab (zL w wh sp m)) (ab (zT B w wh sp m)) (zD B w wh sp m) w (fu_up wh b 0) sp m := by
  have h' := zSum_off (v := 0) h hb hw (by omega) (hsp b)
  obtain ⟨h1, h2, h3⟩ := h
  obtain ⟨k1, k2, k3⟩ := h'
  have e1 : l + -w b * (2 * x - 3) = zL w (fu_up wh b 0) sp m := by
    rw [← k1, Int.neg_mul]
    show _ = l - w b * (2 * (sp b / 4 % 4) - 3)
    rw [hx]
    omega
  have t5 : ∀ f : Nat → Int, nS (cF B f) 5 = f 0 * (1 - B) + f 1 * (3 - B) + f 2 * (5 - B) + f 3 * (7 - B) + f 4 * (9 - B) := fun f => by
    show (0 : Int) + f 0 * (2 * ((0 : Nat) : Int) + 1 - B) + f 1 * (2 * ((1 : Nat) : Int) + 1 - B) + f 2 * (2 * ((2 : Nat) : Int) + 1 - B) + f 3 * (2 * ((3 : Nat) : Int) + 1 - B) + f 4 * (2 * ((4 : Nat) : Int) + 1 - B) = _
    rw [show 2 * ((0 : Nat) : Int) + 1 - B = 1 - B by omega, show 2 * ((1 : Nat) : Int) + 1 - B = 3 - B by omega, show 2 * ((2 : Nat) : Int) + 1 - B = 5 - B by omega, show 2 * ((3 : Nat) : Int) + 1 - B = 7 - B by omega, show 2 * ((4 : Nat) : Int) + 1 - B = 9 - B by omega]
    omega
  have z0 : nS (cF B bw) 5 = zT B w wh sp m := by
    rw [t5, h3 0 (by omega), h3 1 (by omega), h3 2 (by omega), h3 3 (by omega), h3 4 (by omega)]
    exact (zT_5 (fun b _ _ => hsp b)).symm
  have e2 : cT B bw y (-w b) = zT B w (fu_up wh b 0) sp m := by
    unfold cT
    rw [z0]
    show _ = nS (wF (pT B) w (fu_up wh b 0) sp) m
    rw [wF_off hb hw (by omega), ← hy, Int.neg_mul]
    show -(w b * (2 * (sp b / 16) + 1 - B)) + zT B w wh sp m = zT B w wh sp m - w b * (2 * (sp b / 16) + 1 - B)
    omega
  have e3 : cT B bw y 0 = zT B w wh sp m := by
    unfold cT
    rw [z0, Int.zero_mul]
    omega
  have e4 : cD B a bw y (-w b) = zD B w (fu_up wh b 0) sp m := by
    unfold cD zD
    rw [show a + -w b = a - w b by omega, k2]
    refine bnM_cg (fun c hc => ?_)
    rw [← k3 c (by omega)]
    unfold cE
    have hs := hsp b
    by_cases e : c = (sp b / 16).toNat
    · subst e
      rw [fu_eq, if_pos (by omega)]
    · rw [fu_ne e, if_neg (by omega)]
      omega
  have e5 : cD B a bw y 0 = zD B w wh sp m := by
    unfold cD zD
    rw [h2, Int.add_zero]
    refine bnM_cg (fun c hc => ?_)
    rw [← h3 c (by omega)]
    unfold cE
    split <;> omega
  unfold mayC mayP bo nw
  rw [e1, e2, e3, e4, e5, h1]
/-- .. two boxes of one row leaving -/
theorem may_off2 {B g0 g1 g2 l a : Int} {bw w wh sp : Nat → Int} {m b t : Nat} {y x : Int} (h : zSum l a bw w wh sp m) (hb : b < m) (ht : t < m) (hne : t ≠ b) (hw : wh b = 1) (hwt : wh t = 1) (hB : 1 ≤ B ∧ B ≤ 5) (hy : sp b / 16 = y) (hx : sp b / 4 % 4 = x) (hyt : sp t / 16 = y) (hxt : sp t / 4 % 4 = x) (hsp : ∀ b, 0 ≤ sp b ∧ sp b ≤ 79) : mayC B g0 g1 g2 l a bw y x (-(w b + w t)) ↔ mayP B g0 g1 g2 (ab (zL w wh sp m)) (ab (zT B w wh sp m)) (zD B w wh sp m) w (fu_up (fu_up wh b 0) t 0) sp m := by
  have h' := zSum_off (v := 0) h hb hw (by omega) (hsp b)
  have hw2 : fu_up wh b 0 t = 1 := (fu_ne hne).trans hwt
  have h'' := zSum_off (v := 0) h' ht hw2 (by omega) (hsp t)
  obtain ⟨h1, h2, h3⟩ := h
  obtain ⟨k1, k2, k3⟩ := h''
  have e1 : l + -(w b + w t) * (2 * x - 3) = zL w (fu_up (fu_up wh b 0) t 0) sp m := by
    rw [← k1, Int.neg_mul, Int.add_mul]
    show _ = l - w b * (2 * (sp b / 4 % 4) - 3) - w t * (2 * (sp t / 4 % 4) - 3)
    rw [hx, hxt]
    omega
  have t5 : ∀ f : Nat → Int, nS (cF B f) 5 = f 0 * (1 - B) + f 1 * (3 - B) + f 2 * (5 - B) + f 3 * (7 - B) + f 4 * (9 - B) := fun f => by
    show (0 : Int) + f 0 * (2 * ((0 : Nat) : Int) + 1 - B) + f 1 * (2 * ((1 : Nat) : Int) + 1 - B) + f 2 * (2 * ((2 : Nat) : Int) + 1 - B) + f 3 * (2 * ((3 : Nat) : Int) + 1 - B) + f 4 * (2 * ((4 : Nat) : Int) + 1 - B) = _
    rw [show 2 * ((0 : Nat) : Int) + 1 - B = 1 - B by omega, show 2 * ((1 : Nat) : Int) + 1 - B = 3 - B by omega, show 2 * ((2 : Nat) : Int) + 1 - B = 5 - B by omega, show 2 * ((3 : Nat) : Int) + 1 - B = 7 - B by omega, show 2 * ((4 : Nat) : Int) + 1 - B = 9 - B by omega]
    omega
  have z0 : nS (cF B bw) 5 = zT B w wh sp m := by
    rw [t5, h3 0 (by omega), h3 1 (by omega), h3 2 (by omega), h3 3 (by omega), h3 4 (by omega)]
    exact (zT_5 (fun b _ _ => hsp b)).symm
  have e2 : cT B bw y (-(w b + w t)) = zT B w (fu_up (fu_up wh b 0) t 0) sp m := by
    unfold cT
    rw [z0]
    show _ = nS (wF (pT B) w (fu_up (fu_up wh b 0) t 0) sp) m
    rw [wF_off ht hw2 (by omega), wF_off hb hw (by omega), Int.neg_mul, Int.add_mul]
    show _ = zT B w wh sp m - w b * (2 * (sp b / 16) + 1 - B) - w t * (2 * (sp t / 16) + 1 - B)
    rw [hy, hyt]
    omega
  have e3 : cT B bw y 0 = zT B w wh sp m := by
    unfold cT
    rw [z0, Int.zero_mul]
    omega
  have e4 : cD B a bw y (-(w b + w t)) = zD B w (fu_up (fu_up wh b 0) t 0) sp m := by
    unfold cD zD
    rw [show a + -(w b + w t) = a - w b - w t by omega, k2]
    refine bnM_cg (fun c hc => ?_)
    rw [← k3 c (by omega), hy, hyt]
    unfold cE
    have hs := hsp b
    by_cases e : c = y.toNat
    · subst e
      rw [fu_eq, fu_eq, if_pos (by omega)]
      omega
    · rw [fu_ne e, fu_ne e, if_neg (by omega)]
      omega
  have e5 : cD B a bw y 0 = zD B w wh sp m := by
    unfold cD zD
    rw [h2, Int.add_zero]
    refine bnM_cg (fun c hc => ?_)
    rw [← h3 c (by omega)]
    unfold cE
    split <;> omega
  unfold mayC mayP bo nw
  rw [e1, e2, e3, e4, e5, h1]
