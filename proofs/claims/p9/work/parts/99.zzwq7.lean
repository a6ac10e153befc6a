/-! the reference's best places leave boxes and ship as they were -/
/-- boxes and ship: where they stand is F50, what stands at each place is F52; spots outside of P and all else as in I0 -/
noncomputable def bxR (P : Nat → Prop) (F50 F52 : Nat → Int) (I0 I : Nat → Nat → Int32) : Prop := pI I 150 = F50 ∧ pI I 152 = F52 ∧ (∀ i, ¬ P i → I 151 i = I0 151 i) ∧ ∀ o ∈ [146, 147, 148, 149, 153, 154], ∀ i, I o i = I0 o i
/-- the same, and box b is aboard at f -/
noncomputable def bxL (P : Nat → Prop) (F50 F52 : Nat → Int) (I0 I : Nat → Nat → Int32) (b : Int32) (f : Nat) : Prop := (f ≤ 79 ∧ F52 f = -1 ∧ (I 151 b.toInt.toNat).toInt = (f : Int)) ∧ bxR P (fu_up F50 b.toInt.toNat 1) (fu_up F52 f b.toInt) I0 I
noncomputable def bxF (I0 I : Nat → Nat → Int32) : Prop := (∀ o ∈ [146, 147, 148, 149, 150, 152, 153, 154], ∀ i, I o i = I0 o i) ∧ ∀ i, (I0 150 i).toInt = 0 ∨ I 151 i = I0 151 i
/-- what loading a box that is away leaves -/
noncomputable def blN (I0 I : Nat → Nat → Int32) (b : Int32) : Prop := pI I 150 = pI I0 150 ∧ pI I 152 = pI I0 152 ∧ (∀ i, i ≠ b.toInt.toNat → I 151 i = I0 151 i) ∧ ∀ o ∈ [146, 147, 148, 149, 153, 154], ∀ i, I o i = I0 o i
noncomputable def blP (I0 I : Nat → Nat → Int32) (b : Int32) : Prop := ∃ f : Nat, f ≤ 79 ∧ pI I0 152 f = -1 ∧ (I 151 b.toInt.toNat).toInt = (f : Int) ∧ pI I 150 = fu_up (pI I0 150) b.toInt.toNat 1 ∧ pI I 152 = fu_up (pI I0 152) f b.toInt ∧ (∀ i, i ≠ b.toInt.toNat → I 151 i = I0 151 i) ∧ ∀ o ∈ [146, 147, 148, 149, 153, 154], ∀ i, I o i = I0 o i
section BX
variable {P : Nat → Prop} {F50 F52 : Nat → Int} {I0 I I2 : Nat → Nat → Int32} {b : Int32} {f : Nat}
theorem bx_0 {mod : List Nat} (e : ∀ o, mod.contains o = false → ∀ i, I o i = I0 o i) (hm : ∀ o ∈ [146, 147, 148, 149, 150, 151, 152, 153, 154], mod.contains o = false) : bxR P (pI I0 150) (pI I0 152) I0 I := ⟨funext fun i => congrArg Int32.toInt (e 150 (hm 150 (by decide)) i), funext fun i => congrArg Int32.toInt (e 152 (hm 152 (by decide)) i), fun i _ => e 151 (hm 151 (by decide)) i, fun o ho i => e o (hm o ((show ∀ o ∈ [146, 147, 148, 149, 153, 154], o ∈ [146, 147, 148, 149, 150, 151, 152, 153, 154] from by decide) o ho)) i⟩
theorem bx_8 (h : bxR P F50 F52 I0 I) (h8 : sf_B F52) : sf_B (pI I 152) := by
  rw [h.2.1]
  exact h8
theorem bx_w (h : bxR P F50 F52 I0 I) (h0 : F50 b.toInt.toNat = 0) : (I 150 b.toInt.toNat).toInt = 0 := by
  have k := congrFun h.1 b.toInt.toNat
  exact k.trans h0
theorem bx_n (h : bxR P F50 F52 I0 I) (hP : P b.toInt.toNat) (n : blN I I2 b) : bxR P F50 F52 I0 I2 := ⟨n.1.trans h.1, n.2.1.trans h.2.1, fun i hi => (n.2.2.1 i (fun e => hi (by rw [e]; exact hP))).trans (h.2.2.1 i hi), fun o ho i => (n.2.2.2 o ho i).trans (h.2.2.2 o ho i)⟩
theorem bx_p (h : bxR P F50 F52 I0 I) (hP : P b.toInt.toNat) (n : blP I I2 b) : ∃ f : Nat, bxL P F50 F52 I0 I2 b f := by
  obtain ⟨f, n1, n2, n3, n4, n5, n6, n7⟩ := n
  rw [h.2.1] at n2 n5
  rw [h.1] at n4
  exact ⟨f, ⟨n1, n2, n3⟩, n4, n5, fun i hi => (n6 i (fun e => hi (by rw [e]; exact hP))).trans (h.2.2.1 i hi), fun o ho i => (n7 o ho i).trans (h.2.2.2 o ho i)⟩
theorem bxL_cg {mod : List Nat} (h : bxL P F50 F52 I0 I b f) (e : ∀ o, mod.contains o = false → ∀ i, I2 o i = I o i) (hm : ∀ o ∈ [146, 147, 148, 149, 150, 151, 152, 153, 154], mod.contains o = false) : bxL P F50 F52 I0 I2 b f := by
  have e1 := e 151 (hm 151 (by decide))
  refine ⟨⟨h.1.1, h.1.2.1, by rw [e1]; exact h.1.2.2⟩, (funext fun i => congrArg Int32.toInt (e 150 (hm 150 (by decide)) i) : pI I2 150 = pI I 150).trans h.2.1, (funext fun i => congrArg Int32.toInt (e 152 (hm 152 (by decide)) i) : pI I2 152 = pI I 152).trans h.2.2.1, fun i hi => (e1 i).trans (h.2.2.2.1 i hi), fun o ho i => (e o (hm o ((show ∀ o ∈ [146, 147, 148, 149, 153, 154], o ∈ [146, 147, 148, 149, 150, 151, 152, 153, 154] from by decide) o ho)) i).trans (h.2.2.2.2 o ho i)⟩
theorem bxL_w (h : bxL P F50 F52 I0 I b f) : (I 150 b.toInt.toNat).toInt = 1 := by
  have k := congrFun h.2.1 b.toInt.toNat
  rw [fu_eq] at k
  exact k
theorem bx_l (h : bxL P F50 F52 I0 I b f) (h0 : F50 b.toInt.toNat = 0) (e : ∀ o, [150, 152].contains o = false → ∀ i, I2 o i = I o i) (x50 : pI I2 150 = fu_up (pI I 150) b.toInt.toNat 0) (x52 : pI I2 152 = fu_up (pI I 152) f (-1)) : bxR P F50 F52 I0 I2 := by
  obtain ⟨⟨h1, h2, h3⟩, r1, r2, r3, r4⟩ := h
  rw [r1, fu_fu2] at x50
  rw [r2, fu_fu2] at x52
  refine ⟨x50.trans (fu_si h0), x52.trans (fu_si h2), fun i hi => (e 151 rfl i).trans (r3 i hi), fun o ho i => (e o ((show ∀ o ∈ [146, 147, 148, 149, 153, 154], [150, 152].contains o = false from by decide) o ho) i).trans (r4 o ho i)⟩
/-- the inner loop: box o came and went, b stayed -/
theorem bx_in {o : Int32} (h : bxL P F50 F52 I0 I b f) (hP : P o.toInt.toNat) (ho : b.toInt.toNat ≠ o.toInt.toNat) (r : bxR (fun i => i = o.toInt.toNat) (fu_up F50 b.toInt.toNat 1) (fu_up F52 f b.toInt) I I2) : bxL P F50 F52 I0 I2 b f := ⟨⟨h.1.1, h.1.2.1, by rw [r.2.2.1 _ ho]; exact h.1.2.2⟩, r.1, r.2.1, fun i hi => (r.2.2.1 i (fun e => hi (by rw [e]; exact hP))).trans (h.2.2.2.1 i hi), fun o ho i => (r.2.2.2 o ho i).trans (h.2.2.2.2 o ho i)⟩
theorem bx_i (h : bxL P F50 F52 I0 I b f) : bxR (fun _ => False) (fu_up F50 b.toInt.toNat 1) (fu_up F52 f b.toInt) I I := ⟨h.2.1, h.2.2.1, fun _ _ => rfl, fun _ _ _ => rfl⟩
theorem bx_m {Q : Nat → Prop} (h : bxR P F50 F52 I0 I) (hq : ∀ i, P i → Q i) : bxR Q F50 F52 I0 I := ⟨h.1, h.2.1, fun i hi => h.2.2.1 i (fun z => hi (hq i z)), h.2.2.2⟩
theorem bx_f (h : bxR P (pI I0 150) (pI I0 152) I0 I) (hP : ∀ i, P i → (I0 150 i).toInt = 0) : bxF I0 I := by
  refine ⟨fun o ho i => ?_, fun i => ?_⟩
  · by_cases e : o = 150
    · subst e
      exact hk_eqi.mpr (congrFun h.1 i)
    · by_cases e2 : o = 152
      · subst e2
        exact hk_eqi.mpr (congrFun h.2.1 i)
      · refine h.2.2.2 o ?_ i
        simp only [List.mem_cons, List.not_mem_nil, or_false] at ho ⊢
        omega
  · by_cases c : P i
    · exact Or.inl (hP i c)
    · exact Or.inr (h.2.2.1 i c)
theorem bx_f0 (e : I = I0) : bxF I0 I := by
  subst e
  exact ⟨fun _ _ _ => rfl, fun _ => Or.inr rfl⟩
end BX
theorem zI_r {s : Nat} {I : Nat → Nat → Int32} (hB : hk_B I) (hV : v_S I) (h8 : sf_B (pI I 152)) (hb : 1 ≤ (I 127 s).toInt ∧ (I 127 s).toInt ≤ 5) : zI s (pI I) := ⟨⟨hV.1.1.1, h8⟩, ⟨fun b => hB 146 b, fun b => hB 150 b, fun b => hB 151 b, fun b => hB 152 b, fun b => hB 153 b, fun b => hB 154 b⟩, hB 118 44, hb⟩
theorem bl_key {s : Nat} {I0 I : Nat → Nat → Int32} {b y x v : Int32} (hi : zI s (pI I0)) (b_b : (0 : Int) ≤ b.toInt ∧ b.toInt ≤ 29) (hw : (I0 150 b.toInt.toNat).toInt = 0) (f : ∀ o, [150, 151, 152, 153, 154, 155, 156].contains o = false → ∀ i, I o i = I0 o i) (zr : zR (ldS s (pI I0) b y x) I) (ev : v.toInt = ldV s (pI I0) b y x) : sf_B (pI I 152) ∧ (v.toInt < 0 → blN I0 I b) ∧ (0 ≤ v.toInt → blP I0 I b) := by
  obtain ⟨⟨r46, r47, r48, r49, r50, r51, r52, r53, r54⟩, -, -⟩ := zr
  have i2 := ld_zI (b := b) (y := y) (x := x) hi b_b.2
  have hw' : pI I0 150 b.toInt.toNat = 0 := hw
  have up : ∀ (g : Nat → Int) (z : Int), pI I 151 = fu_up (pI I0 151) b.toInt.toNat z → ∀ i, i ≠ b.toInt.toNat → I 151 i = I0 151 i := fun g z e i hi => hk_eqi.mpr (by
    have k := congrFun e i
    rw [fu_ne hi] at k
    exact k)
  refine ⟨by rw [r52]; exact i2.1.2, fun z => ?_, fun z => ?_⟩
  · have e : ldS s (pI I0) b y x = aS (pI I0) 151 (if ldV s (pI I0) b y x = -3 ∧ pI I0 150 b.toInt.toNat = 0 then fu_up (pI I0 151) b.toInt.toNat (frA (pI I0) y x.toInt) else pI I0 151) := by
      unfold ldS
      rw [if_neg (by omega)]
    rw [e] at r50 r51 r52 r53 r54
    have r51 : pI I 151 = (if ldV s (pI I0) b y x = -3 ∧ pI I0 150 b.toInt.toNat = 0 then fu_up (pI I0 151) b.toInt.toNat (frA (pI I0) y x.toInt) else pI I0 151) := r51
    have r53 : pI I 153 = pI I0 153 := r53
    have r54 : pI I 154 = pI I0 154 := r54
    refine ⟨r50, r52, ?_, fun o ho i => ?_⟩
    · by_cases c : ldV s (pI I0) b y x = -3 ∧ pI I0 150 b.toInt.toNat = 0
      · rw [if_pos c] at r51
        exact up (pI I 151) _ r51
      · rw [if_neg c] at r51
        exact fun i _ => hk_eqi.mpr (congrFun r51 i)
    · simp only [List.mem_cons, List.not_mem_nil, or_false] at ho
      rcases ho with rfl | rfl | rfl | rfl | rfl | rfl
      · exact f 146 rfl i
      · exact f 147 rfl i
      · exact f 148 rfl i
      · exact f 149 rfl i
      · exact hk_eqi.mpr (congrFun r53 i)
      · exact hk_eqi.mpr (congrFun r54 i)
  · obtain ⟨⟨b0, bn, y0, yB, x0, x3⟩, hh, hf, -, -, -⟩ := try_inv (ev ▸ z : 0 ≤ ldV s (pI I0) b y x)
    have hB := hi.2.2.2
    have hf : ¬ frA (pI I0) y x.toInt = -1 := hf
    have fi := fr_in (cv := Int32.ofInt (pI I0 118 54)) (y := y) (x := x.toInt) (c := pI I0 152) ⟨y0, by omega⟩ ⟨x0, x3⟩ hf
    have fi : 16 * y.toInt + 4 * x.toInt ≤ frA (pI I0) y x.toInt ∧ frA (pI I0) y x.toInt ≤ 16 * y.toInt + 4 * x.toInt + 3 ∧ pI I0 152 (frA (pI I0) y x.toInt).toNat = -1 := fi
    have e : ldS s (pI I0) b y x = aS (aS (aS (aS (pI I0) 150 (fu_up (pI I0 150) b.toInt.toNat 1)) 151 (fu_up (pI I0 151) b.toInt.toNat (frA (pI I0) y x.toInt))) 152 (fu_up (pI I0 152) (frA (pI I0) y x.toInt).toNat b.toInt)) 154 (if pI I0 150 b.toInt.toNat = 2 then fu_up (pI I0 154) (pI I0 151 b.toInt.toNat / 4).toNat (pI I0 154 (pI I0 151 b.toInt.toNat / 4).toNat - 1) else pI I0 154) := by
      unfold ldS
      rw [if_pos (by omega)]
    rw [e] at r50 r51 r52 r53 r54
    have r50 : pI I 150 = fu_up (pI I0 150) b.toInt.toNat 1 := r50
    have r51 : pI I 151 = fu_up (pI I0 151) b.toInt.toNat (frA (pI I0) y x.toInt) := r51
    have r52 : pI I 152 = fu_up (pI I0 152) (frA (pI I0) y x.toInt).toNat b.toInt := r52
    have r53 : pI I 153 = pI I0 153 := r53
    have r54 : pI I 154 = (if pI I0 150 b.toInt.toNat = 2 then fu_up (pI I0 154) (pI I0 151 b.toInt.toNat / 4).toNat (pI I0 154 (pI I0 151 b.toInt.toNat / 4).toNat - 1) else pI I0 154) := r54
    rw [if_neg (by omega)] at r54
    have k51 := congrFun r51 b.toInt.toNat
    rw [fu_eq] at k51
    have k51 : (I 151 b.toInt.toNat).toInt = frA (pI I0) y x.toInt := k51
    refine ⟨(frA (pI I0) y x.toInt).toNat, by omega, fi.2.2, by omega, r50, r52, up (pI I 151) _ r51, fun o ho i => ?_⟩
    simp only [List.mem_cons, List.not_mem_nil, or_false] at ho
    rcases ho with rfl | rfl | rfl | rfl | rfl | rfl
    · exact f 146 rfl i
    · exact f 147 rfl i
    · exact f 148 rfl i
    · exact f 149 rfl i
    · exact hk_eqi.mpr (congrFun r53 i)
    · exact hk_eqi.mpr (congrFun r54 i)

theorem bl_load {s L d : Nat} {xs : Nat → Int32} {Z : Option Value → qm_H → Prop} {h : qm_H} {b y x : Int32} (hs : s = 0 ∨ s = 1) (h6 : 6 ≤ L) (hH : hk_H h) (hB : hk_B h.2.1) (hV : v_S h.2.1) (h8 : sf_B (pI h.2.1 152)) (hb : 1 ≤ (h.2.1 127 s).toInt ∧ (h.2.1 127 s).toInt ≤ 5) (hl : (h.2.1 118 18).toInt = (s : Int)) (hd : 60 ≤ d) (hw : (h.2.1 150 b.toInt.toNat).toInt = 0) (b_b : (0 : Int) ≤ b.toInt ∧ b.toInt ≤ 29) (k : ∀ (I : Nat → Nat → Int32) (v : Int32), hk_B I → v_S I → (∀ o, [150, 151, 152, 153, 154, 155, 156].contains o = false → ∀ i, I o i = h.2.1 o i) → sf_B (pI I 152) → (v.toInt < 0 → blN h.2.1 I b) → (0 ≤ v.toInt → blP h.2.1 I b) → Z (some (.int v)) (h.1, I, h.2.2.1, h.2.2.2)) : qm_Ru (some (L, xs)) d cd_284 (qm_ent 7 [.ref 118, .int b, .int y, .int x] h) Z := by
  have hi := zI_r hB hV h8 hb
  have key : ∀ (I : Nat → Nat → Int32) (v : Int32), hk_B I → v_S I → (∀ o, [150, 151, 152, 153, 154, 155, 156].contains o = false → ∀ i, I o i = h.2.1 o i) → zR (ldS s (pI h.2.1) b y x) I → v.toInt = ldV s (pI h.2.1) b y x → Z (some (.int v)) (h.1, I, h.2.2.1, h.2.2.2) := fun I v b1 b2 f zr ev => by
    have q := bl_key hi b_b hw f zr ev
    exact k I v b1 b2 f q.1 q.2.1 q.2.2
  rcases hs with rfl | rfl
  · exact hz_rload0 h6 hH hB hV hi (zR_I _) hl hd key
  · exact hz_rload1 h6 hH hB hV hi (zR_I _) hl hd key
theorem bl_leaves {d : Nat} {X : Option (Nat × (Nat → Int32))} {Z : Option Value → qm_H → Prop} {h : qm_H} {b : Int32} {f : Nat} (hH : hk_H h) (hB : hk_B h.2.1) (hV : v_S h.2.1) (b_b : (0 : Int) ≤ b.toInt ∧ b.toInt ≤ 29) (f150 : (h.2.1 150 (b.toInt.toNat)).toInt = 1) (f151 : (h.2.1 151 (b.toInt.toNat)).toInt = (f : Int)) (k : ∀ I : Nat → Nat → Int32, hk_B I → v_S I → (∀ o, [150, 152].contains o = false → ∀ i, I o i = h.2.1 o i) → pI I 150 = fu_up (pI h.2.1 150) b.toInt.toNat 0 → pI I 152 = fu_up (pI h.2.1 152) f (-1) → Z none (h.1, I, h.2.2.1, h.2.2.2)) : qm_Ru X (d + 10) cd_283 (qm_ent 2 [.ref 118, .int b] h) Z := by
  have w := rl_away (X := X) (d := d) (Z := fun r h' => ∃ I : Nat → Nat → Int32, h' = (h.1, I, h.2.2.1, h.2.2.2) ∧ hk_B I ∧ v_R I ∧ (∀ o, [150, 152].contains o = false → ∀ i, I o i = h.2.1 o i)) hH hB hV.1.1 b_b f150 (fun I a1 a2 a3 _ _ => ⟨I, rfl, a1, a2, a3⟩)
  have u := hB 151 b.toInt.toNat
  have u : (0 : Int) ≤ (h.2.1 151 b.toInt.toNat).toInt ∧ (h.2.1 151 b.toInt.toNat).toInt ≤ 79 := u
  have g := w.both (Q2 := fun r h' => ∃ I : Nat → Nat → Int32, h' = (h.1, I, h.2.2.1, h.2.2.2) ∧ r = none ∧ pI I 150 = fu_up (pI h.2.1 150) b.toInt.toNat 0 ∧ pI I 152 = fu_up (pI h.2.1 152) f (-1)) (fun fu => px_lv1 (X := X) hH (b := b) (u := h.2.1 151 b.toInt.toNat) (hk_eqi.mpr (f150.trans rfl)) rfl u (fun i => hB 154 i) (fun I _ x50 x52 => ⟨I, rfl, rfl, x50, by rw [show f = (h.2.1 151 b.toInt.toNat).toInt.toNat from by omega]; exact x52⟩))
  refine g.mono (fun r h' q => ?_)
  obtain ⟨⟨I, rfl, b1, b2, b3⟩, I', e1, rfl, x50, x52⟩ := q
  obtain ⟨rfl, -⟩ := hp_uq e1
  have F : ∀ o, [150, 152].contains o = false → pI I o = pI h.2.1 o := fun o ho => funext fun i => congrArg Int32.toInt (b3 o ho i)
  exact k I b1 ⟨⟨b2, s_P_cg3 hV.1.2 (F 131 rfl) (F 132 rfl) (F 133 rfl) (F 134 rfl) (F 138 rfl) (F 139 rfl) (F 140 rfl) (F 141 rfl) (F 142 rfl) (b3 118 rfl 18)⟩, s_L_cg hV.2 (F 158 rfl) (b3 118 rfl 59)⟩ b3 x50 x52
theorem hl4_best {L : Nat} {xs : Nat → Int32} {d : Nat} {Z : Option Value → qm_H → Prop} {h : qm_H} (h6 : 6 ≤ L) (hH : hk_H h) (hB : hk_B h.2.1) {s : Nat} (hs : s = 0 ∨ s = 1) (hb9 : 1 ≤ (h.2.1 127 s).toInt ∧ (h.2.1 127 s).toInt ≤ 5) (hl9 : (h.2.1 118 18).toInt = (s : Int)) {P : Nat → Prop} {F50 F52 : Nat → Int} {I0 : Nat → Nat → Int32} (h8 : sf_B F52) {b : Int32} (b_b : (0 : Int) ≤ b.toInt ∧ b.toInt ≤ 29) (h0b : F50 b.toInt.toNat = 0) (hPb : P b.toInt.toNat) {had : Int32} (k : ∀ (v : Int32) (I : Nat → Nat → Int32) (J : Nat → Nat → Int64), hk_B I → v_S I → (∀ o, [118, 144, 145, 146, 147, 148, 149, 150, 151, 152, 153, 154, 155, 156].contains o = false → ∀ i, I o i = h.2.1 o i) → (∀ i, i ≠ 57 → I 118 i = h.2.1 118 i) → bxR P F50 F52 I0 I → Z (some (.int v)) (h.1, I, J, h.2.2.2)) : ∀ (m : Nat) (I : Nat → Nat → Int32) (J : Nat → Nat → Int64) (be : Int32) (ru : Int32) (ov : Int32) (q : Int32) (l7 l8 : Value), hk_B I → (∀ o, [118, 144, 145, 146, 147, 148, 149, 150, 151, 152, 153, 154, 155, 156].contains o = false → ∀ i, I o i = h.2.1 o i) → (∀ i, i ≠ 57 → I 118 i = h.2.1 118 i) → (v_S I) → (bxR P F50 F52 I0 I) → ((0 : Int) ≤ q.toInt ∧ q.toInt ≤ 20) → (20 - q.toInt).toNat = m → qm_Ru (some (L, xs)) (d + 100) cd_377 (27, [.ref 118, .int b, .int had, .int be, .int ru, .int ov, .int q, l7, l8], [], (h.1, I, J, h.2.2.2)) Z := by
  intro m
  induction m using Nat.strongRecOn with
  | ind m ih =>
    intro I J be ru ov q l7 l8 hBI e e8 hVI hR hq hm
    refine qm_Ru.go 3 (c' := (31, [.ref 118, .int b, .int had, .int be, .int ru, .int ov, .int q, l7, l8], [.ref 118, .int 4, .int q], (h.1, I, J, h.2.2.2))) rfl ?_
    refine hk_getr rfl (hH.1 118 (17, 105) rfl) rfl (hH.2 118 22 (some 127) rfl) ?_
    refine qm_Ru.go 1 (c' := (35, [.ref 118, .int b, .int had, .int be, .int ru, .int ov, .int q, l7, l8], [.ref 118, .ref 127, .int 4, .int q], (h.1, I, J, h.2.2.2))) rfl ?_
    obtain ⟨v1, q_v1⟩ : ∃ v_, h.2.1 118 18 = v_ := ⟨_, rfl⟩
    have b_v1 : (0 : Int) ≤ v1.toInt ∧ v1.toInt ≤ 1 := by rw [← q_v1]; exact hB 118 18
    refine hk_geti (v := v1) rfl (hH.1 118 (17, 105) rfl) rfl (show (I) 118 18 = _ from ((e8 18 (by omega)).trans q_v1)) ?_
    refine qm_Ru.go 0 (c' := (38, [.ref 118, .int b, .int had, .int be, .int ru, .int ov, .int q, l7, l8], [.int v1, .ref 127, .int 4, .int q], (h.1, I, J, h.2.2.2))) rfl ?_
    obtain ⟨v2, q_v2⟩ : ∃ v_, h.2.1 127 (v1.toInt.toNat) = v_ := ⟨_, rfl⟩
    have b_v2 : (0 : Int) ≤ v2.toInt ∧ v2.toInt ≤ 5 := by rw [← q_v2]; exact hB 127 (v1.toInt.toNat)
    refine hk_ial (v := v2) rfl (hH.1 127 (0, 2) rfl) (by omega) (by omega) (show (I) 127 (v1.toInt.toNat) = _ from ((e 127 rfl (v1.toInt.toNat)).trans q_v2)) ?_
    refine qm_Ru.go 1 (c' := (40, [.ref 118, .int b, .int had, .int be, .int ru, .int ov, .int q, l7, l8], [.int (4 * v2), .int q], (h.1, I, J, h.2.2.2))) rfl ?_
    obtain ⟨v3, q_v3, e_v3⟩ := hk_mul (x := 4) (y := v2) (a := 4) (b := v2.toInt) rfl rfl (by omega) (by omega)
    rw [q_v3]
    refine hk_cge (ix := q.toInt) (iy := v3.toInt) rfl rfl rfl (fun z4 => ?_) (fun z4 => ?_)
    · refine qm_Ru.go 1 (c' := (138, [.ref 118, .int b, .int had, .int be, .int ru, .int ov, .int q, l7, l8], [.int be], (h.1, I, J, h.2.2.2))) rfl ?_
      refine qm_Ru.rt (v := (some (.int be))) (h' := (h.1, I, J, h.2.2.2)) rfl ?_
      exact k be (I) (J) hBI hVI (fun o ho i => (e o ho i)) (fun i hi => (e8 i hi)) hR
    · refine qm_Ru.go 5 (c' := (49, [.ref 118, .int b, .int had, .int be, .int ru, .int ov, .int q, l7, l8], [.int (q / 4), .int b, .ref 118], (h.1, I, J, h.2.2.2))) rfl ?_
      obtain ⟨v5, q_v5, e_v5⟩ := hk_div (x := q) (y := 4) (a := q.toInt) (b := 4) rfl rfl (by omega) (by omega)
      rw [q_v5]
      refine qm_Ru.go 3 (c' := (53, [.ref 118, .int b, .int had, .int be, .int ru, .int ov, .int q, l7, l8], [.int (q - q / 4 * 4), .int v5, .int b, .ref 118], (h.1, I, J, h.2.2.2))) rfl ?_
      obtain ⟨v6, q_v6, e_v6⟩ := hk_rem (x := q) (y := 4) (a := q.toInt) (b := 4) rfl rfl (by omega) (by omega)
      rw [q_v6]
      refine hk_inv (o := 118) (r := []) (as := [.ref 118, .int b, .int v5, .int v6]) rfl rfl (hH.1 118 (17, 105) rfl) rfl rfl rfl rfl (bl_load (h := (h.1, I, J, h.2.2.2)) hs h6 hH hBI hVI (bx_8 hR h8) (by show (1 : Int) ≤ (I 127 s).toInt ∧ (I 127 s).toInt ≤ 5; rw [e 127 rfl s]; exact hb9) (by show (I 118 18).toInt = (s : Int); rw [e8 18 (by decide)]; exact hl9) (by omega) (bx_w hR h0b) b_b (fun I7 v8 hB_I7 hV_I7 e_I7 s8_I7 n_I7 p_I7 => ?_))
      have e_I7 : ∀ o, [150, 151, 152, 153, 154, 155, 156].contains o = false → ∀ i, I7 o i = (I) o i := e_I7
      refine qm_Ru.go 0 (c' := (56, [.ref 118, .int b, .int had, .int be, .int ru, .int ov, .int q, l7, l8], [.int v8], (h.1, I7, J, h.2.2.2))) rfl ?_
      refine hk_zge (ix := v8.toInt) rfl rfl (fun z9 => ?_) (fun z9 => ?_)
      · refine qm_Ru.go 0 (c' := (62, [.ref 118, .int b, .int had, .int be, .int ru, .int ov, .int q, l7, l8], [], (h.1, I7, J, h.2.2.2))) rfl ?_
        obtain ⟨f10, l11⟩ := bx_p hR hPb (p_I7 (by omega))
        refine qm_Ru.go 1 (c' := (63, [.ref 118, .int b, .int had, .int be, .int ru, .int ov, .int q, l7, l8], [.ref 118], (h.1, I7, J, h.2.2.2))) rfl ?_
        refine hk_inv (o := 118) (r := []) (as := [.ref 118]) rfl rfl (hH.1 118 (17, 105) rfl) rfl rfl rfl rfl (hs_broken (h := (h.1, I7, J, h.2.2.2)) h6 hH hB_I7 hV_I7.1.2 (fun v14 I12 J13 hB_I12 e_I12 e8_I12 => ?_))
        have e_I12 : ∀ o, [118, 144, 145].contains o = false → ∀ i, I12 o i = (I7) o i := e_I12
        have e8_I12 : ∀ i, i ≠ 57 → I12 118 i = (I7) 118 i := e8_I12
        have hV_I12 : v_S I12 := v_S_cg8 hV_I7 e_I12 e8_I12 (by decide)
        have l15 := bxL_cg l11 e_I12 (by decide)
        refine qm_Ru.go 2 (c' := (68, [.ref 118, .int b, .int had, .int be, .int ru, .int ov, .int q, l7, l8], [.int (v14 - had)], (h.1, I12, J13, h.2.2.2))) rfl ?_
        obtain ⟨v16, q_v16⟩ : ∃ v_, (v14 - had) = v_ := ⟨_, rfl⟩
        rw [q_v16]
        refine qm_Ru.go 3 (c' := (72, [.ref 118, .int b, .int had, .int be, .int ru, .int ov, .int q, .int v16, l8], [.int (-1), .ref 118], (h.1, I12, J13, h.2.2.2))) rfl ?_
        refine hk_inv (o := 118) (r := []) (as := [.ref 118, .int (-1)]) rfl rfl (hH.1 118 (17, 105) rfl) rfl rfl rfl rfl (hs_rover (h := (h.1, I12, J13, h.2.2.2)) h6 hH hB_I12 (v_R_ru hV_I12.1.1) ⟨by decide, by decide⟩ (by omega) (fun v17 I18 J19 c_v17 hB_I18 e_I18 => ?_))
        have e_I18 : I12 = I18 := funext fun o => funext fun i => (e_I18 o rfl i).symm
        subst e_I18
        refine qm_Ru.go 3 (c' := (79, [.ref 118, .int b, .int had, .int be, .int ru, .int ov, .int q, .int v16, .int v17], [.int b, .ref 118], (h.1, I12, J19, h.2.2.2))) rfl ?_
        refine hk_inv (o := 118) (r := []) (as := [.ref 118, .int b]) rfl rfl (hH.1 118 (17, 105) rfl) rfl rfl rfl rfl (bl_leaves (h := (h.1, I12, J19, h.2.2.2)) hH hB_I12 hV_I12 b_b (bxL_w l15) l15.1.2.2 (fun I20 hB_I20 hV_I20 e_I20 x50_I20 x52_I20 => ?_))
        have e_I20 : ∀ o, [150, 152].contains o = false → ∀ i, I20 o i = (I12) o i := e_I20
        refine qm_Ru.go 1 (c' := (83, [.ref 118, .int b, .int had, .int be, .int ru, .int ov, .int q, .int v16, .int v17], [.int be], (h.1, I20, J19, h.2.2.2))) rfl ?_
        refine hk_zlt (ix := be.toInt) rfl rfl (fun z21 => ?_) (fun z21 => ?_)
        · refine qm_Ru.go 4 (c' := (116, [.ref 118, .int b, .int had, .int be, .int ru, .int ov, .int q, .int v16, .int v17], [.int (q / 4), .int 10], (h.1, I20, J19, h.2.2.2))) rfl ?_
          rw [q_v5]
          refine qm_Ru.go 1 (c' := (117, [.ref 118, .int b, .int had, .int be, .int ru, .int ov, .int q, .int v16, .int v17], [.int (10 * v5)], (h.1, I20, J19, h.2.2.2))) rfl ?_
          obtain ⟨v23, q_v23, e_v23⟩ := hk_mul (x := 10) (y := v5) (a := 10) (b := v5.toInt) rfl rfl (by omega) (by omega)
          rw [q_v23]
          refine qm_Ru.go 3 (c' := (121, [.ref 118, .int b, .int had, .int be, .int ru, .int ov, .int q, .int v16, .int v17], [.int (q - q / 4 * 4), .int v23], (h.1, I20, J19, h.2.2.2))) rfl ?_
          rw [q_v6]
          refine qm_Ru.go 1 (c' := (122, [.ref 118, .int b, .int had, .int be, .int ru, .int ov, .int q, .int v16, .int v17], [.int (v23 + v6)], (h.1, I20, J19, h.2.2.2))) rfl ?_
          obtain ⟨v25, q_v25, e_v25⟩ := hk_add (x := v23) (y := v6) (a := v23.toInt) (b := v6.toInt) rfl rfl (by omega) (by omega)
          rw [q_v25]
          refine qm_Ru.go 6 (c' := (134, [.ref 118, .int b, .int had, .int v25, .int v16, .int v17, .int (q + 1), .int v16, .int v17], [], (h.1, I20, J19, h.2.2.2))) rfl ?_
          obtain ⟨v26, q_v26, e_v26⟩ := hk_add (x := q) (y := 1) (a := q.toInt) (b := 1) rfl rfl (by omega) (by omega)
          rw [q_v26]
          refine qm_Ru.go 1 (c' := (27, [.ref 118, .int b, .int had, .int v25, .int v16, .int v17, .int v26, .int v16, .int v17], [], (h.1, I20, J19, h.2.2.2))) rfl ?_
          exact ih _ (by omega) (I20) (J19) v25 v16 v17 v26 (.int v16) (.int v17) hB_I20 (fun o ho i => ((e_I20 o (hk_ms rfl ho) i).trans ((e_I12 o (hk_ms rfl ho) i).trans ((e_I7 o (hk_ms rfl ho) i).trans (e o ho i))))) (fun i hi => ((e_I20 118 rfl i).trans ((e8_I12 i hi).trans ((e_I7 118 rfl i).trans (e8 i hi))))) hV_I20 (bx_l l15 h0b e_I20 x50_I20 x52_I20) (by omega) rfl
        · refine qm_Ru.go 2 (c' := (90, [.ref 118, .int b, .int had, .int be, .int ru, .int ov, .int q, .int v16, .int v17], [.int ru, .int v16], (h.1, I20, J19, h.2.2.2))) rfl ?_
          refine hk_cgt (ix := v16.toInt) (iy := ru.toInt) rfl rfl rfl (fun z27 => ?_) (fun z27 => ?_)
          · refine qm_Ru.go 1 (c' := (134, [.ref 118, .int b, .int had, .int be, .int ru, .int ov, .int (q + 1), .int v16, .int v17], [], (h.1, I20, J19, h.2.2.2))) rfl ?_
            obtain ⟨v28, q_v28, e_v28⟩ := hk_add (x := q) (y := 1) (a := q.toInt) (b := 1) rfl rfl (by omega) (by omega)
            rw [q_v28]
            refine qm_Ru.go 1 (c' := (27, [.ref 118, .int b, .int had, .int be, .int ru, .int ov, .int v28, .int v16, .int v17], [], (h.1, I20, J19, h.2.2.2))) rfl ?_
            exact ih _ (by omega) (I20) (J19) be ru ov v28 (.int v16) (.int v17) hB_I20 (fun o ho i => ((e_I20 o (hk_ms rfl ho) i).trans ((e_I12 o (hk_ms rfl ho) i).trans ((e_I7 o (hk_ms rfl ho) i).trans (e o ho i))))) (fun i hi => ((e_I20 118 rfl i).trans ((e8_I12 i hi).trans ((e_I7 118 rfl i).trans (e8 i hi))))) hV_I20 (bx_l l15 h0b e_I20 x50_I20 x52_I20) (by omega) rfl
          · refine qm_Ru.go 2 (c' := (97, [.ref 118, .int b, .int had, .int be, .int ru, .int ov, .int q, .int v16, .int v17], [.int ru, .int v16], (h.1, I20, J19, h.2.2.2))) rfl ?_
            refine hk_cne (ix := v16.toInt) (iy := ru.toInt) rfl rfl rfl (fun z29 => ?_) (fun z29 => ?_)
            · refine qm_Ru.go 4 (c' := (116, [.ref 118, .int b, .int had, .int be, .int ru, .int ov, .int q, .int v16, .int v17], [.int (q / 4), .int 10], (h.1, I20, J19, h.2.2.2))) rfl ?_
              rw [q_v5]
              refine qm_Ru.go 1 (c' := (117, [.ref 118, .int b, .int had, .int be, .int ru, .int ov, .int q, .int v16, .int v17], [.int (10 * v5)], (h.1, I20, J19, h.2.2.2))) rfl ?_
              obtain ⟨v31, q_v31, e_v31⟩ := hk_mul (x := 10) (y := v5) (a := 10) (b := v5.toInt) rfl rfl (by omega) (by omega)
              rw [q_v31]
              refine qm_Ru.go 3 (c' := (121, [.ref 118, .int b, .int had, .int be, .int ru, .int ov, .int q, .int v16, .int v17], [.int (q - q / 4 * 4), .int v31], (h.1, I20, J19, h.2.2.2))) rfl ?_
              rw [q_v6]
              refine qm_Ru.go 1 (c' := (122, [.ref 118, .int b, .int had, .int be, .int ru, .int ov, .int q, .int v16, .int v17], [.int (v31 + v6)], (h.1, I20, J19, h.2.2.2))) rfl ?_
              obtain ⟨v33, q_v33, e_v33⟩ := hk_add (x := v31) (y := v6) (a := v31.toInt) (b := v6.toInt) rfl rfl (by omega) (by omega)
              rw [q_v33]
              refine qm_Ru.go 6 (c' := (134, [.ref 118, .int b, .int had, .int v33, .int v16, .int v17, .int (q + 1), .int v16, .int v17], [], (h.1, I20, J19, h.2.2.2))) rfl ?_
              obtain ⟨v34, q_v34, e_v34⟩ := hk_add (x := q) (y := 1) (a := q.toInt) (b := 1) rfl rfl (by omega) (by omega)
              rw [q_v34]
              refine qm_Ru.go 1 (c' := (27, [.ref 118, .int b, .int had, .int v33, .int v16, .int v17, .int v34, .int v16, .int v17], [], (h.1, I20, J19, h.2.2.2))) rfl ?_
              exact ih _ (by omega) (I20) (J19) v33 v16 v17 v34 (.int v16) (.int v17) hB_I20 (fun o ho i => ((e_I20 o (hk_ms rfl ho) i).trans ((e_I12 o (hk_ms rfl ho) i).trans ((e_I7 o (hk_ms rfl ho) i).trans (e o ho i))))) (fun i hi => ((e_I20 118 rfl i).trans ((e8_I12 i hi).trans ((e_I7 118 rfl i).trans (e8 i hi))))) hV_I20 (bx_l l15 h0b e_I20 x50_I20 x52_I20) (by omega) rfl
            · refine qm_Ru.go 2 (c' := (104, [.ref 118, .int b, .int had, .int be, .int ru, .int ov, .int q, .int v16, .int v17], [.int ov, .int v17], (h.1, I20, J19, h.2.2.2))) rfl ?_
              refine hk_clt (ix := v17.toInt) (iy := ov.toInt) rfl rfl rfl (fun z35 => ?_) (fun z35 => ?_)
              · refine qm_Ru.go 4 (c' := (116, [.ref 118, .int b, .int had, .int be, .int ru, .int ov, .int q, .int v16, .int v17], [.int (q / 4), .int 10], (h.1, I20, J19, h.2.2.2))) rfl ?_
                rw [q_v5]
                refine qm_Ru.go 1 (c' := (117, [.ref 118, .int b, .int had, .int be, .int ru, .int ov, .int q, .int v16, .int v17], [.int (10 * v5)], (h.1, I20, J19, h.2.2.2))) rfl ?_
                obtain ⟨v37, q_v37, e_v37⟩ := hk_mul (x := 10) (y := v5) (a := 10) (b := v5.toInt) rfl rfl (by omega) (by omega)
                rw [q_v37]
                refine qm_Ru.go 3 (c' := (121, [.ref 118, .int b, .int had, .int be, .int ru, .int ov, .int q, .int v16, .int v17], [.int (q - q / 4 * 4), .int v37], (h.1, I20, J19, h.2.2.2))) rfl ?_
                rw [q_v6]
                refine qm_Ru.go 1 (c' := (122, [.ref 118, .int b, .int had, .int be, .int ru, .int ov, .int q, .int v16, .int v17], [.int (v37 + v6)], (h.1, I20, J19, h.2.2.2))) rfl ?_
                obtain ⟨v39, q_v39, e_v39⟩ := hk_add (x := v37) (y := v6) (a := v37.toInt) (b := v6.toInt) rfl rfl (by omega) (by omega)
                rw [q_v39]
                refine qm_Ru.go 6 (c' := (134, [.ref 118, .int b, .int had, .int v39, .int v16, .int v17, .int (q + 1), .int v16, .int v17], [], (h.1, I20, J19, h.2.2.2))) rfl ?_
                obtain ⟨v40, q_v40, e_v40⟩ := hk_add (x := q) (y := 1) (a := q.toInt) (b := 1) rfl rfl (by omega) (by omega)
                rw [q_v40]
                refine qm_Ru.go 1 (c' := (27, [.ref 118, .int b, .int had, .int v39, .int v16, .int v17, .int v40, .int v16, .int v17], [], (h.1, I20, J19, h.2.2.2))) rfl ?_
                exact ih _ (by omega) (I20) (J19) v39 v16 v17 v40 (.int v16) (.int v17) hB_I20 (fun o ho i => ((e_I20 o (hk_ms rfl ho) i).trans ((e_I12 o (hk_ms rfl ho) i).trans ((e_I7 o (hk_ms rfl ho) i).trans (e o ho i))))) (fun i hi => ((e_I20 118 rfl i).trans ((e8_I12 i hi).trans ((e_I7 118 rfl i).trans (e8 i hi))))) hV_I20 (bx_l l15 h0b e_I20 x50_I20 x52_I20) (by omega) rfl
              · refine qm_Ru.go 2 (c' := (134, [.ref 118, .int b, .int had, .int be, .int ru, .int ov, .int (q + 1), .int v16, .int v17], [], (h.1, I20, J19, h.2.2.2))) rfl ?_
                obtain ⟨v41, q_v41, e_v41⟩ := hk_add (x := q) (y := 1) (a := q.toInt) (b := 1) rfl rfl (by omega) (by omega)
                rw [q_v41]
                refine qm_Ru.go 1 (c' := (27, [.ref 118, .int b, .int had, .int be, .int ru, .int ov, .int v41, .int v16, .int v17], [], (h.1, I20, J19, h.2.2.2))) rfl ?_
                exact ih _ (by omega) (I20) (J19) be ru ov v41 (.int v16) (.int v17) hB_I20 (fun o ho i => ((e_I20 o (hk_ms rfl ho) i).trans ((e_I12 o (hk_ms rfl ho) i).trans ((e_I7 o (hk_ms rfl ho) i).trans (e o ho i))))) (fun i hi => ((e_I20 118 rfl i).trans ((e8_I12 i hi).trans ((e_I7 118 rfl i).trans (e8 i hi))))) hV_I20 (bx_l l15 h0b e_I20 x50_I20 x52_I20) (by omega) rfl
      · refine qm_Ru.go 2 (c' := (134, [.ref 118, .int b, .int had, .int be, .int ru, .int ov, .int (q + 1), l7, l8], [], (h.1, I7, J, h.2.2.2))) rfl ?_
        obtain ⟨v42, q_v42, e_v42⟩ := hk_add (x := q) (y := 1) (a := q.toInt) (b := 1) rfl rfl (by omega) (by omega)
        rw [q_v42]
        refine qm_Ru.go 1 (c' := (27, [.ref 118, .int b, .int had, .int be, .int ru, .int ov, .int v42, l7, l8], [], (h.1, I7, J, h.2.2.2))) rfl ?_
        exact ih _ (by omega) (I7) (J) be ru ov v42 l7 l8 hB_I7 (fun o ho i => ((e_I7 o (hk_ms rfl ho) i).trans (e o ho i))) (fun i hi => ((e_I7 118 rfl i).trans (e8 i hi))) hV_I7 (bx_n hR hPb (n_I7 (by omega))) (by omega) rfl
theorem hw4_best {s L : Nat} {xs : Nat → Int32} {d : Nat} {Z : Option Value → qm_H → Prop} {h : qm_H} (h6 : 6 ≤ L) (hH : hk_H h) (hB : hk_B h.2.1) (hV : v_S h.2.1) (hs : s = 0 ∨ s = 1) (hb9 : 1 ≤ (h.2.1 127 s).toInt ∧ (h.2.1 127 s).toInt ≤ 5) (hl9 : (h.2.1 118 18).toInt = (s : Int)) (h8 : sf_B (pI h.2.1 152)) {b : Int32} (k : ∀ (v : Int32) (I : Nat → Nat → Int32) (J : Nat → Nat → Int64), hk_B I → v_S I → (∀ o, [118, 144, 145, 146, 147, 148, 149, 150, 151, 152, 153, 154, 155, 156].contains o = false → ∀ i, I o i = h.2.1 o i) → (∀ i, i ≠ 57 → I 118 i = h.2.1 118 i) → bxF h.2.1 I → Z (some (.int v)) (h.1, I, J, h.2.2.2)) : qm_Ru (some (L, xs)) (d + 100) cd_377 (qm_ent 9 [.ref 118, .int b] h) Z := by
  refine qm_Ru.go 2 (c' := (2, [.ref 118, .int b, .float 0, .float 0, .float 0, .float 0, .float 0, .float 0, .float 0], [.int b, .ref 118], h)) rfl ?_
  refine hk_inv (o := 118) (r := []) (as := [.ref 118, .int b]) rfl rfl (hH.1 118 (17, 105) rfl) rfl rfl rfl rfl ?_
  refine qm_Ru.go 2 (c' := (2, [.ref 118, .int b], [.int b, .ref 118], h)) rfl ?_
  refine hk_inv (o := 118) (r := []) (as := [.ref 118, .int b]) rfl rfl (hH.1 118 (17, 105) rfl) rfl rfl rfl rfl ?_
  refine qm_Ru.go 3 (c' := (3, [.ref 118, .int b], [.ref 118, .int 0, .int b], h)) rfl ?_
  obtain ⟨v1, q_v1⟩ : ∃ v_, h.2.1 118 44 = v_ := ⟨_, rfl⟩
  have b_v1 : (0 : Int) ≤ v1.toInt ∧ v1.toInt ≤ 30 := by rw [← q_v1]; exact hB 118 44
  refine hk_geti (v := v1) rfl (hH.1 118 (17, 105) rfl) rfl q_v1 ?_
  refine qm_Ru.go 2 (c' := (8, [.ref 118, .int b], [.int (v1 - 1), .int 0, .int b], h)) rfl ?_
  obtain ⟨v2, q_v2, e_v2⟩ := hk_sub (x := v1) (y := 1) (a := v1.toInt) (b := 1) rfl rfl (by omega) (by omega)
  rw [q_v2]
  refine qm_Ru.call (j := 270) (as := [.int b, .int 0, .int v2]) (c' := (11, [.ref 118, .int b], [], h)) rfl rfl rfl ?_
  refine qm_Ru.go 2 (c' := (2, [.int b, .int 0, .int v2], [.int 0, .int b], h)) rfl ?_
  refine hk_clt (ix := b.toInt) (iy := 0) rfl rfl rfl (fun z3 => ?_) (fun z3 => ?_)
  · refine qm_Ru.go 1 (c' := (15, [.int b, .int 0, .int v2], [.int 0], h)) rfl ?_
    refine qm_Ru.rt (v := (some (.int 0))) (h' := h) rfl ?_
    refine qm_Ru.go 0 (c' := (11, [.ref 118, .int b], [.int 0], h)) rfl ?_
    refine qm_Ru.rt (v := (some (.int 0))) (h' := h) rfl ?_
    refine qm_Ru.go 2 (c' := (22, [.ref 118, .int b], [.int 0], h)) rfl ?_
    refine qm_Ru.rt (v := (some (.int 0))) (h' := h) rfl ?_
    refine qm_Ru.go 2 (c' := (9, [.ref 118, .int b, .float 0, .float 0, .float 0, .float 0, .float 0, .float 0, .float 0], [.int (-1)], h)) rfl ?_
    refine qm_Ru.rt (v := (some (.int (-1)))) (h' := h) rfl ?_
    exact k (-1) h.2.1 (h.2.2.1) hB hV (fun _ _ _ => rfl) (fun _ _ => rfl) (bx_f0 rfl)
  · refine qm_Ru.go 2 (c' := (7, [.int b, .int 0, .int v2], [.int v2, .int b], h)) rfl ?_
    refine hk_cgt (ix := b.toInt) (iy := v2.toInt) rfl rfl rfl (fun z4 => ?_) (fun z4 => ?_)
    · refine qm_Ru.go 1 (c' := (15, [.int b, .int 0, .int v2], [.int 0], h)) rfl ?_
      refine qm_Ru.rt (v := (some (.int 0))) (h' := h) rfl ?_
      refine qm_Ru.go 0 (c' := (11, [.ref 118, .int b], [.int 0], h)) rfl ?_
      refine qm_Ru.rt (v := (some (.int 0))) (h' := h) rfl ?_
      refine qm_Ru.go 2 (c' := (22, [.ref 118, .int b], [.int 0], h)) rfl ?_
      refine qm_Ru.rt (v := (some (.int 0))) (h' := h) rfl ?_
      refine qm_Ru.go 2 (c' := (9, [.ref 118, .int b, .float 0, .float 0, .float 0, .float 0, .float 0, .float 0, .float 0], [.int (-1)], h)) rfl ?_
      refine qm_Ru.rt (v := (some (.int (-1)))) (h' := h) rfl ?_
      exact k (-1) h.2.1 (h.2.2.1) hB hV (fun _ _ _ => rfl) (fun _ _ => rfl) (bx_f0 rfl)
    · refine qm_Ru.go 2 (c' := (15, [.int b, .int 0, .int v2], [.int 1], h)) rfl ?_
      refine qm_Ru.rt (v := (some (.int 1))) (h' := h) rfl ?_
      refine qm_Ru.go 0 (c' := (11, [.ref 118, .int b], [.int 1], h)) rfl ?_
      refine qm_Ru.rt (v := (some (.int 1))) (h' := h) rfl ?_
      refine qm_Ru.go 2 (c' := (9, [.ref 118, .int b], [.ref 118], h)) rfl ?_
      refine hk_getr rfl (hH.1 118 (17, 105) rfl) rfl (hH.2 118 49 (some 150) rfl) ?_
      refine qm_Ru.go 1 (c' := (13, [.ref 118, .int b], [.int b, .ref 150], h)) rfl ?_
      obtain ⟨v5, q_v5⟩ : ∃ v_, h.2.1 150 (b.toInt.toNat) = v_ := ⟨_, rfl⟩
      have b_v5 : (0 : Int) ≤ v5.toInt ∧ v5.toInt ≤ 2 := by rw [← q_v5]; exact hB 150 (b.toInt.toNat)
      refine hk_ial (v := v5) rfl (hH.1 150 (0, 30) rfl) (by omega) (by omega) q_v5 ?_
      refine qm_Ru.go 0 (c' := (14, [.ref 118, .int b], [.int v5], h)) rfl ?_
      refine hk_zne (ix := v5.toInt) rfl rfl (fun z6 => ?_) (fun z6 => ?_)
      · refine qm_Ru.go 1 (c' := (22, [.ref 118, .int b], [.int 0], h)) rfl ?_
        refine qm_Ru.rt (v := (some (.int 0))) (h' := h) rfl ?_
        refine qm_Ru.go 2 (c' := (9, [.ref 118, .int b, .float 0, .float 0, .float 0, .float 0, .float 0, .float 0, .float 0], [.int (-1)], h)) rfl ?_
        refine qm_Ru.rt (v := (some (.int (-1)))) (h' := h) rfl ?_
        exact k (-1) h.2.1 (h.2.2.1) hB hV (fun _ _ _ => rfl) (fun _ _ => rfl) (bx_f0 rfl)
      · refine qm_Ru.go 2 (c' := (22, [.ref 118, .int b], [.int 1], h)) rfl ?_
        refine qm_Ru.rt (v := (some (.int 1))) (h' := h) rfl ?_
        refine qm_Ru.go 2 (c' := (11, [.ref 118, .int b, .float 0, .float 0, .float 0, .float 0, .float 0, .float 0, .float 0], [.ref 118], h)) rfl ?_
        refine hk_inv (o := 118) (r := []) (as := [.ref 118]) rfl rfl (hH.1 118 (17, 105) rfl) rfl rfl rfl rfl (hs_broken (h := h) h6 hH hB hV.1.2 (fun v9 I7 J8 hB_I7 e_I7 e8_I7 => ?_))
        have e_I7 : ∀ o, [118, 144, 145].contains o = false → ∀ i, I7 o i = (h.2.1) o i := e_I7
        have e8_I7 : ∀ i, i ≠ 57 → I7 118 i = (h.2.1) 118 i := e8_I7
        have hV_I7 : v_S I7 := v_S_cg8 hV e_I7 e8_I7 (by decide)
        refine qm_Ru.go 9 (c' := (27, [.ref 118, .int b, .int v9, .int (-2), .int 0, .int 0, .int 0, .float 0, .float 0], [], (h.1, I7, J8, h.2.2.2))) rfl ?_
        have h0b : pI h.2.1 150 b.toInt.toNat = 0 := by show (h.2.1 150 (b.toInt.toNat)).toInt = 0; rw [q_v5]; omega
        exact hl4_best h6 hH hB hs hb9 hl9 (P := fun i => i = b.toInt.toNat) (F50 := pI h.2.1 150) (F52 := pI h.2.1 152) (I0 := h.2.1) h8 (by omega) h0b rfl (fun v I J q1 q2 q3 q4 q5 => k v I J q1 q2 q3 q4 (bx_f q5 (fun i z => by rw [z]; exact h0b))) _ (I7) (J8) (-2) 0 0 0 _ _ hB_I7 (fun o ho i => ((e_I7 o (hk_ms rfl ho) i).trans rfl)) (fun i hi => ((e8_I7 i hi).trans rfl)) hV_I7 (bx_0 e_I7 (by decide)) (by decide) rfl
theorem hl4_two1 {L : Nat} {xs : Nat → Int32} {d : Nat} {Z : Option Value → qm_H → Prop} {h : qm_H} (h6 : 6 ≤ L) (hH : hk_H h) (hB : hk_B h.2.1) {s : Nat} (hs : s = 0 ∨ s = 1) (hb9 : 1 ≤ (h.2.1 127 s).toInt ∧ (h.2.1 127 s).toInt ≤ 5) (hl9 : (h.2.1 118 18).toInt = (s : Int)) {P : Nat → Prop} {F50 F52 : Nat → Int} {I0 : Nat → Nat → Int32} (h8 : sf_B F52) {o : Int32} (b_o : (0 : Int) ≤ o.toInt ∧ o.toInt ≤ 29) (h0o : F50 o.toInt.toNat = 0) (hPo : P o.toInt.toNat) {b had q : Int32} (hq : (0 : Int) ≤ q.toInt ∧ q.toInt ≤ 19) (ko : ∀ (I : Nat → Nat → Int32) (J : Nat → Nat → Int64) (be le w : Int32) (l8 : Value), hk_B I → v_S I → (∀ o, [118, 144, 145, 146, 147, 148, 149, 150, 151, 152, 153, 154, 155, 156].contains o = false → ∀ i, I o i = h.2.1 o i) → (∀ i, i ≠ 57 → I 118 i = h.2.1 118 i) → bxR P F50 F52 I0 I → qm_Ru (some (L, xs)) (d + 100) cd_379 (186, [.ref 118, .int b, .int o, .int had, .int be, .int le, .int q, .int w, l8], [], (h.1, I, J, h.2.2.2)) Z) : ∀ (m : Nat) (I : Nat → Nat → Int32) (J : Nat → Nat → Int64) (be : Int32) (le : Int32) (w : Int32) (l8 : Value), hk_B I → (∀ o, [118, 144, 145, 146, 147, 148, 149, 150, 151, 152, 153, 154, 155, 156].contains o = false → ∀ i, I o i = h.2.1 o i) → (∀ i, i ≠ 57 → I 118 i = h.2.1 118 i) → (v_S I) → (bxR P F50 F52 I0 I) → ((0 : Int) ≤ w.toInt ∧ w.toInt ≤ 20) → (20 - w.toInt).toNat = m → qm_Ru (some (L, xs)) (d + 100) cd_379 (76, [.ref 118, .int b, .int o, .int had, .int be, .int le, .int q, .int w, l8], [], (h.1, I, J, h.2.2.2)) Z := by
  intro m
  induction m using Nat.strongRecOn with
  | ind m ih =>
    intro I J be le w l8 hBI e e8 hVI hR hw hm
    refine qm_Ru.go 3 (c' := (80, [.ref 118, .int b, .int o, .int had, .int be, .int le, .int q, .int w, l8], [.ref 118, .int 4, .int w], (h.1, I, J, h.2.2.2))) rfl ?_
    refine hk_getr rfl (hH.1 118 (17, 105) rfl) rfl (hH.2 118 22 (some 127) rfl) ?_
    refine qm_Ru.go 1 (c' := (84, [.ref 118, .int b, .int o, .int had, .int be, .int le, .int q, .int w, l8], [.ref 118, .ref 127, .int 4, .int w], (h.1, I, J, h.2.2.2))) rfl ?_
    obtain ⟨v1, q_v1⟩ : ∃ v_, h.2.1 118 18 = v_ := ⟨_, rfl⟩
    have b_v1 : (0 : Int) ≤ v1.toInt ∧ v1.toInt ≤ 1 := by rw [← q_v1]; exact hB 118 18
    refine hk_geti (v := v1) rfl (hH.1 118 (17, 105) rfl) rfl (show (I) 118 18 = _ from ((e8 18 (by omega)).trans q_v1)) ?_
    refine qm_Ru.go 0 (c' := (87, [.ref 118, .int b, .int o, .int had, .int be, .int le, .int q, .int w, l8], [.int v1, .ref 127, .int 4, .int w], (h.1, I, J, h.2.2.2))) rfl ?_
    obtain ⟨v2, q_v2⟩ : ∃ v_, h.2.1 127 (v1.toInt.toNat) = v_ := ⟨_, rfl⟩
    have b_v2 : (0 : Int) ≤ v2.toInt ∧ v2.toInt ≤ 5 := by rw [← q_v2]; exact hB 127 (v1.toInt.toNat)
    refine hk_ial (v := v2) rfl (hH.1 127 (0, 2) rfl) (by omega) (by omega) (show (I) 127 (v1.toInt.toNat) = _ from ((e 127 rfl (v1.toInt.toNat)).trans q_v2)) ?_
    refine qm_Ru.go 1 (c' := (89, [.ref 118, .int b, .int o, .int had, .int be, .int le, .int q, .int w, l8], [.int (4 * v2), .int w], (h.1, I, J, h.2.2.2))) rfl ?_
    obtain ⟨v3, q_v3, e_v3⟩ := hk_mul (x := 4) (y := v2) (a := 4) (b := v2.toInt) rfl rfl (by omega) (by omega)
    rw [q_v3]
    refine hk_cge (ix := w.toInt) (iy := v3.toInt) rfl rfl rfl (fun z4 => ?_) (fun z4 => ?_)
    · refine qm_Ru.go 0 (c' := (186, [.ref 118, .int b, .int o, .int had, .int be, .int le, .int q, .int w, l8], [], (h.1, I, J, h.2.2.2))) rfl ?_
      exact ko (I) (J) be le w l8 hBI hVI (fun o ho i => (e o ho i)) (fun i hi => (e8 i hi)) hR
    · refine qm_Ru.go 5 (c' := (98, [.ref 118, .int b, .int o, .int had, .int be, .int le, .int q, .int w, l8], [.int (w / 4), .int o, .ref 118], (h.1, I, J, h.2.2.2))) rfl ?_
      obtain ⟨v5, q_v5, e_v5⟩ := hk_div (x := w) (y := 4) (a := w.toInt) (b := 4) rfl rfl (by omega) (by omega)
      rw [q_v5]
      refine qm_Ru.go 3 (c' := (102, [.ref 118, .int b, .int o, .int had, .int be, .int le, .int q, .int w, l8], [.int (w - w / 4 * 4), .int v5, .int o, .ref 118], (h.1, I, J, h.2.2.2))) rfl ?_
      obtain ⟨v6, q_v6, e_v6⟩ := hk_rem (x := w) (y := 4) (a := w.toInt) (b := 4) rfl rfl (by omega) (by omega)
      rw [q_v6]
      refine hk_inv (o := 118) (r := []) (as := [.ref 118, .int o, .int v5, .int v6]) rfl rfl (hH.1 118 (17, 105) rfl) rfl rfl rfl rfl (bl_load (h := (h.1, I, J, h.2.2.2)) hs h6 hH hBI hVI (bx_8 hR h8) (by show (1 : Int) ≤ (I 127 s).toInt ∧ (I 127 s).toInt ≤ 5; rw [e 127 rfl s]; exact hb9) (by show (I 118 18).toInt = (s : Int); rw [e8 18 (by decide)]; exact hl9) (by omega) (bx_w hR h0o) b_o (fun I7 v8 hB_I7 hV_I7 e_I7 s8_I7 n_I7 p_I7 => ?_))
      have e_I7 : ∀ o, [150, 151, 152, 153, 154, 155, 156].contains o = false → ∀ i, I7 o i = (I) o i := e_I7
      refine qm_Ru.go 0 (c' := (105, [.ref 118, .int b, .int o, .int had, .int be, .int le, .int q, .int w, l8], [.int v8], (h.1, I7, J, h.2.2.2))) rfl ?_
      refine hk_zge (ix := v8.toInt) rfl rfl (fun z9 => ?_) (fun z9 => ?_)
      · refine qm_Ru.go 0 (c' := (111, [.ref 118, .int b, .int o, .int had, .int be, .int le, .int q, .int w, l8], [], (h.1, I7, J, h.2.2.2))) rfl ?_
        obtain ⟨f10, l11⟩ := bx_p hR hPo (p_I7 (by omega))
        refine qm_Ru.go 1 (c' := (112, [.ref 118, .int b, .int o, .int had, .int be, .int le, .int q, .int w, l8], [.ref 118], (h.1, I7, J, h.2.2.2))) rfl ?_
        refine hk_inv (o := 118) (r := []) (as := [.ref 118]) rfl rfl (hH.1 118 (17, 105) rfl) rfl rfl rfl rfl (hs_broken (h := (h.1, I7, J, h.2.2.2)) h6 hH hB_I7 hV_I7.1.2 (fun v14 I12 J13 hB_I12 e_I12 e8_I12 => ?_))
        have e_I12 : ∀ o, [118, 144, 145].contains o = false → ∀ i, I12 o i = (I7) o i := e_I12
        have e8_I12 : ∀ i, i ≠ 57 → I12 118 i = (I7) 118 i := e8_I12
        have hV_I12 : v_S I12 := v_S_cg8 hV_I7 e_I12 e8_I12 (by decide)
        have l15 := bxL_cg l11 e_I12 (by decide)
        refine qm_Ru.go 2 (c' := (117, [.ref 118, .int b, .int o, .int had, .int be, .int le, .int q, .int w, l8], [.int (v14 - had)], (h.1, I12, J13, h.2.2.2))) rfl ?_
        obtain ⟨v16, q_v16⟩ : ∃ v_, (v14 - had) = v_ := ⟨_, rfl⟩
        rw [q_v16]
        refine qm_Ru.go 2 (c' := (119, [.ref 118, .int b, .int o, .int had, .int be, .int le, .int q, .int w, l8], [.int (-1), .ref 118, .int v16], (h.1, I12, J13, h.2.2.2))) rfl ?_
        refine hk_inv (o := 118) (r := [.int v16]) (as := [.ref 118, .int (-1)]) rfl rfl (hH.1 118 (17, 105) rfl) rfl rfl rfl rfl (hs_rover (h := (h.1, I12, J13, h.2.2.2)) h6 hH hB_I12 (v_R_ru hV_I12.1.1) ⟨by decide, by decide⟩ (by omega) (fun v17 I18 J19 c_v17 hB_I18 e_I18 => ?_))
        have e_I18 : I12 = I18 := funext fun o => funext fun i => (e_I18 o rfl i).symm
        subst e_I18
        refine qm_Ru.go 1 (c' := (123, [.ref 118, .int b, .int o, .int had, .int be, .int le, .int q, .int w, l8], [.int (v16 + v17)], (h.1, I12, J19, h.2.2.2))) rfl ?_
        obtain ⟨v20, q_v20⟩ : ∃ v_, (v16 + v17) = v_ := ⟨_, rfl⟩
        rw [q_v20]
        refine qm_Ru.go 3 (c' := (127, [.ref 118, .int b, .int o, .int had, .int be, .int le, .int q, .int w, .int v20], [.int o, .ref 118], (h.1, I12, J19, h.2.2.2))) rfl ?_
        refine hk_inv (o := 118) (r := []) (as := [.ref 118, .int o]) rfl rfl (hH.1 118 (17, 105) rfl) rfl rfl rfl rfl (bl_leaves (h := (h.1, I12, J19, h.2.2.2)) hH hB_I12 hV_I12 b_o (bxL_w l15) l15.1.2.2 (fun I21 hB_I21 hV_I21 e_I21 x50_I21 x52_I21 => ?_))
        have e_I21 : ∀ o, [150, 152].contains o = false → ∀ i, I21 o i = (I12) o i := e_I21
        refine qm_Ru.go 1 (c' := (132, [.ref 118, .int b, .int o, .int had, .int be, .int le, .int q, .int w, .int v20], [.int be], (h.1, I21, J19, h.2.2.2))) rfl ?_
        refine hk_zlt (ix := be.toInt) rfl rfl (fun z22 => ?_) (fun z22 => ?_)
        · refine qm_Ru.go 4 (c' := (152, [.ref 118, .int b, .int o, .int had, .int be, .int le, .int q, .int w, .int v20], [.int (q / 4), .int 1000], (h.1, I21, J19, h.2.2.2))) rfl ?_
          obtain ⟨v23, q_v23, e_v23⟩ := hk_div (x := q) (y := 4) (a := q.toInt) (b := 4) rfl rfl (by omega) (by omega)
          rw [q_v23]
          refine qm_Ru.go 1 (c' := (153, [.ref 118, .int b, .int o, .int had, .int be, .int le, .int q, .int w, .int v20], [.int (1000 * v23)], (h.1, I21, J19, h.2.2.2))) rfl ?_
          obtain ⟨v24, q_v24, e_v24⟩ := hk_mul (x := 1000) (y := v23) (a := 1000) (b := v23.toInt) rfl rfl (by omega) (by omega)
          rw [q_v24]
          refine qm_Ru.go 4 (c' := (159, [.ref 118, .int b, .int o, .int had, .int be, .int le, .int q, .int w, .int v20], [.int (q - q / 4 * 4), .int 100, .int v24], (h.1, I21, J19, h.2.2.2))) rfl ?_
          obtain ⟨v25, q_v25, e_v25⟩ := hk_rem (x := q) (y := 4) (a := q.toInt) (b := 4) rfl rfl (by omega) (by omega)
          rw [q_v25]
          refine qm_Ru.go 1 (c' := (160, [.ref 118, .int b, .int o, .int had, .int be, .int le, .int q, .int w, .int v20], [.int (100 * v25), .int v24], (h.1, I21, J19, h.2.2.2))) rfl ?_
          obtain ⟨v26, q_v26, e_v26⟩ := hk_mul (x := 100) (y := v25) (a := 100) (b := v25.toInt) rfl rfl (by omega) (by omega)
          rw [q_v26]
          refine qm_Ru.go 1 (c' := (161, [.ref 118, .int b, .int o, .int had, .int be, .int le, .int q, .int w, .int v20], [.int (v24 + v26)], (h.1, I21, J19, h.2.2.2))) rfl ?_
          obtain ⟨v27, q_v27, e_v27⟩ := hk_add (x := v24) (y := v26) (a := v24.toInt) (b := v26.toInt) rfl rfl (by omega) (by omega)
          rw [q_v27]
          refine qm_Ru.go 4 (c' := (167, [.ref 118, .int b, .int o, .int had, .int be, .int le, .int q, .int w, .int v20], [.int (w / 4), .int 10, .int v27], (h.1, I21, J19, h.2.2.2))) rfl ?_
          rw [q_v5]
          refine qm_Ru.go 1 (c' := (168, [.ref 118, .int b, .int o, .int had, .int be, .int le, .int q, .int w, .int v20], [.int (10 * v5), .int v27], (h.1, I21, J19, h.2.2.2))) rfl ?_
          obtain ⟨v29, q_v29, e_v29⟩ := hk_mul (x := 10) (y := v5) (a := 10) (b := v5.toInt) rfl rfl (by omega) (by omega)
          rw [q_v29]
          refine qm_Ru.go 1 (c' := (169, [.ref 118, .int b, .int o, .int had, .int be, .int le, .int q, .int w, .int v20], [.int (v27 + v29)], (h.1, I21, J19, h.2.2.2))) rfl ?_
          obtain ⟨v30, q_v30, e_v30⟩ := hk_add (x := v27) (y := v29) (a := v27.toInt) (b := v29.toInt) rfl rfl (by omega) (by omega)
          rw [q_v30]
          refine qm_Ru.go 3 (c' := (173, [.ref 118, .int b, .int o, .int had, .int be, .int le, .int q, .int w, .int v20], [.int (w - w / 4 * 4), .int v30], (h.1, I21, J19, h.2.2.2))) rfl ?_
          rw [q_v6]
          refine qm_Ru.go 1 (c' := (174, [.ref 118, .int b, .int o, .int had, .int be, .int le, .int q, .int w, .int v20], [.int (v30 + v6)], (h.1, I21, J19, h.2.2.2))) rfl ?_
          obtain ⟨v32, q_v32, e_v32⟩ := hk_add (x := v30) (y := v6) (a := v30.toInt) (b := v6.toInt) rfl rfl (by omega) (by omega)
          rw [q_v32]
          refine qm_Ru.go 4 (c' := (183, [.ref 118, .int b, .int o, .int had, .int v32, .int v20, .int q, .int (w + 1), .int v20], [], (h.1, I21, J19, h.2.2.2))) rfl ?_
          obtain ⟨v33, q_v33, e_v33⟩ := hk_add (x := w) (y := 1) (a := w.toInt) (b := 1) rfl rfl (by omega) (by omega)
          rw [q_v33]
          refine qm_Ru.go 1 (c' := (76, [.ref 118, .int b, .int o, .int had, .int v32, .int v20, .int q, .int v33, .int v20], [], (h.1, I21, J19, h.2.2.2))) rfl ?_
          exact ih _ (by omega) (I21) (J19) v32 v20 v33 (.int v20) hB_I21 (fun o ho i => ((e_I21 o (hk_ms rfl ho) i).trans ((e_I12 o (hk_ms rfl ho) i).trans ((e_I7 o (hk_ms rfl ho) i).trans (e o ho i))))) (fun i hi => ((e_I21 118 rfl i).trans ((e8_I12 i hi).trans ((e_I7 118 rfl i).trans (e8 i hi))))) hV_I21 (bx_l l15 h0o e_I21 x50_I21 x52_I21) (by omega) rfl
        · refine qm_Ru.go 2 (c' := (139, [.ref 118, .int b, .int o, .int had, .int be, .int le, .int q, .int w, .int v20], [.int le, .int v20], (h.1, I21, J19, h.2.2.2))) rfl ?_
          refine hk_clt (ix := v20.toInt) (iy := le.toInt) rfl rfl rfl (fun z34 => ?_) (fun z34 => ?_)
          · refine qm_Ru.go 4 (c' := (152, [.ref 118, .int b, .int o, .int had, .int be, .int le, .int q, .int w, .int v20], [.int (q / 4), .int 1000], (h.1, I21, J19, h.2.2.2))) rfl ?_
            obtain ⟨v35, q_v35, e_v35⟩ := hk_div (x := q) (y := 4) (a := q.toInt) (b := 4) rfl rfl (by omega) (by omega)
            rw [q_v35]
            refine qm_Ru.go 1 (c' := (153, [.ref 118, .int b, .int o, .int had, .int be, .int le, .int q, .int w, .int v20], [.int (1000 * v35)], (h.1, I21, J19, h.2.2.2))) rfl ?_
            obtain ⟨v36, q_v36, e_v36⟩ := hk_mul (x := 1000) (y := v35) (a := 1000) (b := v35.toInt) rfl rfl (by omega) (by omega)
            rw [q_v36]
            refine qm_Ru.go 4 (c' := (159, [.ref 118, .int b, .int o, .int had, .int be, .int le, .int q, .int w, .int v20], [.int (q - q / 4 * 4), .int 100, .int v36], (h.1, I21, J19, h.2.2.2))) rfl ?_
            obtain ⟨v37, q_v37, e_v37⟩ := hk_rem (x := q) (y := 4) (a := q.toInt) (b := 4) rfl rfl (by omega) (by omega)
            rw [q_v37]
            refine qm_Ru.go 1 (c' := (160, [.ref 118, .int b, .int o, .int had, .int be, .int le, .int q, .int w, .int v20], [.int (100 * v37), .int v36], (h.1, I21, J19, h.2.2.2))) rfl ?_
            obtain ⟨v38, q_v38, e_v38⟩ := hk_mul (x := 100) (y := v37) (a := 100) (b := v37.toInt) rfl rfl (by omega) (by omega)
            rw [q_v38]
            refine qm_Ru.go 1 (c' := (161, [.ref 118, .int b, .int o, .int had, .int be, .int le, .int q, .int w, .int v20], [.int (v36 + v38)], (h.1, I21, J19, h.2.2.2))) rfl ?_
            obtain ⟨v39, q_v39, e_v39⟩ := hk_add (x := v36) (y := v38) (a := v36.toInt) (b := v38.toInt) rfl rfl (by omega) (by omega)
            rw [q_v39]
            refine qm_Ru.go 4 (c' := (167, [.ref 118, .int b, .int o, .int had, .int be, .int le, .int q, .int w, .int v20], [.int (w / 4), .int 10, .int v39], (h.1, I21, J19, h.2.2.2))) rfl ?_
            rw [q_v5]
            refine qm_Ru.go 1 (c' := (168, [.ref 118, .int b, .int o, .int had, .int be, .int le, .int q, .int w, .int v20], [.int (10 * v5), .int v39], (h.1, I21, J19, h.2.2.2))) rfl ?_
            obtain ⟨v41, q_v41, e_v41⟩ := hk_mul (x := 10) (y := v5) (a := 10) (b := v5.toInt) rfl rfl (by omega) (by omega)
            rw [q_v41]
            refine qm_Ru.go 1 (c' := (169, [.ref 118, .int b, .int o, .int had, .int be, .int le, .int q, .int w, .int v20], [.int (v39 + v41)], (h.1, I21, J19, h.2.2.2))) rfl ?_
            obtain ⟨v42, q_v42, e_v42⟩ := hk_add (x := v39) (y := v41) (a := v39.toInt) (b := v41.toInt) rfl rfl (by omega) (by omega)
            rw [q_v42]
            refine qm_Ru.go 3 (c' := (173, [.ref 118, .int b, .int o, .int had, .int be, .int le, .int q, .int w, .int v20], [.int (w - w / 4 * 4), .int v42], (h.1, I21, J19, h.2.2.2))) rfl ?_
            rw [q_v6]
            refine qm_Ru.go 1 (c' := (174, [.ref 118, .int b, .int o, .int had, .int be, .int le, .int q, .int w, .int v20], [.int (v42 + v6)], (h.1, I21, J19, h.2.2.2))) rfl ?_
            obtain ⟨v44, q_v44, e_v44⟩ := hk_add (x := v42) (y := v6) (a := v42.toInt) (b := v6.toInt) rfl rfl (by omega) (by omega)
            rw [q_v44]
            refine qm_Ru.go 4 (c' := (183, [.ref 118, .int b, .int o, .int had, .int v44, .int v20, .int q, .int (w + 1), .int v20], [], (h.1, I21, J19, h.2.2.2))) rfl ?_
            obtain ⟨v45, q_v45, e_v45⟩ := hk_add (x := w) (y := 1) (a := w.toInt) (b := 1) rfl rfl (by omega) (by omega)
            rw [q_v45]
            refine qm_Ru.go 1 (c' := (76, [.ref 118, .int b, .int o, .int had, .int v44, .int v20, .int q, .int v45, .int v20], [], (h.1, I21, J19, h.2.2.2))) rfl ?_
            exact ih _ (by omega) (I21) (J19) v44 v20 v45 (.int v20) hB_I21 (fun o ho i => ((e_I21 o (hk_ms rfl ho) i).trans ((e_I12 o (hk_ms rfl ho) i).trans ((e_I7 o (hk_ms rfl ho) i).trans (e o ho i))))) (fun i hi => ((e_I21 118 rfl i).trans ((e8_I12 i hi).trans ((e_I7 118 rfl i).trans (e8 i hi))))) hV_I21 (bx_l l15 h0o e_I21 x50_I21 x52_I21) (by omega) rfl
          · refine qm_Ru.go 2 (c' := (183, [.ref 118, .int b, .int o, .int had, .int be, .int le, .int q, .int (w + 1), .int v20], [], (h.1, I21, J19, h.2.2.2))) rfl ?_
            obtain ⟨v46, q_v46, e_v46⟩ := hk_add (x := w) (y := 1) (a := w.toInt) (b := 1) rfl rfl (by omega) (by omega)
            rw [q_v46]
            refine qm_Ru.go 1 (c' := (76, [.ref 118, .int b, .int o, .int had, .int be, .int le, .int q, .int v46, .int v20], [], (h.1, I21, J19, h.2.2.2))) rfl ?_
            exact ih _ (by omega) (I21) (J19) be le v46 (.int v20) hB_I21 (fun o ho i => ((e_I21 o (hk_ms rfl ho) i).trans ((e_I12 o (hk_ms rfl ho) i).trans ((e_I7 o (hk_ms rfl ho) i).trans (e o ho i))))) (fun i hi => ((e_I21 118 rfl i).trans ((e8_I12 i hi).trans ((e_I7 118 rfl i).trans (e8 i hi))))) hV_I21 (bx_l l15 h0o e_I21 x50_I21 x52_I21) (by omega) rfl
      · refine qm_Ru.go 2 (c' := (183, [.ref 118, .int b, .int o, .int had, .int be, .int le, .int q, .int (w + 1), l8], [], (h.1, I7, J, h.2.2.2))) rfl ?_
        obtain ⟨v47, q_v47, e_v47⟩ := hk_add (x := w) (y := 1) (a := w.toInt) (b := 1) rfl rfl (by omega) (by omega)
        rw [q_v47]
        refine qm_Ru.go 1 (c' := (76, [.ref 118, .int b, .int o, .int had, .int be, .int le, .int q, .int v47, l8], [], (h.1, I7, J, h.2.2.2))) rfl ?_
        exact ih _ (by omega) (I7) (J) be le v47 l8 hB_I7 (fun o ho i => ((e_I7 o (hk_ms rfl ho) i).trans (e o ho i))) (fun i hi => ((e_I7 118 rfl i).trans (e8 i hi))) hV_I7 (bx_n hR hPo (n_I7 (by omega))) (by omega) rfl
theorem hl4_two2 {L : Nat} {xs : Nat → Int32} {d : Nat} {Z : Option Value → qm_H → Prop} {h : qm_H} (h6 : 6 ≤ L) (hH : hk_H h) (hB : hk_B h.2.1) {s : Nat} (hs : s = 0 ∨ s = 1) (hb9 : 1 ≤ (h.2.1 127 s).toInt ∧ (h.2.1 127 s).toInt ≤ 5) (hl9 : (h.2.1 118 18).toInt = (s : Int)) {P : Nat → Prop} {F50 F52 : Nat → Int} {I0 : Nat → Nat → Int32} (h8 : sf_B F52) {b : Int32} (b_b : (0 : Int) ≤ b.toInt ∧ b.toInt ≤ 29) (h0b : F50 b.toInt.toNat = 0) (hPb : P b.toInt.toNat) {o : Int32} (b_o : (0 : Int) ≤ o.toInt ∧ o.toInt ≤ 29) (h0o : F50 o.toInt.toNat = 0) (hPo : P o.toInt.toNat) (hbo : b.toInt ≠ o.toInt) {had : Int32} (k : ∀ (v : Int32) (I : Nat → Nat → Int32) (J : Nat → Nat → Int64), hk_B I → v_S I → (∀ o, [118, 144, 145, 146, 147, 148, 149, 150, 151, 152, 153, 154, 155, 156].contains o = false → ∀ i, I o i = h.2.1 o i) → (∀ i, i ≠ 57 → I 118 i = h.2.1 118 i) → bxR P F50 F52 I0 I → Z (some (.int v)) (h.1, I, J, h.2.2.2)) : ∀ (m : Nat) (I : Nat → Nat → Int32) (J : Nat → Nat → Int64) (be : Int32) (le : Int32) (q : Int32) (l7 l8 : Value), hk_B I → (∀ o, [118, 144, 145, 146, 147, 148, 149, 150, 151, 152, 153, 154, 155, 156].contains o = false → ∀ i, I o i = h.2.1 o i) → (∀ i, i ≠ 57 → I 118 i = h.2.1 118 i) → (v_S I) → (bxR P F50 F52 I0 I) → ((0 : Int) ≤ q.toInt ∧ q.toInt ≤ 20) → (20 - q.toInt).toNat = m → qm_Ru (some (L, xs)) (d + 100) cd_379 (38, [.ref 118, .int b, .int o, .int had, .int be, .int le, .int q, l7, l8], [], (h.1, I, J, h.2.2.2)) Z := by
  intro m
  induction m using Nat.strongRecOn with
  | ind m ih =>
    intro I J be le q l7 l8 hBI e e8 hVI hR hq hm
    refine qm_Ru.go 3 (c' := (42, [.ref 118, .int b, .int o, .int had, .int be, .int le, .int q, l7, l8], [.ref 118, .int 4, .int q], (h.1, I, J, h.2.2.2))) rfl ?_
    refine hk_getr rfl (hH.1 118 (17, 105) rfl) rfl (hH.2 118 22 (some 127) rfl) ?_
    refine qm_Ru.go 1 (c' := (46, [.ref 118, .int b, .int o, .int had, .int be, .int le, .int q, l7, l8], [.ref 118, .ref 127, .int 4, .int q], (h.1, I, J, h.2.2.2))) rfl ?_
    obtain ⟨v1, q_v1⟩ : ∃ v_, h.2.1 118 18 = v_ := ⟨_, rfl⟩
    have b_v1 : (0 : Int) ≤ v1.toInt ∧ v1.toInt ≤ 1 := by rw [← q_v1]; exact hB 118 18
    refine hk_geti (v := v1) rfl (hH.1 118 (17, 105) rfl) rfl (show (I) 118 18 = _ from ((e8 18 (by omega)).trans q_v1)) ?_
    refine qm_Ru.go 0 (c' := (49, [.ref 118, .int b, .int o, .int had, .int be, .int le, .int q, l7, l8], [.int v1, .ref 127, .int 4, .int q], (h.1, I, J, h.2.2.2))) rfl ?_
    obtain ⟨v2, q_v2⟩ : ∃ v_, h.2.1 127 (v1.toInt.toNat) = v_ := ⟨_, rfl⟩
    have b_v2 : (0 : Int) ≤ v2.toInt ∧ v2.toInt ≤ 5 := by rw [← q_v2]; exact hB 127 (v1.toInt.toNat)
    refine hk_ial (v := v2) rfl (hH.1 127 (0, 2) rfl) (by omega) (by omega) (show (I) 127 (v1.toInt.toNat) = _ from ((e 127 rfl (v1.toInt.toNat)).trans q_v2)) ?_
    refine qm_Ru.go 1 (c' := (51, [.ref 118, .int b, .int o, .int had, .int be, .int le, .int q, l7, l8], [.int (4 * v2), .int q], (h.1, I, J, h.2.2.2))) rfl ?_
    obtain ⟨v3, q_v3, e_v3⟩ := hk_mul (x := 4) (y := v2) (a := 4) (b := v2.toInt) rfl rfl (by omega) (by omega)
    rw [q_v3]
    refine hk_cge (ix := q.toInt) (iy := v3.toInt) rfl rfl rfl (fun z4 => ?_) (fun z4 => ?_)
    · refine qm_Ru.go 1 (c' := (199, [.ref 118, .int b, .int o, .int had, .int be, .int le, .int q, l7, l8], [.int be], (h.1, I, J, h.2.2.2))) rfl ?_
      refine qm_Ru.rt (v := (some (.int be))) (h' := (h.1, I, J, h.2.2.2)) rfl ?_
      exact k be (I) (J) hBI hVI (fun o ho i => (e o ho i)) (fun i hi => (e8 i hi)) hR
    · refine qm_Ru.go 5 (c' := (60, [.ref 118, .int b, .int o, .int had, .int be, .int le, .int q, l7, l8], [.int (q / 4), .int b, .ref 118], (h.1, I, J, h.2.2.2))) rfl ?_
      obtain ⟨v5, q_v5, e_v5⟩ := hk_div (x := q) (y := 4) (a := q.toInt) (b := 4) rfl rfl (by omega) (by omega)
      rw [q_v5]
      refine qm_Ru.go 3 (c' := (64, [.ref 118, .int b, .int o, .int had, .int be, .int le, .int q, l7, l8], [.int (q - q / 4 * 4), .int v5, .int b, .ref 118], (h.1, I, J, h.2.2.2))) rfl ?_
      obtain ⟨v6, q_v6, e_v6⟩ := hk_rem (x := q) (y := 4) (a := q.toInt) (b := 4) rfl rfl (by omega) (by omega)
      rw [q_v6]
      refine hk_inv (o := 118) (r := []) (as := [.ref 118, .int b, .int v5, .int v6]) rfl rfl (hH.1 118 (17, 105) rfl) rfl rfl rfl rfl (bl_load (h := (h.1, I, J, h.2.2.2)) hs h6 hH hBI hVI (bx_8 hR h8) (by show (1 : Int) ≤ (I 127 s).toInt ∧ (I 127 s).toInt ≤ 5; rw [e 127 rfl s]; exact hb9) (by show (I 118 18).toInt = (s : Int); rw [e8 18 (by decide)]; exact hl9) (by omega) (bx_w hR h0b) b_b (fun I7 v8 hB_I7 hV_I7 e_I7 s8_I7 n_I7 p_I7 => ?_))
      have e_I7 : ∀ o, [150, 151, 152, 153, 154, 155, 156].contains o = false → ∀ i, I7 o i = (I) o i := e_I7
      refine qm_Ru.go 0 (c' := (67, [.ref 118, .int b, .int o, .int had, .int be, .int le, .int q, l7, l8], [.int v8], (h.1, I7, J, h.2.2.2))) rfl ?_
      refine hk_zge (ix := v8.toInt) rfl rfl (fun z9 => ?_) (fun z9 => ?_)
      · refine qm_Ru.go 0 (c' := (73, [.ref 118, .int b, .int o, .int had, .int be, .int le, .int q, l7, l8], [], (h.1, I7, J, h.2.2.2))) rfl ?_
        obtain ⟨f10, l11⟩ := bx_p hR hPb (p_I7 (by omega))
        refine qm_Ru.go 2 (c' := (76, [.ref 118, .int b, .int o, .int had, .int be, .int le, .int q, .int 0, l8], [], (h.1, I7, J, h.2.2.2))) rfl ?_
        refine hl4_two1 (h := (h.1, I7, J, h.2.2.2)) (s := s) h6 hH hB_I7 hs (by show (1 : Int) ≤ (I7 127 s).toInt ∧ (I7 127 s).toInt ≤ 5; rw [e_I7 127 rfl s, e 127 rfl s]; exact hb9) (by show (I7 118 18).toInt = (s : Int); rw [e_I7 118 rfl 18, e8 18 (by decide)]; exact hl9) (P := fun i => i = o.toInt.toNat) (F50 := fu_up F50 b.toInt.toNat 1) (F52 := fu_up F52 f10 b.toInt) (I0 := I7) (by rw [← l11.2.2.1]; exact s8_I7) b_o (by rw [fu_ne (by omega)]; exact h0o) rfl (by omega) (fun I12 J13 g19 g20 g21 g22 B14 V15 e16 f17 r18 => ?_) _ (I7) (J) be le 0 l8 hB_I7 (fun _ _ _ => rfl) (fun _ _ => rfl) hV_I7 (bx_m (bx_i l11) (fun _ z => z.elim)) (by decide) rfl
        have l23 := bx_in l11 hPo (by omega) r18
        refine qm_Ru.go 2 (c' := (188, [.ref 118, .int b, .int o, .int had, .int g19, .int g20, .int q, .int g21, g22], [.int b, .ref 118], (h.1, I12, J13, h.2.2.2))) rfl ?_
        refine hk_inv (o := 118) (r := []) (as := [.ref 118, .int b]) rfl rfl (hH.1 118 (17, 105) rfl) rfl rfl rfl rfl (bl_leaves (h := (h.1, I12, J13, h.2.2.2)) hH B14 V15 b_b (bxL_w l23) l23.1.2.2 (fun I24 hB_I24 hV_I24 e_I24 x50_I24 x52_I24 => ?_))
        have e_I24 : ∀ o, [150, 152].contains o = false → ∀ i, I24 o i = (I12) o i := e_I24
        refine qm_Ru.go 1 (c' := (194, [.ref 118, .int b, .int o, .int had, .int g19, .int g20, .int (q + 1), .int g21, g22], [], (h.1, I24, J13, h.2.2.2))) rfl ?_
        obtain ⟨v25, q_v25, e_v25⟩ := hk_add (x := q) (y := 1) (a := q.toInt) (b := 1) rfl rfl (by omega) (by omega)
        rw [q_v25]
        refine qm_Ru.go 1 (c' := (38, [.ref 118, .int b, .int o, .int had, .int g19, .int g20, .int v25, .int g21, g22], [], (h.1, I24, J13, h.2.2.2))) rfl ?_
        exact ih _ (by omega) (I24) (J13) g19 g20 v25 (.int g21) g22 hB_I24 (fun o ho i => ((e_I24 o (hk_ms rfl ho) i).trans ((e16 o (hk_ms rfl ho) i).trans ((e_I7 o (hk_ms rfl ho) i).trans (e o ho i))))) (fun i hi => ((e_I24 118 rfl i).trans ((f17 i hi).trans ((e_I7 118 rfl i).trans (e8 i hi))))) hV_I24 (bx_l l23 h0b e_I24 x50_I24 x52_I24) (by omega) rfl
      · refine qm_Ru.go 2 (c' := (194, [.ref 118, .int b, .int o, .int had, .int be, .int le, .int (q + 1), l7, l8], [], (h.1, I7, J, h.2.2.2))) rfl ?_
        obtain ⟨v26, q_v26, e_v26⟩ := hk_add (x := q) (y := 1) (a := q.toInt) (b := 1) rfl rfl (by omega) (by omega)
        rw [q_v26]
        refine qm_Ru.go 1 (c' := (38, [.ref 118, .int b, .int o, .int had, .int be, .int le, .int v26, l7, l8], [], (h.1, I7, J, h.2.2.2))) rfl ?_
        exact ih _ (by omega) (I7) (J) be le v26 l7 l8 hB_I7 (fun o ho i => ((e_I7 o (hk_ms rfl ho) i).trans (e o ho i))) (fun i hi => ((e_I7 118 rfl i).trans (e8 i hi))) hV_I7 (bx_n hR hPb (n_I7 (by omega))) (by omega) rfl
theorem hw4_two {s L : Nat} {xs : Nat → Int32} {d : Nat} {Z : Option Value → qm_H → Prop} {h : qm_H} (h6 : 6 ≤ L) (hH : hk_H h) (hB : hk_B h.2.1) (hV : v_S h.2.1) (hs : s = 0 ∨ s = 1) (hb9 : 1 ≤ (h.2.1 127 s).toInt ∧ (h.2.1 127 s).toInt ≤ 5) (hl9 : (h.2.1 118 18).toInt = (s : Int)) (h8 : sf_B (pI h.2.1 152)) {b o : Int32} (k : ∀ (v : Int32) (I : Nat → Nat → Int32) (J : Nat → Nat → Int64), hk_B I → v_S I → (∀ o, [118, 144, 145, 146, 147, 148, 149, 150, 151, 152, 153, 154, 155, 156].contains o = false → ∀ i, I o i = h.2.1 o i) → (∀ i, i ≠ 57 → I 118 i = h.2.1 118 i) → bxF h.2.1 I → Z (some (.int v)) (h.1, I, J, h.2.2.2)) : qm_Ru (some (L, xs)) (d + 100) cd_379 (qm_ent 9 [.ref 118, .int b, .int o] h) Z := by
  refine qm_Ru.go 2 (c' := (2, [.ref 118, .int b, .int o, .float 0, .float 0, .float 0, .float 0, .float 0, .float 0], [.int b, .ref 118], h)) rfl ?_
  refine hk_inv (o := 118) (r := []) (as := [.ref 118, .int b]) rfl rfl (hH.1 118 (17, 105) rfl) rfl rfl rfl rfl ?_
  refine qm_Ru.go 2 (c' := (2, [.ref 118, .int b], [.int b, .ref 118], h)) rfl ?_
  refine hk_inv (o := 118) (r := []) (as := [.ref 118, .int b]) rfl rfl (hH.1 118 (17, 105) rfl) rfl rfl rfl rfl ?_
  refine qm_Ru.go 3 (c' := (3, [.ref 118, .int b], [.ref 118, .int 0, .int b], h)) rfl ?_
  obtain ⟨v1, q_v1⟩ : ∃ v_, h.2.1 118 44 = v_ := ⟨_, rfl⟩
  have b_v1 : (0 : Int) ≤ v1.toInt ∧ v1.toInt ≤ 30 := by rw [← q_v1]; exact hB 118 44
  refine hk_geti (v := v1) rfl (hH.1 118 (17, 105) rfl) rfl q_v1 ?_
  refine qm_Ru.go 2 (c' := (8, [.ref 118, .int b], [.int (v1 - 1), .int 0, .int b], h)) rfl ?_
  obtain ⟨v2, q_v2, e_v2⟩ := hk_sub (x := v1) (y := 1) (a := v1.toInt) (b := 1) rfl rfl (by omega) (by omega)
  rw [q_v2]
  refine qm_Ru.call (j := 270) (as := [.int b, .int 0, .int v2]) (c' := (11, [.ref 118, .int b], [], h)) rfl rfl rfl ?_
  refine qm_Ru.go 2 (c' := (2, [.int b, .int 0, .int v2], [.int 0, .int b], h)) rfl ?_
  refine hk_clt (ix := b.toInt) (iy := 0) rfl rfl rfl (fun z3 => ?_) (fun z3 => ?_)
  · refine qm_Ru.go 1 (c' := (15, [.int b, .int 0, .int v2], [.int 0], h)) rfl ?_
    refine qm_Ru.rt (v := (some (.int 0))) (h' := h) rfl ?_
    refine qm_Ru.go 0 (c' := (11, [.ref 118, .int b], [.int 0], h)) rfl ?_
    refine qm_Ru.rt (v := (some (.int 0))) (h' := h) rfl ?_
    refine qm_Ru.go 2 (c' := (22, [.ref 118, .int b], [.int 0], h)) rfl ?_
    refine qm_Ru.rt (v := (some (.int 0))) (h' := h) rfl ?_
    refine qm_Ru.go 2 (c' := (22, [.ref 118, .int b, .int o, .float 0, .float 0, .float 0, .float 0, .float 0, .float 0], [.int (-1)], h)) rfl ?_
    refine qm_Ru.rt (v := (some (.int (-1)))) (h' := h) rfl ?_
    exact k (-1) h.2.1 (h.2.2.1) hB hV (fun _ _ _ => rfl) (fun _ _ => rfl) (bx_f0 rfl)
  · refine qm_Ru.go 2 (c' := (7, [.int b, .int 0, .int v2], [.int v2, .int b], h)) rfl ?_
    refine hk_cgt (ix := b.toInt) (iy := v2.toInt) rfl rfl rfl (fun z4 => ?_) (fun z4 => ?_)
    · refine qm_Ru.go 1 (c' := (15, [.int b, .int 0, .int v2], [.int 0], h)) rfl ?_
      refine qm_Ru.rt (v := (some (.int 0))) (h' := h) rfl ?_
      refine qm_Ru.go 0 (c' := (11, [.ref 118, .int b], [.int 0], h)) rfl ?_
      refine qm_Ru.rt (v := (some (.int 0))) (h' := h) rfl ?_
      refine qm_Ru.go 2 (c' := (22, [.ref 118, .int b], [.int 0], h)) rfl ?_
      refine qm_Ru.rt (v := (some (.int 0))) (h' := h) rfl ?_
      refine qm_Ru.go 2 (c' := (22, [.ref 118, .int b, .int o, .float 0, .float 0, .float 0, .float 0, .float 0, .float 0], [.int (-1)], h)) rfl ?_
      refine qm_Ru.rt (v := (some (.int (-1)))) (h' := h) rfl ?_
      exact k (-1) h.2.1 (h.2.2.1) hB hV (fun _ _ _ => rfl) (fun _ _ => rfl) (bx_f0 rfl)
    · refine qm_Ru.go 2 (c' := (15, [.int b, .int 0, .int v2], [.int 1], h)) rfl ?_
      refine qm_Ru.rt (v := (some (.int 1))) (h' := h) rfl ?_
      refine qm_Ru.go 0 (c' := (11, [.ref 118, .int b], [.int 1], h)) rfl ?_
      refine qm_Ru.rt (v := (some (.int 1))) (h' := h) rfl ?_
      refine qm_Ru.go 2 (c' := (9, [.ref 118, .int b], [.ref 118], h)) rfl ?_
      refine hk_getr rfl (hH.1 118 (17, 105) rfl) rfl (hH.2 118 49 (some 150) rfl) ?_
      refine qm_Ru.go 1 (c' := (13, [.ref 118, .int b], [.int b, .ref 150], h)) rfl ?_
      obtain ⟨v5, q_v5⟩ : ∃ v_, h.2.1 150 (b.toInt.toNat) = v_ := ⟨_, rfl⟩
      have b_v5 : (0 : Int) ≤ v5.toInt ∧ v5.toInt ≤ 2 := by rw [← q_v5]; exact hB 150 (b.toInt.toNat)
      refine hk_ial (v := v5) rfl (hH.1 150 (0, 30) rfl) (by omega) (by omega) q_v5 ?_
      refine qm_Ru.go 0 (c' := (14, [.ref 118, .int b], [.int v5], h)) rfl ?_
      refine hk_zne (ix := v5.toInt) rfl rfl (fun z6 => ?_) (fun z6 => ?_)
      · refine qm_Ru.go 1 (c' := (22, [.ref 118, .int b], [.int 0], h)) rfl ?_
        refine qm_Ru.rt (v := (some (.int 0))) (h' := h) rfl ?_
        refine qm_Ru.go 2 (c' := (22, [.ref 118, .int b, .int o, .float 0, .float 0, .float 0, .float 0, .float 0, .float 0], [.int (-1)], h)) rfl ?_
        refine qm_Ru.rt (v := (some (.int (-1)))) (h' := h) rfl ?_
        exact k (-1) h.2.1 (h.2.2.1) hB hV (fun _ _ _ => rfl) (fun _ _ => rfl) (bx_f0 rfl)
      · refine qm_Ru.go 2 (c' := (22, [.ref 118, .int b], [.int 1], h)) rfl ?_
        refine qm_Ru.rt (v := (some (.int 1))) (h' := h) rfl ?_
        refine qm_Ru.go 3 (c' := (10, [.ref 118, .int b, .int o, .float 0, .float 0, .float 0, .float 0, .float 0, .float 0], [.int o, .ref 118], h)) rfl ?_
        refine hk_inv (o := 118) (r := []) (as := [.ref 118, .int o]) rfl rfl (hH.1 118 (17, 105) rfl) rfl rfl rfl rfl ?_
        refine qm_Ru.go 2 (c' := (2, [.ref 118, .int o], [.int o, .ref 118], h)) rfl ?_
        refine hk_inv (o := 118) (r := []) (as := [.ref 118, .int o]) rfl rfl (hH.1 118 (17, 105) rfl) rfl rfl rfl rfl ?_
        refine qm_Ru.go 3 (c' := (3, [.ref 118, .int o], [.ref 118, .int 0, .int o], h)) rfl ?_
        refine hk_geti (v := v1) rfl (hH.1 118 (17, 105) rfl) rfl q_v1 ?_
        refine qm_Ru.go 2 (c' := (8, [.ref 118, .int o], [.int (v1 - 1), .int 0, .int o], h)) rfl ?_
        rw [q_v2]
        refine qm_Ru.call (j := 270) (as := [.int o, .int 0, .int v2]) (c' := (11, [.ref 118, .int o], [], h)) rfl rfl rfl ?_
        refine qm_Ru.go 2 (c' := (2, [.int o, .int 0, .int v2], [.int 0, .int o], h)) rfl ?_
        refine hk_clt (ix := o.toInt) (iy := 0) rfl rfl rfl (fun z8 => ?_) (fun z8 => ?_)
        · refine qm_Ru.go 1 (c' := (15, [.int o, .int 0, .int v2], [.int 0], h)) rfl ?_
          refine qm_Ru.rt (v := (some (.int 0))) (h' := h) rfl ?_
          refine qm_Ru.go 0 (c' := (11, [.ref 118, .int o], [.int 0], h)) rfl ?_
          refine qm_Ru.rt (v := (some (.int 0))) (h' := h) rfl ?_
          refine qm_Ru.go 2 (c' := (22, [.ref 118, .int o], [.int 0], h)) rfl ?_
          refine qm_Ru.rt (v := (some (.int 0))) (h' := h) rfl ?_
          refine qm_Ru.go 2 (c' := (22, [.ref 118, .int b, .int o, .float 0, .float 0, .float 0, .float 0, .float 0, .float 0], [.int (-1)], h)) rfl ?_
          refine qm_Ru.rt (v := (some (.int (-1)))) (h' := h) rfl ?_
          exact k (-1) h.2.1 (h.2.2.1) hB hV (fun _ _ _ => rfl) (fun _ _ => rfl) (bx_f0 rfl)
        · refine qm_Ru.go 2 (c' := (7, [.int o, .int 0, .int v2], [.int v2, .int o], h)) rfl ?_
          refine hk_cgt (ix := o.toInt) (iy := v2.toInt) rfl rfl rfl (fun z9 => ?_) (fun z9 => ?_)
          · refine qm_Ru.go 1 (c' := (15, [.int o, .int 0, .int v2], [.int 0], h)) rfl ?_
            refine qm_Ru.rt (v := (some (.int 0))) (h' := h) rfl ?_
            refine qm_Ru.go 0 (c' := (11, [.ref 118, .int o], [.int 0], h)) rfl ?_
            refine qm_Ru.rt (v := (some (.int 0))) (h' := h) rfl ?_
            refine qm_Ru.go 2 (c' := (22, [.ref 118, .int o], [.int 0], h)) rfl ?_
            refine qm_Ru.rt (v := (some (.int 0))) (h' := h) rfl ?_
            refine qm_Ru.go 2 (c' := (22, [.ref 118, .int b, .int o, .float 0, .float 0, .float 0, .float 0, .float 0, .float 0], [.int (-1)], h)) rfl ?_
            refine qm_Ru.rt (v := (some (.int (-1)))) (h' := h) rfl ?_
            exact k (-1) h.2.1 (h.2.2.1) hB hV (fun _ _ _ => rfl) (fun _ _ => rfl) (bx_f0 rfl)
          · refine qm_Ru.go 2 (c' := (15, [.int o, .int 0, .int v2], [.int 1], h)) rfl ?_
            refine qm_Ru.rt (v := (some (.int 1))) (h' := h) rfl ?_
            refine qm_Ru.go 0 (c' := (11, [.ref 118, .int o], [.int 1], h)) rfl ?_
            refine qm_Ru.rt (v := (some (.int 1))) (h' := h) rfl ?_
            refine qm_Ru.go 2 (c' := (9, [.ref 118, .int o], [.ref 118], h)) rfl ?_
            refine hk_getr rfl (hH.1 118 (17, 105) rfl) rfl (hH.2 118 49 (some 150) rfl) ?_
            refine qm_Ru.go 1 (c' := (13, [.ref 118, .int o], [.int o, .ref 150], h)) rfl ?_
            obtain ⟨v10, q_v10⟩ : ∃ v_, h.2.1 150 (o.toInt.toNat) = v_ := ⟨_, rfl⟩
            have b_v10 : (0 : Int) ≤ v10.toInt ∧ v10.toInt ≤ 2 := by rw [← q_v10]; exact hB 150 (o.toInt.toNat)
            refine hk_ial (v := v10) rfl (hH.1 150 (0, 30) rfl) (by omega) (by omega) q_v10 ?_
            refine qm_Ru.go 0 (c' := (14, [.ref 118, .int o], [.int v10], h)) rfl ?_
            refine hk_zne (ix := v10.toInt) rfl rfl (fun z11 => ?_) (fun z11 => ?_)
            · refine qm_Ru.go 1 (c' := (22, [.ref 118, .int o], [.int 0], h)) rfl ?_
              refine qm_Ru.rt (v := (some (.int 0))) (h' := h) rfl ?_
              refine qm_Ru.go 2 (c' := (22, [.ref 118, .int b, .int o, .float 0, .float 0, .float 0, .float 0, .float 0, .float 0], [.int (-1)], h)) rfl ?_
              refine qm_Ru.rt (v := (some (.int (-1)))) (h' := h) rfl ?_
              exact k (-1) h.2.1 (h.2.2.1) hB hV (fun _ _ _ => rfl) (fun _ _ => rfl) (bx_f0 rfl)
            · refine qm_Ru.go 2 (c' := (22, [.ref 118, .int o], [.int 1], h)) rfl ?_
              refine qm_Ru.rt (v := (some (.int 1))) (h' := h) rfl ?_
              refine qm_Ru.go 3 (c' := (18, [.ref 118, .int b, .int o, .float 0, .float 0, .float 0, .float 0, .float 0, .float 0], [.int o, .int b], h)) rfl ?_
              refine hk_cne (ix := b.toInt) (iy := o.toInt) rfl rfl rfl (fun z12 => ?_) (fun z12 => ?_)
              · refine qm_Ru.go 1 (c' := (24, [.ref 118, .int b, .int o, .float 0, .float 0, .float 0, .float 0, .float 0, .float 0], [.ref 118], h)) rfl ?_
                refine hk_inv (o := 118) (r := []) (as := [.ref 118]) rfl rfl (hH.1 118 (17, 105) rfl) rfl rfl rfl rfl (hs_broken (h := h) h6 hH hB hV.1.2 (fun v15 I13 J14 hB_I13 e_I13 e8_I13 => ?_))
                have e_I13 : ∀ o, [118, 144, 145].contains o = false → ∀ i, I13 o i = (h.2.1) o i := e_I13
                have e8_I13 : ∀ i, i ≠ 57 → I13 118 i = (h.2.1) 118 i := e8_I13
                have hV_I13 : v_S I13 := v_S_cg8 hV e_I13 e8_I13 (by decide)
                refine qm_Ru.go 7 (c' := (38, [.ref 118, .int b, .int o, .int v15, .int (-2), .int 0, .int 0, .float 0, .float 0], [], (h.1, I13, J14, h.2.2.2))) rfl ?_
                have h0b : pI h.2.1 150 b.toInt.toNat = 0 := by show (h.2.1 150 (b.toInt.toNat)).toInt = 0; rw [q_v5]; omega
                have h0o : pI h.2.1 150 o.toInt.toNat = 0 := by show (h.2.1 150 (o.toInt.toNat)).toInt = 0; rw [q_v10]; omega
                exact hl4_two2 h6 hH hB hs hb9 hl9 (P := fun i => i = b.toInt.toNat ∨ i = o.toInt.toNat) (F50 := pI h.2.1 150) (F52 := pI h.2.1 152) (I0 := h.2.1) h8 (by omega) h0b (Or.inl rfl) (by omega) h0o (Or.inr rfl) (by omega) (fun v I J q1 q2 q3 q4 q5 => k v I J q1 q2 q3 q4 (bx_f q5 (fun i z => z.elim (fun z => by rw [z]; exact h0b) (fun z => by rw [z]; exact h0o)))) _ (I13) (J14) (-2) 0 0 _ _ hB_I13 (fun o ho i => ((e_I13 o (hk_ms rfl ho) i).trans rfl)) (fun i hi => ((e8_I13 i hi).trans rfl)) hV_I13 (bx_0 e_I13 (by decide)) (by decide) rfl
              · refine qm_Ru.go 1 (c' := (22, [.ref 118, .int b, .int o, .float 0, .float 0, .float 0, .float 0, .float 0, .float 0], [.int (-1)], h)) rfl ?_
                refine qm_Ru.rt (v := (some (.int (-1)))) (h' := h) rfl ?_
                exact k (-1) h.2.1 (h.2.2.1) hB hV (fun _ _ _ => rfl) (fun _ _ => rfl) (bx_f0 rfl)
