theorem ldS_t {s : Nat} {A : Nat → Nat → Int} {b y x : Int32} : ∀ o ∈ [118, 127, 128, 129, 131, 132], ldS s A b y x o = A o := fun o ho => by
  simp only [List.mem_cons, List.not_mem_nil, or_false] at ho
  unfold ldS
  split <;> (rcases ho with rfl | rfl | rfl | rfl | rfl | rfl <;> rfl)
theorem ulS_t {s : Nat} {A : Nat → Nat → Int} {y x g : Int32} : ∀ o ∈ [118, 127, 128, 129, 131, 132], ulS s A y x g o = A o := fun o ho => by
  simp only [List.mem_cons, List.not_mem_nil, or_false] at ho
  unfold ulS
  split
  · rcases ho with rfl | rfl | rfl | rfl | rfl | rfl <;> rfl
  · split <;> (rcases ho with rfl | rfl | rfl | rfl | rfl | rfl <;> rfl)
theorem jGo_t {s : Nat} {A : Nat → Nat → Int} {K : Nat → Nat → Int32} {c : Nat} : ∀ o ∈ [118, 127, 128, 129, 131, 132], (jGo s A K c).1 o = A o := fun o ho => by
  by_cases c1 : (K 178 c).toInt = -1
  · rw [jGo_n c1]
  · by_cases c2 : K 177 c = K 170 (K 178 c).toInt.toNat
    · by_cases c3 : jWn K
      · rw [jGo_w c1 c2 c3]
      · by_cases c4 : (K 179 c + 1).toInt < 2
        · rw [jGo_l c1 c2 c3 c4]
        · rw [jGo_f c1 c2 c3 c4]
          show jSh s A K (K 178 c).toInt.toNat o = A o
          unfold jSh
          by_cases q : (K 168 (K 178 c).toInt.toNat).toInt = 0
          · rw [okb_t q]
            exact ldS_t o ho
          · rw [okb_f q]
            exact ulS_t o ho
    · by_cases c3 : jMv K c = K 177 (1 - c)
      · rw [jGo_b c1 c2 c3]
      · rw [jGo_m c1 c2 c3]
theorem jSt_t {s : Nat} {p : (Nat → Nat → Int) × (Nat → Nat → Int32)} {c : Nat} : ∀ o ∈ [118, 127, 128, 129, 131, 132], (jSt s p c).1 o = p.1 o := fun o ho => jGo_t o ho
theorem zM_st {t s : Nat} {p : (Nat → Nat → Int) × (Nat → Nat → Int32)} {c : Nat} {I I2 : Nat → Nat → Int32} (hm : zM t s p.1 I) (ht : ∀ i, I2 t i = I t i) : zM t s (jSt s p c).1 I2 := zM_j hm ht (congrFun (jSt_t 118 (by decide)) 18) (fun o ho => jSt_t o ((show ∀ o ∈ [127, 128, 129, 131, 132], o ∈ [118, 127, 128, 129, 131, 132] from by decide) o ho))
theorem jTi_f {s : Nat} {p : (Nat → Nat → Int) × (Nat → Nat → Int32)} {f : Nat} (hf : f ≠ 85) : (jTi s p).2 118 f = p.2 118 f := by
  by_cases h : jRs p.2
  · rw [jTi_r h]
    exact hk_neq hf
  · rw [jTi_w h]
    show qm_up (jSt s (jSt s p 0) 1).2 118 85 _ 118 f = _
    rw [hk_neq hf, jSt_118, jSt_118]
theorem zC_51 {A : Nat → Nat → Int} {I : Nat → Nat → Int32} {v : Int32} (hc : zC A I) : zC A (qm_up I 51 8 v) := zC_j hc (fun o ho i => hk_on (by omega))
theorem px_crs {X : Option (Nat × (Nat → Int32))} {Z : Option Value → qm_H → Prop} {h : qm_H} {fu : Nat} (hH : hk_H h) {K : Nat → Nat → Int32} (hz : zJ K h.2.1) (hb : (0 ≤ (K 118 93).toInt ∧ (K 118 93).toInt ≤ 500) ∧ (0 ≤ (K 118 94).toInt ∧ (K 118 94).toInt ≤ 500)) (ht : 0 ≤ (K 118 85).toInt) (k : ∀ r : Int32, (r.toInt = 1 ∧ jRs K ∨ r.toInt = 0 ∧ ¬ jRs K) → Z (some (.int r)) h) : qm_Rp fu X cd_204 (qm_ent 1 [.ref 51] h) Z := by
  refine qm_Rp.go 0 (c' := (0, [.ref 51], [], h)) rfl ?_
  have kz0 : (0 : Int32).toInt = 0 := rfl
  have kz1 : (1 : Int32).toInt = 1 := rfl
  have kz2 : (2 : Int32).toInt = 2 := rfl
  have kz3 : (3 : Int32).toInt = 3 := rfl
  have kz4 : (4 : Int32).toInt = 4 := rfl
  have kz5 : (5 : Int32).toInt = 5 := rfl
  have kz6 : (6 : Int32).toInt = 6 := rfl
  have kz7 : (7 : Int32).toInt = 7 := rfl
  have kz8 : (8 : Int32).toInt = 8 := rfl
  have kz9 : (9 : Int32).toInt = 9 := rfl
  have kzm1 : ((-1) : Int32).toInt = (-1) := rfl
  have kzm2 : ((-2) : Int32).toInt = (-2) := rfl
  have kzm3 : ((-3) : Int32).toInt = (-3) := rfl
  obtain ⟨tk, q_tk⟩ : ∃ v_, h.2.1 51 8 = v_ := ⟨_, rfl⟩
  have k_tk : K 118 85 = tk := hz.1.2.1.symm.trans q_tk
  obtain ⟨sh, q_sh⟩ : ∃ v_, h.2.1 51 11 = v_ := ⟨_, rfl⟩
  have k_sh : K 118 93 = sh := hz.1.2.2.2.2.1.symm.trans q_sh
  obtain ⟨rs, q_rs⟩ : ∃ v_, h.2.1 51 12 = v_ := ⟨_, rfl⟩
  have k_rs : K 118 94 = rs := hz.1.2.2.2.2.2.symm.trans q_rs
  rw [k_sh, k_rs] at hb
  rw [k_tk] at ht
  refine qm_Rp.go 1 (c' := (1, [.ref 51], [.ref 51], h)) rfl ?_
  refine hp_geti (v := sh) rfl (hH.1 51 (14, 13) rfl) rfl q_sh ?_
  refine qm_Rp.go 0 (c' := (4, [.ref 51], [.int sh], h)) rfl ?_
  refine hp_zle (ix := sh.toInt) rfl rfl (fun z1 => ?_) (fun z1 => ?_)
  · refine qm_Rp.go 1 (c' := (35, [.ref 51], [.int 0], h)) rfl ?_
    refine qm_Rp.rt (v := (some (.int 0))) (h' := h) rfl ?_
    exact k 0 (Or.inr ⟨rfl, fun z => by unfold jRs at z; rw [k_sh, k_rs, k_tk] at z; omega⟩)
  · refine qm_Rp.go 1 (c' := (8, [.ref 51], [.ref 51], h)) rfl ?_
    refine hp_geti (v := tk) rfl (hH.1 51 (14, 13) rfl) rfl q_tk ?_
    refine qm_Rp.go 1 (c' := (12, [.ref 51], [.ref 51, .int tk], h)) rfl ?_
    refine hp_geti (v := sh) rfl (hH.1 51 (14, 13) rfl) rfl q_sh ?_
    refine qm_Rp.go 1 (c' := (16, [.ref 51], [.ref 51, .int sh, .int tk], h)) rfl ?_
    refine hp_geti (v := rs) rfl (hH.1 51 (14, 13) rfl) rfl q_rs ?_
    refine qm_Rp.go 1 (c' := (20, [.ref 51], [.int (sh + rs), .int tk], h)) rfl ?_
    obtain ⟨v2, q_v2, e_v2⟩ := hk_add (x := sh) (y := rs) (a := sh.toInt) (b := rs.toInt) rfl rfl (by omega) (by omega)
    rw [q_v2]
    refine qm_Rp.call (j := 381) (as := [.int tk, .int v2]) (c' := (23, [.ref 51], [], h)) rfl rfl ?_
    refine qm_Rp.go 2 (c' := (2, [.int tk, .int v2, .float 0], [.int v2, .int tk], h)) rfl ?_
    refine hp_irem rfl (fun y0_2 => ?_)
    refine qm_Rp.go 0 (c' := (3, [.int tk, .int v2, .float 0], [.int (tk - tk / v2 * v2)], h)) rfl ?_
    obtain ⟨v3, q_v3⟩ : ∃ v_, (tk - tk / v2 * v2) = v_ := ⟨_, rfl⟩
    rw [q_v3]
    have e_v3 : v3.toInt = tk.toInt % v2.toInt := by
      obtain ⟨z, z1, z2⟩ := hk_rem (x := tk) (y := v2) (a := tk.toInt) (b := v2.toInt) rfl rfl (by omega) (by omega)
      rw [← q_v3, z1]
      exact z2
    refine qm_Rp.go 4 (c' := (7, [.int tk, .int v2, .int v3], [.int (tk ^^^ v2)], h)) rfl ?_
    obtain ⟨v4, q_v4⟩ : ∃ v_, (tk ^^^ v2) = v_ := ⟨_, rfl⟩
    rw [q_v4]
    have e_v4 : 0 ≤ v4.toInt := by rw [← q_v4]; exact xor_nn (by omega) (by omega)
    refine hp_zge (ix := v4.toInt) rfl rfl (fun z5 => ?_) (fun z5 => by exfalso; omega)
    refine qm_Rp.go 1 (c' := (19, [.int tk, .int v2, .int v3], [.int v3], h)) rfl ?_
    refine qm_Rp.rt (v := (some (.int v3))) (h' := h) rfl ?_
    refine qm_Rp.go 1 (c' := (24, [.ref 51], [.ref 51, .int v3], h)) rfl ?_
    refine hp_geti (v := sh) rfl (hH.1 51 (14, 13) rfl) rfl q_sh ?_
    refine qm_Rp.go 0 (c' := (27, [.ref 51], [.int sh, .int v3], h)) rfl ?_
    refine hp_clt (ix := v3.toInt) (iy := sh.toInt) rfl rfl rfl (fun z6 => ?_) (fun z6 => ?_)
    · refine qm_Rp.go 1 (c' := (35, [.ref 51], [.int 0], h)) rfl ?_
      refine qm_Rp.rt (v := (some (.int 0))) (h' := h) rfl ?_
      exact k 0 (Or.inr ⟨rfl, fun z => by unfold jRs at z; rw [k_sh, k_rs, k_tk, ← e_v2, ← e_v3] at z; omega⟩)
    · refine qm_Rp.go 2 (c' := (35, [.ref 51], [.int 1], h)) rfl ?_
      refine qm_Rp.rt (v := (some (.int 1))) (h' := h) rfl ?_
      exact k 1 (Or.inl ⟨rfl, by unfold jRs; rw [k_sh, k_rs, k_tk, ← e_v2, ← e_v3]; omega⟩)
set_option maxHeartbeats 20000000 in
theorem px_cpl29 {X : Option (Nat × (Nat → Int32))} {Z : Option Value → qm_H → Prop} {h : qm_H} (hH : hk_H h) (hT2 : h.2.2.2 28 2 = some 29) {n m : Int32} (b_n : 0 ≤ n.toInt ∧ n.toInt ≤ 200) {q : (Nat → Nat → Int) × (Nat → Nat → Int32)} (k : ∀ (I : Nat → Nat → Int32) (v : Int32), (∀ o, (o < 51 ∨ 97 < o) → [11, 12, 13, 14, 16, 17, 28, 36, 37].contains o = false → ∀ i, I o i = h.2.1 o i) → (∀ i, [8].contains i = false → I 51 i = h.2.1 51 i) → zC (q).1 I → zJ (q).2 I → v = I 97 0 + I 97 1 - m → Z (some (.int v)) (h.1, I, h.2.2.1, h.2.2.2)) : ∀ (fu : Nat) (p : (Nat → Nat → Int) × (Nat → Nat → Int32)) (I : Nat → Nat → Int32) (i : Int32) (l4 : Value), ((∀ o, (o < 51 ∨ 97 < o) → [11, 12, 13, 14, 16, 17, 28, 36, 37].contains o = false → ∀ i, I o i = h.2.1 o i)) → ((∀ i, [8].contains i = false → I 51 i = h.2.1 51 i)) → (zC p.1 I) → (zJ p.2 I) → (jP 0 p) → (zM 29 0 p.1 I) → ((0 ≤ (p.2 118 93).toInt ∧ (p.2 118 93).toInt ≤ 500) ∧ (0 ≤ (p.2 118 94).toInt ∧ (p.2 118 94).toInt ≤ 500)) → (jRn 0 (n.toInt.toNat - i.toInt.toNat) p = q) → (0 ≤ i.toInt) → ((p.2 118 85).toInt + (n.toInt - i.toInt) ≤ 1000000000) → qm_Rp fu X cd_202 (7, [.ref 51, .int n, .int m, .int i, l4], [], (h.1, I, h.2.2.1, h.2.2.2)) Z := by
  intro fu
  induction fu using Nat.strongRecOn with
  | ind fu ih =>
    intro p I i l4 e e51 zc zj hP hm hb hq b_i htb
    have kz0 : (0 : Int32).toInt = 0 := rfl
    have kz1 : (1 : Int32).toInt = 1 := rfl
    have kz2 : (2 : Int32).toInt = 2 := rfl
    have kz3 : (3 : Int32).toInt = 3 := rfl
    have kz4 : (4 : Int32).toInt = 4 := rfl
    have kz5 : (5 : Int32).toInt = 5 := rfl
    have kz6 : (6 : Int32).toInt = 6 := rfl
    have kz7 : (7 : Int32).toInt = 7 := rfl
    have kz8 : (8 : Int32).toInt = 8 := rfl
    have kz9 : (9 : Int32).toInt = 9 := rfl
    have kzm1 : ((-1) : Int32).toInt = (-1) := rfl
    have kzm2 : ((-2) : Int32).toInt = (-2) := rfl
    have kzm3 : ((-3) : Int32).toInt = (-3) := rfl
    refine qm_Rp.go1 1 (c' := (9, [.ref 51, .int n, .int m, .int i, l4], [.int n, .int i], (h.1, I, h.2.2.1, h.2.2.2))) rfl (fun g hg => ?_)
    refine hp_cge (ix := i.toInt) (iy := n.toInt) rfl rfl rfl (fun z1 => ?_) (fun z1 => ?_)
    · refine qm_Rp.go 1 (c' := (66, [.ref 51, .int n, .int m, .int i, l4], [.ref 51], (h.1, I, h.2.2.1, h.2.2.2))) rfl ?_
      refine hp_inv (o := 51) (r := []) (as := [.ref 51]) rfl rfl (hH.1 51 (14, 13) rfl) rfl rfl rfl ?_
      refine qm_Rp.go 1 (c' := (1, [.ref 51], [.ref 51], (h.1, I, h.2.2.1, h.2.2.2))) rfl ?_
      refine hp_getr rfl (hH.1 51 (14, 13) rfl) rfl (hH.2 51 7 (some 97) rfl) ?_
      refine qm_Rp.go 1 (c' := (5, [.ref 51], [.int 0, .ref 97], (h.1, I, h.2.2.1, h.2.2.2))) rfl ?_
      obtain ⟨v2, q_v2⟩ : ∃ v_, I 97 0 = v_ := ⟨_, rfl⟩
      refine hp_ial (v := v2) rfl (hH.1 97 (0, 2) rfl) q_v2 (fun ia_2 ib_2 => ?_)
      refine qm_Rp.go 0 (c' := (6, [.ref 51], [.int v2], (h.1, I, h.2.2.1, h.2.2.2))) rfl ?_
      refine qm_Rp.go 1 (c' := (7, [.ref 51], [.ref 51, .int v2], (h.1, I, h.2.2.1, h.2.2.2))) rfl ?_
      refine hp_getr rfl (hH.1 51 (14, 13) rfl) rfl (hH.2 51 7 (some 97) rfl) ?_
      refine qm_Rp.go 1 (c' := (11, [.ref 51], [.int 1, .ref 97, .int v2], (h.1, I, h.2.2.1, h.2.2.2))) rfl ?_
      obtain ⟨v4, q_v4⟩ : ∃ v_, I 97 1 = v_ := ⟨_, rfl⟩
      refine hp_ial (v := v4) rfl (hH.1 97 (0, 2) rfl) q_v4 (fun ia_4 ib_4 => ?_)
      refine qm_Rp.go 0 (c' := (12, [.ref 51], [.int v4, .int v2], (h.1, I, h.2.2.1, h.2.2.2))) rfl ?_
      refine qm_Rp.go 1 (c' := (13, [.ref 51], [.int (v2 + v4)], (h.1, I, h.2.2.1, h.2.2.2))) rfl ?_
      obtain ⟨v6, q_v6⟩ : ∃ v_, (v2 + v4) = v_ := ⟨_, rfl⟩
      rw [q_v6]
      refine qm_Rp.rt (v := (some (.int v6))) (h' := (h.1, I, h.2.2.1, h.2.2.2)) rfl ?_
      refine qm_Rp.go 2 (c' := (71, [.ref 51, .int n, .int m, .int i, l4], [.int (v6 - m)], (h.1, I, h.2.2.1, h.2.2.2))) rfl ?_
      obtain ⟨v7, q_v7⟩ : ∃ v_, (v6 - m) = v_ := ⟨_, rfl⟩
      rw [q_v7]
      refine qm_Rp.rt (v := (some (.int v7))) (h' := (h.1, I, h.2.2.1, h.2.2.2)) rfl ?_
      rw [show n.toInt.toNat - i.toInt.toNat = 0 by omega] at hq
      have hq : p = q := hq
      subst hq
      exact k I v7 e e51 zc zj (by rw [← q_v7, ← q_v6, ← q_v2, ← q_v4])
    · refine qm_Rp.go 6 (c' := (22, [.ref 51, .int n, .int m, .int i, .int 0], [.ref 51], (h.1, I, h.2.2.1, h.2.2.2))) rfl ?_
      refine hp_inv (o := 51) (r := []) (as := [.ref 51]) rfl rfl (hH.1 51 (14, 13) rfl) rfl rfl rfl (px_crs (h := (h.1, I, h.2.2.1, h.2.2.2)) hH (K := (p).2) zj hb (hP).2.2.2.2 (fun r8 hr => ?_))
      rcases hr with ⟨hr, hy⟩ | ⟨hr, hy⟩
      · obtain rfl : r8 = 1 := hk_eqi.mpr (hr.trans rfl)
        have y9 := hy
        refine qm_Rp.go 3 (c' := (51, [.ref 51, .int n, .int m, .int i, .int 0], [.ref 51, .ref 51], (h.1, I, h.2.2.1, h.2.2.2))) rfl ?_
        obtain ⟨v10, q_v10⟩ : ∃ v_, I 51 8 = v_ := ⟨_, rfl⟩
        refine hp_geti (v := v10) rfl (hH.1 51 (14, 13) rfl) rfl q_v10 ?_
        refine qm_Rp.go 0 (c' := (54, [.ref 51, .int n, .int m, .int i, .int 0], [.int v10, .ref 51], (h.1, I, h.2.2.1, h.2.2.2))) rfl ?_
        have t0 : 0 ≤ v10.toInt ∧ v10.toInt + (n.toInt - i.toInt) ≤ 1000000000 := by rw [← q_v10, (zj).1.2.1]; exact ⟨hP.2.2.2.2, htb⟩
        refine qm_Rp.go 2 (c' := (56, [.ref 51, .int n, .int m, .int i, .int 0], [.int (v10 + 1), .ref 51], (h.1, I, h.2.2.1, h.2.2.2))) rfl ?_
        obtain ⟨v11, q_v11, e_v11⟩ := hk_add (x := v10) (y := 1) (a := v10.toInt) (b := 1) rfl rfl (by omega) (by omega)
        rw [q_v11]
        refine hp_puti rfl (hH.1 51 (14, 13) rfl) rfl ?_
        refine qm_Rp.go 1 (c' := (62, [.ref 51, .int n, .int m, .int (i + 1), .int 0], [], (h.1, qm_up I 51 8 v11, h.2.2.1, h.2.2.2))) rfl ?_
        obtain ⟨v12, q_v12, e_v12⟩ := hk_add (x := i) (y := 1) (a := i.toInt) (b := 1) rfl rfl (by omega) (by omega)
        rw [q_v12]
        refine qm_Rp.go 1 (c' := (7, [.ref 51, .int n, .int m, .int v12, .int 0], [], (h.1, qm_up I 51 8 v11, h.2.2.1, h.2.2.2))) rfl ?_
        have hT : jTi 0 p = jCk (p) := jTi_r y9
        have e85 : (p).2 118 85 = v10 := zj.1.2.1.symm.trans q_v10
        have e85p : p.2 118 85 = v10 := by rw [← e85]
        have eC : (jCk (p)).2 = qm_up (p).2 118 85 v11 := by show qm_up (p).2 118 85 ((p).2 118 85 + 1) = _; rw [e85, q_v11]
        have hj9 : ((p).2 118 75).toInt ≤ 40 := (hP).2.2.2.1.1.1.2
        exact ih g hg (jTi 0 p) (qm_up I 51 8 v11) v12 _ (fun o ho ho2 i => (hk_on (by omega)).trans (e o ho ho2 i)) (fun i hi => (hk_neq (fun z => by subst z; cases hi)).trans (e51 i hi)) (by rw [hT]; exact zC_51 zc) (by rw [hT, eC]; exact zJ_tk zj hj9) (jTi_P hP (by rw [e85p, q_v11]; omega)) (by rw [hT]; exact zM_j hm (fun i => hk_ot rfl) rfl (fun _ _ => rfl)) (by rw [jTi_f (by decide), jTi_f (by decide)]; exact hb) (by rw [← hq, show n.toInt.toNat - i.toInt.toNat = (n.toInt.toNat - v12.toInt.toNat) + 1 by omega]; rfl) (by omega) (by rw [jTi_118, e85p, q_v11]; omega)
      · obtain rfl : r8 = 0 := hk_eqi.mpr (hr.trans rfl)
        have y13 := hy
        refine qm_Rp.go 3 (c' := (31, [.ref 51, .int n, .int m, .int i, .int 0], [.int 0, .ref 51], (h.1, I, h.2.2.1, h.2.2.2))) rfl ?_
        refine hp_inv (o := 51) (r := []) (as := [.ref 51, .int 0]) rfl rfl (hH.1 51 (14, 13) rfl) rfl rfl rfl (px_cbr0 (h := (h.1, I, h.2.2.1, h.2.2.2)) hH (K := (p).2) zj (hP).2.2.2.1 (fun I14 r15 f_I14 b_I14 => ?_))
        have hP16 : jP 0 (jSt 0 (p) 0) := jSt_P (by decide) hP
        have hb_I14 : (0 ≤ ((jSt 0 (p) 0).2 118 93).toInt ∧ ((jSt 0 (p) 0).2 118 93).toInt ≤ 500) ∧ (0 ≤ ((jSt 0 (p) 0).2 118 94).toInt ∧ ((jSt 0 (p) 0).2 118 94).toInt ≤ 500) := by rw [jSt_118]; exact hb
        have zc_I14 : zC (p).1 I14 := zC_j zc (fun o ho i => f_I14 o (by omega) i)
        rcases b_I14 with ⟨hr, K2, hG, hj⟩ | ⟨hr, hG, hj⟩
        · obtain rfl : r15 = 0 := hk_eqi.mpr (hr.trans rfl)
          have eS : jSt 0 (p) 0 = ((p).1, K2) := hG 0 (p).1
          have zj_I14 : zJ (jSt 0 (p) 0).2 I14 := by rw [eS]; exact hj
          have zd_I14 : zC (jSt 0 (p) 0).1 I14 := by rw [eS]; exact zc_I14
          have hm_I14 : zM 29 0 (jSt 0 (p) 0).1 I14 := zM_st hm (fun i => f_I14 29 (by decide) i)
          refine qm_Rp.go 7 (c' := (22, [.ref 51, .int n, .int m, .int i, .int 1], [.ref 51], (h.1, I14, h.2.2.1, h.2.2.2))) rfl ?_
          refine hp_inv (o := 51) (r := []) (as := [.ref 51]) rfl rfl (hH.1 51 (14, 13) rfl) rfl rfl rfl (px_crs (h := (h.1, I14, h.2.2.1, h.2.2.2)) hH (K := (jSt 0 (p) 0).2) zj_I14 hb_I14 (hP16).2.2.2.2 (fun r17 hr => ?_))
          rcases hr with ⟨hr, hy⟩ | ⟨hr, hy⟩
          · obtain rfl : r17 = 1 := hk_eqi.mpr (hr.trans rfl)
            exact absurd (by unfold jRs at hy ⊢; rw [jSt_118] at hy; exact hy) y13
          · obtain rfl : r17 = 0 := hk_eqi.mpr (hr.trans rfl)
            have y18 := hy
            refine qm_Rp.go 3 (c' := (31, [.ref 51, .int n, .int m, .int i, .int 1], [.int 1, .ref 51], (h.1, I14, h.2.2.1, h.2.2.2))) rfl ?_
            refine hp_inv (o := 51) (r := []) (as := [.ref 51, .int 1]) rfl rfl (hH.1 51 (14, 13) rfl) rfl rfl rfl (px_cbr1 (h := (h.1, I14, h.2.2.1, h.2.2.2)) hH (K := (jSt 0 (p) 0).2) zj_I14 (hP16).2.2.2.1 (fun I19 r20 f_I19 b_I19 => ?_))
            have hP21 : jP 0 (jSt 0 (jSt 0 (p) 0) 1) := jSt_P (by decide) hP16
            have hb_I19 : (0 ≤ ((jSt 0 (jSt 0 (p) 0) 1).2 118 93).toInt ∧ ((jSt 0 (jSt 0 (p) 0) 1).2 118 93).toInt ≤ 500) ∧ (0 ≤ ((jSt 0 (jSt 0 (p) 0) 1).2 118 94).toInt ∧ ((jSt 0 (jSt 0 (p) 0) 1).2 118 94).toInt ≤ 500) := by rw [jSt_118]; exact hb_I14
            have zc_I19 : zC (jSt 0 (p) 0).1 I19 := zC_j zd_I14 (fun o ho i => f_I19 o (by omega) i)
            rcases b_I19 with ⟨hr, K2, hG, hj⟩ | ⟨hr, hG, hj⟩
            · obtain rfl : r20 = 0 := hk_eqi.mpr (hr.trans rfl)
              have eS : jSt 0 (jSt 0 (p) 0) 1 = ((jSt 0 (p) 0).1, K2) := hG 0 (jSt 0 (p) 0).1
              have zj_I19 : zJ (jSt 0 (jSt 0 (p) 0) 1).2 I19 := by rw [eS]; exact hj
              have zd_I19 : zC (jSt 0 (jSt 0 (p) 0) 1).1 I19 := by rw [eS]; exact zc_I19
              have hm_I19 : zM 29 0 (jSt 0 (jSt 0 (p) 0) 1).1 I19 := zM_st hm_I14 (fun i => f_I19 29 (by decide) i)
              refine qm_Rp.go 8 (c' := (51, [.ref 51, .int n, .int m, .int i, .int 2], [.ref 51, .ref 51], (h.1, I19, h.2.2.1, h.2.2.2))) rfl ?_
              obtain ⟨v22, q_v22⟩ : ∃ v_, I19 51 8 = v_ := ⟨_, rfl⟩
              refine hp_geti (v := v22) rfl (hH.1 51 (14, 13) rfl) rfl q_v22 ?_
              refine qm_Rp.go 0 (c' := (54, [.ref 51, .int n, .int m, .int i, .int 2], [.int v22, .ref 51], (h.1, I19, h.2.2.1, h.2.2.2))) rfl ?_
              have t0 : 0 ≤ v22.toInt ∧ v22.toInt + (n.toInt - i.toInt) ≤ 1000000000 := by rw [← q_v22, (zj_I19).1.2.1]; rw [jSt_118, jSt_118]; exact ⟨hP.2.2.2.2, htb⟩
              refine qm_Rp.go 2 (c' := (56, [.ref 51, .int n, .int m, .int i, .int 2], [.int (v22 + 1), .ref 51], (h.1, I19, h.2.2.1, h.2.2.2))) rfl ?_
              obtain ⟨v23, q_v23, e_v23⟩ := hk_add (x := v22) (y := 1) (a := v22.toInt) (b := 1) rfl rfl (by omega) (by omega)
              rw [q_v23]
              refine hp_puti rfl (hH.1 51 (14, 13) rfl) rfl ?_
              refine qm_Rp.go 1 (c' := (62, [.ref 51, .int n, .int m, .int (i + 1), .int 2], [], (h.1, qm_up I19 51 8 v23, h.2.2.1, h.2.2.2))) rfl ?_
              obtain ⟨v24, q_v24, e_v24⟩ := hk_add (x := i) (y := 1) (a := i.toInt) (b := 1) rfl rfl (by omega) (by omega)
              rw [q_v24]
              refine qm_Rp.go 1 (c' := (7, [.ref 51, .int n, .int m, .int v24, .int 2], [], (h.1, qm_up I19 51 8 v23, h.2.2.1, h.2.2.2))) rfl ?_
              have hT : jTi 0 p = jCk (jSt 0 (jSt 0 (p) 0) 1) := jTi_w y13
              have e85 : (jSt 0 (jSt 0 (p) 0) 1).2 118 85 = v22 := zj_I19.1.2.1.symm.trans q_v22
              have e85p : p.2 118 85 = v22 := by rw [← e85, jSt_118, jSt_118]
              have eC : (jCk (jSt 0 (jSt 0 (p) 0) 1)).2 = qm_up (jSt 0 (jSt 0 (p) 0) 1).2 118 85 v23 := by show qm_up (jSt 0 (jSt 0 (p) 0) 1).2 118 85 ((jSt 0 (jSt 0 (p) 0) 1).2 118 85 + 1) = _; rw [e85, q_v23]
              have hj9 : ((jSt 0 (jSt 0 (p) 0) 1).2 118 75).toInt ≤ 40 := (hP21).2.2.2.1.1.1.2
              exact ih g hg (jTi 0 p) (qm_up I19 51 8 v23) v24 _ (fun o ho ho2 i => (hk_on (by omega)).trans ((f_I19 o (by omega) i).trans ((f_I14 o (by omega) i).trans (e o ho ho2 i)))) (fun i hi => (hk_neq (fun z => by subst z; cases hi)).trans ((f_I19 51 (by decide) i).trans ((f_I14 51 (by decide) i).trans (e51 i hi)))) (by rw [hT]; exact zC_51 zd_I19) (by rw [hT, eC]; exact zJ_tk zj_I19 hj9) (jTi_P hP (by rw [e85p, q_v23]; omega)) (by rw [hT]; exact zM_j hm_I19 (fun i => hk_ot rfl) rfl (fun _ _ => rfl)) (by rw [jTi_f (by decide), jTi_f (by decide)]; exact hb) (by rw [← hq, show n.toInt.toNat - i.toInt.toNat = (n.toInt.toNat - v24.toInt.toNat) + 1 by omega]; rfl) (by omega) (by rw [jTi_118, e85p, q_v23]; omega)
            · obtain rfl : r20 = 1 := hk_eqi.mpr (hr.trans rfl)
              have hIK : jI (bif okb (((jSt 0 (p) 0).2 178 1).toInt = -1) then jTk (jSt 0 (p) 0).2 1 else (jSt 0 (p) 0).2) := by
                by_cases q9 : ((jSt 0 (p) 0).2 178 1).toInt = -1
                · rw [okb_t q9]
                  exact jTk_I (by decide) (hP16).2.2.2.1
                · rw [okb_f q9]
                  exact (hP16).2.2.2.1
              refine qm_Rp.go 3 (c' := (40, [.ref 51, .int n, .int m, .int i, .int 1], [.int 1, .ref 51], (h.1, I19, h.2.2.1, h.2.2.2))) rfl ?_
              refine hp_inv (o := 51) (r := []) (as := [.ref 51, .int 1]) rfl rfl (hH.1 51 (14, 13) rfl) rfl rfl rfl (px_cfin129 (h := (h.1, I19, h.2.2.1, h.2.2.2)) hH hT2 (A := (jSt 0 (p) 0).1) (K := (bif okb (((jSt 0 (p) 0).2 178 1).toInt = -1) then jTk (jSt 0 (p) 0).2 1 else (jSt 0 (p) 0).2)) (hP16).1 zc_I19 (zM_j hm_I14 (fun i => f_I19 29 (by decide) i) rfl (fun _ _ => rfl)) hIK hG hj (fun I26 f_I26 zc_I26 zj_I26 => ?_))
              have zc_I26 : zC (jSt 0 (jSt 0 (p) 0) 1).1 I26 := zc_I26
              have zj_I26 : zJ (jSt 0 (jSt 0 (p) 0) 1).2 I26 := zj_I26
              have hm_I26 : zM 29 0 (jSt 0 (jSt 0 (p) 0) 1).1 I26 := zM_st hm_I14 (fun i => (f_I26 29 (by decide) (by decide) i).trans (f_I19 29 (by decide) i))
              refine qm_Rp.go 7 (c' := (51, [.ref 51, .int n, .int m, .int i, .int 2], [.ref 51, .ref 51], (h.1, I26, h.2.2.1, h.2.2.2))) rfl ?_
              obtain ⟨v27, q_v27⟩ : ∃ v_, I26 51 8 = v_ := ⟨_, rfl⟩
              refine hp_geti (v := v27) rfl (hH.1 51 (14, 13) rfl) rfl q_v27 ?_
              refine qm_Rp.go 0 (c' := (54, [.ref 51, .int n, .int m, .int i, .int 2], [.int v27, .ref 51], (h.1, I26, h.2.2.1, h.2.2.2))) rfl ?_
              have t0 : 0 ≤ v27.toInt ∧ v27.toInt + (n.toInt - i.toInt) ≤ 1000000000 := by rw [← q_v27, (zj_I26).1.2.1]; rw [jSt_118, jSt_118]; exact ⟨hP.2.2.2.2, htb⟩
              refine qm_Rp.go 2 (c' := (56, [.ref 51, .int n, .int m, .int i, .int 2], [.int (v27 + 1), .ref 51], (h.1, I26, h.2.2.1, h.2.2.2))) rfl ?_
              obtain ⟨v28, q_v28, e_v28⟩ := hk_add (x := v27) (y := 1) (a := v27.toInt) (b := 1) rfl rfl (by omega) (by omega)
              rw [q_v28]
              refine hp_puti rfl (hH.1 51 (14, 13) rfl) rfl ?_
              refine qm_Rp.go 1 (c' := (62, [.ref 51, .int n, .int m, .int (i + 1), .int 2], [], (h.1, qm_up I26 51 8 v28, h.2.2.1, h.2.2.2))) rfl ?_
              obtain ⟨v29, q_v29, e_v29⟩ := hk_add (x := i) (y := 1) (a := i.toInt) (b := 1) rfl rfl (by omega) (by omega)
              rw [q_v29]
              refine qm_Rp.go 1 (c' := (7, [.ref 51, .int n, .int m, .int v29, .int 2], [], (h.1, qm_up I26 51 8 v28, h.2.2.1, h.2.2.2))) rfl ?_
              have hT : jTi 0 p = jCk (jSt 0 (jSt 0 (p) 0) 1) := jTi_w y13
              have e85 : (jSt 0 (jSt 0 (p) 0) 1).2 118 85 = v27 := zj_I26.1.2.1.symm.trans q_v27
              have e85p : p.2 118 85 = v27 := by rw [← e85, jSt_118, jSt_118]
              have eC : (jCk (jSt 0 (jSt 0 (p) 0) 1)).2 = qm_up (jSt 0 (jSt 0 (p) 0) 1).2 118 85 v28 := by show qm_up (jSt 0 (jSt 0 (p) 0) 1).2 118 85 ((jSt 0 (jSt 0 (p) 0) 1).2 118 85 + 1) = _; rw [e85, q_v28]
              have hj9 : ((jSt 0 (jSt 0 (p) 0) 1).2 118 75).toInt ≤ 40 := (hP21).2.2.2.1.1.1.2
              exact ih g hg (jTi 0 p) (qm_up I26 51 8 v28) v29 _ (fun o ho ho2 i => (hk_on (by omega)).trans ((f_I26 o (by omega) ho2 i).trans ((f_I19 o (by omega) i).trans ((f_I14 o (by omega) i).trans (e o ho ho2 i))))) (fun i hi => (hk_neq (fun z => by subst z; cases hi)).trans ((f_I26 51 (by decide) (by decide) i).trans ((f_I19 51 (by decide) i).trans ((f_I14 51 (by decide) i).trans (e51 i hi))))) (by rw [hT]; exact zC_51 zc_I26) (by rw [hT, eC]; exact zJ_tk zj_I26 hj9) (jTi_P hP (by rw [e85p, q_v28]; omega)) (by rw [hT]; exact zM_j hm_I26 (fun i => hk_ot rfl) rfl (fun _ _ => rfl)) (by rw [jTi_f (by decide), jTi_f (by decide)]; exact hb) (by rw [← hq, show n.toInt.toNat - i.toInt.toNat = (n.toInt.toNat - v29.toInt.toNat) + 1 by omega]; rfl) (by omega) (by rw [jTi_118, e85p, q_v28]; omega)
        · obtain rfl : r15 = 1 := hk_eqi.mpr (hr.trans rfl)
          have hIK : jI (bif okb (((p).2 178 0).toInt = -1) then jTk (p).2 0 else (p).2) := by
            by_cases q9 : ((p).2 178 0).toInt = -1
            · rw [okb_t q9]
              exact jTk_I (by decide) (hP).2.2.2.1
            · rw [okb_f q9]
              exact (hP).2.2.2.1
          refine qm_Rp.go 3 (c' := (40, [.ref 51, .int n, .int m, .int i, .int 0], [.int 0, .ref 51], (h.1, I14, h.2.2.1, h.2.2.2))) rfl ?_
          refine hp_inv (o := 51) (r := []) (as := [.ref 51, .int 0]) rfl rfl (hH.1 51 (14, 13) rfl) rfl rfl rfl (px_cfin029 (h := (h.1, I14, h.2.2.1, h.2.2.2)) hH hT2 (A := (p).1) (K := (bif okb (((p).2 178 0).toInt = -1) then jTk (p).2 0 else (p).2)) (hP).1 zc_I14 (zM_j hm (fun i => f_I14 29 (by decide) i) rfl (fun _ _ => rfl)) hIK hG hj (fun I31 f_I31 zc_I31 zj_I31 => ?_))
          have zc_I31 : zC (jSt 0 (p) 0).1 I31 := zc_I31
          have zj_I31 : zJ (jSt 0 (p) 0).2 I31 := zj_I31
          have hm_I31 : zM 29 0 (jSt 0 (p) 0).1 I31 := zM_st hm (fun i => (f_I31 29 (by decide) (by decide) i).trans (f_I14 29 (by decide) i))
          refine qm_Rp.go 6 (c' := (22, [.ref 51, .int n, .int m, .int i, .int 1], [.ref 51], (h.1, I31, h.2.2.1, h.2.2.2))) rfl ?_
          refine hp_inv (o := 51) (r := []) (as := [.ref 51]) rfl rfl (hH.1 51 (14, 13) rfl) rfl rfl rfl (px_crs (h := (h.1, I31, h.2.2.1, h.2.2.2)) hH (K := (jSt 0 (p) 0).2) zj_I31 hb_I14 (hP16).2.2.2.2 (fun r32 hr => ?_))
          rcases hr with ⟨hr, hy⟩ | ⟨hr, hy⟩
          · obtain rfl : r32 = 1 := hk_eqi.mpr (hr.trans rfl)
            exact absurd (by unfold jRs at hy ⊢; rw [jSt_118] at hy; exact hy) y13
          · obtain rfl : r32 = 0 := hk_eqi.mpr (hr.trans rfl)
            have y33 := hy
            refine qm_Rp.go 3 (c' := (31, [.ref 51, .int n, .int m, .int i, .int 1], [.int 1, .ref 51], (h.1, I31, h.2.2.1, h.2.2.2))) rfl ?_
            refine hp_inv (o := 51) (r := []) (as := [.ref 51, .int 1]) rfl rfl (hH.1 51 (14, 13) rfl) rfl rfl rfl (px_cbr1 (h := (h.1, I31, h.2.2.1, h.2.2.2)) hH (K := (jSt 0 (p) 0).2) zj_I31 (hP16).2.2.2.1 (fun I34 r35 f_I34 b_I34 => ?_))
            have hP36 : jP 0 (jSt 0 (jSt 0 (p) 0) 1) := jSt_P (by decide) hP16
            have hb_I34 : (0 ≤ ((jSt 0 (jSt 0 (p) 0) 1).2 118 93).toInt ∧ ((jSt 0 (jSt 0 (p) 0) 1).2 118 93).toInt ≤ 500) ∧ (0 ≤ ((jSt 0 (jSt 0 (p) 0) 1).2 118 94).toInt ∧ ((jSt 0 (jSt 0 (p) 0) 1).2 118 94).toInt ≤ 500) := by rw [jSt_118]; exact hb_I14
            have zc_I34 : zC (jSt 0 (p) 0).1 I34 := zC_j zc_I31 (fun o ho i => f_I34 o (by omega) i)
            rcases b_I34 with ⟨hr, K2, hG, hj⟩ | ⟨hr, hG, hj⟩
            · obtain rfl : r35 = 0 := hk_eqi.mpr (hr.trans rfl)
              have eS : jSt 0 (jSt 0 (p) 0) 1 = ((jSt 0 (p) 0).1, K2) := hG 0 (jSt 0 (p) 0).1
              have zj_I34 : zJ (jSt 0 (jSt 0 (p) 0) 1).2 I34 := by rw [eS]; exact hj
              have zd_I34 : zC (jSt 0 (jSt 0 (p) 0) 1).1 I34 := by rw [eS]; exact zc_I34
              have hm_I34 : zM 29 0 (jSt 0 (jSt 0 (p) 0) 1).1 I34 := zM_st hm_I31 (fun i => f_I34 29 (by decide) i)
              refine qm_Rp.go 8 (c' := (51, [.ref 51, .int n, .int m, .int i, .int 2], [.ref 51, .ref 51], (h.1, I34, h.2.2.1, h.2.2.2))) rfl ?_
              obtain ⟨v37, q_v37⟩ : ∃ v_, I34 51 8 = v_ := ⟨_, rfl⟩
              refine hp_geti (v := v37) rfl (hH.1 51 (14, 13) rfl) rfl q_v37 ?_
              refine qm_Rp.go 0 (c' := (54, [.ref 51, .int n, .int m, .int i, .int 2], [.int v37, .ref 51], (h.1, I34, h.2.2.1, h.2.2.2))) rfl ?_
              have t0 : 0 ≤ v37.toInt ∧ v37.toInt + (n.toInt - i.toInt) ≤ 1000000000 := by rw [← q_v37, (zj_I34).1.2.1]; rw [jSt_118, jSt_118]; exact ⟨hP.2.2.2.2, htb⟩
              refine qm_Rp.go 2 (c' := (56, [.ref 51, .int n, .int m, .int i, .int 2], [.int (v37 + 1), .ref 51], (h.1, I34, h.2.2.1, h.2.2.2))) rfl ?_
              obtain ⟨v38, q_v38, e_v38⟩ := hk_add (x := v37) (y := 1) (a := v37.toInt) (b := 1) rfl rfl (by omega) (by omega)
              rw [q_v38]
              refine hp_puti rfl (hH.1 51 (14, 13) rfl) rfl ?_
              refine qm_Rp.go 1 (c' := (62, [.ref 51, .int n, .int m, .int (i + 1), .int 2], [], (h.1, qm_up I34 51 8 v38, h.2.2.1, h.2.2.2))) rfl ?_
              obtain ⟨v39, q_v39, e_v39⟩ := hk_add (x := i) (y := 1) (a := i.toInt) (b := 1) rfl rfl (by omega) (by omega)
              rw [q_v39]
              refine qm_Rp.go 1 (c' := (7, [.ref 51, .int n, .int m, .int v39, .int 2], [], (h.1, qm_up I34 51 8 v38, h.2.2.1, h.2.2.2))) rfl ?_
              have hT : jTi 0 p = jCk (jSt 0 (jSt 0 (p) 0) 1) := jTi_w y13
              have e85 : (jSt 0 (jSt 0 (p) 0) 1).2 118 85 = v37 := zj_I34.1.2.1.symm.trans q_v37
              have e85p : p.2 118 85 = v37 := by rw [← e85, jSt_118, jSt_118]
              have eC : (jCk (jSt 0 (jSt 0 (p) 0) 1)).2 = qm_up (jSt 0 (jSt 0 (p) 0) 1).2 118 85 v38 := by show qm_up (jSt 0 (jSt 0 (p) 0) 1).2 118 85 ((jSt 0 (jSt 0 (p) 0) 1).2 118 85 + 1) = _; rw [e85, q_v38]
              have hj9 : ((jSt 0 (jSt 0 (p) 0) 1).2 118 75).toInt ≤ 40 := (hP36).2.2.2.1.1.1.2
              exact ih g hg (jTi 0 p) (qm_up I34 51 8 v38) v39 _ (fun o ho ho2 i => (hk_on (by omega)).trans ((f_I34 o (by omega) i).trans ((f_I31 o (by omega) ho2 i).trans ((f_I14 o (by omega) i).trans (e o ho ho2 i))))) (fun i hi => (hk_neq (fun z => by subst z; cases hi)).trans ((f_I34 51 (by decide) i).trans ((f_I31 51 (by decide) (by decide) i).trans ((f_I14 51 (by decide) i).trans (e51 i hi))))) (by rw [hT]; exact zC_51 zd_I34) (by rw [hT, eC]; exact zJ_tk zj_I34 hj9) (jTi_P hP (by rw [e85p, q_v38]; omega)) (by rw [hT]; exact zM_j hm_I34 (fun i => hk_ot rfl) rfl (fun _ _ => rfl)) (by rw [jTi_f (by decide), jTi_f (by decide)]; exact hb) (by rw [← hq, show n.toInt.toNat - i.toInt.toNat = (n.toInt.toNat - v39.toInt.toNat) + 1 by omega]; rfl) (by omega) (by rw [jTi_118, e85p, q_v38]; omega)
            · obtain rfl : r35 = 1 := hk_eqi.mpr (hr.trans rfl)
              have hIK : jI (bif okb (((jSt 0 (p) 0).2 178 1).toInt = -1) then jTk (jSt 0 (p) 0).2 1 else (jSt 0 (p) 0).2) := by
                by_cases q9 : ((jSt 0 (p) 0).2 178 1).toInt = -1
                · rw [okb_t q9]
                  exact jTk_I (by decide) (hP16).2.2.2.1
                · rw [okb_f q9]
                  exact (hP16).2.2.2.1
              refine qm_Rp.go 3 (c' := (40, [.ref 51, .int n, .int m, .int i, .int 1], [.int 1, .ref 51], (h.1, I34, h.2.2.1, h.2.2.2))) rfl ?_
              refine hp_inv (o := 51) (r := []) (as := [.ref 51, .int 1]) rfl rfl (hH.1 51 (14, 13) rfl) rfl rfl rfl (px_cfin129 (h := (h.1, I34, h.2.2.1, h.2.2.2)) hH hT2 (A := (jSt 0 (p) 0).1) (K := (bif okb (((jSt 0 (p) 0).2 178 1).toInt = -1) then jTk (jSt 0 (p) 0).2 1 else (jSt 0 (p) 0).2)) (hP16).1 zc_I34 (zM_j hm_I31 (fun i => f_I34 29 (by decide) i) rfl (fun _ _ => rfl)) hIK hG hj (fun I41 f_I41 zc_I41 zj_I41 => ?_))
              have zc_I41 : zC (jSt 0 (jSt 0 (p) 0) 1).1 I41 := zc_I41
              have zj_I41 : zJ (jSt 0 (jSt 0 (p) 0) 1).2 I41 := zj_I41
              have hm_I41 : zM 29 0 (jSt 0 (jSt 0 (p) 0) 1).1 I41 := zM_st hm_I31 (fun i => (f_I41 29 (by decide) (by decide) i).trans (f_I34 29 (by decide) i))
              refine qm_Rp.go 7 (c' := (51, [.ref 51, .int n, .int m, .int i, .int 2], [.ref 51, .ref 51], (h.1, I41, h.2.2.1, h.2.2.2))) rfl ?_
              obtain ⟨v42, q_v42⟩ : ∃ v_, I41 51 8 = v_ := ⟨_, rfl⟩
              refine hp_geti (v := v42) rfl (hH.1 51 (14, 13) rfl) rfl q_v42 ?_
              refine qm_Rp.go 0 (c' := (54, [.ref 51, .int n, .int m, .int i, .int 2], [.int v42, .ref 51], (h.1, I41, h.2.2.1, h.2.2.2))) rfl ?_
              have t0 : 0 ≤ v42.toInt ∧ v42.toInt + (n.toInt - i.toInt) ≤ 1000000000 := by rw [← q_v42, (zj_I41).1.2.1]; rw [jSt_118, jSt_118]; exact ⟨hP.2.2.2.2, htb⟩
              refine qm_Rp.go 2 (c' := (56, [.ref 51, .int n, .int m, .int i, .int 2], [.int (v42 + 1), .ref 51], (h.1, I41, h.2.2.1, h.2.2.2))) rfl ?_
              obtain ⟨v43, q_v43, e_v43⟩ := hk_add (x := v42) (y := 1) (a := v42.toInt) (b := 1) rfl rfl (by omega) (by omega)
              rw [q_v43]
              refine hp_puti rfl (hH.1 51 (14, 13) rfl) rfl ?_
              refine qm_Rp.go 1 (c' := (62, [.ref 51, .int n, .int m, .int (i + 1), .int 2], [], (h.1, qm_up I41 51 8 v43, h.2.2.1, h.2.2.2))) rfl ?_
              obtain ⟨v44, q_v44, e_v44⟩ := hk_add (x := i) (y := 1) (a := i.toInt) (b := 1) rfl rfl (by omega) (by omega)
              rw [q_v44]
              refine qm_Rp.go 1 (c' := (7, [.ref 51, .int n, .int m, .int v44, .int 2], [], (h.1, qm_up I41 51 8 v43, h.2.2.1, h.2.2.2))) rfl ?_
              have hT : jTi 0 p = jCk (jSt 0 (jSt 0 (p) 0) 1) := jTi_w y13
              have e85 : (jSt 0 (jSt 0 (p) 0) 1).2 118 85 = v42 := zj_I41.1.2.1.symm.trans q_v42
              have e85p : p.2 118 85 = v42 := by rw [← e85, jSt_118, jSt_118]
              have eC : (jCk (jSt 0 (jSt 0 (p) 0) 1)).2 = qm_up (jSt 0 (jSt 0 (p) 0) 1).2 118 85 v43 := by show qm_up (jSt 0 (jSt 0 (p) 0) 1).2 118 85 ((jSt 0 (jSt 0 (p) 0) 1).2 118 85 + 1) = _; rw [e85, q_v43]
              have hj9 : ((jSt 0 (jSt 0 (p) 0) 1).2 118 75).toInt ≤ 40 := (hP36).2.2.2.1.1.1.2
              exact ih g hg (jTi 0 p) (qm_up I41 51 8 v43) v44 _ (fun o ho ho2 i => (hk_on (by omega)).trans ((f_I41 o (by omega) ho2 i).trans ((f_I34 o (by omega) i).trans ((f_I31 o (by omega) ho2 i).trans ((f_I14 o (by omega) i).trans (e o ho ho2 i)))))) (fun i hi => (hk_neq (fun z => by subst z; cases hi)).trans ((f_I41 51 (by decide) (by decide) i).trans ((f_I34 51 (by decide) i).trans ((f_I31 51 (by decide) (by decide) i).trans ((f_I14 51 (by decide) i).trans (e51 i hi)))))) (by rw [hT]; exact zC_51 zc_I41) (by rw [hT, eC]; exact zJ_tk zj_I41 hj9) (jTi_P hP (by rw [e85p, q_v43]; omega)) (by rw [hT]; exact zM_j hm_I41 (fun i => hk_ot rfl) rfl (fun _ _ => rfl)) (by rw [jTi_f (by decide), jTi_f (by decide)]; exact hb) (by rw [← hq, show n.toInt.toNat - i.toInt.toNat = (n.toInt.toNat - v44.toInt.toNat) + 1 by omega]; rfl) (by omega) (by rw [jTi_118, e85p, q_v43]; omega)
theorem pz_cwork29 {X : Option (Nat × (Nat → Int32))} {Z : Option Value → qm_H → Prop} {h : qm_H} {fu : Nat} (hH : hk_H h) (hT2 : h.2.2.2 28 2 = some 29) {n : Int32} {p : (Nat → Nat → Int) × (Nat → Nat → Int32)} (hP : jP 0 p) (zc : zC p.1 h.2.1) (zj : zJ p.2 h.2.1) (hm : zM 29 0 p.1 h.2.1) (hb : (0 ≤ (p.2 118 93).toInt ∧ (p.2 118 93).toInt ≤ 500) ∧ (0 ≤ (p.2 118 94).toInt ∧ (p.2 118 94).toInt ≤ 500)) (htb : (p.2 118 85).toInt ≤ 900000000) (k : ∀ (I : Nat → Nat → Int32) (v : Int32), (∀ o, (o < 51 ∨ 97 < o) → [11, 12, 13, 14, 16, 17, 28, 36, 37].contains o = false → ∀ i, I o i = h.2.1 o i) → (∀ i, [8].contains i = false → I 51 i = h.2.1 51 i) → zC (jWk 0 p n).1 I → zJ (jWk 0 p n).2 I → ((0 ≤ n.toInt ∧ n.toInt ≤ 200) ∧ v = I 97 0 + I 97 1 - (h.2.1 97 0 + h.2.1 97 1) ∨ ¬ (0 ≤ n.toInt ∧ n.toInt ≤ 200) ∧ v = -1) → Z (some (.int v)) (h.1, I, h.2.2.1, h.2.2.2)) : qm_Rp fu X cd_201 (qm_ent 2 [.ref 0, .int n] h) Z := by
  refine qm_Rp.go 0 (c' := (0, [.ref 0, .int n], [], h)) rfl ?_
  have kz0 : (0 : Int32).toInt = 0 := rfl
  have kz1 : (1 : Int32).toInt = 1 := rfl
  have kz2 : (2 : Int32).toInt = 2 := rfl
  have kz3 : (3 : Int32).toInt = 3 := rfl
  have kz4 : (4 : Int32).toInt = 4 := rfl
  have kz5 : (5 : Int32).toInt = 5 := rfl
  have kz6 : (6 : Int32).toInt = 6 := rfl
  have kz7 : (7 : Int32).toInt = 7 := rfl
  have kz8 : (8 : Int32).toInt = 8 := rfl
  have kz9 : (9 : Int32).toInt = 9 := rfl
  have kzm1 : ((-1) : Int32).toInt = (-1) := rfl
  have kzm2 : ((-2) : Int32).toInt = (-2) := rfl
  have kzm3 : ((-3) : Int32).toInt = (-3) := rfl
  refine qm_Rp.go 1 (c' := (1, [.ref 0, .int n], [.int n], h)) rfl ?_
  refine hp_zlt (ix := n.toInt) rfl rfl (fun z1 => ?_) (fun z1 => ?_)
  · refine qm_Rp.go 2 (c' := (23, [.ref 0, .int n], [.int (-1)], h)) rfl ?_
    refine qm_Rp.rt (v := (some (.int (-1)))) (h' := h) rfl ?_
    have hn : ¬ (0 ≤ n.toInt ∧ n.toInt ≤ 200) := by omega
    exact k h.2.1 (-1) (fun _ _ _ _ => rfl) (fun _ _ => rfl) (by rw [jWk_0 hn]; exact zc) (by rw [jWk_0 hn]; exact zj) (Or.inr ⟨hn, rfl⟩)
  · refine qm_Rp.go 2 (c' := (8, [.ref 0, .int n], [.int 200, .int n], h)) rfl ?_
    refine hp_cle (ix := n.toInt) (iy := 200) rfl rfl rfl (fun z2 => ?_) (fun z2 => ?_)
    · refine qm_Rp.go 1 (c' := (16, [.ref 0, .int n], [.ref 0], h)) rfl ?_
      refine hp_getr rfl (hH.1 0 (16, 10) rfl) rfl (hH.2 0 7 (some 51) rfl) ?_
      refine qm_Rp.go 1 (c' := (20, [.ref 0, .int n], [.int n, .ref 51], h)) rfl ?_
      refine hp_inv (o := 51) (r := []) (as := [.ref 51, .int n]) rfl rfl (hH.1 51 (14, 13) rfl) rfl rfl rfl ?_
      refine qm_Rp.go 1 (c' := (1, [.ref 51, .int n, .float 0, .float 0, .float 0], [.ref 51], h)) rfl ?_
      refine hp_inv (o := 51) (r := []) (as := [.ref 51]) rfl rfl (hH.1 51 (14, 13) rfl) rfl rfl rfl ?_
      refine qm_Rp.go 1 (c' := (1, [.ref 51], [.ref 51], h)) rfl ?_
      refine hp_getr rfl (hH.1 51 (14, 13) rfl) rfl (hH.2 51 7 (some 97) rfl) ?_
      refine qm_Rp.go 1 (c' := (5, [.ref 51], [.int 0, .ref 97], h)) rfl ?_
      obtain ⟨v3, q_v3⟩ : ∃ v_, h.2.1 97 0 = v_ := ⟨_, rfl⟩
      refine hp_ial (v := v3) rfl (hH.1 97 (0, 2) rfl) q_v3 (fun ia_3 ib_3 => ?_)
      refine qm_Rp.go 0 (c' := (6, [.ref 51], [.int v3], h)) rfl ?_
      refine qm_Rp.go 1 (c' := (7, [.ref 51], [.ref 51, .int v3], h)) rfl ?_
      refine hp_getr rfl (hH.1 51 (14, 13) rfl) rfl (hH.2 51 7 (some 97) rfl) ?_
      refine qm_Rp.go 1 (c' := (11, [.ref 51], [.int 1, .ref 97, .int v3], h)) rfl ?_
      obtain ⟨v5, q_v5⟩ : ∃ v_, h.2.1 97 1 = v_ := ⟨_, rfl⟩
      refine hp_ial (v := v5) rfl (hH.1 97 (0, 2) rfl) q_v5 (fun ia_5 ib_5 => ?_)
      refine qm_Rp.go 0 (c' := (12, [.ref 51], [.int v5, .int v3], h)) rfl ?_
      refine qm_Rp.go 1 (c' := (13, [.ref 51], [.int (v3 + v5)], h)) rfl ?_
      obtain ⟨v7, q_v7⟩ : ∃ v_, (v3 + v5) = v_ := ⟨_, rfl⟩
      rw [q_v7]
      refine qm_Rp.rt (v := (some (.int v7))) (h' := h) rfl ?_
      refine qm_Rp.go 3 (c' := (7, [.ref 51, .int n, .int v7, .int 0, .float 0], [], h)) rfl ?_
      have hn : 0 ≤ n.toInt ∧ n.toInt ≤ 200 := by omega
      have em : v7 = h.2.1 97 0 + h.2.1 97 1 := by rw [← q_v7, ← q_v3, ← q_v5]
      refine px_cpl29 hH hT2 (m := v7) hn (q := jRn 0 n.toInt.toNat p) (fun I v e e51 zc zj hv => ?_) _ p h.2.1 0 _ (fun _ _ _ _ => rfl) (fun _ _ => rfl) zc zj hP hm hb rfl (by decide) (by have z0 : (0 : Int32).toInt = 0 := rfl; omega)
      refine qm_Rp.go 0 (c' := (23, [.ref 0, .int n], [.int v], (h.1, I, h.2.2.1, h.2.2.2))) rfl ?_
      refine qm_Rp.rt (v := (some (.int v))) (h' := (h.1, I, h.2.2.1, h.2.2.2)) rfl ?_
      exact k I v e e51 (by rw [jWk_1 hn]; exact zc) (by rw [jWk_1 hn]; exact zj) (Or.inl ⟨hn, by rw [hv, em]⟩)
    · refine qm_Rp.go 2 (c' := (23, [.ref 0, .int n], [.int (-1)], h)) rfl ?_
      refine qm_Rp.rt (v := (some (.int (-1)))) (h' := h) rfl ?_
      have hn : ¬ (0 ≤ n.toInt ∧ n.toInt ≤ 200) := by omega
      exact k h.2.1 (-1) (fun _ _ _ _ => rfl) (fun _ _ => rfl) (by rw [jWk_0 hn]; exact zc) (by rw [jWk_0 hn]; exact zj) (Or.inr ⟨hn, rfl⟩)
set_option maxHeartbeats 20000000 in
theorem px_cpl111 {X : Option (Nat × (Nat → Int32))} {Z : Option Value → qm_H → Prop} {h : qm_H} (hH : hk_H h) (hT2 : h.2.2.2 28 2 = some 111) {n m : Int32} (b_n : 0 ≤ n.toInt ∧ n.toInt ≤ 200) {q : (Nat → Nat → Int) × (Nat → Nat → Int32)} (k : ∀ (I : Nat → Nat → Int32) (v : Int32), (∀ o, (o < 51 ∨ 97 < o) → [11, 12, 13, 14, 16, 17, 28, 36, 37].contains o = false → ∀ i, I o i = h.2.1 o i) → (∀ i, [8].contains i = false → I 51 i = h.2.1 51 i) → zC (q).1 I → zJ (q).2 I → v = I 97 0 + I 97 1 - m → Z (some (.int v)) (h.1, I, h.2.2.1, h.2.2.2)) : ∀ (fu : Nat) (p : (Nat → Nat → Int) × (Nat → Nat → Int32)) (I : Nat → Nat → Int32) (i : Int32) (l4 : Value), ((∀ o, (o < 51 ∨ 97 < o) → [11, 12, 13, 14, 16, 17, 28, 36, 37].contains o = false → ∀ i, I o i = h.2.1 o i)) → ((∀ i, [8].contains i = false → I 51 i = h.2.1 51 i)) → (zC p.1 I) → (zJ p.2 I) → (jP 1 p) → (zM 111 1 p.1 I) → ((0 ≤ (p.2 118 93).toInt ∧ (p.2 118 93).toInt ≤ 500) ∧ (0 ≤ (p.2 118 94).toInt ∧ (p.2 118 94).toInt ≤ 500)) → (jRn 1 (n.toInt.toNat - i.toInt.toNat) p = q) → (0 ≤ i.toInt) → ((p.2 118 85).toInt + (n.toInt - i.toInt) ≤ 1000000000) → qm_Rp fu X cd_202 (7, [.ref 51, .int n, .int m, .int i, l4], [], (h.1, I, h.2.2.1, h.2.2.2)) Z := by
  intro fu
  induction fu using Nat.strongRecOn with
  | ind fu ih =>
    intro p I i l4 e e51 zc zj hP hm hb hq b_i htb
    have kz0 : (0 : Int32).toInt = 0 := rfl
    have kz1 : (1 : Int32).toInt = 1 := rfl
    have kz2 : (2 : Int32).toInt = 2 := rfl
    have kz3 : (3 : Int32).toInt = 3 := rfl
    have kz4 : (4 : Int32).toInt = 4 := rfl
    have kz5 : (5 : Int32).toInt = 5 := rfl
    have kz6 : (6 : Int32).toInt = 6 := rfl
    have kz7 : (7 : Int32).toInt = 7 := rfl
    have kz8 : (8 : Int32).toInt = 8 := rfl
    have kz9 : (9 : Int32).toInt = 9 := rfl
    have kzm1 : ((-1) : Int32).toInt = (-1) := rfl
    have kzm2 : ((-2) : Int32).toInt = (-2) := rfl
    have kzm3 : ((-3) : Int32).toInt = (-3) := rfl
    refine qm_Rp.go1 1 (c' := (9, [.ref 51, .int n, .int m, .int i, l4], [.int n, .int i], (h.1, I, h.2.2.1, h.2.2.2))) rfl (fun g hg => ?_)
    refine hp_cge (ix := i.toInt) (iy := n.toInt) rfl rfl rfl (fun z1 => ?_) (fun z1 => ?_)
    · refine qm_Rp.go 1 (c' := (66, [.ref 51, .int n, .int m, .int i, l4], [.ref 51], (h.1, I, h.2.2.1, h.2.2.2))) rfl ?_
      refine hp_inv (o := 51) (r := []) (as := [.ref 51]) rfl rfl (hH.1 51 (14, 13) rfl) rfl rfl rfl ?_
      refine qm_Rp.go 1 (c' := (1, [.ref 51], [.ref 51], (h.1, I, h.2.2.1, h.2.2.2))) rfl ?_
      refine hp_getr rfl (hH.1 51 (14, 13) rfl) rfl (hH.2 51 7 (some 97) rfl) ?_
      refine qm_Rp.go 1 (c' := (5, [.ref 51], [.int 0, .ref 97], (h.1, I, h.2.2.1, h.2.2.2))) rfl ?_
      obtain ⟨v2, q_v2⟩ : ∃ v_, I 97 0 = v_ := ⟨_, rfl⟩
      refine hp_ial (v := v2) rfl (hH.1 97 (0, 2) rfl) q_v2 (fun ia_2 ib_2 => ?_)
      refine qm_Rp.go 0 (c' := (6, [.ref 51], [.int v2], (h.1, I, h.2.2.1, h.2.2.2))) rfl ?_
      refine qm_Rp.go 1 (c' := (7, [.ref 51], [.ref 51, .int v2], (h.1, I, h.2.2.1, h.2.2.2))) rfl ?_
      refine hp_getr rfl (hH.1 51 (14, 13) rfl) rfl (hH.2 51 7 (some 97) rfl) ?_
      refine qm_Rp.go 1 (c' := (11, [.ref 51], [.int 1, .ref 97, .int v2], (h.1, I, h.2.2.1, h.2.2.2))) rfl ?_
      obtain ⟨v4, q_v4⟩ : ∃ v_, I 97 1 = v_ := ⟨_, rfl⟩
      refine hp_ial (v := v4) rfl (hH.1 97 (0, 2) rfl) q_v4 (fun ia_4 ib_4 => ?_)
      refine qm_Rp.go 0 (c' := (12, [.ref 51], [.int v4, .int v2], (h.1, I, h.2.2.1, h.2.2.2))) rfl ?_
      refine qm_Rp.go 1 (c' := (13, [.ref 51], [.int (v2 + v4)], (h.1, I, h.2.2.1, h.2.2.2))) rfl ?_
      obtain ⟨v6, q_v6⟩ : ∃ v_, (v2 + v4) = v_ := ⟨_, rfl⟩
      rw [q_v6]
      refine qm_Rp.rt (v := (some (.int v6))) (h' := (h.1, I, h.2.2.1, h.2.2.2)) rfl ?_
      refine qm_Rp.go 2 (c' := (71, [.ref 51, .int n, .int m, .int i, l4], [.int (v6 - m)], (h.1, I, h.2.2.1, h.2.2.2))) rfl ?_
      obtain ⟨v7, q_v7⟩ : ∃ v_, (v6 - m) = v_ := ⟨_, rfl⟩
      rw [q_v7]
      refine qm_Rp.rt (v := (some (.int v7))) (h' := (h.1, I, h.2.2.1, h.2.2.2)) rfl ?_
      rw [show n.toInt.toNat - i.toInt.toNat = 0 by omega] at hq
      have hq : p = q := hq
      subst hq
      exact k I v7 e e51 zc zj (by rw [← q_v7, ← q_v6, ← q_v2, ← q_v4])
    · refine qm_Rp.go 6 (c' := (22, [.ref 51, .int n, .int m, .int i, .int 0], [.ref 51], (h.1, I, h.2.2.1, h.2.2.2))) rfl ?_
      refine hp_inv (o := 51) (r := []) (as := [.ref 51]) rfl rfl (hH.1 51 (14, 13) rfl) rfl rfl rfl (px_crs (h := (h.1, I, h.2.2.1, h.2.2.2)) hH (K := (p).2) zj hb (hP).2.2.2.2 (fun r8 hr => ?_))
      rcases hr with ⟨hr, hy⟩ | ⟨hr, hy⟩
      · obtain rfl : r8 = 1 := hk_eqi.mpr (hr.trans rfl)
        have y9 := hy
        refine qm_Rp.go 3 (c' := (51, [.ref 51, .int n, .int m, .int i, .int 0], [.ref 51, .ref 51], (h.1, I, h.2.2.1, h.2.2.2))) rfl ?_
        obtain ⟨v10, q_v10⟩ : ∃ v_, I 51 8 = v_ := ⟨_, rfl⟩
        refine hp_geti (v := v10) rfl (hH.1 51 (14, 13) rfl) rfl q_v10 ?_
        refine qm_Rp.go 0 (c' := (54, [.ref 51, .int n, .int m, .int i, .int 0], [.int v10, .ref 51], (h.1, I, h.2.2.1, h.2.2.2))) rfl ?_
        have t0 : 0 ≤ v10.toInt ∧ v10.toInt + (n.toInt - i.toInt) ≤ 1000000000 := by rw [← q_v10, (zj).1.2.1]; exact ⟨hP.2.2.2.2, htb⟩
        refine qm_Rp.go 2 (c' := (56, [.ref 51, .int n, .int m, .int i, .int 0], [.int (v10 + 1), .ref 51], (h.1, I, h.2.2.1, h.2.2.2))) rfl ?_
        obtain ⟨v11, q_v11, e_v11⟩ := hk_add (x := v10) (y := 1) (a := v10.toInt) (b := 1) rfl rfl (by omega) (by omega)
        rw [q_v11]
        refine hp_puti rfl (hH.1 51 (14, 13) rfl) rfl ?_
        refine qm_Rp.go 1 (c' := (62, [.ref 51, .int n, .int m, .int (i + 1), .int 0], [], (h.1, qm_up I 51 8 v11, h.2.2.1, h.2.2.2))) rfl ?_
        obtain ⟨v12, q_v12, e_v12⟩ := hk_add (x := i) (y := 1) (a := i.toInt) (b := 1) rfl rfl (by omega) (by omega)
        rw [q_v12]
        refine qm_Rp.go 1 (c' := (7, [.ref 51, .int n, .int m, .int v12, .int 0], [], (h.1, qm_up I 51 8 v11, h.2.2.1, h.2.2.2))) rfl ?_
        have hT : jTi 1 p = jCk (p) := jTi_r y9
        have e85 : (p).2 118 85 = v10 := zj.1.2.1.symm.trans q_v10
        have e85p : p.2 118 85 = v10 := by rw [← e85]
        have eC : (jCk (p)).2 = qm_up (p).2 118 85 v11 := by show qm_up (p).2 118 85 ((p).2 118 85 + 1) = _; rw [e85, q_v11]
        have hj9 : ((p).2 118 75).toInt ≤ 40 := (hP).2.2.2.1.1.1.2
        exact ih g hg (jTi 1 p) (qm_up I 51 8 v11) v12 _ (fun o ho ho2 i => (hk_on (by omega)).trans (e o ho ho2 i)) (fun i hi => (hk_neq (fun z => by subst z; cases hi)).trans (e51 i hi)) (by rw [hT]; exact zC_51 zc) (by rw [hT, eC]; exact zJ_tk zj hj9) (jTi_P hP (by rw [e85p, q_v11]; omega)) (by rw [hT]; exact zM_j hm (fun i => hk_ot rfl) rfl (fun _ _ => rfl)) (by rw [jTi_f (by decide), jTi_f (by decide)]; exact hb) (by rw [← hq, show n.toInt.toNat - i.toInt.toNat = (n.toInt.toNat - v12.toInt.toNat) + 1 by omega]; rfl) (by omega) (by rw [jTi_118, e85p, q_v11]; omega)
      · obtain rfl : r8 = 0 := hk_eqi.mpr (hr.trans rfl)
        have y13 := hy
        refine qm_Rp.go 3 (c' := (31, [.ref 51, .int n, .int m, .int i, .int 0], [.int 0, .ref 51], (h.1, I, h.2.2.1, h.2.2.2))) rfl ?_
        refine hp_inv (o := 51) (r := []) (as := [.ref 51, .int 0]) rfl rfl (hH.1 51 (14, 13) rfl) rfl rfl rfl (px_cbr0 (h := (h.1, I, h.2.2.1, h.2.2.2)) hH (K := (p).2) zj (hP).2.2.2.1 (fun I14 r15 f_I14 b_I14 => ?_))
        have hP16 : jP 1 (jSt 1 (p) 0) := jSt_P (by decide) hP
        have hb_I14 : (0 ≤ ((jSt 1 (p) 0).2 118 93).toInt ∧ ((jSt 1 (p) 0).2 118 93).toInt ≤ 500) ∧ (0 ≤ ((jSt 1 (p) 0).2 118 94).toInt ∧ ((jSt 1 (p) 0).2 118 94).toInt ≤ 500) := by rw [jSt_118]; exact hb
        have zc_I14 : zC (p).1 I14 := zC_j zc (fun o ho i => f_I14 o (by omega) i)
        rcases b_I14 with ⟨hr, K2, hG, hj⟩ | ⟨hr, hG, hj⟩
        · obtain rfl : r15 = 0 := hk_eqi.mpr (hr.trans rfl)
          have eS : jSt 1 (p) 0 = ((p).1, K2) := hG 1 (p).1
          have zj_I14 : zJ (jSt 1 (p) 0).2 I14 := by rw [eS]; exact hj
          have zd_I14 : zC (jSt 1 (p) 0).1 I14 := by rw [eS]; exact zc_I14
          have hm_I14 : zM 111 1 (jSt 1 (p) 0).1 I14 := zM_st hm (fun i => f_I14 111 (by decide) i)
          refine qm_Rp.go 7 (c' := (22, [.ref 51, .int n, .int m, .int i, .int 1], [.ref 51], (h.1, I14, h.2.2.1, h.2.2.2))) rfl ?_
          refine hp_inv (o := 51) (r := []) (as := [.ref 51]) rfl rfl (hH.1 51 (14, 13) rfl) rfl rfl rfl (px_crs (h := (h.1, I14, h.2.2.1, h.2.2.2)) hH (K := (jSt 1 (p) 0).2) zj_I14 hb_I14 (hP16).2.2.2.2 (fun r17 hr => ?_))
          rcases hr with ⟨hr, hy⟩ | ⟨hr, hy⟩
          · obtain rfl : r17 = 1 := hk_eqi.mpr (hr.trans rfl)
            exact absurd (by unfold jRs at hy ⊢; rw [jSt_118] at hy; exact hy) y13
          · obtain rfl : r17 = 0 := hk_eqi.mpr (hr.trans rfl)
            have y18 := hy
            refine qm_Rp.go 3 (c' := (31, [.ref 51, .int n, .int m, .int i, .int 1], [.int 1, .ref 51], (h.1, I14, h.2.2.1, h.2.2.2))) rfl ?_
            refine hp_inv (o := 51) (r := []) (as := [.ref 51, .int 1]) rfl rfl (hH.1 51 (14, 13) rfl) rfl rfl rfl (px_cbr1 (h := (h.1, I14, h.2.2.1, h.2.2.2)) hH (K := (jSt 1 (p) 0).2) zj_I14 (hP16).2.2.2.1 (fun I19 r20 f_I19 b_I19 => ?_))
            have hP21 : jP 1 (jSt 1 (jSt 1 (p) 0) 1) := jSt_P (by decide) hP16
            have hb_I19 : (0 ≤ ((jSt 1 (jSt 1 (p) 0) 1).2 118 93).toInt ∧ ((jSt 1 (jSt 1 (p) 0) 1).2 118 93).toInt ≤ 500) ∧ (0 ≤ ((jSt 1 (jSt 1 (p) 0) 1).2 118 94).toInt ∧ ((jSt 1 (jSt 1 (p) 0) 1).2 118 94).toInt ≤ 500) := by rw [jSt_118]; exact hb_I14
            have zc_I19 : zC (jSt 1 (p) 0).1 I19 := zC_j zd_I14 (fun o ho i => f_I19 o (by omega) i)
            rcases b_I19 with ⟨hr, K2, hG, hj⟩ | ⟨hr, hG, hj⟩
            · obtain rfl : r20 = 0 := hk_eqi.mpr (hr.trans rfl)
              have eS : jSt 1 (jSt 1 (p) 0) 1 = ((jSt 1 (p) 0).1, K2) := hG 1 (jSt 1 (p) 0).1
              have zj_I19 : zJ (jSt 1 (jSt 1 (p) 0) 1).2 I19 := by rw [eS]; exact hj
              have zd_I19 : zC (jSt 1 (jSt 1 (p) 0) 1).1 I19 := by rw [eS]; exact zc_I19
              have hm_I19 : zM 111 1 (jSt 1 (jSt 1 (p) 0) 1).1 I19 := zM_st hm_I14 (fun i => f_I19 111 (by decide) i)
              refine qm_Rp.go 8 (c' := (51, [.ref 51, .int n, .int m, .int i, .int 2], [.ref 51, .ref 51], (h.1, I19, h.2.2.1, h.2.2.2))) rfl ?_
              obtain ⟨v22, q_v22⟩ : ∃ v_, I19 51 8 = v_ := ⟨_, rfl⟩
              refine hp_geti (v := v22) rfl (hH.1 51 (14, 13) rfl) rfl q_v22 ?_
              refine qm_Rp.go 0 (c' := (54, [.ref 51, .int n, .int m, .int i, .int 2], [.int v22, .ref 51], (h.1, I19, h.2.2.1, h.2.2.2))) rfl ?_
              have t0 : 0 ≤ v22.toInt ∧ v22.toInt + (n.toInt - i.toInt) ≤ 1000000000 := by rw [← q_v22, (zj_I19).1.2.1]; rw [jSt_118, jSt_118]; exact ⟨hP.2.2.2.2, htb⟩
              refine qm_Rp.go 2 (c' := (56, [.ref 51, .int n, .int m, .int i, .int 2], [.int (v22 + 1), .ref 51], (h.1, I19, h.2.2.1, h.2.2.2))) rfl ?_
              obtain ⟨v23, q_v23, e_v23⟩ := hk_add (x := v22) (y := 1) (a := v22.toInt) (b := 1) rfl rfl (by omega) (by omega)
              rw [q_v23]
              refine hp_puti rfl (hH.1 51 (14, 13) rfl) rfl ?_
              refine qm_Rp.go 1 (c' := (62, [.ref 51, .int n, .int m, .int (i + 1), .int 2], [], (h.1, qm_up I19 51 8 v23, h.2.2.1, h.2.2.2))) rfl ?_
              obtain ⟨v24, q_v24, e_v24⟩ := hk_add (x := i) (y := 1) (a := i.toInt) (b := 1) rfl rfl (by omega) (by omega)
              rw [q_v24]
              refine qm_Rp.go 1 (c' := (7, [.ref 51, .int n, .int m, .int v24, .int 2], [], (h.1, qm_up I19 51 8 v23, h.2.2.1, h.2.2.2))) rfl ?_
              have hT : jTi 1 p = jCk (jSt 1 (jSt 1 (p) 0) 1) := jTi_w y13
              have e85 : (jSt 1 (jSt 1 (p) 0) 1).2 118 85 = v22 := zj_I19.1.2.1.symm.trans q_v22
              have e85p : p.2 118 85 = v22 := by rw [← e85, jSt_118, jSt_118]
              have eC : (jCk (jSt 1 (jSt 1 (p) 0) 1)).2 = qm_up (jSt 1 (jSt 1 (p) 0) 1).2 118 85 v23 := by show qm_up (jSt 1 (jSt 1 (p) 0) 1).2 118 85 ((jSt 1 (jSt 1 (p) 0) 1).2 118 85 + 1) = _; rw [e85, q_v23]
              have hj9 : ((jSt 1 (jSt 1 (p) 0) 1).2 118 75).toInt ≤ 40 := (hP21).2.2.2.1.1.1.2
              exact ih g hg (jTi 1 p) (qm_up I19 51 8 v23) v24 _ (fun o ho ho2 i => (hk_on (by omega)).trans ((f_I19 o (by omega) i).trans ((f_I14 o (by omega) i).trans (e o ho ho2 i)))) (fun i hi => (hk_neq (fun z => by subst z; cases hi)).trans ((f_I19 51 (by decide) i).trans ((f_I14 51 (by decide) i).trans (e51 i hi)))) (by rw [hT]; exact zC_51 zd_I19) (by rw [hT, eC]; exact zJ_tk zj_I19 hj9) (jTi_P hP (by rw [e85p, q_v23]; omega)) (by rw [hT]; exact zM_j hm_I19 (fun i => hk_ot rfl) rfl (fun _ _ => rfl)) (by rw [jTi_f (by decide), jTi_f (by decide)]; exact hb) (by rw [← hq, show n.toInt.toNat - i.toInt.toNat = (n.toInt.toNat - v24.toInt.toNat) + 1 by omega]; rfl) (by omega) (by rw [jTi_118, e85p, q_v23]; omega)
            · obtain rfl : r20 = 1 := hk_eqi.mpr (hr.trans rfl)
              have hIK : jI (bif okb (((jSt 1 (p) 0).2 178 1).toInt = -1) then jTk (jSt 1 (p) 0).2 1 else (jSt 1 (p) 0).2) := by
                by_cases q9 : ((jSt 1 (p) 0).2 178 1).toInt = -1
                · rw [okb_t q9]
                  exact jTk_I (by decide) (hP16).2.2.2.1
                · rw [okb_f q9]
                  exact (hP16).2.2.2.1
              refine qm_Rp.go 3 (c' := (40, [.ref 51, .int n, .int m, .int i, .int 1], [.int 1, .ref 51], (h.1, I19, h.2.2.1, h.2.2.2))) rfl ?_
              refine hp_inv (o := 51) (r := []) (as := [.ref 51, .int 1]) rfl rfl (hH.1 51 (14, 13) rfl) rfl rfl rfl (px_cfin1111 (h := (h.1, I19, h.2.2.1, h.2.2.2)) hH hT2 (A := (jSt 1 (p) 0).1) (K := (bif okb (((jSt 1 (p) 0).2 178 1).toInt = -1) then jTk (jSt 1 (p) 0).2 1 else (jSt 1 (p) 0).2)) (hP16).1 zc_I19 (zM_j hm_I14 (fun i => f_I19 111 (by decide) i) rfl (fun _ _ => rfl)) hIK hG hj (fun I26 f_I26 zc_I26 zj_I26 => ?_))
              have zc_I26 : zC (jSt 1 (jSt 1 (p) 0) 1).1 I26 := zc_I26
              have zj_I26 : zJ (jSt 1 (jSt 1 (p) 0) 1).2 I26 := zj_I26
              have hm_I26 : zM 111 1 (jSt 1 (jSt 1 (p) 0) 1).1 I26 := zM_st hm_I14 (fun i => (f_I26 111 (by decide) (by decide) i).trans (f_I19 111 (by decide) i))
              refine qm_Rp.go 7 (c' := (51, [.ref 51, .int n, .int m, .int i, .int 2], [.ref 51, .ref 51], (h.1, I26, h.2.2.1, h.2.2.2))) rfl ?_
              obtain ⟨v27, q_v27⟩ : ∃ v_, I26 51 8 = v_ := ⟨_, rfl⟩
              refine hp_geti (v := v27) rfl (hH.1 51 (14, 13) rfl) rfl q_v27 ?_
              refine qm_Rp.go 0 (c' := (54, [.ref 51, .int n, .int m, .int i, .int 2], [.int v27, .ref 51], (h.1, I26, h.2.2.1, h.2.2.2))) rfl ?_
              have t0 : 0 ≤ v27.toInt ∧ v27.toInt + (n.toInt - i.toInt) ≤ 1000000000 := by rw [← q_v27, (zj_I26).1.2.1]; rw [jSt_118, jSt_118]; exact ⟨hP.2.2.2.2, htb⟩
              refine qm_Rp.go 2 (c' := (56, [.ref 51, .int n, .int m, .int i, .int 2], [.int (v27 + 1), .ref 51], (h.1, I26, h.2.2.1, h.2.2.2))) rfl ?_
              obtain ⟨v28, q_v28, e_v28⟩ := hk_add (x := v27) (y := 1) (a := v27.toInt) (b := 1) rfl rfl (by omega) (by omega)
              rw [q_v28]
              refine hp_puti rfl (hH.1 51 (14, 13) rfl) rfl ?_
              refine qm_Rp.go 1 (c' := (62, [.ref 51, .int n, .int m, .int (i + 1), .int 2], [], (h.1, qm_up I26 51 8 v28, h.2.2.1, h.2.2.2))) rfl ?_
              obtain ⟨v29, q_v29, e_v29⟩ := hk_add (x := i) (y := 1) (a := i.toInt) (b := 1) rfl rfl (by omega) (by omega)
              rw [q_v29]
              refine qm_Rp.go 1 (c' := (7, [.ref 51, .int n, .int m, .int v29, .int 2], [], (h.1, qm_up I26 51 8 v28, h.2.2.1, h.2.2.2))) rfl ?_
              have hT : jTi 1 p = jCk (jSt 1 (jSt 1 (p) 0) 1) := jTi_w y13
              have e85 : (jSt 1 (jSt 1 (p) 0) 1).2 118 85 = v27 := zj_I26.1.2.1.symm.trans q_v27
              have e85p : p.2 118 85 = v27 := by rw [← e85, jSt_118, jSt_118]
              have eC : (jCk (jSt 1 (jSt 1 (p) 0) 1)).2 = qm_up (jSt 1 (jSt 1 (p) 0) 1).2 118 85 v28 := by show qm_up (jSt 1 (jSt 1 (p) 0) 1).2 118 85 ((jSt 1 (jSt 1 (p) 0) 1).2 118 85 + 1) = _; rw [e85, q_v28]
              have hj9 : ((jSt 1 (jSt 1 (p) 0) 1).2 118 75).toInt ≤ 40 := (hP21).2.2.2.1.1.1.2
              exact ih g hg (jTi 1 p) (qm_up I26 51 8 v28) v29 _ (fun o ho ho2 i => (hk_on (by omega)).trans ((f_I26 o (by omega) ho2 i).trans ((f_I19 o (by omega) i).trans ((f_I14 o (by omega) i).trans (e o ho ho2 i))))) (fun i hi => (hk_neq (fun z => by subst z; cases hi)).trans ((f_I26 51 (by decide) (by decide) i).trans ((f_I19 51 (by decide) i).trans ((f_I14 51 (by decide) i).trans (e51 i hi))))) (by rw [hT]; exact zC_51 zc_I26) (by rw [hT, eC]; exact zJ_tk zj_I26 hj9) (jTi_P hP (by rw [e85p, q_v28]; omega)) (by rw [hT]; exact zM_j hm_I26 (fun i => hk_ot rfl) rfl (fun _ _ => rfl)) (by rw [jTi_f (by decide), jTi_f (by decide)]; exact hb) (by rw [← hq, show n.toInt.toNat - i.toInt.toNat = (n.toInt.toNat - v29.toInt.toNat) + 1 by omega]; rfl) (by omega) (by rw [jTi_118, e85p, q_v28]; omega)
        · obtain rfl : r15 = 1 := hk_eqi.mpr (hr.trans rfl)
          have hIK : jI (bif okb (((p).2 178 0).toInt = -1) then jTk (p).2 0 else (p).2) := by
            by_cases q9 : ((p).2 178 0).toInt = -1
            · rw [okb_t q9]
              exact jTk_I (by decide) (hP).2.2.2.1
            · rw [okb_f q9]
              exact (hP).2.2.2.1
          refine qm_Rp.go 3 (c' := (40, [.ref 51, .int n, .int m, .int i, .int 0], [.int 0, .ref 51], (h.1, I14, h.2.2.1, h.2.2.2))) rfl ?_
          refine hp_inv (o := 51) (r := []) (as := [.ref 51, .int 0]) rfl rfl (hH.1 51 (14, 13) rfl) rfl rfl rfl (px_cfin0111 (h := (h.1, I14, h.2.2.1, h.2.2.2)) hH hT2 (A := (p).1) (K := (bif okb (((p).2 178 0).toInt = -1) then jTk (p).2 0 else (p).2)) (hP).1 zc_I14 (zM_j hm (fun i => f_I14 111 (by decide) i) rfl (fun _ _ => rfl)) hIK hG hj (fun I31 f_I31 zc_I31 zj_I31 => ?_))
          have zc_I31 : zC (jSt 1 (p) 0).1 I31 := zc_I31
          have zj_I31 : zJ (jSt 1 (p) 0).2 I31 := zj_I31
          have hm_I31 : zM 111 1 (jSt 1 (p) 0).1 I31 := zM_st hm (fun i => (f_I31 111 (by decide) (by decide) i).trans (f_I14 111 (by decide) i))
          refine qm_Rp.go 6 (c' := (22, [.ref 51, .int n, .int m, .int i, .int 1], [.ref 51], (h.1, I31, h.2.2.1, h.2.2.2))) rfl ?_
          refine hp_inv (o := 51) (r := []) (as := [.ref 51]) rfl rfl (hH.1 51 (14, 13) rfl) rfl rfl rfl (px_crs (h := (h.1, I31, h.2.2.1, h.2.2.2)) hH (K := (jSt 1 (p) 0).2) zj_I31 hb_I14 (hP16).2.2.2.2 (fun r32 hr => ?_))
          rcases hr with ⟨hr, hy⟩ | ⟨hr, hy⟩
          · obtain rfl : r32 = 1 := hk_eqi.mpr (hr.trans rfl)
            exact absurd (by unfold jRs at hy ⊢; rw [jSt_118] at hy; exact hy) y13
          · obtain rfl : r32 = 0 := hk_eqi.mpr (hr.trans rfl)
            have y33 := hy
            refine qm_Rp.go 3 (c' := (31, [.ref 51, .int n, .int m, .int i, .int 1], [.int 1, .ref 51], (h.1, I31, h.2.2.1, h.2.2.2))) rfl ?_
            refine hp_inv (o := 51) (r := []) (as := [.ref 51, .int 1]) rfl rfl (hH.1 51 (14, 13) rfl) rfl rfl rfl (px_cbr1 (h := (h.1, I31, h.2.2.1, h.2.2.2)) hH (K := (jSt 1 (p) 0).2) zj_I31 (hP16).2.2.2.1 (fun I34 r35 f_I34 b_I34 => ?_))
            have hP36 : jP 1 (jSt 1 (jSt 1 (p) 0) 1) := jSt_P (by decide) hP16
            have hb_I34 : (0 ≤ ((jSt 1 (jSt 1 (p) 0) 1).2 118 93).toInt ∧ ((jSt 1 (jSt 1 (p) 0) 1).2 118 93).toInt ≤ 500) ∧ (0 ≤ ((jSt 1 (jSt 1 (p) 0) 1).2 118 94).toInt ∧ ((jSt 1 (jSt 1 (p) 0) 1).2 118 94).toInt ≤ 500) := by rw [jSt_118]; exact hb_I14
            have zc_I34 : zC (jSt 1 (p) 0).1 I34 := zC_j zc_I31 (fun o ho i => f_I34 o (by omega) i)
            rcases b_I34 with ⟨hr, K2, hG, hj⟩ | ⟨hr, hG, hj⟩
            · obtain rfl : r35 = 0 := hk_eqi.mpr (hr.trans rfl)
              have eS : jSt 1 (jSt 1 (p) 0) 1 = ((jSt 1 (p) 0).1, K2) := hG 1 (jSt 1 (p) 0).1
              have zj_I34 : zJ (jSt 1 (jSt 1 (p) 0) 1).2 I34 := by rw [eS]; exact hj
              have zd_I34 : zC (jSt 1 (jSt 1 (p) 0) 1).1 I34 := by rw [eS]; exact zc_I34
              have hm_I34 : zM 111 1 (jSt 1 (jSt 1 (p) 0) 1).1 I34 := zM_st hm_I31 (fun i => f_I34 111 (by decide) i)
              refine qm_Rp.go 8 (c' := (51, [.ref 51, .int n, .int m, .int i, .int 2], [.ref 51, .ref 51], (h.1, I34, h.2.2.1, h.2.2.2))) rfl ?_
              obtain ⟨v37, q_v37⟩ : ∃ v_, I34 51 8 = v_ := ⟨_, rfl⟩
              refine hp_geti (v := v37) rfl (hH.1 51 (14, 13) rfl) rfl q_v37 ?_
              refine qm_Rp.go 0 (c' := (54, [.ref 51, .int n, .int m, .int i, .int 2], [.int v37, .ref 51], (h.1, I34, h.2.2.1, h.2.2.2))) rfl ?_
              have t0 : 0 ≤ v37.toInt ∧ v37.toInt + (n.toInt - i.toInt) ≤ 1000000000 := by rw [← q_v37, (zj_I34).1.2.1]; rw [jSt_118, jSt_118]; exact ⟨hP.2.2.2.2, htb⟩
              refine qm_Rp.go 2 (c' := (56, [.ref 51, .int n, .int m, .int i, .int 2], [.int (v37 + 1), .ref 51], (h.1, I34, h.2.2.1, h.2.2.2))) rfl ?_
              obtain ⟨v38, q_v38, e_v38⟩ := hk_add (x := v37) (y := 1) (a := v37.toInt) (b := 1) rfl rfl (by omega) (by omega)
              rw [q_v38]
              refine hp_puti rfl (hH.1 51 (14, 13) rfl) rfl ?_
              refine qm_Rp.go 1 (c' := (62, [.ref 51, .int n, .int m, .int (i + 1), .int 2], [], (h.1, qm_up I34 51 8 v38, h.2.2.1, h.2.2.2))) rfl ?_
              obtain ⟨v39, q_v39, e_v39⟩ := hk_add (x := i) (y := 1) (a := i.toInt) (b := 1) rfl rfl (by omega) (by omega)
              rw [q_v39]
              refine qm_Rp.go 1 (c' := (7, [.ref 51, .int n, .int m, .int v39, .int 2], [], (h.1, qm_up I34 51 8 v38, h.2.2.1, h.2.2.2))) rfl ?_
              have hT : jTi 1 p = jCk (jSt 1 (jSt 1 (p) 0) 1) := jTi_w y13
              have e85 : (jSt 1 (jSt 1 (p) 0) 1).2 118 85 = v37 := zj_I34.1.2.1.symm.trans q_v37
              have e85p : p.2 118 85 = v37 := by rw [← e85, jSt_118, jSt_118]
              have eC : (jCk (jSt 1 (jSt 1 (p) 0) 1)).2 = qm_up (jSt 1 (jSt 1 (p) 0) 1).2 118 85 v38 := by show qm_up (jSt 1 (jSt 1 (p) 0) 1).2 118 85 ((jSt 1 (jSt 1 (p) 0) 1).2 118 85 + 1) = _; rw [e85, q_v38]
              have hj9 : ((jSt 1 (jSt 1 (p) 0) 1).2 118 75).toInt ≤ 40 := (hP36).2.2.2.1.1.1.2
              exact ih g hg (jTi 1 p) (qm_up I34 51 8 v38) v39 _ (fun o ho ho2 i => (hk_on (by omega)).trans ((f_I34 o (by omega) i).trans ((f_I31 o (by omega) ho2 i).trans ((f_I14 o (by omega) i).trans (e o ho ho2 i))))) (fun i hi => (hk_neq (fun z => by subst z; cases hi)).trans ((f_I34 51 (by decide) i).trans ((f_I31 51 (by decide) (by decide) i).trans ((f_I14 51 (by decide) i).trans (e51 i hi))))) (by rw [hT]; exact zC_51 zd_I34) (by rw [hT, eC]; exact zJ_tk zj_I34 hj9) (jTi_P hP (by rw [e85p, q_v38]; omega)) (by rw [hT]; exact zM_j hm_I34 (fun i => hk_ot rfl) rfl (fun _ _ => rfl)) (by rw [jTi_f (by decide), jTi_f (by decide)]; exact hb) (by rw [← hq, show n.toInt.toNat - i.toInt.toNat = (n.toInt.toNat - v39.toInt.toNat) + 1 by omega]; rfl) (by omega) (by rw [jTi_118, e85p, q_v38]; omega)
            · obtain rfl : r35 = 1 := hk_eqi.mpr (hr.trans rfl)
              have hIK : jI (bif okb (((jSt 1 (p) 0).2 178 1).toInt = -1) then jTk (jSt 1 (p) 0).2 1 else (jSt 1 (p) 0).2) := by
                by_cases q9 : ((jSt 1 (p) 0).2 178 1).toInt = -1
                · rw [okb_t q9]
                  exact jTk_I (by decide) (hP16).2.2.2.1
                · rw [okb_f q9]
                  exact (hP16).2.2.2.1
              refine qm_Rp.go 3 (c' := (40, [.ref 51, .int n, .int m, .int i, .int 1], [.int 1, .ref 51], (h.1, I34, h.2.2.1, h.2.2.2))) rfl ?_
              refine hp_inv (o := 51) (r := []) (as := [.ref 51, .int 1]) rfl rfl (hH.1 51 (14, 13) rfl) rfl rfl rfl (px_cfin1111 (h := (h.1, I34, h.2.2.1, h.2.2.2)) hH hT2 (A := (jSt 1 (p) 0).1) (K := (bif okb (((jSt 1 (p) 0).2 178 1).toInt = -1) then jTk (jSt 1 (p) 0).2 1 else (jSt 1 (p) 0).2)) (hP16).1 zc_I34 (zM_j hm_I31 (fun i => f_I34 111 (by decide) i) rfl (fun _ _ => rfl)) hIK hG hj (fun I41 f_I41 zc_I41 zj_I41 => ?_))
              have zc_I41 : zC (jSt 1 (jSt 1 (p) 0) 1).1 I41 := zc_I41
              have zj_I41 : zJ (jSt 1 (jSt 1 (p) 0) 1).2 I41 := zj_I41
              have hm_I41 : zM 111 1 (jSt 1 (jSt 1 (p) 0) 1).1 I41 := zM_st hm_I31 (fun i => (f_I41 111 (by decide) (by decide) i).trans (f_I34 111 (by decide) i))
              refine qm_Rp.go 7 (c' := (51, [.ref 51, .int n, .int m, .int i, .int 2], [.ref 51, .ref 51], (h.1, I41, h.2.2.1, h.2.2.2))) rfl ?_
              obtain ⟨v42, q_v42⟩ : ∃ v_, I41 51 8 = v_ := ⟨_, rfl⟩
              refine hp_geti (v := v42) rfl (hH.1 51 (14, 13) rfl) rfl q_v42 ?_
              refine qm_Rp.go 0 (c' := (54, [.ref 51, .int n, .int m, .int i, .int 2], [.int v42, .ref 51], (h.1, I41, h.2.2.1, h.2.2.2))) rfl ?_
              have t0 : 0 ≤ v42.toInt ∧ v42.toInt + (n.toInt - i.toInt) ≤ 1000000000 := by rw [← q_v42, (zj_I41).1.2.1]; rw [jSt_118, jSt_118]; exact ⟨hP.2.2.2.2, htb⟩
              refine qm_Rp.go 2 (c' := (56, [.ref 51, .int n, .int m, .int i, .int 2], [.int (v42 + 1), .ref 51], (h.1, I41, h.2.2.1, h.2.2.2))) rfl ?_
              obtain ⟨v43, q_v43, e_v43⟩ := hk_add (x := v42) (y := 1) (a := v42.toInt) (b := 1) rfl rfl (by omega) (by omega)
              rw [q_v43]
              refine hp_puti rfl (hH.1 51 (14, 13) rfl) rfl ?_
              refine qm_Rp.go 1 (c' := (62, [.ref 51, .int n, .int m, .int (i + 1), .int 2], [], (h.1, qm_up I41 51 8 v43, h.2.2.1, h.2.2.2))) rfl ?_
              obtain ⟨v44, q_v44, e_v44⟩ := hk_add (x := i) (y := 1) (a := i.toInt) (b := 1) rfl rfl (by omega) (by omega)
              rw [q_v44]
              refine qm_Rp.go 1 (c' := (7, [.ref 51, .int n, .int m, .int v44, .int 2], [], (h.1, qm_up I41 51 8 v43, h.2.2.1, h.2.2.2))) rfl ?_
              have hT : jTi 1 p = jCk (jSt 1 (jSt 1 (p) 0) 1) := jTi_w y13
              have e85 : (jSt 1 (jSt 1 (p) 0) 1).2 118 85 = v42 := zj_I41.1.2.1.symm.trans q_v42
              have e85p : p.2 118 85 = v42 := by rw [← e85, jSt_118, jSt_118]
              have eC : (jCk (jSt 1 (jSt 1 (p) 0) 1)).2 = qm_up (jSt 1 (jSt 1 (p) 0) 1).2 118 85 v43 := by show qm_up (jSt 1 (jSt 1 (p) 0) 1).2 118 85 ((jSt 1 (jSt 1 (p) 0) 1).2 118 85 + 1) = _; rw [e85, q_v43]
              have hj9 : ((jSt 1 (jSt 1 (p) 0) 1).2 118 75).toInt ≤ 40 := (hP36).2.2.2.1.1.1.2
              exact ih g hg (jTi 1 p) (qm_up I41 51 8 v43) v44 _ (fun o ho ho2 i => (hk_on (by omega)).trans ((f_I41 o (by omega) ho2 i).trans ((f_I34 o (by omega) i).trans ((f_I31 o (by omega) ho2 i).trans ((f_I14 o (by omega) i).trans (e o ho ho2 i)))))) (fun i hi => (hk_neq (fun z => by subst z; cases hi)).trans ((f_I41 51 (by decide) (by decide) i).trans ((f_I34 51 (by decide) i).trans ((f_I31 51 (by decide) (by decide) i).trans ((f_I14 51 (by decide) i).trans (e51 i hi)))))) (by rw [hT]; exact zC_51 zc_I41) (by rw [hT, eC]; exact zJ_tk zj_I41 hj9) (jTi_P hP (by rw [e85p, q_v43]; omega)) (by rw [hT]; exact zM_j hm_I41 (fun i => hk_ot rfl) rfl (fun _ _ => rfl)) (by rw [jTi_f (by decide), jTi_f (by decide)]; exact hb) (by rw [← hq, show n.toInt.toNat - i.toInt.toNat = (n.toInt.toNat - v44.toInt.toNat) + 1 by omega]; rfl) (by omega) (by rw [jTi_118, e85p, q_v43]; omega)
theorem pz_cwork111 {X : Option (Nat × (Nat → Int32))} {Z : Option Value → qm_H → Prop} {h : qm_H} {fu : Nat} (hH : hk_H h) (hT2 : h.2.2.2 28 2 = some 111) {n : Int32} {p : (Nat → Nat → Int) × (Nat → Nat → Int32)} (hP : jP 1 p) (zc : zC p.1 h.2.1) (zj : zJ p.2 h.2.1) (hm : zM 111 1 p.1 h.2.1) (hb : (0 ≤ (p.2 118 93).toInt ∧ (p.2 118 93).toInt ≤ 500) ∧ (0 ≤ (p.2 118 94).toInt ∧ (p.2 118 94).toInt ≤ 500)) (htb : (p.2 118 85).toInt ≤ 900000000) (k : ∀ (I : Nat → Nat → Int32) (v : Int32), (∀ o, (o < 51 ∨ 97 < o) → [11, 12, 13, 14, 16, 17, 28, 36, 37].contains o = false → ∀ i, I o i = h.2.1 o i) → (∀ i, [8].contains i = false → I 51 i = h.2.1 51 i) → zC (jWk 1 p n).1 I → zJ (jWk 1 p n).2 I → ((0 ≤ n.toInt ∧ n.toInt ≤ 200) ∧ v = I 97 0 + I 97 1 - (h.2.1 97 0 + h.2.1 97 1) ∨ ¬ (0 ≤ n.toInt ∧ n.toInt ≤ 200) ∧ v = -1) → Z (some (.int v)) (h.1, I, h.2.2.1, h.2.2.2)) : qm_Rp fu X cd_201 (qm_ent 2 [.ref 0, .int n] h) Z := by
  refine qm_Rp.go 0 (c' := (0, [.ref 0, .int n], [], h)) rfl ?_
  have kz0 : (0 : Int32).toInt = 0 := rfl
  have kz1 : (1 : Int32).toInt = 1 := rfl
  have kz2 : (2 : Int32).toInt = 2 := rfl
  have kz3 : (3 : Int32).toInt = 3 := rfl
  have kz4 : (4 : Int32).toInt = 4 := rfl
  have kz5 : (5 : Int32).toInt = 5 := rfl
  have kz6 : (6 : Int32).toInt = 6 := rfl
  have kz7 : (7 : Int32).toInt = 7 := rfl
  have kz8 : (8 : Int32).toInt = 8 := rfl
  have kz9 : (9 : Int32).toInt = 9 := rfl
  have kzm1 : ((-1) : Int32).toInt = (-1) := rfl
  have kzm2 : ((-2) : Int32).toInt = (-2) := rfl
  have kzm3 : ((-3) : Int32).toInt = (-3) := rfl
  refine qm_Rp.go 1 (c' := (1, [.ref 0, .int n], [.int n], h)) rfl ?_
  refine hp_zlt (ix := n.toInt) rfl rfl (fun z1 => ?_) (fun z1 => ?_)
  · refine qm_Rp.go 2 (c' := (23, [.ref 0, .int n], [.int (-1)], h)) rfl ?_
    refine qm_Rp.rt (v := (some (.int (-1)))) (h' := h) rfl ?_
    have hn : ¬ (0 ≤ n.toInt ∧ n.toInt ≤ 200) := by omega
    exact k h.2.1 (-1) (fun _ _ _ _ => rfl) (fun _ _ => rfl) (by rw [jWk_0 hn]; exact zc) (by rw [jWk_0 hn]; exact zj) (Or.inr ⟨hn, rfl⟩)
  · refine qm_Rp.go 2 (c' := (8, [.ref 0, .int n], [.int 200, .int n], h)) rfl ?_
    refine hp_cle (ix := n.toInt) (iy := 200) rfl rfl rfl (fun z2 => ?_) (fun z2 => ?_)
    · refine qm_Rp.go 1 (c' := (16, [.ref 0, .int n], [.ref 0], h)) rfl ?_
      refine hp_getr rfl (hH.1 0 (16, 10) rfl) rfl (hH.2 0 7 (some 51) rfl) ?_
      refine qm_Rp.go 1 (c' := (20, [.ref 0, .int n], [.int n, .ref 51], h)) rfl ?_
      refine hp_inv (o := 51) (r := []) (as := [.ref 51, .int n]) rfl rfl (hH.1 51 (14, 13) rfl) rfl rfl rfl ?_
      refine qm_Rp.go 1 (c' := (1, [.ref 51, .int n, .float 0, .float 0, .float 0], [.ref 51], h)) rfl ?_
      refine hp_inv (o := 51) (r := []) (as := [.ref 51]) rfl rfl (hH.1 51 (14, 13) rfl) rfl rfl rfl ?_
      refine qm_Rp.go 1 (c' := (1, [.ref 51], [.ref 51], h)) rfl ?_
      refine hp_getr rfl (hH.1 51 (14, 13) rfl) rfl (hH.2 51 7 (some 97) rfl) ?_
      refine qm_Rp.go 1 (c' := (5, [.ref 51], [.int 0, .ref 97], h)) rfl ?_
      obtain ⟨v3, q_v3⟩ : ∃ v_, h.2.1 97 0 = v_ := ⟨_, rfl⟩
      refine hp_ial (v := v3) rfl (hH.1 97 (0, 2) rfl) q_v3 (fun ia_3 ib_3 => ?_)
      refine qm_Rp.go 0 (c' := (6, [.ref 51], [.int v3], h)) rfl ?_
      refine qm_Rp.go 1 (c' := (7, [.ref 51], [.ref 51, .int v3], h)) rfl ?_
      refine hp_getr rfl (hH.1 51 (14, 13) rfl) rfl (hH.2 51 7 (some 97) rfl) ?_
      refine qm_Rp.go 1 (c' := (11, [.ref 51], [.int 1, .ref 97, .int v3], h)) rfl ?_
      obtain ⟨v5, q_v5⟩ : ∃ v_, h.2.1 97 1 = v_ := ⟨_, rfl⟩
      refine hp_ial (v := v5) rfl (hH.1 97 (0, 2) rfl) q_v5 (fun ia_5 ib_5 => ?_)
      refine qm_Rp.go 0 (c' := (12, [.ref 51], [.int v5, .int v3], h)) rfl ?_
      refine qm_Rp.go 1 (c' := (13, [.ref 51], [.int (v3 + v5)], h)) rfl ?_
      obtain ⟨v7, q_v7⟩ : ∃ v_, (v3 + v5) = v_ := ⟨_, rfl⟩
      rw [q_v7]
      refine qm_Rp.rt (v := (some (.int v7))) (h' := h) rfl ?_
      refine qm_Rp.go 3 (c' := (7, [.ref 51, .int n, .int v7, .int 0, .float 0], [], h)) rfl ?_
      have hn : 0 ≤ n.toInt ∧ n.toInt ≤ 200 := by omega
      have em : v7 = h.2.1 97 0 + h.2.1 97 1 := by rw [← q_v7, ← q_v3, ← q_v5]
      refine px_cpl111 hH hT2 (m := v7) hn (q := jRn 1 n.toInt.toNat p) (fun I v e e51 zc zj hv => ?_) _ p h.2.1 0 _ (fun _ _ _ _ => rfl) (fun _ _ => rfl) zc zj hP hm hb rfl (by decide) (by have z0 : (0 : Int32).toInt = 0 := rfl; omega)
      refine qm_Rp.go 0 (c' := (23, [.ref 0, .int n], [.int v], (h.1, I, h.2.2.1, h.2.2.2))) rfl ?_
      refine qm_Rp.rt (v := (some (.int v))) (h' := (h.1, I, h.2.2.1, h.2.2.2)) rfl ?_
      exact k I v e e51 (by rw [jWk_1 hn]; exact zc) (by rw [jWk_1 hn]; exact zj) (Or.inl ⟨hn, by rw [hv, em]⟩)
    · refine qm_Rp.go 2 (c' := (23, [.ref 0, .int n], [.int (-1)], h)) rfl ?_
      refine qm_Rp.rt (v := (some (.int (-1)))) (h' := h) rfl ?_
      have hn : ¬ (0 ≤ n.toInt ∧ n.toInt ≤ 200) := by omega
      exact k h.2.1 (-1) (fun _ _ _ _ => rfl) (fun _ _ => rfl) (by rw [jWk_0 hn]; exact zc) (by rw [jWk_0 hn]; exact zj) (Or.inr ⟨hn, rfl⟩)
