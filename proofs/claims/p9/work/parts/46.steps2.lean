/-! the rest of the steps: constants, switches, fields, new cells -/
theorem qm_w_i28 : Cond.instanceMethod objectInit ∈ lw_tbl := qm_at_mem (q := 28) (by decide +kernel)
theorem qm_w_c29 : Cond.code objectInit ⟨#[0xb1]⟩ 1 none ∈ lw_tbl := qm_at_mem (q := 29) (by decide +kernel)
theorem qm_w_sys : Cond.initialized "java/lang/System" ∈ lw_tbl := qm_at_mem (q := 21) (by decide +kernel)
theorem qm_w_sst : Cond.static arraycopyName ∈ lw_tbl := qm_at_mem (q := 5024) (by decide +kernel)
theorem qm_w_snt : Cond.native arraycopyName ∈ lw_tbl := qm_at_mem (q := 5025) (by decide +kernel)
theorem qm_w_ab : Cond.arrayClass .byte ∈ lw_tbl := qm_at_mem (q := 65) (by decide +kernel)
theorem qm_w_ai : Cond.arrayClass .int ∈ lw_tbl := qm_at_mem (q := 116) (by decide +kernel)
theorem qm_w_al : Cond.arrayClass .long ∈ lw_tbl := qm_at_mem (q := 117) (by decide +kernel)
theorem qm_w_az : Cond.arrayClass .boolean ∈ lw_tbl := qm_at_mem (q := 184) (by decide +kernel)
theorem qm_w_ao : Cond.arrayOver (.array .int) ∈ lw_tbl := qm_at_mem (q := 192) (by decide +kernel)
theorem qm_w_mi : Cond.initialized "java/lang/Math" ∈ lw_tbl := qm_at_mem (q := 18) (by decide +kernel)
theorem qm_w_ms0 : Cond.static Lib.Math.max.name ∈ lw_tbl := qm_at_mem (q := 3225) (by decide +kernel)
theorem qm_w_mc0 : Cond.code Lib.Math.max.name Lib.Math.max.code 2 (some .int) ∈ lw_tbl := qm_at_mem (q := 3226) (by decide +kernel)
theorem qm_w_ms1 : Cond.static Lib.Math.min.name ∈ lw_tbl := qm_at_mem (q := 2235) (by decide +kernel)
theorem qm_w_mc1 : Cond.code Lib.Math.min.name Lib.Math.min.code 2 (some .int) ∈ lw_tbl := qm_at_mem (q := 2236) (by decide +kernel)
theorem qm_w_ms2 : Cond.static Lib.Math.abs.name ∈ lw_tbl := qm_at_mem (q := 3214) (by decide +kernel)
theorem qm_w_mc2 : Cond.code Lib.Math.abs.name Lib.Math.abs.code 1 (some .int) ∈ lw_tbl := qm_at_mem (q := 3215) (by decide +kernel)
theorem qm_w_ms3 : Cond.static Lib.MathLoose.max_long.x ∈ lw_tbl := qm_at_mem (q := 3048) (by decide +kernel)
theorem qm_w_mc3 : Cond.code Lib.MathLoose.max_long.x Lib.MathLoose.max_long.code 4 (some .long) ∈ lw_tbl := qm_at_mem (q := 3049) (by decide +kernel)
theorem qm_w_ms4 : Cond.static Lib.MathLoose.min_long.x ∈ lw_tbl := qm_at_mem (q := 3045) (by decide +kernel)
theorem qm_w_mc4 : Cond.code Lib.MathLoose.min_long.x Lib.MathLoose.min_long.code 4 (some .long) ∈ lw_tbl := qm_at_mem (q := 3046) (by decide +kernel)
theorem qm_tgt_ok {pc : Nat} {off : Int} (h : qm_nn pc off = true) : (pc : Int) + off = (qm_tgt pc off : Int) := (Int.toNat_of_nonneg (of_decide_eq_true h)).symm
theorem qm_look {pc : Nat} {d x : Int} : ∀ {ps : List (Int × Int)}, qm_nn pc d = true → ps.all (fun q => qm_nn pc q.2) = true → qm_nn pc (Op.lookupswitch.offset ps d x) = true
  | [], hd, _ => by
    show qm_nn pc d = true
    exact hd
  | q :: ps, hd, h => by
    simp only [List.all_cons, Bool.and_eq_true] at h
    obtain ⟨a, o⟩ := q
    rw [Op.lookupswitch.offset_cons]
    split
    · exact h.1
    · exact qm_look hd h.2
theorem qm_tot_push (q : List (Nat × Nat)) (t : List (Nat × Nat)) : qm_tot (q ++ t) = qm_tot q + qm_tot t := by
  unfold qm_tot
  rw [List.map_append, List.sum_append]
section QMS2
variable {p : Program} {l : Launch} {e : Env} {R : Room} {s : State} {m : MethodId} {args : Array Value} {below : List Frame} {meth : Method} {c : Code} {Q : State → Prop}
variable {cc : ByteArray} {nL o rt : Nat} {ini : Bool} {D : va_G} {aC : Nat → ClassId} {b B L n0 t0 : Nat} {xs : Nat → Int32} {pc np a f : Nat} {v : Value} {ls st : List Value} {h : qm_H} {c' : qm_C}

theorem qm_n_ldc (C0 : qm_Cx p s m args meth c cc nL o ini D aC b B L xs) {i : Nat} (hok : qm_ok qm_hd o nL ini rt cc (pc, np, .ldc i, a, f, v) = true) (hx : qm_x (some (L, xs)) (pc, np, .ldc i, a, f, v) (pc, ls, st, h) = some (.inl c')) (k : qm_Wm p l e R s m args below meth c D aC b B n0 t0 nL Q c') : qm_Wm p l e R s m args below meth c D aC b B n0 t0 nL Q (pc, ls, st, h) := by
  obtain ⟨hex, hb, hml, hown, hts, hK, hX, hbB, hBs, hini⟩ := C0
  simp only [qm_ok, Bool.and_eq_true, decide_eq_true_eq] at hok
  obtain ⟨hdg, hv, hn⟩ := hok
  have hnp := qm_np hn
  have hdk := qm_dg hdg hnp
  simp only [qm_x, qm_nx] at hx
  cases hx
  subst hnp
  cases hl : qm_li qm_ki o i with
  | none => simp [hl] at hv
  | some x =>
    rw [hl] at hv
    cases hv
    intro H locs la hH hS hL
    exact lv_ldc hex hb hown (hts _ (qm_ki_use hl) rfl) hdk (k H locs la hH hS hL)
theorem qm_n_ldc_w (C0 : qm_Cx p s m args meth c cc nL o ini D aC b B L xs) {i : Nat} (hok : qm_ok qm_hd o nL ini rt cc (pc, np, .ldc_w i, a, f, v) = true) (hx : qm_x (some (L, xs)) (pc, np, .ldc_w i, a, f, v) (pc, ls, st, h) = some (.inl c')) (k : qm_Wm p l e R s m args below meth c D aC b B n0 t0 nL Q c') : qm_Wm p l e R s m args below meth c D aC b B n0 t0 nL Q (pc, ls, st, h) := by
  obtain ⟨hex, hb, hml, hown, hts, hK, hX, hbB, hBs, hini⟩ := C0
  simp only [qm_ok, Bool.and_eq_true, decide_eq_true_eq] at hok
  obtain ⟨hdg, hv, hn⟩ := hok
  have hnp := qm_np hn
  have hdk := qm_dg hdg hnp
  simp only [qm_x, qm_nx] at hx
  cases hx
  subst hnp
  cases hl : qm_li qm_ki o i with
  | none => simp [hl] at hv
  | some x =>
    rw [hl] at hv
    cases hv
    intro H locs la hH hS hL
    exact lv_ldcw hex hb hown (hts _ (qm_ki_use hl) rfl) hdk (k H locs la hH hS hL)
theorem qm_n_ldc2_w (C0 : qm_Cx p s m args meth c cc nL o ini D aC b B L xs) {i : Nat} (hok : qm_ok qm_hd o nL ini rt cc (pc, np, .ldc2_w i, a, f, v) = true) (hx : qm_x (some (L, xs)) (pc, np, .ldc2_w i, a, f, v) (pc, ls, st, h) = some (.inl c')) (k : qm_Wm p l e R s m args below meth c D aC b B n0 t0 nL Q c') : qm_Wm p l e R s m args below meth c D aC b B n0 t0 nL Q (pc, ls, st, h) := by
  obtain ⟨hex, hb, hml, hown, hts, hK, hX, hbB, hBs, hini⟩ := C0
  simp only [qm_ok, Bool.and_eq_true, decide_eq_true_eq] at hok
  obtain ⟨hdg, hv, hn⟩ := hok
  have hnp := qm_np hn
  have hdk := qm_dg hdg hnp
  simp only [qm_x, qm_nx] at hx
  cases hx
  subst hnp
  cases hl : qm_lj qm_kj o i with
  | none => simp [hl] at hv
  | some x =>
    rw [hl] at hv
    cases hv
    intro H locs la hH hS hL
    exact lv_ldc2 hex hb hown (hts _ (qm_kj_use hl) rfl) hdk (k H locs la hH hS hL)
theorem qm_n_tableswitch (C0 : qm_Cx p s m args meth c cc nL o ini D aC b B L xs) {d lo hi : Int} {offs : Array Int} (hok : qm_ok qm_hd o nL ini rt cc (pc, np, .tableswitch d lo hi offs, a, f, v) = true) (hx : qm_x (some (L, xs)) (pc, np, .tableswitch d lo hi offs, a, f, v) (pc, ls, st, h) = some (.inl c')) (k : qm_Wm p l e R s m args below meth c D aC b B n0 t0 nL Q c') : qm_Wm p l e R s m args below meth c D aC b B n0 t0 nL Q (pc, ls, st, h) := by
  obtain ⟨hex, hb, hml, hown, hts, hK, hX, hbB, hBs, hini⟩ := C0
  simp only [qm_ok, Bool.and_eq_true, decide_eq_true_eq] at hok
  obtain ⟨hdg, hd, hall⟩ := hok
  simp only [qm_x, qm_nx] at hx
  split at hx
  · rename_i x r
    by_cases hr : x.toInt < lo ∨ hi < x.toInt
    · simp only [hr, decide_true, cond_true] at hx
      cases hx
      intro H locs la hH hS hL
      exact lv_tableOut hex hb hdg hr (qm_tgt_ok hd) (k H locs la hH hS hL)
    · simp only [hr, decide_false, cond_false] at hx
      split at hx
      · rename_i off ho
        cases hx
        intro H locs la hH hS hL
        have hoff : qm_nn pc off = true := List.all_eq_true.mp hall off (Array.mem_toList_iff.mpr (Array.mem_of_getElem? ho))
        exact lv_tableIn hex hb hdg (fun z => hr (Or.inl z)) (fun z => hr (Or.inr z)) ho (qm_tgt_ok hoff) (k H locs la hH hS hL)
      · cases hx
  · cases hx
theorem qm_n_lookupswitch (C0 : qm_Cx p s m args meth c cc nL o ini D aC b B L xs) {d : Int} {ps : Array (Int × Int)} (hok : qm_ok qm_hd o nL ini rt cc (pc, np, .lookupswitch d ps, a, f, v) = true) (hx : qm_x (some (L, xs)) (pc, np, .lookupswitch d ps, a, f, v) (pc, ls, st, h) = some (.inl c')) (k : qm_Wm p l e R s m args below meth c D aC b B n0 t0 nL Q c') : qm_Wm p l e R s m args below meth c D aC b B n0 t0 nL Q (pc, ls, st, h) := by
  obtain ⟨hex, hb, hml, hown, hts, hK, hX, hbB, hBs, hini⟩ := C0
  unfold qm_ok at hok
  rw [Bool.and_eq_true, decide_eq_true_eq] at hok
  obtain ⟨hdg, hok⟩ := hok
  dsimp only at hok
  rw [Bool.and_eq_true, Bool.and_eq_true] at hok
  obtain ⟨⟨hd, hall⟩, hsort⟩ := hok
  simp only [qm_x, qm_nx] at hx
  split at hx
  · rename_i x r
    cases hx
    intro H locs la hH hS hL
    exact lv_lookup hex hb hdg hsort rfl (qm_tgt_ok (qm_look hd hall)) (k H locs la hH hS hL)
  · cases hx
theorem qm_uws {C : String} {T : u_T} {N : Nat} (hts : ∀ w ∈ lw_tbl, qm_use w = true → w.before args s = true) (hin : ∀ w ∈ u_ws C T N, w ∈ lw_tbl) : ∀ w ∈ u_ws C T N, w.before args s = true := by
  intro w hw
  refine hts w (hin w hw) ?_
  obtain ⟨j, -, rfl⟩ := List.mem_map.mp hw
  unfold u_lay
  split <;> rfl
theorem qm_n_getfield (C0 : qm_Cx p s m args meth c cc nL o ini D aC b B L xs) {i : Nat} (hok : qm_ok qm_hd o nL ini rt cc (pc, np, .getfield i, a, f, v) = true) (hx : qm_x (some (L, xs)) (pc, np, .getfield i, a, f, v) (pc, ls, st, h) = some (.inl c')) (k : qm_Wm p l e R s m args below meth c D aC b B n0 t0 nL Q c') : qm_Wm p l e R s m args below meth c D aC b B n0 t0 nL Q (pc, ls, st, h) := by
  obtain ⟨hex, hb, hml, hown, hts, hK, hX, hbB, hBs, hini⟩ := C0
  simp only [qm_ok, Bool.and_eq_true, decide_eq_true_eq] at hok
  obtain ⟨hdg, ⟨hlk, hv⟩, hn⟩ := hok
  have hnp := qm_np hn
  have hdk := qm_dg hdg hnp
  obtain ⟨C, T, N, hc, hf, hlink⟩ := qm_fl_use hlk
  have hcl := qm_cls hc
  simp only [qm_x, qm_nx] at hx
  split at hx
  · rename_i q r
    split at hx
    · rename_i w hq
      cases hb5 : Nat.beq w.1 (a + 5) with
      | false => simp [hb5] at hx
      | true =>
        simp only [hb5, cond_true] at hx
        cases hx
        subst hnp
        subst hv
        have hw : h.1[q]? = some (a + 5, w.2) := by rw [hq, ← Nat.eq_of_beq_eq_true hb5]
        intro H locs la hH hS hL
        have hnf : qm_nf a = N := by simp only [qm_nf, hc]
        exact va_get (ci := a) hex hb (qm_uws hts hcl.1) (fun _ z => z) hown hK hH.2.1 q (qm_w_get hw) hc f hf (hts _ hlink rfl) (fun _ z => z) (qm_fs_get (by rw [hnf]; exact hf)) hdk (k H locs la hH hS hL)
    · cases hx
  · cases hx
theorem qm_n_putfield (C0 : qm_Cx p s m args meth c cc nL o ini D aC b B L xs) {i : Nat} (hok : qm_ok qm_hd o nL ini rt cc (pc, np, .putfield i, a, f, v) = true) (hx : qm_x (some (L, xs)) (pc, np, .putfield i, a, f, v) (pc, ls, st, h) = some (.inl c')) (k : qm_Wm p l e R s m args below meth c D aC b B n0 t0 nL Q c') : qm_Wm p l e R s m args below meth c D aC b B n0 t0 nL Q (pc, ls, st, h) := by
  obtain ⟨hex, hb, hml, hown, hts, hK, hX, hbB, hBs, hini⟩ := C0
  simp only [qm_ok, Bool.and_eq_true, Bool.or_eq_true, decide_eq_true_eq] at hok
  obtain ⟨hdg, ⟨⟨hlk, hv⟩, hfin⟩, hn⟩ := hok
  have hnp := qm_np hn
  have hdk := qm_dg hdg hnp
  obtain ⟨C, T, N, hc, hf, hlink⟩ := qm_fl_use hlk
  obtain ⟨g1, g2, g3, g4, g5, g6, g7, g8⟩ := qm_cls hc
  have hnf : qm_nf a = N := by simp only [qm_nf, hc]
  have hfl : f < qm_nf a := by rw [hnf]; exact hf
  have hfin2 : (T f).2.2.2 = true → meth.name = "<init>" ∧ qm_cn o = (T f).1 := by
    intro ht
    rcases hfin with z | ⟨z1, z2⟩
    · simp [qm_fin, hc, ht] at z
    · refine ⟨hini z1, ?_⟩
      rw [Nat.eq_of_beq_eq_true z2, g8, g7 f hf]
  have hto := g4 f hf
  simp only [qm_x, qm_nx] at hx
  split at hx
  · rename_i w q r
    split at hx
    · rename_i z hq
      cases hb5 : Nat.beq z.1 (a + 5) with
      | false => simp [hb5] at hx
      | true =>
        simp only [hb5, cond_true] at hx
        have hw : h.1[q]? = some (a + 5, z.2) := by rw [hq, ← Nat.eq_of_beq_eq_true hb5]
        have key : ∀ (h' : qm_H) (w : Value), h'.1 = h.1 → (∀ j, j ≠ q → h'.2.1 j = h.2.1 j) → (∀ j, j ≠ q → h'.2.2.1 j = h.2.2.1 j) → (∀ j, j ≠ q → h'.2.2.2 j = h.2.2.2 j) → qm_tv (qm_tg (qm_ty a f)) h' q f = w → (∀ t, t ≠ f → ∀ u, qm_tv u h' q t = qm_tv u h q t) → narrow (qm_ty a f) (qm_cv b B w) = qm_cv b B w → fits (qm_ty a f) (qm_cv b B w) = true →
            qm_Wm p l e R s m args below meth c D aC b B n0 t0 nL Q (pc + 3, ls, r, h') → qm_Wm p l e R s m args below meth c D aC b B n0 t0 nL Q (pc, ls, w :: .ref q :: r, h) := by
          intro h' w hs hI hJ hR htv hto hnar hfit k9 H locs la hH hS hL
          refine qm_r_put hex hb (qm_uws hts g1) (fun _ z => z) (qm_ty a) g2 g3 hown hK hH hS hw hc hf (hts _ hlink rfl) hfin2 hnar hfit hs hI hJ hR (qm_fs_set hfl htv hto) hdk (fun H1 locs1 hH1 hS1 => ?_)
          have := k9 H1 locs1 la hH1 hS1 hL
          rw [show (pc + 3, ls, r, h').2.2.2.1 = h.1 from hs] at this
          exact this
        split at hx
        · rename_i t x
          cases hc9 : decide (t = 0) || (decide (x = 0) || decide (x = 1)) with
          | false => simp only [hc9, cond_false] at hx; cases hx
          | true =>
            simp only [hc9, cond_true] at hx
            cases hx
            subst hnp
            have hcase : (qm_ty a f = .int) ∨ (qm_ty a f = .boolean ∧ (x = 0 ∨ x = 1)) := by
              generalize qm_ty a f = ty at hv hto
              cases ty with
              | int => exact Or.inl rfl
              | boolean =>
                simp [qm_tg] at hv
                subst hv
                simp at hc9
                exact Or.inr ⟨rfl, hc9⟩
              | _ => simp [qm_tg] at hv
            refine key (h.1, qm_up h.2.1 q f x, h.2.2.1, h.2.2.2) (.int x) rfl (fun j hj => qm_up_ne hj) (fun _ _ => rfl) (fun _ _ => rfl) ?_ ?_ ?_ ?_ k
            · rw [← hv]
              show Value.int (qm_up h.2.1 q f x q f) = _
              rw [qm_up_at, if_pos rfl]
            · intro t ht u
              cases u <;> simp [qm_tv, qm_up_at, ht]
            · rcases hcase with z | ⟨z, rfl | rfl⟩
              · rw [z]; rfl
              · rw [z]; rfl
              · rw [z]; rfl
            · rcases hcase with z | ⟨z, rfl | rfl⟩
              · rw [z]; rfl
              · rw [z]; rfl
              · rw [z]; rfl
        · rename_i t x
          cases hx
          subst hnp
          have hcase : qm_ty a f = .long := by
            generalize qm_ty a f = ty at hv hto
            cases ty <;> simp [qm_tg] at hv <;> rfl
          refine key (h.1, h.2.1, qm_up h.2.2.1 q f x, h.2.2.2) (.long x) rfl (fun _ _ => rfl) (fun j hj => qm_up_ne hj) (fun _ _ => rfl) ?_ ?_ ?_ ?_ k
          · rw [← hv]
            show Value.long (qm_up h.2.2.1 q f x q f) = _
            rw [qm_up_at, if_pos rfl]
          · intro t ht u
            cases u <;> simp [qm_tv, qm_up_at, ht]
          · rw [hcase]; rfl
          · rw [hcase]; rfl
        · rename_i x
          cases hx
          subst hnp
          have hcase : (∃ n, qm_ty a f = .object n) ∨ ∃ n, qm_ty a f = .array n := by
            generalize qm_ty a f = ty at hv hto
            cases ty with
            | object n => exact Or.inl ⟨n, rfl⟩
            | array n => exact Or.inr ⟨n, rfl⟩
            | _ => simp [qm_tg, qm_tyok] at hv hto
          refine key (h.1, h.2.1, h.2.2.1, qm_up h.2.2.2 q f (some x)) (.ref x) rfl (fun _ _ => rfl) (fun _ _ => rfl) (fun j hj => qm_up_ne hj) ?_ ?_ ?_ ?_ k
          · rw [← hv]
            show qm_rv (qm_up h.2.2.2 q f (some x) q f) = _
            rw [qm_up_at, if_pos rfl]
            rfl
          · intro t ht u
            cases u <;> simp [qm_tv, qm_up_at, ht]
          · rcases hcase with ⟨n, z⟩ | ⟨n, z⟩ <;> (rw [z]; rfl)
          · rcases hcase with ⟨n, z⟩ | ⟨n, z⟩ <;> (rw [z]; rfl)
        · cases hx
          subst hnp
          have hcase : (∃ n, qm_ty a f = .object n) ∨ ∃ n, qm_ty a f = .array n := by
            generalize qm_ty a f = ty at hv hto
            cases ty with
            | object n => exact Or.inl ⟨n, rfl⟩
            | array n => exact Or.inr ⟨n, rfl⟩
            | _ => simp [qm_tg, qm_tyok] at hv hto
          refine key (h.1, h.2.1, h.2.2.1, qm_up h.2.2.2 q f none) .null rfl (fun _ _ => rfl) (fun _ _ => rfl) (fun j hj => qm_up_ne hj) ?_ ?_ ?_ ?_ k
          · rw [← hv]
            show qm_rv (qm_up h.2.2.2 q f none q f) = _
            rw [qm_up_at, if_pos rfl]
            rfl
          · intro t ht u
            cases u <;> simp [qm_tv, qm_up_at, ht]
          · rcases hcase with ⟨n, z⟩ | ⟨n, z⟩ <;> (rw [z]; rfl)
          · rcases hcase with ⟨n, z⟩ | ⟨n, z⟩ <;> (rw [z]; rfl)
        · cases hx
    · cases hx
  · cases hx
theorem qm_n_arraylength (C0 : qm_Cx p s m args meth c cc nL o ini D aC b B L xs) (hok : qm_ok qm_hd o nL ini rt cc (pc, np, .arraylength, a, f, v) = true) (hx : qm_x (some (L, xs)) (pc, np, .arraylength, a, f, v) (pc, ls, st, h) = some (.inl c')) (k : qm_Wm p l e R s m args below meth c D aC b B n0 t0 nL Q c') : qm_Wm p l e R s m args below meth c D aC b B n0 t0 nL Q (pc, ls, st, h) := by
  obtain ⟨hex, hb, hml, hown, hts, hK, hX, hbB, hBs, hini⟩ := C0
  simp only [qm_ok, Bool.and_eq_true, decide_eq_true_eq] at hok
  obtain ⟨hdg, hn⟩ := hok
  have hnp := qm_np hn
  have hdk := qm_dg hdg hnp
  simp only [qm_x, qm_nx] at hx
  split at hx
  · rename_i q r
    split at hx
    · rename_i w hq
      cases hb5 : Nat.blt w.1 5 with
      | false => simp [hb5] at hx
      | true =>
        simp only [hb5, cond_true] at hx
        cases hx
        subst hnp
        obtain ⟨w1, w2⟩ := w
        have hw5 : w1 < 5 := Nat.le_of_ble_eq_true hb5
        intro H locs la hH hS hL
        match w1, hw5, hq with
        | 0, _, hq => exact va_alen hex hb hK hH.2.1 q 0 (qm_w_get hq) rfl rfl hdk (k H locs la hH hS hL)
        | 1, _, hq => exact va_alen hex hb hK hH.2.1 q 1 (qm_w_get hq) rfl rfl hdk (k H locs la hH hS hL)
        | 2, _, hq => exact va_alen hex hb hK hH.2.1 q 2 (qm_w_get hq) rfl rfl hdk (k H locs la hH hS hL)
        | 3, _, hq => exact va_alen hex hb hK hH.2.1 q 3 (qm_w_get hq) rfl rfl hdk (k H locs la hH hS hL)
        | 4, _, hq => exact va_alen hex hb hK hH.2.1 q 4 (qm_w_get hq) rfl rfl hdk (k H locs la hH hS hL)
    · cases hx
  · cases hx
    subst hnp
    intro H locs la hH hS hL
    exact va_slen hex hb hX (Nat.lt_of_lt_of_le hbB hBs) (A := qm_A B) (fun z => absurd z (Nat.not_le.mpr hbB)) hS hdk (k H locs la hH hS hL)
  · cases hx
theorem qm_n_newarray (C0 : qm_Cx p s m args meth c cc nL o ini D aC b B L xs) {t : ArrayType} (hok : qm_ok qm_hd o nL ini rt cc (pc, np, .newarray t, a, f, v) = true) (hx : qm_x (some (L, xs)) (pc, np, .newarray t, a, f, v) (pc, ls, st, h) = some (.inl c')) (h0 : n0 ≤ h.1.length ∧ t0 ≤ qm_tot h.1) (hr : c'.2.2.2.1.length - n0 ≤ R.cells ∧ qm_tot c'.2.2.2.1 - t0 ≤ R.slots) (k : qm_Wm p l e R s m args below meth c D aC b B n0 t0 nL Q c') : qm_Wm p l e R s m args below meth c D aC b B n0 t0 nL Q (pc, ls, st, h) := by
  obtain ⟨hex, hb, hml, hown, hts, hK, hX, hbB, hBs, hini⟩ := C0
  simp only [qm_ok, Bool.and_eq_true, decide_eq_true_eq] at hok
  obtain ⟨hdg, ⟨ha, ha4⟩, hn⟩ := hok
  have hnp := qm_np hn
  have hdk := qm_dg hdg hnp
  have ha := Nat.eq_of_beq_eq_true ha
  have ha4 : a < 4 := Nat.le_of_ble_eq_true ha4
  simp only [qm_x, qm_nx] at hx
  split at hx
  · rename_i n r
    cases hi : qm_in n 100000 with
    | false => simp [hi] at hx
    | true =>
      simp only [hi, cond_true] at hx
      cases hx
      subst hnp
      have e1 : (h.1 ++ [(a, n.toNatClampNeg)]).length - n0 = h.1.length - n0 + 1 := by simp; omega
      have e2 : qm_tot (h.1 ++ [(a, n.toNatClampNeg)]) - t0 = qm_tot h.1 - t0 + n.toNatClampNeg := by
        rw [qm_tot_push]
        have : qm_tot [(a, n.toNatClampNeg)] = n.toNatClampNeg := by simp [qm_tot]
        omega
      have r1 : (h.1 ++ [(a, n.toNatClampNeg)]).length - n0 ≤ R.cells := hr.1
      have r2 : qm_tot (h.1 ++ [(a, n.toNatClampNeg)]) - t0 ≤ R.slots := hr.2
      rw [e1] at r1
      rw [e2] at r2
      intro H locs la hH hS hL
      refine qm_r_newa hex hb ha.symm ha4 ?_ hK hH hS (qm_in_iff hi) r1 r2 hdk (fun H1 hH1 hS1 => ?_)
      · cases t with
        | int => exact hts _ qm_w_ai rfl
        | byte => exact hts _ qm_w_ab rfl
        | boolean => exact hts _ qm_w_az rfl
        | long => exact hts _ qm_w_al rfl
        | _ => subst ha; exact absurd ha4 (by decide)
      · have := k H1 locs la hH1 hS1 hL
        dsimp only at this
        rw [e1, e2] at this
        exact this
  · cases hx
theorem qm_n_new (C0 : qm_Cx p s m args meth c cc nL o ini D aC b B L xs) {i : Nat} (hok : qm_ok qm_hd o nL ini rt cc (pc, np, .new i, a, f, v) = true) (hx : qm_x (some (L, xs)) (pc, np, .new i, a, f, v) (pc, ls, st, h) = some (.inl c')) (h0 : n0 ≤ h.1.length ∧ t0 ≤ qm_tot h.1) (hr : c'.2.2.2.1.length - n0 ≤ R.cells ∧ qm_tot c'.2.2.2.1 - t0 ≤ R.slots) (k : qm_Wm p l e R s m args below meth c D aC b B n0 t0 nL Q c') : qm_Wm p l e R s m args below meth c D aC b B n0 t0 nL Q (pc, ls, st, h) := by
  obtain ⟨hex, hb, hml, hown, hts, hK, hX, hbB, hBs, hini⟩ := C0
  simp only [qm_ok, Bool.and_eq_true, decide_eq_true_eq] at hok
  obtain ⟨hdg, ⟨hlk, hnf⟩, hn⟩ := hok
  have hnp := qm_np hn
  have hdk := qm_dg hdg hnp
  obtain ⟨C, T, N, hc, hlink⟩ := qm_nl_use hlk
  obtain ⟨g1, g2, g3, g4, g5, g6, g7, g8⟩ := qm_cls hc
  have hnf := Nat.eq_of_beq_eq_true hnf
  have hnN : qm_nf a = N := by simp only [qm_nf, hc]
  rw [hnN] at hnf
  subst hnf
  simp only [qm_x, qm_nx] at hx
  cases hx
  subst hnp
  have e1 : (h.1 ++ [(a + 5, f)]).length - n0 = h.1.length - n0 + 1 := by simp; omega
  have e2 : qm_tot (h.1 ++ [(a + 5, f)]) - t0 = qm_tot h.1 - t0 + f := by
    rw [qm_tot_push]
    have : qm_tot [(a + 5, f)] = f := by simp [qm_tot]
    omega
  have r1 : (h.1 ++ [(a + 5, f)]).length - n0 ≤ R.cells := hr.1
  have r2 : qm_tot (h.1 ++ [(a + 5, f)]) - t0 ≤ R.slots := hr.2
  rw [e1] at r1
  rw [e2] at r2
  intro H locs la hH hS hL
  refine qm_r_new hex hb (qm_uws hts g1) (fun _ z => z) g2 g4 hown (hts _ hlink rfl) (hts _ g5 rfl) (hts _ g6 rfl) hK hH hS hc r1 r2 hdk (fun H1 hH1 hS1 => ?_)
  have := k H1 locs la hH1 hS1 hL
  dsimp only at this
  rw [e1, e2] at this
  exact this
theorem qm_n_multianewarray (C0 : qm_Cx p s m args meth c cc nL o ini D aC b B L xs) {i d : Nat} (hok : qm_ok qm_hd o nL ini rt cc (pc, np, .multianewarray i d, a, f, v) = true) (hx : qm_x (some (L, xs)) (pc, np, .multianewarray i d, a, f, v) (pc, ls, st, h) = some (.inl c')) (h0 : n0 ≤ h.1.length ∧ t0 ≤ qm_tot h.1) (hr : c'.2.2.2.1.length - n0 ≤ R.cells ∧ qm_tot c'.2.2.2.1 - t0 ≤ R.slots) (k : qm_Wm p l e R s m args below meth c D aC b B n0 t0 nL Q c') : qm_Wm p l e R s m args below meth c D aC b B n0 t0 nL Q (pc, ls, st, h) := by
  obtain ⟨hex, hb, hml, hown, hts, hK, hX, hbB, hBs, hini⟩ := C0
  simp only [qm_ok, Bool.and_eq_true, decide_eq_true_eq] at hok
  obtain ⟨hdg, ⟨hd2, hlk⟩, hn⟩ := hok
  have hnp := qm_np hn
  have hdk := qm_dg hdg hnp
  have hd2 := Nat.eq_of_beq_eq_true hd2
  subst hd2
  simp only [qm_x, qm_nx] at hx
  split at hx
  · rename_i z n r
    cases hi : qm_in n 1000 && qm_in z 1000 with
    | false => simp only [hi, cond_false] at hx; cases hx
    | true =>
      simp only [hi, cond_true] at hx
      rw [Bool.and_eq_true] at hi
      cases hx
      subst hnp
      have e1 : (h.1 ++ ((4, n.toNatClampNeg) :: List.replicate n.toNatClampNeg (0, z.toNatClampNeg))).length - n0 = h.1.length - n0 + 1 + n.toNatClampNeg := by simp; omega
      have e2 : qm_tot (h.1 ++ ((4, n.toNatClampNeg) :: List.replicate n.toNatClampNeg (0, z.toNatClampNeg))) - t0 = qm_tot h.1 - t0 + n.toNatClampNeg + n.toNatClampNeg * z.toNatClampNeg := by
        rw [qm_tot_push]
        have : qm_tot ((4, n.toNatClampNeg) :: List.replicate n.toNatClampNeg (0, z.toNatClampNeg)) = n.toNatClampNeg + n.toNatClampNeg * z.toNatClampNeg := by simp [qm_tot]
        omega
      have r1 : (h.1 ++ ((4, n.toNatClampNeg) :: List.replicate n.toNatClampNeg (0, z.toNatClampNeg))).length - n0 ≤ R.cells := hr.1
      have r2 : qm_tot (h.1 ++ ((4, n.toNatClampNeg) :: List.replicate n.toNatClampNeg (0, z.toNatClampNeg))) - t0 ≤ R.slots := hr.2
      rw [e1] at r1
      rw [e2] at r2
      intro H locs la hH hS hL
      refine qm_r_mna hex hb hown (hts _ (qm_gl_use hlk) rfl) (hts _ qm_w_ao rfl) (hts _ qm_w_ai rfl) hK hH hS (by have := hH.1; omega) (qm_in_iff hi.1) (qm_in_iff hi.2) (by show h.1.length - n0 + (1 + n.toNatClampNeg) ≤ R.cells; omega) (by show qm_tot h.1 - t0 + (n.toNatClampNeg + n.toNatClampNeg * z.toNatClampNeg) ≤ R.slots; omega) hdk (fun H1 hH1 hS1 => ?_)
      have := k H1 locs la hH1 hS1 hL
      dsimp only at this
      rw [e1, e2] at this
      exact this
  · cases hx
theorem qm_n_invokespecial (C0 : qm_Cx p s m args meth c cc nL o ini D aC b B L xs) {i : Nat} (hok : qm_ok qm_hd o nL ini rt cc (pc, np, .invokespecial i, a, f, v) = true) (hx : qm_x (some (L, xs)) (pc, np, .invokespecial i, a, f, v) (pc, ls, st, h) = some (.inl c')) (hR : 1 ≤ R.frames ∧ 60 ≤ R.locals) (k : qm_Wm p l e R s m args below meth c D aC b B n0 t0 nL Q c') : qm_Wm p l e R s m args below meth c D aC b B n0 t0 nL Q (pc, ls, st, h) := by
  obtain ⟨hex, hb, hml, hown, hts, hK, hX, hbB, hBs, hini⟩ := C0
  simp only [qm_ok, Bool.and_eq_true, decide_eq_true_eq] at hok
  obtain ⟨hdg, hok, hn⟩ := hok
  have hnp := qm_np hn
  have hdk := qm_dg hdg hnp
  simp only [qm_x, qm_nx, qm_cl] at hx
  split at hx
  · rename_i q r hdr
    split at hx
    · simp only [Bool.and_eq_true] at hok
      have hf0 := Nat.eq_of_beq_eq_true hok.1
      subst hf0
      rw [List.drop_zero] at hdr
      cases hc8 : Nat.ble (qm_cat r) 8 with
      | false => simp [hc8] at hx
      | true =>
        simp only [hc8, cond_true] at hx
        cases hx
        subst hnp
        subst hdr
        have hcat : qm_cat r ≤ 8 := Nat.le_of_ble_eq_true hc8
        intro H locs la hH hS hL
        refine W.objInit hex hb hown (hts _ (qm_ol_use hok.2) rfl) (hts _ qm_w_i28 rfl) (hts _ qm_w_c29 rfl) rfl (by rw [hml]; exact hL.2.1) rfl hdk hR.1 ?_ (k H locs la hH hS hL)
        show 2 * 0 + ((r.map (qm_cv b B)).map fun v => v.category).sum + 12 ≤ R.locals
        rw [qm_cat_cv]
        omega
    · cases hc8 : Nat.ble (qm_cat r) 8 with
      | false => simp only [hc8, cond_false] at hx; cases hx
      | true => simp only [hc8, cond_true] at hx; cases hx
  · cases hx
theorem qm_n_invokestatic (C0 : qm_Cx p s m args meth c cc nL o ini D aC b B L xs) {i : Nat} (hok : qm_ok qm_hd o nL ini rt cc (pc, np, .invokestatic i, a, f, v) = true) (hx : qm_x (some (L, xs)) (pc, np, .invokestatic i, a, f, v) (pc, ls, st, h) = some (.inl c')) (hr : h.1.length - n0 ≤ R.cells ∧ qm_tot h.1 - t0 ≤ R.slots) (hR : 1 ≤ R.frames ∧ 60 ≤ R.locals) (k : qm_Wm p l e R s m args below meth c D aC b B n0 t0 nL Q c') : qm_Wm p l e R s m args below meth c D aC b B n0 t0 nL Q (pc, ls, st, h) := by
  obtain ⟨hex, hb, hml, hown, hts, hK, hX, hbB, hBs, hini⟩ := C0
  simp only [qm_ok, Bool.and_eq_true, decide_eq_true_eq] at hok
  obtain ⟨hdg, hok, hn⟩ := hok
  have hnp := qm_np hn
  have hdk := qm_dg hdg hnp
  simp only [qm_x, qm_nx, qm_cl] at hx
  split at hx
  · split at hx
    · rename_i n dp d sp q r
      split at hx
      · rename_i m0 k0 hq hd
        cases hc8 : (decide (¬ n < 0) && (decide (¬ sp < 0) && decide (¬ dp < 0))) && ((Nat.ble (sp.toNatClampNeg + n.toNatClampNeg) m0 && Nat.ble (dp.toNatClampNeg + n.toNatClampNeg) k0) && Nat.ble (qm_cat r) 8) with
        | false => simp only [hc8, cond_false] at hx; cases hx
        | true =>
          simp only [hc8, cond_true] at hx
          simp only [Bool.and_eq_true, decide_eq_true_eq] at hc8
          obtain ⟨⟨u1, u2, u3⟩, ⟨u4, u5⟩, u6⟩ := hc8
          have u4 := Nat.le_of_ble_eq_true u4
          have u5 := Nat.le_of_ble_eq_true u5
          have u6 : qm_cat r ≤ 8 := Nat.le_of_ble_eq_true u6
          cases hx
          subst hnp
          intro H locs la hH hS hL
          refine qm_r_copy hex hb (by rw [hml]; exact hL.2.1.symm) hown (hts _ (qm_ac_use hok) rfl) (hts _ qm_w_snt rfl) (hts _ qm_w_sst rfl) (hts _ qm_w_sys rfl) hK hH hS hq hd u2 u3 u1 u4 u5 hR.1 ?_ hdk (fun H1 locs1 hH1 hS1 => k H1 locs1 la hH1 hS1 hL)
          rw [qm_cat_cv]
          have : nativeFrameWords "java/lang/System" "arraycopy" 5 ≤ 40 := by decide +kernel
          omega
      · cases hx
    · cases hx
  · simp only [decide_eq_true_eq] at hok
    have hlk := qm_mt_use hok
    split at hx
    · rename_i y x r
      cases hc8 : Nat.ble (qm_cat r) 8 with
      | false => simp only [hc8, cond_false] at hx; cases hx
      | true =>
        simp only [hc8, cond_true] at hx
        cases hx
        subst hnp
        have hcat : qm_cat r ≤ 8 := Nat.le_of_ble_eq_true hc8
        intro H locs la hH hS hL
        exact va_mmax hex hb (by rw [hml]; exact hL.2.1.symm) hown (hts _ hlk rfl) (hts _ qm_w_ms0 rfl) (hts _ qm_w_mi rfl) (hts _ qm_w_mc0 rfl) hR.1 (by rw [qm_cat_cv]; omega) hr.1 hr.2 hdk (k H locs la hH hS hL)
    · rename_i y x r
      cases hc8 : Nat.ble (qm_cat r) 8 with
      | false => simp only [hc8, cond_false] at hx; cases hx
      | true =>
        simp only [hc8, cond_true] at hx
        cases hx
        subst hnp
        have hcat : qm_cat r ≤ 8 := Nat.le_of_ble_eq_true hc8
        intro H locs la hH hS hL
        exact va_mmin hex hb (by rw [hml]; exact hL.2.1.symm) hown (hts _ hlk rfl) (hts _ qm_w_ms1 rfl) (hts _ qm_w_mi rfl) (hts _ qm_w_mc1 rfl) hR.1 (by rw [qm_cat_cv]; omega) hr.1 hr.2 hdk (k H locs la hH hS hL)
    · rename_i x r
      cases hc8 : Nat.ble (qm_cat r) 8 with
      | false => simp only [hc8, cond_false] at hx; cases hx
      | true =>
        simp only [hc8, cond_true] at hx
        cases hx
        subst hnp
        have hcat : qm_cat r ≤ 8 := Nat.le_of_ble_eq_true hc8
        intro H locs la hH hS hL
        exact va_mabs hex hb (by rw [hml]; exact hL.2.1.symm) hown (hts _ hlk rfl) (hts _ qm_w_ms2 rfl) (hts _ qm_w_mi rfl) (hts _ qm_w_mc2 rfl) hR.1 (by rw [qm_cat_cv]; omega) hr.1 hr.2 hdk (k H locs la hH hS hL)
    · rename_i y x r
      cases hc8 : Nat.ble (qm_cat r) 8 with
      | false => simp only [hc8, cond_false] at hx; cases hx
      | true =>
        simp only [hc8, cond_true] at hx
        cases hx
        subst hnp
        have hcat : qm_cat r ≤ 8 := Nat.le_of_ble_eq_true hc8
        intro H locs la hH hS hL
        exact va_mmax_long hex hb (by rw [hml]; exact hL.2.1.symm) hown (hts _ hlk rfl) (hts _ qm_w_ms3 rfl) (hts _ qm_w_mi rfl) (hts _ qm_w_mc3 rfl) hR.1 (by rw [qm_cat_cv]; omega) hr.1 hr.2 hdk (k H locs la hH hS hL)
    · rename_i y x r
      cases hc8 : Nat.ble (qm_cat r) 8 with
      | false => simp only [hc8, cond_false] at hx; cases hx
      | true =>
        simp only [hc8, cond_true] at hx
        cases hx
        subst hnp
        have hcat : qm_cat r ≤ 8 := Nat.le_of_ble_eq_true hc8
        intro H locs la hH hS hL
        exact va_mmin_long hex hb (by rw [hml]; exact hL.2.1.symm) hown (hts _ hlk rfl) (hts _ qm_w_ms4 rfl) (hts _ qm_w_mi rfl) (hts _ qm_w_mc4 rfl) hR.1 (by rw [qm_cat_cv]; omega) hr.1 hr.2 hdk (k H locs la hH hS hL)
    · cases hx
  · cases hc8 : Nat.ble f st.length && Nat.ble (qm_cat (st.drop f)) 8 with
    | false => simp only [hc8, cond_false] at hx; cases hx
    | true => simp only [hc8, cond_true] at hx; cases hx
end QMS2
