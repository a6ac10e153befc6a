section QMS
variable {p : Program} {l : Launch} {e : Env} {R : Room} {s : State} {m : MethodId} {args : Array Value} {below : List Frame} {meth : Method} {c : Code} {Q : State → Prop}
variable {cc : ByteArray} {nL o rt : Nat} {ini : Bool} {D : va_G} {aC : Nat → ClassId} {b B L n0 t0 : Nat} {xs : Nat → Int32} {pc np a f : Nat} {v : Value} {ls st : List Value} {h : qm_H} {c' : qm_C}

theorem qm_n_iconst (C0 : qm_Cx p s m args meth c cc nL o ini D aC b B L xs) {n : Int} (hok : qm_ok qm_hd o nL ini rt cc (pc, np, .iconst n, a, f, v) = true) (hx : qm_x (some (L, xs)) (pc, np, .iconst n, a, f, v) (pc, ls, st, h) = some (.inl c'))  (k : qm_Wm p l e R s m args below meth c D aC b B n0 t0 nL Q c') : qm_Wm p l e R s m args below meth c D aC b B n0 t0 nL Q (pc, ls, st, h) := by
  obtain ⟨hex, hb, hml, hown, hts, hK, hX, hbB, hBs, hini⟩ := C0
  simp only [qm_ok, Bool.and_eq_true, decide_eq_true_eq] at hok
  obtain ⟨hdg, hv, hn⟩ := hok
  have hnp := qm_np hn
  have hdk := qm_dg hdg hnp
  simp only [qm_x, qm_nx] at hx
  cases hx
  subst hv
  subst hnp
  intro H locs la hH hS hL
  exact lv_iconst hex hb hdk rfl (k H locs la hH hS hL)

theorem qm_n_bipush (C0 : qm_Cx p s m args meth c cc nL o ini D aC b B L xs) {n : Int} (hok : qm_ok qm_hd o nL ini rt cc (pc, np, .bipush n, a, f, v) = true) (hx : qm_x (some (L, xs)) (pc, np, .bipush n, a, f, v) (pc, ls, st, h) = some (.inl c'))  (k : qm_Wm p l e R s m args below meth c D aC b B n0 t0 nL Q c') : qm_Wm p l e R s m args below meth c D aC b B n0 t0 nL Q (pc, ls, st, h) := by
  obtain ⟨hex, hb, hml, hown, hts, hK, hX, hbB, hBs, hini⟩ := C0
  simp only [qm_ok, Bool.and_eq_true, decide_eq_true_eq] at hok
  obtain ⟨hdg, hv, hn⟩ := hok
  have hnp := qm_np hn
  have hdk := qm_dg hdg hnp
  simp only [qm_x, qm_nx] at hx
  cases hx
  subst hv
  subst hnp
  intro H locs la hH hS hL
  exact lv_bipush hex hb hdk rfl (k H locs la hH hS hL)

theorem qm_n_sipush (C0 : qm_Cx p s m args meth c cc nL o ini D aC b B L xs) {n : Int} (hok : qm_ok qm_hd o nL ini rt cc (pc, np, .sipush n, a, f, v) = true) (hx : qm_x (some (L, xs)) (pc, np, .sipush n, a, f, v) (pc, ls, st, h) = some (.inl c'))  (k : qm_Wm p l e R s m args below meth c D aC b B n0 t0 nL Q c') : qm_Wm p l e R s m args below meth c D aC b B n0 t0 nL Q (pc, ls, st, h) := by
  obtain ⟨hex, hb, hml, hown, hts, hK, hX, hbB, hBs, hini⟩ := C0
  simp only [qm_ok, Bool.and_eq_true, decide_eq_true_eq] at hok
  obtain ⟨hdg, hv, hn⟩ := hok
  have hnp := qm_np hn
  have hdk := qm_dg hdg hnp
  simp only [qm_x, qm_nx] at hx
  cases hx
  subst hv
  subst hnp
  intro H locs la hH hS hL
  exact lv_sipush hex hb hdk rfl (k H locs la hH hS hL)

theorem qm_n_lconst (C0 : qm_Cx p s m args meth c cc nL o ini D aC b B L xs) {n : Fin 2} (hok : qm_ok qm_hd o nL ini rt cc (pc, np, .lconst n, a, f, v) = true) (hx : qm_x (some (L, xs)) (pc, np, .lconst n, a, f, v) (pc, ls, st, h) = some (.inl c'))  (k : qm_Wm p l e R s m args below meth c D aC b B n0 t0 nL Q c') : qm_Wm p l e R s m args below meth c D aC b B n0 t0 nL Q (pc, ls, st, h) := by
  obtain ⟨hex, hb, hml, hown, hts, hK, hX, hbB, hBs, hini⟩ := C0
  simp only [qm_ok, Bool.and_eq_true, decide_eq_true_eq] at hok
  obtain ⟨hdg, hv, hn⟩ := hok
  have hnp := qm_np hn
  have hdk := qm_dg hdg hnp
  simp only [qm_x, qm_nx] at hx
  cases hx
  subst hv
  subst hnp
  intro H locs la hH hS hL
  exact lv_lconst hex hb hdk rfl (k H locs la hH hS hL)

theorem qm_n_iload (C0 : qm_Cx p s m args meth c cc nL o ini D aC b B L xs) {i : Nat} (hok : qm_ok qm_hd o nL ini rt cc (pc, np, .iload i, a, f, v) = true) (hx : qm_x (some (L, xs)) (pc, np, .iload i, a, f, v) (pc, ls, st, h) = some (.inl c'))  (k : qm_Wm p l e R s m args below meth c D aC b B n0 t0 nL Q c') : qm_Wm p l e R s m args below meth c D aC b B n0 t0 nL Q (pc, ls, st, h) := by
  obtain ⟨hex, hb, hml, hown, hts, hK, hX, hbB, hBs, hini⟩ := C0
  simp only [qm_ok, Bool.and_eq_true, decide_eq_true_eq] at hok
  obtain ⟨hdg, ha, hn⟩ := hok
  have hnp := qm_np hn
  have hdk := qm_dg hdg hnp
  have ha := Nat.eq_of_beq_eq_true ha
  subst ha
  simp only [qm_x, qm_nx] at hx
  split at hx
  · rename_i x hl
    cases hx
    subst hnp
    intro H locs la hH hS hL
    exact lv_iload hex hb hdk (hL.at hl rfl) (k H locs la hH hS hL)
  · cases hx

theorem qm_n_iload_n (C0 : qm_Cx p s m args meth c cc nL o ini D aC b B L xs) {i : Fin 4} (hok : qm_ok qm_hd o nL ini rt cc (pc, np, .iload_n i, a, f, v) = true) (hx : qm_x (some (L, xs)) (pc, np, .iload_n i, a, f, v) (pc, ls, st, h) = some (.inl c'))  (k : qm_Wm p l e R s m args below meth c D aC b B n0 t0 nL Q c') : qm_Wm p l e R s m args below meth c D aC b B n0 t0 nL Q (pc, ls, st, h) := by
  obtain ⟨hex, hb, hml, hown, hts, hK, hX, hbB, hBs, hini⟩ := C0
  simp only [qm_ok, Bool.and_eq_true, decide_eq_true_eq] at hok
  obtain ⟨hdg, ha, hn⟩ := hok
  have hnp := qm_np hn
  have hdk := qm_dg hdg hnp
  have ha := Nat.eq_of_beq_eq_true ha
  subst ha
  simp only [qm_x, qm_nx] at hx
  split at hx
  · rename_i x hl
    cases hx
    subst hnp
    intro H locs la hH hS hL
    exact lv_iload_n hex hb hdk rfl (hL.at hl rfl) (k H locs la hH hS hL)
  · cases hx

theorem qm_n_lload (C0 : qm_Cx p s m args meth c cc nL o ini D aC b B L xs) {i : Nat} (hok : qm_ok qm_hd o nL ini rt cc (pc, np, .lload i, a, f, v) = true) (hx : qm_x (some (L, xs)) (pc, np, .lload i, a, f, v) (pc, ls, st, h) = some (.inl c'))  (k : qm_Wm p l e R s m args below meth c D aC b B n0 t0 nL Q c') : qm_Wm p l e R s m args below meth c D aC b B n0 t0 nL Q (pc, ls, st, h) := by
  obtain ⟨hex, hb, hml, hown, hts, hK, hX, hbB, hBs, hini⟩ := C0
  simp only [qm_ok, Bool.and_eq_true, decide_eq_true_eq] at hok
  obtain ⟨hdg, ha, hn⟩ := hok
  have hnp := qm_np hn
  have hdk := qm_dg hdg hnp
  have ha := Nat.eq_of_beq_eq_true ha
  subst ha
  simp only [qm_x, qm_nx] at hx
  split at hx
  · rename_i x hl
    cases hx
    subst hnp
    intro H locs la hH hS hL
    exact lv_lload hex hb hdk (hL.at hl rfl) (k H locs la hH hS hL)
  · cases hx

theorem qm_n_lload_n (C0 : qm_Cx p s m args meth c cc nL o ini D aC b B L xs) {i : Fin 4} (hok : qm_ok qm_hd o nL ini rt cc (pc, np, .lload_n i, a, f, v) = true) (hx : qm_x (some (L, xs)) (pc, np, .lload_n i, a, f, v) (pc, ls, st, h) = some (.inl c'))  (k : qm_Wm p l e R s m args below meth c D aC b B n0 t0 nL Q c') : qm_Wm p l e R s m args below meth c D aC b B n0 t0 nL Q (pc, ls, st, h) := by
  obtain ⟨hex, hb, hml, hown, hts, hK, hX, hbB, hBs, hini⟩ := C0
  simp only [qm_ok, Bool.and_eq_true, decide_eq_true_eq] at hok
  obtain ⟨hdg, ha, hn⟩ := hok
  have hnp := qm_np hn
  have hdk := qm_dg hdg hnp
  have ha := Nat.eq_of_beq_eq_true ha
  subst ha
  simp only [qm_x, qm_nx] at hx
  split at hx
  · rename_i x hl
    cases hx
    subst hnp
    intro H locs la hH hS hL
    exact lv_lload_n hex hb hdk rfl (hL.at hl rfl) (k H locs la hH hS hL)
  · cases hx

theorem qm_n_aload (C0 : qm_Cx p s m args meth c cc nL o ini D aC b B L xs) {i : Nat} (hok : qm_ok qm_hd o nL ini rt cc (pc, np, .aload i, a, f, v) = true) (hx : qm_x (some (L, xs)) (pc, np, .aload i, a, f, v) (pc, ls, st, h) = some (.inl c'))  (k : qm_Wm p l e R s m args below meth c D aC b B n0 t0 nL Q c') : qm_Wm p l e R s m args below meth c D aC b B n0 t0 nL Q (pc, ls, st, h) := by
  obtain ⟨hex, hb, hml, hown, hts, hK, hX, hbB, hBs, hini⟩ := C0
  simp only [qm_ok, Bool.and_eq_true, decide_eq_true_eq] at hok
  obtain ⟨hdg, ha, hn⟩ := hok
  have hnp := qm_np hn
  have hdk := qm_dg hdg hnp
  have ha := Nat.eq_of_beq_eq_true ha
  subst ha
  simp only [qm_x, qm_nx] at hx
  split at hx
  · rename_i x hl
    cases hx
    subst hnp
    intro H locs la hH hS hL
    exact lv_aload hex hb hdk (hL.at hl rfl) (k H locs la hH hS hL)
  · rename_i x hl
    cases hx
    subst hnp
    intro H locs la hH hS hL
    exact lv_aload hex hb hdk (hL.at hl rfl) (k H locs la hH hS hL)
  · cases hx

theorem qm_n_aload_n (C0 : qm_Cx p s m args meth c cc nL o ini D aC b B L xs) {i : Fin 4} (hok : qm_ok qm_hd o nL ini rt cc (pc, np, .aload_n i, a, f, v) = true) (hx : qm_x (some (L, xs)) (pc, np, .aload_n i, a, f, v) (pc, ls, st, h) = some (.inl c'))  (k : qm_Wm p l e R s m args below meth c D aC b B n0 t0 nL Q c') : qm_Wm p l e R s m args below meth c D aC b B n0 t0 nL Q (pc, ls, st, h) := by
  obtain ⟨hex, hb, hml, hown, hts, hK, hX, hbB, hBs, hini⟩ := C0
  simp only [qm_ok, Bool.and_eq_true, decide_eq_true_eq] at hok
  obtain ⟨hdg, ha, hn⟩ := hok
  have hnp := qm_np hn
  have hdk := qm_dg hdg hnp
  have ha := Nat.eq_of_beq_eq_true ha
  subst ha
  simp only [qm_x, qm_nx] at hx
  split at hx
  · rename_i x hl
    cases hx
    subst hnp
    intro H locs la hH hS hL
    exact lv_aload_n hex hb hdk rfl (hL.at hl rfl) (k H locs la hH hS hL)
  · rename_i x hl
    cases hx
    subst hnp
    intro H locs la hH hS hL
    exact lv_aload_n hex hb hdk rfl (hL.at hl rfl) (k H locs la hH hS hL)
  · cases hx

theorem qm_n_istore (C0 : qm_Cx p s m args meth c cc nL o ini D aC b B L xs) {i : Nat} (hok : qm_ok qm_hd o nL ini rt cc (pc, np, .istore i, a, f, v) = true) (hx : qm_x (some (L, xs)) (pc, np, .istore i, a, f, v) (pc, ls, st, h) = some (.inl c'))  (k : qm_Wm p l e R s m args below meth c D aC b B n0 t0 nL Q c') : qm_Wm p l e R s m args below meth c D aC b B n0 t0 nL Q (pc, ls, st, h) := by
  obtain ⟨hex, hb, hml, hown, hts, hK, hX, hbB, hBs, hini⟩ := C0
  simp only [qm_ok, Bool.and_eq_true, decide_eq_true_eq] at hok
  obtain ⟨hdg, ⟨ha, hlt⟩, hn⟩ := hok
  have hnp := qm_np hn
  have hdk := qm_dg hdg hnp
  have ha := Nat.eq_of_beq_eq_true ha
  have hlt := Nat.le_of_ble_eq_true hlt
  subst ha
  simp only [qm_x, qm_nx] at hx
  split at hx
  · rename_i x r
    cases hx
    subst hnp
    intro H locs la hH hS hL
    exact lv_istore hex hb hdk hL.2 hlt rfl (fun la' h' => k H locs la' hH hS (hL.s1 (v := .int x) h'))
  · cases hx

theorem qm_n_istore_n (C0 : qm_Cx p s m args meth c cc nL o ini D aC b B L xs) {i : Fin 4} (hok : qm_ok qm_hd o nL ini rt cc (pc, np, .istore_n i, a, f, v) = true) (hx : qm_x (some (L, xs)) (pc, np, .istore_n i, a, f, v) (pc, ls, st, h) = some (.inl c'))  (k : qm_Wm p l e R s m args below meth c D aC b B n0 t0 nL Q c') : qm_Wm p l e R s m args below meth c D aC b B n0 t0 nL Q (pc, ls, st, h) := by
  obtain ⟨hex, hb, hml, hown, hts, hK, hX, hbB, hBs, hini⟩ := C0
  simp only [qm_ok, Bool.and_eq_true, decide_eq_true_eq] at hok
  obtain ⟨hdg, ⟨ha, hlt⟩, hn⟩ := hok
  have hnp := qm_np hn
  have hdk := qm_dg hdg hnp
  have ha := Nat.eq_of_beq_eq_true ha
  have hlt := Nat.le_of_ble_eq_true hlt
  subst ha
  simp only [qm_x, qm_nx] at hx
  split at hx
  · rename_i x r
    cases hx
    subst hnp
    intro H locs la hH hS hL
    exact lv_istore_n hex hb hdk rfl hL.2 hlt rfl (fun la' h' => k H locs la' hH hS (hL.s1 (v := .int x) h'))
  · cases hx

theorem qm_n_lstore (C0 : qm_Cx p s m args meth c cc nL o ini D aC b B L xs) {i : Nat} (hok : qm_ok qm_hd o nL ini rt cc (pc, np, .lstore i, a, f, v) = true) (hx : qm_x (some (L, xs)) (pc, np, .lstore i, a, f, v) (pc, ls, st, h) = some (.inl c'))  (k : qm_Wm p l e R s m args below meth c D aC b B n0 t0 nL Q c') : qm_Wm p l e R s m args below meth c D aC b B n0 t0 nL Q (pc, ls, st, h) := by
  obtain ⟨hex, hb, hml, hown, hts, hK, hX, hbB, hBs, hini⟩ := C0
  simp only [qm_ok, Bool.and_eq_true, decide_eq_true_eq] at hok
  obtain ⟨hdg, ⟨ha, hlt⟩, hn⟩ := hok
  have hnp := qm_np hn
  have hdk := qm_dg hdg hnp
  have ha := Nat.eq_of_beq_eq_true ha
  have hlt := Nat.le_of_ble_eq_true hlt
  subst ha
  simp only [qm_x, qm_nx] at hx
  split at hx
  · rename_i x r
    cases hx
    subst hnp
    intro H locs la hH hS hL
    exact lv_lstore hex hb hdk hL.2 hlt rfl (fun la' h' => k H locs la' hH hS (hL.s2 (v := .long x) h'))
  · cases hx

theorem qm_n_lstore_n (C0 : qm_Cx p s m args meth c cc nL o ini D aC b B L xs) {i : Fin 4} (hok : qm_ok qm_hd o nL ini rt cc (pc, np, .lstore_n i, a, f, v) = true) (hx : qm_x (some (L, xs)) (pc, np, .lstore_n i, a, f, v) (pc, ls, st, h) = some (.inl c'))  (k : qm_Wm p l e R s m args below meth c D aC b B n0 t0 nL Q c') : qm_Wm p l e R s m args below meth c D aC b B n0 t0 nL Q (pc, ls, st, h) := by
  obtain ⟨hex, hb, hml, hown, hts, hK, hX, hbB, hBs, hini⟩ := C0
  simp only [qm_ok, Bool.and_eq_true, decide_eq_true_eq] at hok
  obtain ⟨hdg, ⟨ha, hlt⟩, hn⟩ := hok
  have hnp := qm_np hn
  have hdk := qm_dg hdg hnp
  have ha := Nat.eq_of_beq_eq_true ha
  have hlt := Nat.le_of_ble_eq_true hlt
  subst ha
  simp only [qm_x, qm_nx] at hx
  split at hx
  · rename_i x r
    cases hx
    subst hnp
    intro H locs la hH hS hL
    exact lv_lstore_n hex hb hdk rfl hL.2 hlt rfl (fun la' h' => k H locs la' hH hS (hL.s2 (v := .long x) h'))
  · cases hx

theorem qm_n_astore (C0 : qm_Cx p s m args meth c cc nL o ini D aC b B L xs) {i : Nat} (hok : qm_ok qm_hd o nL ini rt cc (pc, np, .astore i, a, f, v) = true) (hx : qm_x (some (L, xs)) (pc, np, .astore i, a, f, v) (pc, ls, st, h) = some (.inl c'))  (k : qm_Wm p l e R s m args below meth c D aC b B n0 t0 nL Q c') : qm_Wm p l e R s m args below meth c D aC b B n0 t0 nL Q (pc, ls, st, h) := by
  obtain ⟨hex, hb, hml, hown, hts, hK, hX, hbB, hBs, hini⟩ := C0
  simp only [qm_ok, Bool.and_eq_true, decide_eq_true_eq] at hok
  obtain ⟨hdg, ⟨ha, hlt⟩, hn⟩ := hok
  have hnp := qm_np hn
  have hdk := qm_dg hdg hnp
  have ha := Nat.eq_of_beq_eq_true ha
  have hlt := Nat.le_of_ble_eq_true hlt
  subst ha
  simp only [qm_x, qm_nx] at hx
  split at hx
  · rename_i x r
    cases hx
    subst hnp
    intro H locs la hH hS hL
    exact lv_astore hex hb hdk hL.2 hlt rfl (fun la' h' => k H locs la' hH hS (hL.s1 (v := .ref x) h'))
  · cases hx

theorem qm_n_astore_n (C0 : qm_Cx p s m args meth c cc nL o ini D aC b B L xs) {i : Fin 4} (hok : qm_ok qm_hd o nL ini rt cc (pc, np, .astore_n i, a, f, v) = true) (hx : qm_x (some (L, xs)) (pc, np, .astore_n i, a, f, v) (pc, ls, st, h) = some (.inl c'))  (k : qm_Wm p l e R s m args below meth c D aC b B n0 t0 nL Q c') : qm_Wm p l e R s m args below meth c D aC b B n0 t0 nL Q (pc, ls, st, h) := by
  obtain ⟨hex, hb, hml, hown, hts, hK, hX, hbB, hBs, hini⟩ := C0
  simp only [qm_ok, Bool.and_eq_true, decide_eq_true_eq] at hok
  obtain ⟨hdg, ⟨ha, hlt⟩, hn⟩ := hok
  have hnp := qm_np hn
  have hdk := qm_dg hdg hnp
  have ha := Nat.eq_of_beq_eq_true ha
  have hlt := Nat.le_of_ble_eq_true hlt
  subst ha
  simp only [qm_x, qm_nx] at hx
  split at hx
  · rename_i x r
    cases hx
    subst hnp
    intro H locs la hH hS hL
    exact lv_astore_n hex hb hdk rfl hL.2 hlt rfl (fun la' h' => k H locs la' hH hS (hL.s1 (v := .ref x) h'))
  · cases hx

theorem qm_n_iinc (C0 : qm_Cx p s m args meth c cc nL o ini D aC b B L xs) {i : Nat} {n : Int} (hok : qm_ok qm_hd o nL ini rt cc (pc, np, .iinc i n, a, f, v) = true) (hx : qm_x (some (L, xs)) (pc, np, .iinc i n, a, f, v) (pc, ls, st, h) = some (.inl c'))  (k : qm_Wm p l e R s m args below meth c D aC b B n0 t0 nL Q c') : qm_Wm p l e R s m args below meth c D aC b B n0 t0 nL Q (pc, ls, st, h) := by
  obtain ⟨hex, hb, hml, hown, hts, hK, hX, hbB, hBs, hini⟩ := C0
  simp only [qm_ok, Bool.and_eq_true, decide_eq_true_eq] at hok
  obtain ⟨hdg, ⟨⟨ha, hlt⟩, hv⟩, hn⟩ := hok
  have hnp := qm_np hn
  have hdk := qm_dg hdg hnp
  have ha := Nat.eq_of_beq_eq_true ha
  have hlt := Nat.le_of_ble_eq_true hlt
  subst ha
  subst hv
  simp only [qm_x, qm_nx] at hx
  split at hx
  · rename_i x y hl hy
    cases hy
    cases hx
    subst hnp
    intro H locs la hH hS hL
    obtain ⟨q, hq⟩ := List.getElem?_of_mem (qm_pr_mem.mpr ⟨_, hl, rfl, rfl⟩ : (a, Value.int x) ∈ qm_pr b B ls)
    exact lv_iinc hex hb hdk hL.2 hq rfl hlt rfl (fun la' h' => k H locs la' hH hS (hL.s1 (v := .int (x + Int32.ofInt n)) h'))
  · cases hx

theorem qm_n_iadd (C0 : qm_Cx p s m args meth c cc nL o ini D aC b B L xs)  (hok : qm_ok qm_hd o nL ini rt cc (pc, np, .iadd, a, f, v) = true) (hx : qm_x (some (L, xs)) (pc, np, .iadd, a, f, v) (pc, ls, st, h) = some (.inl c'))  (k : qm_Wm p l e R s m args below meth c D aC b B n0 t0 nL Q c') : qm_Wm p l e R s m args below meth c D aC b B n0 t0 nL Q (pc, ls, st, h) := by
  obtain ⟨hex, hb, hml, hown, hts, hK, hX, hbB, hBs, hini⟩ := C0
  simp only [qm_ok, Bool.and_eq_true, decide_eq_true_eq] at hok
  obtain ⟨hdg, hn⟩ := hok
  have hnp := qm_np hn
  have hdk := qm_dg hdg hnp
  simp only [qm_x, qm_nx] at hx
  split at hx
  · cases hx
    subst hnp
    intro H locs la hH hS hL
    exact lv_iadd hex hb hdk (k H locs la hH hS hL)
  · cases hx

theorem qm_n_isub (C0 : qm_Cx p s m args meth c cc nL o ini D aC b B L xs)  (hok : qm_ok qm_hd o nL ini rt cc (pc, np, .isub, a, f, v) = true) (hx : qm_x (some (L, xs)) (pc, np, .isub, a, f, v) (pc, ls, st, h) = some (.inl c'))  (k : qm_Wm p l e R s m args below meth c D aC b B n0 t0 nL Q c') : qm_Wm p l e R s m args below meth c D aC b B n0 t0 nL Q (pc, ls, st, h) := by
  obtain ⟨hex, hb, hml, hown, hts, hK, hX, hbB, hBs, hini⟩ := C0
  simp only [qm_ok, Bool.and_eq_true, decide_eq_true_eq] at hok
  obtain ⟨hdg, hn⟩ := hok
  have hnp := qm_np hn
  have hdk := qm_dg hdg hnp
  simp only [qm_x, qm_nx] at hx
  split at hx
  · cases hx
    subst hnp
    intro H locs la hH hS hL
    exact lv_isub hex hb hdk (k H locs la hH hS hL)
  · cases hx

theorem qm_n_imul (C0 : qm_Cx p s m args meth c cc nL o ini D aC b B L xs)  (hok : qm_ok qm_hd o nL ini rt cc (pc, np, .imul, a, f, v) = true) (hx : qm_x (some (L, xs)) (pc, np, .imul, a, f, v) (pc, ls, st, h) = some (.inl c'))  (k : qm_Wm p l e R s m args below meth c D aC b B n0 t0 nL Q c') : qm_Wm p l e R s m args below meth c D aC b B n0 t0 nL Q (pc, ls, st, h) := by
  obtain ⟨hex, hb, hml, hown, hts, hK, hX, hbB, hBs, hini⟩ := C0
  simp only [qm_ok, Bool.and_eq_true, decide_eq_true_eq] at hok
  obtain ⟨hdg, hn⟩ := hok
  have hnp := qm_np hn
  have hdk := qm_dg hdg hnp
  simp only [qm_x, qm_nx] at hx
  split at hx
  · cases hx
    subst hnp
    intro H locs la hH hS hL
    exact lv_imul hex hb hdk (k H locs la hH hS hL)
  · cases hx

theorem qm_n_iand (C0 : qm_Cx p s m args meth c cc nL o ini D aC b B L xs)  (hok : qm_ok qm_hd o nL ini rt cc (pc, np, .iand, a, f, v) = true) (hx : qm_x (some (L, xs)) (pc, np, .iand, a, f, v) (pc, ls, st, h) = some (.inl c'))  (k : qm_Wm p l e R s m args below meth c D aC b B n0 t0 nL Q c') : qm_Wm p l e R s m args below meth c D aC b B n0 t0 nL Q (pc, ls, st, h) := by
  obtain ⟨hex, hb, hml, hown, hts, hK, hX, hbB, hBs, hini⟩ := C0
  simp only [qm_ok, Bool.and_eq_true, decide_eq_true_eq] at hok
  obtain ⟨hdg, hn⟩ := hok
  have hnp := qm_np hn
  have hdk := qm_dg hdg hnp
  simp only [qm_x, qm_nx] at hx
  split at hx
  · cases hx
    subst hnp
    intro H locs la hH hS hL
    exact lv_iand hex hb hdk (k H locs la hH hS hL)
  · cases hx

theorem qm_n_ior (C0 : qm_Cx p s m args meth c cc nL o ini D aC b B L xs)  (hok : qm_ok qm_hd o nL ini rt cc (pc, np, .ior, a, f, v) = true) (hx : qm_x (some (L, xs)) (pc, np, .ior, a, f, v) (pc, ls, st, h) = some (.inl c'))  (k : qm_Wm p l e R s m args below meth c D aC b B n0 t0 nL Q c') : qm_Wm p l e R s m args below meth c D aC b B n0 t0 nL Q (pc, ls, st, h) := by
  obtain ⟨hex, hb, hml, hown, hts, hK, hX, hbB, hBs, hini⟩ := C0
  simp only [qm_ok, Bool.and_eq_true, decide_eq_true_eq] at hok
  obtain ⟨hdg, hn⟩ := hok
  have hnp := qm_np hn
  have hdk := qm_dg hdg hnp
  simp only [qm_x, qm_nx] at hx
  split at hx
  · cases hx
    subst hnp
    intro H locs la hH hS hL
    exact lv_ior hex hb hdk (k H locs la hH hS hL)
  · cases hx

theorem qm_n_ixor (C0 : qm_Cx p s m args meth c cc nL o ini D aC b B L xs)  (hok : qm_ok qm_hd o nL ini rt cc (pc, np, .ixor, a, f, v) = true) (hx : qm_x (some (L, xs)) (pc, np, .ixor, a, f, v) (pc, ls, st, h) = some (.inl c'))  (k : qm_Wm p l e R s m args below meth c D aC b B n0 t0 nL Q c') : qm_Wm p l e R s m args below meth c D aC b B n0 t0 nL Q (pc, ls, st, h) := by
  obtain ⟨hex, hb, hml, hown, hts, hK, hX, hbB, hBs, hini⟩ := C0
  simp only [qm_ok, Bool.and_eq_true, decide_eq_true_eq] at hok
  obtain ⟨hdg, hn⟩ := hok
  have hnp := qm_np hn
  have hdk := qm_dg hdg hnp
  simp only [qm_x, qm_nx] at hx
  split at hx
  · cases hx
    subst hnp
    intro H locs la hH hS hL
    exact lv_ixor hex hb hdk (k H locs la hH hS hL)
  · cases hx

theorem qm_n_ishl (C0 : qm_Cx p s m args meth c cc nL o ini D aC b B L xs)  (hok : qm_ok qm_hd o nL ini rt cc (pc, np, .ishl, a, f, v) = true) (hx : qm_x (some (L, xs)) (pc, np, .ishl, a, f, v) (pc, ls, st, h) = some (.inl c'))  (k : qm_Wm p l e R s m args below meth c D aC b B n0 t0 nL Q c') : qm_Wm p l e R s m args below meth c D aC b B n0 t0 nL Q (pc, ls, st, h) := by
  obtain ⟨hex, hb, hml, hown, hts, hK, hX, hbB, hBs, hini⟩ := C0
  simp only [qm_ok, Bool.and_eq_true, decide_eq_true_eq] at hok
  obtain ⟨hdg, hn⟩ := hok
  have hnp := qm_np hn
  have hdk := qm_dg hdg hnp
  simp only [qm_x, qm_nx] at hx
  split at hx
  · cases hx
    subst hnp
    intro H locs la hH hS hL
    exact lv_ishl hex hb hdk (k H locs la hH hS hL)
  · cases hx

theorem qm_n_ishr (C0 : qm_Cx p s m args meth c cc nL o ini D aC b B L xs)  (hok : qm_ok qm_hd o nL ini rt cc (pc, np, .ishr, a, f, v) = true) (hx : qm_x (some (L, xs)) (pc, np, .ishr, a, f, v) (pc, ls, st, h) = some (.inl c'))  (k : qm_Wm p l e R s m args below meth c D aC b B n0 t0 nL Q c') : qm_Wm p l e R s m args below meth c D aC b B n0 t0 nL Q (pc, ls, st, h) := by
  obtain ⟨hex, hb, hml, hown, hts, hK, hX, hbB, hBs, hini⟩ := C0
  simp only [qm_ok, Bool.and_eq_true, decide_eq_true_eq] at hok
  obtain ⟨hdg, hn⟩ := hok
  have hnp := qm_np hn
  have hdk := qm_dg hdg hnp
  simp only [qm_x, qm_nx] at hx
  split at hx
  · cases hx
    subst hnp
    intro H locs la hH hS hL
    exact lv_ishr hex hb hdk (k H locs la hH hS hL)
  · cases hx

theorem qm_n_ladd (C0 : qm_Cx p s m args meth c cc nL o ini D aC b B L xs)  (hok : qm_ok qm_hd o nL ini rt cc (pc, np, .ladd, a, f, v) = true) (hx : qm_x (some (L, xs)) (pc, np, .ladd, a, f, v) (pc, ls, st, h) = some (.inl c'))  (k : qm_Wm p l e R s m args below meth c D aC b B n0 t0 nL Q c') : qm_Wm p l e R s m args below meth c D aC b B n0 t0 nL Q (pc, ls, st, h) := by
  obtain ⟨hex, hb, hml, hown, hts, hK, hX, hbB, hBs, hini⟩ := C0
  simp only [qm_ok, Bool.and_eq_true, decide_eq_true_eq] at hok
  obtain ⟨hdg, hn⟩ := hok
  have hnp := qm_np hn
  have hdk := qm_dg hdg hnp
  simp only [qm_x, qm_nx] at hx
  split at hx
  · cases hx
    subst hnp
    intro H locs la hH hS hL
    exact lv_ladd hex hb hdk (k H locs la hH hS hL)
  · cases hx

theorem qm_n_lsub (C0 : qm_Cx p s m args meth c cc nL o ini D aC b B L xs)  (hok : qm_ok qm_hd o nL ini rt cc (pc, np, .lsub, a, f, v) = true) (hx : qm_x (some (L, xs)) (pc, np, .lsub, a, f, v) (pc, ls, st, h) = some (.inl c'))  (k : qm_Wm p l e R s m args below meth c D aC b B n0 t0 nL Q c') : qm_Wm p l e R s m args below meth c D aC b B n0 t0 nL Q (pc, ls, st, h) := by
  obtain ⟨hex, hb, hml, hown, hts, hK, hX, hbB, hBs, hini⟩ := C0
  simp only [qm_ok, Bool.and_eq_true, decide_eq_true_eq] at hok
  obtain ⟨hdg, hn⟩ := hok
  have hnp := qm_np hn
  have hdk := qm_dg hdg hnp
  simp only [qm_x, qm_nx] at hx
  split at hx
  · cases hx
    subst hnp
    intro H locs la hH hS hL
    exact lv_lsub hex hb hdk (k H locs la hH hS hL)
  · cases hx

theorem qm_n_lmul (C0 : qm_Cx p s m args meth c cc nL o ini D aC b B L xs)  (hok : qm_ok qm_hd o nL ini rt cc (pc, np, .lmul, a, f, v) = true) (hx : qm_x (some (L, xs)) (pc, np, .lmul, a, f, v) (pc, ls, st, h) = some (.inl c'))  (k : qm_Wm p l e R s m args below meth c D aC b B n0 t0 nL Q c') : qm_Wm p l e R s m args below meth c D aC b B n0 t0 nL Q (pc, ls, st, h) := by
  obtain ⟨hex, hb, hml, hown, hts, hK, hX, hbB, hBs, hini⟩ := C0
  simp only [qm_ok, Bool.and_eq_true, decide_eq_true_eq] at hok
  obtain ⟨hdg, hn⟩ := hok
  have hnp := qm_np hn
  have hdk := qm_dg hdg hnp
  simp only [qm_x, qm_nx] at hx
  split at hx
  · cases hx
    subst hnp
    intro H locs la hH hS hL
    exact lv_lmul hex hb hdk (k H locs la hH hS hL)
  · cases hx

theorem qm_n_land (C0 : qm_Cx p s m args meth c cc nL o ini D aC b B L xs)  (hok : qm_ok qm_hd o nL ini rt cc (pc, np, .land, a, f, v) = true) (hx : qm_x (some (L, xs)) (pc, np, .land, a, f, v) (pc, ls, st, h) = some (.inl c'))  (k : qm_Wm p l e R s m args below meth c D aC b B n0 t0 nL Q c') : qm_Wm p l e R s m args below meth c D aC b B n0 t0 nL Q (pc, ls, st, h) := by
  obtain ⟨hex, hb, hml, hown, hts, hK, hX, hbB, hBs, hini⟩ := C0
  simp only [qm_ok, Bool.and_eq_true, decide_eq_true_eq] at hok
  obtain ⟨hdg, hn⟩ := hok
  have hnp := qm_np hn
  have hdk := qm_dg hdg hnp
  simp only [qm_x, qm_nx] at hx
  split at hx
  · cases hx
    subst hnp
    intro H locs la hH hS hL
    exact lv_land hex hb hdk (k H locs la hH hS hL)
  · cases hx

theorem qm_n_lor (C0 : qm_Cx p s m args meth c cc nL o ini D aC b B L xs)  (hok : qm_ok qm_hd o nL ini rt cc (pc, np, .lor, a, f, v) = true) (hx : qm_x (some (L, xs)) (pc, np, .lor, a, f, v) (pc, ls, st, h) = some (.inl c'))  (k : qm_Wm p l e R s m args below meth c D aC b B n0 t0 nL Q c') : qm_Wm p l e R s m args below meth c D aC b B n0 t0 nL Q (pc, ls, st, h) := by
  obtain ⟨hex, hb, hml, hown, hts, hK, hX, hbB, hBs, hini⟩ := C0
  simp only [qm_ok, Bool.and_eq_true, decide_eq_true_eq] at hok
  obtain ⟨hdg, hn⟩ := hok
  have hnp := qm_np hn
  have hdk := qm_dg hdg hnp
  simp only [qm_x, qm_nx] at hx
  split at hx
  · cases hx
    subst hnp
    intro H locs la hH hS hL
    exact lv_lor hex hb hdk (k H locs la hH hS hL)
  · cases hx

theorem qm_n_iushr (C0 : qm_Cx p s m args meth c cc nL o ini D aC b B L xs)  (hok : qm_ok qm_hd o nL ini rt cc (pc, np, .iushr, a, f, v) = true) (hx : qm_x (some (L, xs)) (pc, np, .iushr, a, f, v) (pc, ls, st, h) = some (.inl c'))  (k : qm_Wm p l e R s m args below meth c D aC b B n0 t0 nL Q c') : qm_Wm p l e R s m args below meth c D aC b B n0 t0 nL Q (pc, ls, st, h) := by
  obtain ⟨hex, hb, hml, hown, hts, hK, hX, hbB, hBs, hini⟩ := C0
  simp only [qm_ok, Bool.and_eq_true, decide_eq_true_eq] at hok
  obtain ⟨hdg, hn⟩ := hok
  have hnp := qm_np hn
  have hdk := qm_dg hdg hnp
  simp only [qm_x, qm_nx] at hx
  split at hx
  · cases hx
    subst hnp
    intro H locs la hH hS hL
    exact lv_iushr hex hb hdk rfl (k H locs la hH hS hL)
  · cases hx

theorem qm_n_lshl (C0 : qm_Cx p s m args meth c cc nL o ini D aC b B L xs)  (hok : qm_ok qm_hd o nL ini rt cc (pc, np, .lshl, a, f, v) = true) (hx : qm_x (some (L, xs)) (pc, np, .lshl, a, f, v) (pc, ls, st, h) = some (.inl c'))  (k : qm_Wm p l e R s m args below meth c D aC b B n0 t0 nL Q c') : qm_Wm p l e R s m args below meth c D aC b B n0 t0 nL Q (pc, ls, st, h) := by
  obtain ⟨hex, hb, hml, hown, hts, hK, hX, hbB, hBs, hini⟩ := C0
  simp only [qm_ok, Bool.and_eq_true, decide_eq_true_eq] at hok
  obtain ⟨hdg, hn⟩ := hok
  have hnp := qm_np hn
  have hdk := qm_dg hdg hnp
  simp only [qm_x, qm_nx] at hx
  split at hx
  · cases hx
    subst hnp
    intro H locs la hH hS hL
    exact lv_lshl hex hb hdk rfl (k H locs la hH hS hL)
  · cases hx

theorem qm_n_lshr (C0 : qm_Cx p s m args meth c cc nL o ini D aC b B L xs)  (hok : qm_ok qm_hd o nL ini rt cc (pc, np, .lshr, a, f, v) = true) (hx : qm_x (some (L, xs)) (pc, np, .lshr, a, f, v) (pc, ls, st, h) = some (.inl c'))  (k : qm_Wm p l e R s m args below meth c D aC b B n0 t0 nL Q c') : qm_Wm p l e R s m args below meth c D aC b B n0 t0 nL Q (pc, ls, st, h) := by
  obtain ⟨hex, hb, hml, hown, hts, hK, hX, hbB, hBs, hini⟩ := C0
  simp only [qm_ok, Bool.and_eq_true, decide_eq_true_eq] at hok
  obtain ⟨hdg, hn⟩ := hok
  have hnp := qm_np hn
  have hdk := qm_dg hdg hnp
  simp only [qm_x, qm_nx] at hx
  split at hx
  · cases hx
    subst hnp
    intro H locs la hH hS hL
    exact lv_lshr hex hb hdk rfl (k H locs la hH hS hL)
  · cases hx

theorem qm_n_idiv (C0 : qm_Cx p s m args meth c cc nL o ini D aC b B L xs)  (hok : qm_ok qm_hd o nL ini rt cc (pc, np, .idiv, a, f, v) = true) (hx : qm_x (some (L, xs)) (pc, np, .idiv, a, f, v) (pc, ls, st, h) = some (.inl c'))  (k : qm_Wm p l e R s m args below meth c D aC b B n0 t0 nL Q c') : qm_Wm p l e R s m args below meth c D aC b B n0 t0 nL Q (pc, ls, st, h) := by
  obtain ⟨hex, hb, hml, hown, hts, hK, hX, hbB, hBs, hini⟩ := C0
  simp only [qm_ok, Bool.and_eq_true, decide_eq_true_eq] at hok
  obtain ⟨hdg, hn⟩ := hok
  have hnp := qm_np hn
  have hdk := qm_dg hdg hnp
  simp only [qm_x, qm_nx] at hx
  split at hx
  · rename_i y x r
    by_cases hy : y = 0
    · simp [hy] at hx
    · simp only [hy, decide_false, cond_false] at hx
      cases hx
      subst hnp
      intro H locs la hH hS hL
      exact lv_idiv hex hb hdk hy (k H locs la hH hS hL)
  · cases hx

theorem qm_n_irem (C0 : qm_Cx p s m args meth c cc nL o ini D aC b B L xs)  (hok : qm_ok qm_hd o nL ini rt cc (pc, np, .irem, a, f, v) = true) (hx : qm_x (some (L, xs)) (pc, np, .irem, a, f, v) (pc, ls, st, h) = some (.inl c'))  (k : qm_Wm p l e R s m args below meth c D aC b B n0 t0 nL Q c') : qm_Wm p l e R s m args below meth c D aC b B n0 t0 nL Q (pc, ls, st, h) := by
  obtain ⟨hex, hb, hml, hown, hts, hK, hX, hbB, hBs, hini⟩ := C0
  simp only [qm_ok, Bool.and_eq_true, decide_eq_true_eq] at hok
  obtain ⟨hdg, hn⟩ := hok
  have hnp := qm_np hn
  have hdk := qm_dg hdg hnp
  simp only [qm_x, qm_nx] at hx
  split at hx
  · rename_i y x r
    by_cases hy : y = 0
    · simp [hy] at hx
    · simp only [hy, decide_false, cond_false] at hx
      cases hx
      subst hnp
      intro H locs la hH hS hL
      exact lv_irem hex hb hdk hy (k H locs la hH hS hL)
  · cases hx

theorem qm_n_ldiv (C0 : qm_Cx p s m args meth c cc nL o ini D aC b B L xs)  (hok : qm_ok qm_hd o nL ini rt cc (pc, np, .ldiv, a, f, v) = true) (hx : qm_x (some (L, xs)) (pc, np, .ldiv, a, f, v) (pc, ls, st, h) = some (.inl c'))  (k : qm_Wm p l e R s m args below meth c D aC b B n0 t0 nL Q c') : qm_Wm p l e R s m args below meth c D aC b B n0 t0 nL Q (pc, ls, st, h) := by
  obtain ⟨hex, hb, hml, hown, hts, hK, hX, hbB, hBs, hini⟩ := C0
  simp only [qm_ok, Bool.and_eq_true, decide_eq_true_eq] at hok
  obtain ⟨hdg, hn⟩ := hok
  have hnp := qm_np hn
  have hdk := qm_dg hdg hnp
  simp only [qm_x, qm_nx] at hx
  split at hx
  · rename_i y x r
    by_cases hy : y = 0
    · simp [hy] at hx
    · simp only [hy, decide_false, cond_false] at hx
      cases hx
      subst hnp
      intro H locs la hH hS hL
      exact lv_ldiv hex hb hdk hy (k H locs la hH hS hL)
  · cases hx

theorem qm_n_lrem (C0 : qm_Cx p s m args meth c cc nL o ini D aC b B L xs)  (hok : qm_ok qm_hd o nL ini rt cc (pc, np, .lrem, a, f, v) = true) (hx : qm_x (some (L, xs)) (pc, np, .lrem, a, f, v) (pc, ls, st, h) = some (.inl c'))  (k : qm_Wm p l e R s m args below meth c D aC b B n0 t0 nL Q c') : qm_Wm p l e R s m args below meth c D aC b B n0 t0 nL Q (pc, ls, st, h) := by
  obtain ⟨hex, hb, hml, hown, hts, hK, hX, hbB, hBs, hini⟩ := C0
  simp only [qm_ok, Bool.and_eq_true, decide_eq_true_eq] at hok
  obtain ⟨hdg, hn⟩ := hok
  have hnp := qm_np hn
  have hdk := qm_dg hdg hnp
  simp only [qm_x, qm_nx] at hx
  split at hx
  · rename_i y x r
    by_cases hy : y = 0
    · simp [hy] at hx
    · simp only [hy, decide_false, cond_false] at hx
      cases hx
      subst hnp
      intro H locs la hH hS hL
      exact lv_lrem hex hb hdk hy (k H locs la hH hS hL)
  · cases hx

theorem qm_n_lcmp (C0 : qm_Cx p s m args meth c cc nL o ini D aC b B L xs)  (hok : qm_ok qm_hd o nL ini rt cc (pc, np, .lcmp, a, f, v) = true) (hx : qm_x (some (L, xs)) (pc, np, .lcmp, a, f, v) (pc, ls, st, h) = some (.inl c'))  (k : qm_Wm p l e R s m args below meth c D aC b B n0 t0 nL Q c') : qm_Wm p l e R s m args below meth c D aC b B n0 t0 nL Q (pc, ls, st, h) := by
  obtain ⟨hex, hb, hml, hown, hts, hK, hX, hbB, hBs, hini⟩ := C0
  simp only [qm_ok, Bool.and_eq_true, decide_eq_true_eq] at hok
  obtain ⟨hdg, hn⟩ := hok
  have hnp := qm_np hn
  have hdk := qm_dg hdg hnp
  simp only [qm_x, qm_nx] at hx
  split at hx
  · cases hx
    subst hnp
    intro H locs la hH hS hL
    exact W.lcmp hex hb hdk (k H locs la hH hS hL)
  · cases hx

theorem qm_n_ineg (C0 : qm_Cx p s m args meth c cc nL o ini D aC b B L xs)  (hok : qm_ok qm_hd o nL ini rt cc (pc, np, .ineg, a, f, v) = true) (hx : qm_x (some (L, xs)) (pc, np, .ineg, a, f, v) (pc, ls, st, h) = some (.inl c'))  (k : qm_Wm p l e R s m args below meth c D aC b B n0 t0 nL Q c') : qm_Wm p l e R s m args below meth c D aC b B n0 t0 nL Q (pc, ls, st, h) := by
  obtain ⟨hex, hb, hml, hown, hts, hK, hX, hbB, hBs, hini⟩ := C0
  simp only [qm_ok, Bool.and_eq_true, decide_eq_true_eq] at hok
  obtain ⟨hdg, hn⟩ := hok
  have hnp := qm_np hn
  have hdk := qm_dg hdg hnp
  simp only [qm_x, qm_nx] at hx
  split at hx
  · cases hx
    subst hnp
    intro H locs la hH hS hL
    exact lv_ineg hex hb hdk (k H locs la hH hS hL)
  · cases hx

theorem qm_n_i2l (C0 : qm_Cx p s m args meth c cc nL o ini D aC b B L xs)  (hok : qm_ok qm_hd o nL ini rt cc (pc, np, .i2l, a, f, v) = true) (hx : qm_x (some (L, xs)) (pc, np, .i2l, a, f, v) (pc, ls, st, h) = some (.inl c'))  (k : qm_Wm p l e R s m args below meth c D aC b B n0 t0 nL Q c') : qm_Wm p l e R s m args below meth c D aC b B n0 t0 nL Q (pc, ls, st, h) := by
  obtain ⟨hex, hb, hml, hown, hts, hK, hX, hbB, hBs, hini⟩ := C0
  simp only [qm_ok, Bool.and_eq_true, decide_eq_true_eq] at hok
  obtain ⟨hdg, hn⟩ := hok
  have hnp := qm_np hn
  have hdk := qm_dg hdg hnp
  simp only [qm_x, qm_nx] at hx
  split at hx
  · cases hx
    subst hnp
    intro H locs la hH hS hL
    exact lv_i2l hex hb hdk rfl (k H locs la hH hS hL)
  · cases hx

theorem qm_n_l2i (C0 : qm_Cx p s m args meth c cc nL o ini D aC b B L xs)  (hok : qm_ok qm_hd o nL ini rt cc (pc, np, .l2i, a, f, v) = true) (hx : qm_x (some (L, xs)) (pc, np, .l2i, a, f, v) (pc, ls, st, h) = some (.inl c'))  (k : qm_Wm p l e R s m args below meth c D aC b B n0 t0 nL Q c') : qm_Wm p l e R s m args below meth c D aC b B n0 t0 nL Q (pc, ls, st, h) := by
  obtain ⟨hex, hb, hml, hown, hts, hK, hX, hbB, hBs, hini⟩ := C0
  simp only [qm_ok, Bool.and_eq_true, decide_eq_true_eq] at hok
  obtain ⟨hdg, hn⟩ := hok
  have hnp := qm_np hn
  have hdk := qm_dg hdg hnp
  simp only [qm_x, qm_nx] at hx
  split at hx
  · cases hx
    subst hnp
    intro H locs la hH hS hL
    exact lv_l2i hex hb hdk rfl (k H locs la hH hS hL)
  · cases hx

theorem qm_n_i2b (C0 : qm_Cx p s m args meth c cc nL o ini D aC b B L xs)  (hok : qm_ok qm_hd o nL ini rt cc (pc, np, .i2b, a, f, v) = true) (hx : qm_x (some (L, xs)) (pc, np, .i2b, a, f, v) (pc, ls, st, h) = some (.inl c'))  (k : qm_Wm p l e R s m args below meth c D aC b B n0 t0 nL Q c') : qm_Wm p l e R s m args below meth c D aC b B n0 t0 nL Q (pc, ls, st, h) := by
  obtain ⟨hex, hb, hml, hown, hts, hK, hX, hbB, hBs, hini⟩ := C0
  simp only [qm_ok, Bool.and_eq_true, decide_eq_true_eq] at hok
  obtain ⟨hdg, hn⟩ := hok
  have hnp := qm_np hn
  have hdk := qm_dg hdg hnp
  simp only [qm_x, qm_nx] at hx
  split at hx
  · cases hx
    subst hnp
    intro H locs la hH hS hL
    exact lv_i2b hex hb hdk rfl (k H locs la hH hS hL)
  · cases hx

theorem qm_n_dup (C0 : qm_Cx p s m args meth c cc nL o ini D aC b B L xs)  (hok : qm_ok qm_hd o nL ini rt cc (pc, np, .dup, a, f, v) = true) (hx : qm_x (some (L, xs)) (pc, np, .dup, a, f, v) (pc, ls, st, h) = some (.inl c'))  (k : qm_Wm p l e R s m args below meth c D aC b B n0 t0 nL Q c') : qm_Wm p l e R s m args below meth c D aC b B n0 t0 nL Q (pc, ls, st, h) := by
  obtain ⟨hex, hb, hml, hown, hts, hK, hX, hbB, hBs, hini⟩ := C0
  simp only [qm_ok, Bool.and_eq_true, decide_eq_true_eq] at hok
  obtain ⟨hdg, hn⟩ := hok
  have hnp := qm_np hn
  have hdk := qm_dg hdg hnp
  simp only [qm_x, qm_nx] at hx
  split at hx
  · rename_i w r
    cases hc : Nat.beq w.category 1 with
    | false => simp [hc] at hx
    | true =>
      simp only [hc, cond_true] at hx
      cases hx
      subst hnp
      intro H locs la hH hS hL
      exact lv_dup hex hb hdk (by rw [qm_cv_cat]; exact Nat.eq_of_beq_eq_true hc) (k H locs la hH hS hL)
  · cases hx

theorem qm_n_pop (C0 : qm_Cx p s m args meth c cc nL o ini D aC b B L xs)  (hok : qm_ok qm_hd o nL ini rt cc (pc, np, .pop, a, f, v) = true) (hx : qm_x (some (L, xs)) (pc, np, .pop, a, f, v) (pc, ls, st, h) = some (.inl c'))  (k : qm_Wm p l e R s m args below meth c D aC b B n0 t0 nL Q c') : qm_Wm p l e R s m args below meth c D aC b B n0 t0 nL Q (pc, ls, st, h) := by
  obtain ⟨hex, hb, hml, hown, hts, hK, hX, hbB, hBs, hini⟩ := C0
  simp only [qm_ok, Bool.and_eq_true, decide_eq_true_eq] at hok
  obtain ⟨hdg, hn⟩ := hok
  have hnp := qm_np hn
  have hdk := qm_dg hdg hnp
  simp only [qm_x, qm_nx] at hx
  split at hx
  · rename_i w r
    cases hc : Nat.beq w.category 1 with
    | false => simp [hc] at hx
    | true =>
      simp only [hc, cond_true] at hx
      cases hx
      subst hnp
      intro H locs la hH hS hL
      exact lv_pop hex hb hdk (by rw [qm_cv_cat]; exact Nat.eq_of_beq_eq_true hc) (k H locs la hH hS hL)
  · cases hx

theorem qm_n_dup2 (C0 : qm_Cx p s m args meth c cc nL o ini D aC b B L xs)  (hok : qm_ok qm_hd o nL ini rt cc (pc, np, .dup2, a, f, v) = true) (hx : qm_x (some (L, xs)) (pc, np, .dup2, a, f, v) (pc, ls, st, h) = some (.inl c'))  (k : qm_Wm p l e R s m args below meth c D aC b B n0 t0 nL Q c') : qm_Wm p l e R s m args below meth c D aC b B n0 t0 nL Q (pc, ls, st, h) := by
  obtain ⟨hex, hb, hml, hown, hts, hK, hX, hbB, hBs, hini⟩ := C0
  simp only [qm_ok, Bool.and_eq_true, decide_eq_true_eq] at hok
  obtain ⟨hdg, hn⟩ := hok
  have hnp := qm_np hn
  have hdk := qm_dg hdg hnp
  simp only [qm_x, qm_nx] at hx
  split at hx
  · rename_i y w r
    cases hc : Nat.beq w.category 1 with
    | false => simp [hc] at hx
    | true =>
      simp only [hc, cond_true] at hx
      cases hx
      subst hnp
      intro H locs la hH hS hL
      exact lv_dup2_11 hex hb hdk rfl (by rw [qm_cv_cat]; exact Nat.eq_of_beq_eq_true hc) (k H locs la hH hS hL)
  · cases hx
    subst hnp
    intro H locs la hH hS hL
    exact lv_dup2_2 hex hb hdk rfl (k H locs la hH hS hL)
  · cases hx

theorem qm_n_goto (C0 : qm_Cx p s m args meth c cc nL o ini D aC b B L xs) {off : Int} (hok : qm_ok qm_hd o nL ini rt cc (pc, np, .goto off, a, f, v) = true) (hx : qm_x (some (L, xs)) (pc, np, .goto off, a, f, v) (pc, ls, st, h) = some (.inl c'))  (k : qm_Wm p l e R s m args below meth c D aC b B n0 t0 nL Q c') : qm_Wm p l e R s m args below meth c D aC b B n0 t0 nL Q (pc, ls, st, h) := by
  obtain ⟨hex, hb, hml, hown, hts, hK, hX, hbB, hBs, hini⟩ := C0
  simp only [qm_ok, Bool.and_eq_true, decide_eq_true_eq] at hok
  obtain ⟨hdg, ht, hn⟩ := hok
  have hnp := qm_np hn
  have hdk := qm_dg hdg hnp
  simp only [qm_x, qm_nx] at hx
  cases hx
  subst hnp
  intro H locs la hH hS hL
  exact lv_goto hex hb hdk ht (k H locs la hH hS hL)

theorem qm_n_ifnull (C0 : qm_Cx p s m args meth c cc nL o ini D aC b B L xs) {off : Int} (hok : qm_ok qm_hd o nL ini rt cc (pc, np, .ifnull off, a, f, v) = true) (hx : qm_x (some (L, xs)) (pc, np, .ifnull off, a, f, v) (pc, ls, st, h) = some (.inl c'))  (k : qm_Wm p l e R s m args below meth c D aC b B n0 t0 nL Q c') : qm_Wm p l e R s m args below meth c D aC b B n0 t0 nL Q (pc, ls, st, h) := by
  obtain ⟨hex, hb, hml, hown, hts, hK, hX, hbB, hBs, hini⟩ := C0
  simp only [qm_ok, Bool.and_eq_true, decide_eq_true_eq] at hok
  obtain ⟨hdg, ht, hn⟩ := hok
  have hnp := qm_np hn
  have hdk := qm_dg hdg hnp
  simp only [qm_x, qm_nx] at hx
  split at hx
  · cases hx
    subst hnp
    intro H locs la hH hS hL
    exact lv_ifnull hex hb hdk (k H locs la hH hS hL)
  · cases hx
    subst hnp
    intro H locs la hH hS hL
    exact lv_ifnullN hex hb hdk ht (k H locs la hH hS hL)
  · cases hx

theorem qm_n_ifnonnull (C0 : qm_Cx p s m args meth c cc nL o ini D aC b B L xs) {off : Int} (hok : qm_ok qm_hd o nL ini rt cc (pc, np, .ifnonnull off, a, f, v) = true) (hx : qm_x (some (L, xs)) (pc, np, .ifnonnull off, a, f, v) (pc, ls, st, h) = some (.inl c'))  (k : qm_Wm p l e R s m args below meth c D aC b B n0 t0 nL Q c') : qm_Wm p l e R s m args below meth c D aC b B n0 t0 nL Q (pc, ls, st, h) := by
  obtain ⟨hex, hb, hml, hown, hts, hK, hX, hbB, hBs, hini⟩ := C0
  simp only [qm_ok, Bool.and_eq_true, decide_eq_true_eq] at hok
  obtain ⟨hdg, ht, hn⟩ := hok
  have hnp := qm_np hn
  have hdk := qm_dg hdg hnp
  simp only [qm_x, qm_nx] at hx
  split at hx
  · cases hx
    subst hnp
    intro H locs la hH hS hL
    exact lv_ifnonnull hex hb hdk ht (k H locs la hH hS hL)
  · cases hx
    subst hnp
    intro H locs la hH hS hL
    exact lv_ifnonnullN hex hb hdk (k H locs la hH hS hL)
  · cases hx

theorem qm_n_iaload (C0 : qm_Cx p s m args meth c cc nL o ini D aC b B L xs)  (hok : qm_ok qm_hd o nL ini rt cc (pc, np, .iaload, a, f, v) = true) (hx : qm_x (some (L, xs)) (pc, np, .iaload, a, f, v) (pc, ls, st, h) = some (.inl c'))  (k : qm_Wm p l e R s m args below meth c D aC b B n0 t0 nL Q c') : qm_Wm p l e R s m args below meth c D aC b B n0 t0 nL Q (pc, ls, st, h) := by
  obtain ⟨hex, hb, hml, hown, hts, hK, hX, hbB, hBs, hini⟩ := C0
  simp only [qm_ok, Bool.and_eq_true, decide_eq_true_eq] at hok
  obtain ⟨hdg, hn⟩ := hok
  have hnp := qm_np hn
  have hdk := qm_dg hdg hnp
  simp only [qm_x, qm_nx] at hx
  split at hx
  · rename_i i q r
    split at hx
    · rename_i n hq
      cases hi : qm_in i n with
      | false => simp [hi] at hx
      | true =>
        simp only [hi, cond_true] at hx
        cases hx
        subst hnp
        intro H locs la hH hS hL
        exact va_iald hex hb hK hH.2.1 q 0 (qm_w_get hq) rfl (qm_in_iff hi) hdk (k H locs la hH hS hL)
    · cases hx
  · rename_i i q r
    cases hi : qm_in i L with
    | false => simp [hi] at hx
    | true =>
      simp only [hi, cond_true] at hx
      cases hx
      subst hnp
      intro H locs la hH hS hL
      exact va_sld hex hb hX (Nat.lt_of_lt_of_le hbB hBs) (A := qm_A B) (fun z => absurd z (Nat.not_le.mpr hbB)) hS (qm_in_iff hi) hdk (k H locs la hH hS hL)
  · cases hx

theorem qm_n_laload (C0 : qm_Cx p s m args meth c cc nL o ini D aC b B L xs)  (hok : qm_ok qm_hd o nL ini rt cc (pc, np, .laload, a, f, v) = true) (hx : qm_x (some (L, xs)) (pc, np, .laload, a, f, v) (pc, ls, st, h) = some (.inl c'))  (k : qm_Wm p l e R s m args below meth c D aC b B n0 t0 nL Q c') : qm_Wm p l e R s m args below meth c D aC b B n0 t0 nL Q (pc, ls, st, h) := by
  obtain ⟨hex, hb, hml, hown, hts, hK, hX, hbB, hBs, hini⟩ := C0
  simp only [qm_ok, Bool.and_eq_true, decide_eq_true_eq] at hok
  obtain ⟨hdg, hn⟩ := hok
  have hnp := qm_np hn
  have hdk := qm_dg hdg hnp
  simp only [qm_x, qm_nx] at hx
  split at hx
  · rename_i i q r
    split at hx
    · rename_i n hq
      cases hi : qm_in i n with
      | false => simp [hi] at hx
      | true =>
        simp only [hi, cond_true] at hx
        cases hx
        subst hnp
        intro H locs la hH hS hL
        exact va_lald hex hb hK hH.2.1 q 3 (qm_w_get hq) rfl (qm_in_iff hi) hdk (k H locs la hH hS hL)
    · cases hx
  · cases hx

theorem qm_n_baload (C0 : qm_Cx p s m args meth c cc nL o ini D aC b B L xs)  (hok : qm_ok qm_hd o nL ini rt cc (pc, np, .baload, a, f, v) = true) (hx : qm_x (some (L, xs)) (pc, np, .baload, a, f, v) (pc, ls, st, h) = some (.inl c'))  (k : qm_Wm p l e R s m args below meth c D aC b B n0 t0 nL Q c') : qm_Wm p l e R s m args below meth c D aC b B n0 t0 nL Q (pc, ls, st, h) := by
  obtain ⟨hex, hb, hml, hown, hts, hK, hX, hbB, hBs, hini⟩ := C0
  simp only [qm_ok, Bool.and_eq_true, decide_eq_true_eq] at hok
  obtain ⟨hdg, hn⟩ := hok
  have hnp := qm_np hn
  have hdk := qm_dg hdg hnp
  simp only [qm_x, qm_nx] at hx
  split at hx
  · rename_i i q r
    split at hx
    · rename_i n hq
      cases hi : qm_in i n with
      | false => simp [hi] at hx
      | true =>
        simp only [hi, cond_true] at hx
        cases hx
        subst hnp
        intro H locs la hH hS hL
        exact va_bald hex hb hK hH.2.1 q 1 (qm_w_get hq) rfl (qm_in_iff hi) hdk (k H locs la hH hS hL)
    · rename_i n hq
      cases hi : qm_in i n with
      | false => simp [hi] at hx
      | true =>
        simp only [hi, cond_true] at hx
        cases hx
        subst hnp
        intro H locs la hH hS hL
        exact va_zald hex hb hK hH.2.1 q 2 (qm_w_get hq) rfl (qm_in_iff hi) hdk (k H locs la hH hS hL)
    · cases hx
  · cases hx

theorem qm_n_aaload (C0 : qm_Cx p s m args meth c cc nL o ini D aC b B L xs)  (hok : qm_ok qm_hd o nL ini rt cc (pc, np, .aaload, a, f, v) = true) (hx : qm_x (some (L, xs)) (pc, np, .aaload, a, f, v) (pc, ls, st, h) = some (.inl c'))  (k : qm_Wm p l e R s m args below meth c D aC b B n0 t0 nL Q c') : qm_Wm p l e R s m args below meth c D aC b B n0 t0 nL Q (pc, ls, st, h) := by
  obtain ⟨hex, hb, hml, hown, hts, hK, hX, hbB, hBs, hini⟩ := C0
  simp only [qm_ok, Bool.and_eq_true, decide_eq_true_eq] at hok
  obtain ⟨hdg, hn⟩ := hok
  have hnp := qm_np hn
  have hdk := qm_dg hdg hnp
  simp only [qm_x, qm_nx] at hx
  split at hx
  · rename_i i q r
    split at hx
    · rename_i n hq
      cases hi : qm_in i n with
      | false => simp [hi] at hx
      | true =>
        simp only [hi, cond_true] at hx
        cases hx
        subst hnp
        intro H locs la hH hS hL
        exact qm_r_aald hex hb hK hH hq (qm_in_iff hi) hdk (k H locs la hH hS hL)
    · cases hx
  · cases hx

theorem qm_n_iastore (C0 : qm_Cx p s m args meth c cc nL o ini D aC b B L xs)  (hok : qm_ok qm_hd o nL ini rt cc (pc, np, .iastore, a, f, v) = true) (hx : qm_x (some (L, xs)) (pc, np, .iastore, a, f, v) (pc, ls, st, h) = some (.inl c'))  (k : qm_Wm p l e R s m args below meth c D aC b B n0 t0 nL Q c') : qm_Wm p l e R s m args below meth c D aC b B n0 t0 nL Q (pc, ls, st, h) := by
  obtain ⟨hex, hb, hml, hown, hts, hK, hX, hbB, hBs, hini⟩ := C0
  simp only [qm_ok, Bool.and_eq_true, decide_eq_true_eq] at hok
  obtain ⟨hdg, hn⟩ := hok
  have hnp := qm_np hn
  have hdk := qm_dg hdg hnp
  simp only [qm_x, qm_nx] at hx
  split at hx
  · rename_i x i q r
    split at hx
    · rename_i n hq
      cases hi : qm_in i n with
      | false => simp [hi] at hx
      | true =>
        simp only [hi, cond_true] at hx
        cases hx
        subst hnp
        intro H locs la hH hS hL
        exact qm_r_iast hex hb hK hH hS hq (qm_in_iff hi) hdk (fun H1 locs1 hH1 hS1 => k H1 locs1 la hH1 hS1 hL)
    · cases hx
  · cases hx

theorem qm_n_bastore (C0 : qm_Cx p s m args meth c cc nL o ini D aC b B L xs)  (hok : qm_ok qm_hd o nL ini rt cc (pc, np, .bastore, a, f, v) = true) (hx : qm_x (some (L, xs)) (pc, np, .bastore, a, f, v) (pc, ls, st, h) = some (.inl c'))  (k : qm_Wm p l e R s m args below meth c D aC b B n0 t0 nL Q c') : qm_Wm p l e R s m args below meth c D aC b B n0 t0 nL Q (pc, ls, st, h) := by
  obtain ⟨hex, hb, hml, hown, hts, hK, hX, hbB, hBs, hini⟩ := C0
  simp only [qm_ok, Bool.and_eq_true, decide_eq_true_eq] at hok
  obtain ⟨hdg, hn⟩ := hok
  have hnp := qm_np hn
  have hdk := qm_dg hdg hnp
  simp only [qm_x, qm_nx] at hx
  split at hx
  · rename_i x i q r
    split at hx
    · rename_i n hq
      cases hi : qm_in i n with
      | false => simp [hi] at hx
      | true =>
        simp only [hi, cond_true] at hx
        cases hx
        subst hnp
        intro H locs la hH hS hL
        exact qm_r_bast hex hb hK hH hS hq (qm_in_iff hi) hdk (fun H1 locs1 hH1 hS1 => k H1 locs1 la hH1 hS1 hL)
    · rename_i n hq
      cases hi : qm_in i n with
      | false => simp [hi] at hx
      | true =>
        simp only [hi, cond_true] at hx
        cases hx
        subst hnp
        intro H locs la hH hS hL
        exact qm_r_zast hex hb hK hH hS hq (qm_in_iff hi) hdk (fun H1 locs1 hH1 hS1 => k H1 locs1 la hH1 hS1 hL)
    · cases hx
  · cases hx

theorem qm_n_lastore (C0 : qm_Cx p s m args meth c cc nL o ini D aC b B L xs)  (hok : qm_ok qm_hd o nL ini rt cc (pc, np, .lastore, a, f, v) = true) (hx : qm_x (some (L, xs)) (pc, np, .lastore, a, f, v) (pc, ls, st, h) = some (.inl c'))  (k : qm_Wm p l e R s m args below meth c D aC b B n0 t0 nL Q c') : qm_Wm p l e R s m args below meth c D aC b B n0 t0 nL Q (pc, ls, st, h) := by
  obtain ⟨hex, hb, hml, hown, hts, hK, hX, hbB, hBs, hini⟩ := C0
  simp only [qm_ok, Bool.and_eq_true, decide_eq_true_eq] at hok
  obtain ⟨hdg, hn⟩ := hok
  have hnp := qm_np hn
  have hdk := qm_dg hdg hnp
  simp only [qm_x, qm_nx] at hx
  split at hx
  · rename_i x i q r
    split at hx
    · rename_i n hq
      cases hi0 : qm_in i n && qm_w25 n (h.2.2.1 q i.toNatClampNeg) with
      | false =>
        rw [hi0, cond_false] at hx
        cases hx
      | true =>
        rw [hi0, cond_true] at hx
        rw [Bool.and_eq_true] at hi0
        have hi := hi0.1
        cases hx
        subst hnp
        intro H locs la hH hS hL
        exact qm_r_last hex hb hK hH hS hq (qm_in_iff hi) hdk (fun H1 locs1 hH1 hS1 => k H1 locs1 la hH1 hS1 hL)
    · cases hx
  · cases hx
end QMS
