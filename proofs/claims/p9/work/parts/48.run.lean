/-! branches, answers, calls; the run -/
def qm_dec (cc : ByteArray) (rt pc : Nat) (r : Option Value) : Prop := match r with
  | none => decode cc pc = .ok (.return_, 1) ∧ rt = 3
  | some (.int x) => decode cc pc = .ok (.ireturn, 1) ∧ (rt = 0 ∨ (rt = 1 ∧ (x = 0 ∨ x = 1)))
  | some (.long _) => decode cc pc = .ok (.lreturn, 1) ∧ rt = 2
  | _ => False
section QMB
variable {p : Program} {l : Launch} {e : Env} {R : Room} {s : State} {m : MethodId} {args : Array Value} {below : List Frame} {meth : Method} {c : Code} {Q : State → Prop}
variable {cc : ByteArray} {nL o rt : Nat} {ini : Bool} {D : va_G} {aC : Nat → ClassId} {b B L n0 t0 : Nat} {xs : Nat → Int32} {pc np a f : Nat} {v : Value} {ls st : List Value} {h : qm_H} {c1 c2 : qm_C} {bb : Bool}
theorem qm_b_if (C0 : qm_Cx p s m args meth c cc nL o ini D aC b B L xs) {q : ClassFile.Cond} {off : Int} (hok : qm_ok qm_hd o nL ini rt cc (pc, np, .ifCond q off, a, f, v) = true) (hx : qm_x (some (L, xs)) (pc, np, .ifCond q off, a, f, v) (pc, ls, st, h) = some (.inr (.inl (bb, c1, c2))))
    (k1 : bb = true → qm_Wm p l e R s m args below meth c D aC b B n0 t0 nL Q c1) (k2 : bb = false → qm_Wm p l e R s m args below meth c D aC b B n0 t0 nL Q c2) : qm_Wm p l e R s m args below meth c D aC b B n0 t0 nL Q (pc, ls, st, h) := by
  obtain ⟨hex, hb, hml, hown, hts, hK, hX, hbB, hBs, hini⟩ := C0
  simp only [qm_ok, Bool.and_eq_true, decide_eq_true_eq] at hok
  obtain ⟨hdg, ht, hn⟩ := hok
  have hnp := qm_np hn
  have hdk := qm_dg hdg hnp
  simp only [qm_x, qm_br] at hx
  split at hx
  · rename_i x r
    cases hx
    subst hnp
    intro H locs la hH hS hL
    have k1 := fun z => k1 z H locs la hH hS hL
    have k2 := fun z => k2 z H locs la hH hS hL
    cases q with
    | eq => exact lv_if_eq hex hb hdk ht (fun z => k1 (decide_eq_true z)) (fun z => k2 (decide_eq_false z))
    | ne => exact lv_if_ne hex hb hdk ht (fun z => k1 (decide_eq_true z)) (fun z => k2 (decide_eq_false (fun y => y z)))
    | lt => exact lv_if_lt hex hb hdk ht (fun z => k1 (decide_eq_true z)) (fun z => k2 (decide_eq_false z))
    | ge => exact lv_if_ge hex hb hdk ht (fun z => k1 (decide_eq_true z)) (fun z => k2 (decide_eq_false z))
    | gt => exact lv_if_gt hex hb hdk ht (fun z => k1 (decide_eq_true z)) (fun z => k2 (decide_eq_false z))
    | le => exact lv_if_le hex hb hdk ht (fun z => k1 (decide_eq_true z)) (fun z => k2 (decide_eq_false z))
  · cases hx
theorem qm_b_icmp (C0 : qm_Cx p s m args meth c cc nL o ini D aC b B L xs) {q : ClassFile.Cond} {off : Int} (hok : qm_ok qm_hd o nL ini rt cc (pc, np, .if_icmp q off, a, f, v) = true) (hx : qm_x (some (L, xs)) (pc, np, .if_icmp q off, a, f, v) (pc, ls, st, h) = some (.inr (.inl (bb, c1, c2))))
    (k1 : bb = true → qm_Wm p l e R s m args below meth c D aC b B n0 t0 nL Q c1) (k2 : bb = false → qm_Wm p l e R s m args below meth c D aC b B n0 t0 nL Q c2) : qm_Wm p l e R s m args below meth c D aC b B n0 t0 nL Q (pc, ls, st, h) := by
  obtain ⟨hex, hb, hml, hown, hts, hK, hX, hbB, hBs, hini⟩ := C0
  simp only [qm_ok, Bool.and_eq_true, decide_eq_true_eq] at hok
  obtain ⟨hdg, ht, hn⟩ := hok
  have hnp := qm_np hn
  have hdk := qm_dg hdg hnp
  simp only [qm_x, qm_br] at hx
  split at hx
  · rename_i y x r
    cases hx
    subst hnp
    intro H locs la hH hS hL
    have k1 := fun z => k1 z H locs la hH hS hL
    have k2 := fun z => k2 z H locs la hH hS hL
    cases q with
    | eq => exact lv_icmp_eq hex hb hdk ht (fun z => k1 (decide_eq_true z)) (fun z => k2 (decide_eq_false z))
    | ne => exact lv_icmp_ne hex hb hdk ht (fun z => k1 (decide_eq_true z)) (fun z => k2 (decide_eq_false (fun y => y z)))
    | lt => exact lv_icmp_lt hex hb hdk ht (fun z => k1 (decide_eq_true z)) (fun z => k2 (decide_eq_false z))
    | ge => exact lv_icmp_ge hex hb hdk ht (fun z => k1 (decide_eq_true z)) (fun z => k2 (decide_eq_false z))
    | gt => exact lv_icmp_gt hex hb hdk ht (fun z => k1 (decide_eq_true z)) (fun z => k2 (decide_eq_false z))
    | le => exact lv_icmp_le hex hb hdk ht (fun z => k1 (decide_eq_true z)) (fun z => k2 (decide_eq_false z))
  · cases hx
end QMB
