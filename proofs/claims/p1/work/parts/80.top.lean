/-! the law's walk out of the small machine's run -/
def qm_h0 : qm_H := qm_fn ([], [], [], [])
def qm_Qf : Option Value → qm_H → Prop := fun v h => v = some (.int 1) ∧ h.1.length ≤ 600000 ∧ qm_tot h.1 ≤ 7302250
theorem qm_law_W {p : Program} {e : Env} {s : State} {m : MethodId} {below : List Frame} {meth : Method} {c : Code} (l : Launch) {b L : Nat} {xs : Nat → Int32} (C0 : lw_At p s m meth c b L xs) {d : Nat} (hd : d ≤ 1000) (hrun : qm_Ru (some (L, xs)) d cd_law (qm_ent 4 [.retAddr 0] qm_h0) qm_Qf) : W p l e room_1 s m #[Value.ref b] below meth c s.heap [] 0 0 (lw_Z below #[Value.ref b] s) (entryFrame m ([Value.ref b] : List Value).toArray 4) := by
  obtain ⟨hx, hcb, hrt, hml, hown, hts, hX, hbl, hlk, -⟩ := C0
  obtain ⟨n, r, h', hr, hr1, hl1, hl2⟩ := hrun
  subst hr1
  have hcls : ∀ ci : Nat, ∃ (q : ClassId × (Nat → Nat)), ∀ r : vw_C, qm_vc[ci]? = some r → u_Kn s r.1 r.2.1 r.2.2 q.1 q.2 := by
    intro ci
    cases hc : qm_vc[ci]? with
    | none => exact ⟨(m.cls, fun _ => 0), fun r h => by cases h⟩
    | some r =>
      have hk := qm_cls hc
      obtain ⟨cC, iS, hK⟩ := u_known hts hk.1 (hts _ hk.2.2.2.2.1)
      exact ⟨(cC, iS), fun r' h => by cases h; exact hK⟩
  obtain ⟨f, hf⟩ := Classical.axiomOfChoice hcls
  obtain ⟨cI, kI, mI, fI, hkI, hdI⟩ := Cond.arrayClass_spec (hts _ qm_w_ai)
  obtain ⟨cB, kB, mB, fB, hkB, hdB⟩ := Cond.arrayClass_spec (hts _ qm_w_ab)
  obtain ⟨cZ, kZ, mZ, fZ, hkZ, hdZ⟩ := Cond.arrayClass_spec (hts _ qm_w_az)
  obtain ⟨cJ, kJ, mJ, fJ, hkJ, hdJ⟩ := Cond.arrayClass_spec (hts _ qm_w_al)
  obtain ⟨mA, cA, kA, -, hkA, hdA, fA⟩ := qm_over (hts _ qm_w_ao)
  have hK : va_K (fun ci => (f ci).1, fun ci => (f ci).2) qm_vc (qm_tys (fun k => match k with
      | 0 => cI
      | 1 => cB
      | 2 => cZ
      | 3 => cJ
      | _ => cA)) s := by
    refine ⟨fun ci q hq => hf ci q hq, fun k q hk => ?_⟩
    match k, hk with
    | 0, hk => cases hk; exact ⟨fun N z => ⟨(fun k h => by cases h), kI, hkI, mI, hdI⟩, fI⟩
    | 1, hk => cases hk; exact ⟨fun N z => ⟨(fun k h => by cases h), kB, hkB, mB, hdB⟩, fB⟩
    | 2, hk => cases hk; exact ⟨fun N z => ⟨(fun k h => by cases h), kZ, hkZ, mZ, hdZ⟩, fZ⟩
    | 3, hk => cases hk; exact ⟨fun N z => ⟨(fun k h => by cases h), kJ, hkJ, mJ, hdJ⟩, fJ⟩
    | 4, hk => cases hk; exact ⟨fun N z => ⟨(fun k h => by cases h), kA, hkA, mA, hdA⟩, fA⟩
    | n + 5, hk => simp [qm_tys] at hk
  have how : qm_ow s := by
    intro w hw hu hg
    have h1 := hts w hw
    cases w with
    | methodLinkNest a i x y => exact va_Nw.of rfl h1
    | arrayOver ty =>
      simp only [Cond.before, Cond.holds, Cond.value] at h1 ⊢
      exact h1
    | _ => simp [qm_use, hg] at hu
  have hCx : qm_Cx p s m #[Value.ref b] meth c code 4 13 false (fun ci => (f ci).1, fun ci => (f ci).2) (fun k => match k with
      | 0 => cI
      | 1 => cB
      | 2 => cZ
      | 3 => cJ
      | _ => cA) b s.heap.size L xs := ⟨hx, hcb, hml, hown, fun w hw _ => hts w hw, hK, hX, hbl, Nat.le_refl _, fun z => by cases z⟩
  have hWm := qm_main l _ _ b s.heap.size L xs qm_F qm_F_ok qm_F_no n d p e room_1 s m #[Value.ref b] below meth c code 4 13 false 1 0 0 (lw_Z below #[Value.ref b] s) cd_law (qm_ent 4 [.retAddr 0] qm_h0) (some (.int 1)) h' hCx how ck_law hr ⟨by show d + 1 ≤ 2048; omega, by show 64 * (d + 1) ≤ 84000; omega⟩ ⟨Nat.zero_le _, Nat.zero_le _⟩ ⟨hl1, hl2⟩ (fun pc H locs la hdec hH hS => by
    refine va_forget (fun q hq => hS.2.2 q hq) ?_
    intro T hT X
    exact lw_ret hx hcb hrt hlk hdec.1 T hT (X.mono hl1 hl2))
  have hent := qm_LR_ent (b := b) (B := s.heap.size) (nL := 4) (as := [.retAddr 0]) (Nat.le_of_ble_eq_true rfl) qm_h0
  have := hWm s.heap [] _ ⟨rfl, fun k q hk => by simp [qm_w, qm_ent, qm_h0, qm_fn] at hk, fun k i _ => ⟨rfl, rfl, rfl⟩⟩ va_S.rf hent
  show W p l e room_1 s m #[Value.ref b] below meth c s.heap [] 0 0 (lw_Z below #[Value.ref b] s) (entryFrame m ((([.retAddr 0] : List Value).map (qm_cv b s.heap.size)).toArray) 4)
  rw [lg_entry_eq]
  exact this
