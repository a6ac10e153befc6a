/-! THE CLAIM OUT OF ONE WALK OF THE LAW'S BODY. Your part is whole_start (and what it stands on); all else here is the same for every law, but numbers. -/
noncomputable def R_law : String := "BoxQuayLaw"
noncomputable def lw_P (b : Addr) (xs : List Int32) (args : Array Value) (s : State) : Prop := args = #[.ref b] ∧ s.IntsAt b xs ∧ xs.length ≤ 3072 ∧ (Jvm.Cond.and given_1 narrow_1).before args s = true
noncomputable def lw_Q (_ : Array Value) (s : State) (o : Outcome) (t : State) : Prop := o = .returned (some (.int 1)) ∧ Framed s o t [] 600000 7302250
noncomputable def lw_Z (below : List Frame) (a : Array Value) (s : State) : State → Prop := fun t => ∃ o, t.status = .running ∧ Ended t below o ∧ lw_Q a s o t
/-- the law's own end, with 1 on the stack, nothing written that was there before, its room as the claim has it -/
theorem lw_ret {p : Program} {l : Launch} {e : Env} {s : State} {m : MethodId} {below : List Frame} {meth : Method} {c : Code} {b : Nat} (hx : p.tables.exec = Jvm.exec) (hb : c.code = code) (hr : meth.sig.returnType = ret) (hlocks : meth.locks = false) {pc : Nat} {H : Heap} {ls : Array Slot} (hdg : decode code pc = .ok (.ireturn, 1)) : W p l e room_1 s m #[Value.ref b] below meth c H [] 600000 7302250 (lw_Z below #[Value.ref b] s) (F0 m pc ls [.int 1]) := by
  intro T hT X
  obtain ⟨fs, hret, hrun, hended, hW, hframe⟩ := X.leave (v := some (.int 1)) (hlocks := hlocks) (fun h => by rw [hr] at h; cases h)
  have hmeth' : T.vm.method? m = some meth := X.method'
  refine ⟨T.setFrames fs, ?_, .returned (some (.int 1)), hrun, hended, rfl, ⟨_, rfl⟩, hW, hframe⟩
  jvm_step X.here [X.here.top, hx, hb, hdg, hmeth', hr, ret, narrow_b1]
  (try refine ⟨rfl, ?_⟩); (try refine ⟨rfl, ?_⟩)
  first | (intro acts; rw [hret _ acts rfl rfl rfl]) | rw [hret _ _ rfl rfl rfl]
  exact Steps.refl _
/-- what holds at the law's entry: the machine, the code, the tables' words (any of lw_tbl by 'hts w (by decide +kernel)'), the script of L ints xs at the cell b, what the Statement gives of the start (any of its parts by flat_of_before) -/
noncomputable def lw_At (p : Program) (s : State) (m : MethodId) (meth : Method) (c : Code) (b L : Nat) (xs : Nat → Int32) : Prop :=
  p.tables.exec = Jvm.exec ∧ c.code = code ∧ meth.sig.returnType = ret ∧ c.maxLocals = 4 ∧ s.vm.findClass R_law = some m.cls ∧ (∀ w ∈ lw_tbl, w.before #[Value.ref b] s = true) ∧ va_X b L xs s s.heap ∧ b < s.heap.size ∧ meth.locks = false ∧ (Jvm.Cond.and given_1 narrow_1).before #[Value.ref b] s = true
/-- the words of the texts lie in the machine as the statement has them -/
theorem qs_elm : ∀ j, j < 129 → Cond.eq (.elem (.field (.string "BoxQuay$Tokens" 64) "java/lang/String" "value" "[B") (.int (Int32.ofNat j))) (.int (qk_bytes.getD j 0)) ∈ flatC (Jvm.Cond.and given_1 narrow_1) := by decide +kernel
theorem qs_sw {s : State} {b : Nat} (hts : ∀ w ∈ lw_tbl, w.before #[Value.ref b] s = true) (hgv : (Jvm.Cond.and given_1 narrow_1).before #[Value.ref b] s = true) : qm_sw s.heap.size s := by
  have hs := flat_of_before _ hgv
  have hA : ∀ a : Nat, a < s.heap.size → ¬ qm_A s.heap.size a := fun a h z => by
    have z : s.heap.size ≤ a := z
    omega
  have hone : ∀ i : Nat, i < 1 → i = 0 := fun i h => by omega
  obtain ⟨adK, adV, h1, h2⟩ := vk_Sof (args := #[Value.ref b]) (s := s) (N := 1) (tm := fun _ => .string "BoxQuay$Tokens" 64) (len := [129]) (byt := [qk_bytes]) (A := qm_A s.heap.size) (fun i hi => by rw [hone i hi]; decide) (fun i hi => hs _ (by decide +kernel)) (fun i hi => hs _ (by decide +kernel)) (fun i hi => hs _ (by decide +kernel)) (fun i hi => by rw [hone i hi]; exact hs _ (by decide +kernel)) (fun i hi j hj => by rw [hone i hi] at hj ⊢; exact hs _ (qs_elm j hj)) (fun i j hi hj hij => absurd ((hone i hi).trans (hone j hj).symm) hij) hA
  exact ⟨adK, adV, h1, vk_R.of (hts _ (qm_at_mem (q := 2102) (by decide +kernel))) (h2 0 (by omega)), va_Zof (hts _ (qm_at_mem (q := 2112) (by decide +kernel))) (hts _ (qm_at_mem (q := 14) (by decide +kernel))) (va_eqi (hs _ (by decide +kernel))) hA, va_Zqof (hts _ (qm_at_mem (q := 2128) (by decide +kernel))) (hts _ (qm_at_mem (q := 16) (by decide +kernel))) (hs _ (by decide +kernel)) hA⟩
theorem qm_law_W {p : Program} {e : Env} {s : State} {m : MethodId} {below : List Frame} {meth : Method} {c : Code} (l : Launch) {b L : Nat} {xs : Nat → Int32} (C0 : lw_At p s m meth c b L xs) {d : Nat} (hd : d ≤ 1000) (hrun : qm_Ru (some (L, xs)) d cd_law (qm_ent 4 [.retAddr 0] qm_h0) qm_Qf) : W p l e room_1 s m #[Value.ref b] below meth c s.heap [] 0 0 (lw_Z below #[Value.ref b] s) (entryFrame m ([Value.ref b] : List Value).toArray 4) := by
  obtain ⟨hx, hcb, hrt, hml, hown, hts, hX, hbl, hlk, hgv⟩ := C0
  obtain ⟨n, r, h', hr, hr1, hl1, hl2⟩ := hrun
  subst hr1
  have hcls : ∀ ci : Nat, ∃ (q : ClassId × (Nat → Nat)), ∀ r : vw_C, qm_vc[ci]? = some r → u_Kn s r.1 r.2.1 r.2.2 q.1 q.2 := by
    intro ci
    cases hc : qm_vc[ci]? with
    | none => exact ⟨(m.cls, fun _ => 0), fun r h => by cases h⟩
    | some r =>
      have hk := qm_cls hc
      obtain ⟨cC, iS, hK⟩ := u_known hts hk.1 (hts _ hk.2.2.2.2.1)
      exact ⟨(cC, iS), fun r' h => by cases h; exact hK⟩
  obtain ⟨f, hf⟩ := Classical.axiomOfChoice hcls
  obtain ⟨cI, kI, mI, fI, hkI, hdI⟩ := Cond.arrayClass_spec (hts _ qm_w_ai)
  obtain ⟨cB, kB, mB, fB, hkB, hdB⟩ := Cond.arrayClass_spec (hts _ qm_w_ab)
  obtain ⟨cZ, kZ, mZ, fZ, hkZ, hdZ⟩ := Cond.arrayClass_spec (hts _ qm_w_az)
  obtain ⟨cJ, kJ, mJ, fJ, hkJ, hdJ⟩ := Cond.arrayClass_spec (hts _ qm_w_al)
  obtain ⟨mA, cA, kA, -, hkA, hdA, fA⟩ := qm_over (hts _ qm_w_ao)
  have hK : va_K (fun ci => (f ci).1, fun ci => (f ci).2) qm_vc (qm_tys (fun k => match k with
      | 0 => cI
      | 1 => cB
      | 2 => cZ
      | 3 => cJ
      | _ => cA)) s := by
    refine ⟨fun ci q hq => hf ci q hq, fun k q hk => ?_⟩
    match k, hk with
    | 0, hk => cases hk; exact ⟨fun N z => ⟨(fun k h => by cases h), kI, hkI, mI, hdI⟩, fI⟩
    | 1, hk => cases hk; exact ⟨fun N z => ⟨(fun k h => by cases h), kB, hkB, mB, hdB⟩, fB⟩
    | 2, hk => cases hk; exact ⟨fun N z => ⟨(fun k h => by cases h), kZ, hkZ, mZ, hdZ⟩, fZ⟩
    | 3, hk => cases hk; exact ⟨fun N z => ⟨(fun k h => by cases h), kJ, hkJ, mJ, hdJ⟩, fJ⟩
    | 4, hk => cases hk; exact ⟨fun N z => ⟨(fun k h => by cases h), kA, hkA, mA, hdA⟩, fA⟩
    | n + 5, hk => simp [qm_tys] at hk
  have how0 : qm_ow0 s := by
    intro w hw hu hg
    have h1 := hts w hw
    cases w with
    | methodLinkNest a i x y => exact va_Nw.of rfl h1
    | arrayOver ty =>
      simp only [Cond.before, Cond.holds, Cond.value] at h1 ⊢
      exact h1
    | _ => simp [qm_use, hg] at hu
  have how : qm_ow s.heap.size s := ⟨how0, qs_sw hts hgv⟩
  have hCx : qm_Cx p s m #[Value.ref b] meth c code 4 13 false (fun ci => (f ci).1, fun ci => (f ci).2) (fun k => match k with
      | 0 => cI
      | 1 => cB
      | 2 => cZ
      | 3 => cJ
      | _ => cA) b s.heap.size L xs := ⟨hx, hcb, hml, hown, fun w hw _ => hts w hw, hK, hX, hbl, Nat.le_refl _, fun z => by cases z⟩
  have hWm := qm_main l _ _ b s.heap.size L xs qm_F qm_F_ok qm_F_no (qk_kd l _ _ b s.heap.size L xs) n d p e room_1 s m #[Value.ref b] below meth c code 4 13 false 1 0 0 (lw_Z below #[Value.ref b] s) cd_law (qm_ent 4 [.retAddr 0] qm_h0) (some (.int 1)) h' hCx how ck_law hr ⟨by show d + 6 ≤ 2048; omega, by show 64 * (d + 6) ≤ 84000; omega⟩ ⟨Nat.zero_le _, Nat.zero_le _⟩ ⟨hl1, hl2⟩ (fun pc H locs la hdec hH hS => by
    refine va_forget (fun q hq => hS.2.2 q hq) ?_
    intro T hT X
    exact lw_ret hx hcb hrt hlk hdec.1 T hT (X.mono hl1 hl2))
  have hent := qm_LR_ent (b := b) (B := s.heap.size) (nL := 4) (as := [.retAddr 0]) (Nat.le_of_ble_eq_true rfl) qm_h0
  have := hWm s.heap [] _ ⟨rfl, fun k q hk => by simp [qm_w, qm_ent, qm_h0, qm_fn] at hk, fun k i _ => ⟨rfl, rfl, rfl⟩⟩ va_S.rf hent
  show W p l e room_1 s m #[Value.ref b] below meth c s.heap [] 0 0 (lw_Z below #[Value.ref b] s) (entryFrame m ((([.retAddr 0] : List Value).map (qm_cv b s.heap.size)).toArray) 4)
  rw [lg_entry_eq]
  exact this
theorem whole_start {p : Program} {e : Env} {s : State} {m : MethodId} {below : List Frame} {meth : Method} {c : Code} (l : Launch) {b L : Nat} {xs : Nat → Int32} (hL : L ≤ 3072) (C0 : lw_At p s m meth c b L xs) : W p l e room_1 s m #[Value.ref b] below meth c s.heap [] 0 0 (lw_Z below #[Value.ref b] s) (entryFrame m ([Value.ref b] : List Value).toArray 4) :=
  qm_law_W l C0 (d := 300) (by decide) (qm_law_run hL xs)
set_option maxHeartbeats 4000000 in
theorem lw_walk (l : Launch) (b : Addr) (xs : List Int32) : MetFree l x (headSpec (Jvm.Cond.code x code maxLocals ret :: tables_1) room_1) (lw_P b xs) (fun _ _ _ _ _ => True) lw_Q := by
  refine MetFree.of_bodyS (code := code) (maxLocals := maxLocals) (ret := ret) (by decide) ?_ ?_
  · intro args s m h hn
    obtain ⟨meth, c, h1, h2, h3, h4, h5, h6, -, -⟩ := Cond.code_spec hn (atoms_spec (ws := Jvm.Cond.code x code maxLocals ret :: tables_1) h _ List.mem_cons_self)
    exact ⟨meth, c, h1, h2, h3, h4, h5, h6⟩
  · intro p e s m args below meth c s₁ B hml0 hP _
    obtain ⟨rfl, hx, hbd, hgv⟩ := hP
    obtain ⟨scr, harrAt, hlist, hof, hsmall⟩ := hx
    obtain ⟨hcb, hkn, -, -⟩ := State.arrayAt?_spec harrAt
    have hown : s.vm.findClass R_law = some m.cls := findClass_of_methodNamed B.named
    have hts0 : ∀ c ∈ (Jvm.Cond.code x code maxLocals ret :: tables_1), c.before #[Value.ref b] s = true := atoms_spec (ws := Jvm.Cond.code x code maxLocals ret :: tables_1) B.pre
    have hts : ∀ w ∈ lw_tbl, w.before #[Value.ref b] s = true := k2_hts_sels lw_privs (fun w hw => hts0 w (List.mem_cons_of_mem _ hw)) lw_privs_ok
    have hml : c.maxLocals = 4 := B.maxLocals_eq (hts0 _ List.mem_cons_self)
    have X₀ : Stand p l e room_1 s m #[Value.ref b] below meth c s₁ [] 0 0 := Stand.of_body B
    have hh0 : s₁.heap = s.heap := by rw [B.state]; rfl
    have hsz : scr.slots.size = xs.length := by rw [← Array.length_toList, hlist, List.length_map]
    have hval : ∀ j : Nat, j < xs.length → scr.slots[j]? = some (.int (xs.getD j 0)) := fun j hj => by
      rw [← Array.getElem?_toList, hlist]
      simp [hj]
    have hbl : b < s.heap.size := (Array.getElem?_eq_some_iff.mp hcb).1
    have hX : va_X b xs.length (fun j => xs.getD j 0) s s.heap := ⟨scr, hcb, hof, hkn, hsz, hval⟩
    have K : W p l e room_1 s m #[Value.ref b] below meth c s₁.heap [] 0 0 (lw_Z below #[Value.ref b] s) (entryFrame m ([Value.ref b] : List Value).toArray 4) := by
      rw [hh0]
      exact whole_start l hbd ⟨B.exec, B.bytes, B.returns, hml, hown, hts, hX, hbl, B.notSynchronized, hgv⟩
    obtain ⟨t, a1, o, b1, b2, b3⟩ := K s₁ rfl X₀
    exact ⟨t, o, a1, b1, b2, b3⟩
theorem lw_pre_spec {args : Array Value} {s : State} (h : (Jvm.Cond.and given_1 narrow_1).before args s = true) (hr : rest_1_c.before args s = true) : ∃ (b : Addr) (xs : List Int32), lw_P b xs args s := by
  have hs := flat_of_before _ h
  have hq := flat_of_before _ hr
  have hc : (Cond.count 1).before args s = true := hs _ (by decide +kernel)
  have harr : (Cond.arrayOf (.arg 0) .int).before args s = true := hs _ (by decide +kernel)
  have hle : (Cond.le (.length (.arg 0)) (.int 3072)).before args s = true := hs _ (by decide +kernel)
  have hlen : (Cond.isInt (.length (.arg 0))).before args s = true := hq _ (by decide +kernel)
  have hall : (Cond.all (.arg 0) (.isInt (.elem (.arg 0) (.index 0)))).before args s = true := hq _ (by decide +kernel)
  obtain ⟨b, xs, hb, hx⟩ := State.ints_of_pre rfl harr hlen hall
  have hsm : xs.length < 2 ^ 31 := hx.choose_spec.2.2.2
  have hev : (Term.length (.arg 0)).eval args s none [] s = some (.int xs.length.toInt32) := hx.length_eval hb
  have hv := Cond.le_ints hev (show (Term.int 3072).eval args s none [] s = some (.int 3072) from rfl)
  have hd : xs.length.toInt32 ≤ 3072 := by
    simpa [Cond.before, Cond.holds, hv] using hle
  have hN : xs.length ≤ 3072 := (Int32.ofNat_le_ofNat hsm (by decide)).mp (show Int32.ofNat xs.length ≤ Int32.ofNat 3072 from hd)
  exact ⟨b, xs, Cond.one_arg hc (show args[0]? = some (.ref b) from hb), hx, hN, h⟩
theorem lw_comes (l : Launch) : Comes l x (Jvm.Cond.code x code maxLocals ret :: tables_1) room_1 (fun tb e args s => Calls_1 tb e args s ∧ rest_1 tb e args s ∧ Pre_1 tb e args s)
    (fun _ _ args s o t => lw_Q args s o t) := by
  intro p e ha hc hk s m args below hf hfit hheap happ hpre
  obtain ⟨b, xs, hP⟩ := lw_pre_spec hpre.2.2 hpre.2.1
  obtain ⟨k, o, h1, h2, h3, hQ⟩ := lw_walk l b xs p e ha hc hk s m args below hf ((Spec.applies_iff_loose hf).mp happ).1 hP trivial
  exact ⟨k, o, h1, h2, h3, hQ⟩
theorem lw_frame {s t : State} {o : Outcome} {args : Array Value} (h : Framed s o t [] 600000 7302250) :
    Framed s o t (fieldLocs frame_1_writes args s ++ arrayLocs frame_1_arrays args s ++ staticLocs frame_1_statics s) 600000 7302250 := h
theorem lw_limb (L : Cond) (hL : ∀ (args : Array Value) (s t : State), L.after args s (.returned (some (.int 1))) t = true) :
    ArmFor flags0 classFile x code maxLocals ret World_1 tables_1 room_1 Calls_1 rest_1 Pre_1
      (fun tb e a s o t => postC L tb e a s o t ∧ Framed s o t (fieldLocs frame_1_writes a s ++ arrayLocs frame_1_arrays a s ++ staticLocs frame_1_statics s) 600000 7302250) := by
  intro l _ _ _ p e ha hc hk s m args below hf hfit hheap happ hpre
  obtain ⟨k, o, h1, h2, h3, rfl, hF⟩ := lw_comes l p e ha hc hk s m args below hf hfit hheap happ hpre
  exact ⟨k, _, h1, h2, h3, hL args s _, lw_frame hF⟩
theorem i_vc : Claimed_1_1 ∧ Claimed_1_2 := ⟨lw_limb limb_1_1 (fun args s t => by simp [limb_1_1, Cond.after, Cond.holds, Cond.value]), lw_limb limb_1_2 (fun args s t => Cond.after_iff.mpr (by
  first | (rw [show limb_1_2 = Cond.eq .result (.int 1) from rfl, Cond.eq_ints (x := 1) (y := 1) rfl rfl]; simp; done) | (simp [limb_1_2, Cond.value, Term.eval]; done)))⟩
