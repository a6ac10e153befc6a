/-! calls -/
def qm_gw : List Cond := lw_tbl.filter goodWord
def qm_ws (e : qm_Hd) : List Cond := .code e.2.1 e.2.2.1 e.2.2.2.1 e.2.2.2.2.1 :: qm_gw
/-- the words that hold on by laws of their own -/
def qm_ow0 (U : State) : Prop := ∀ w ∈ lw_tbl, qm_use w = true → goodWord w = false → w.before #[] U = true
theorem qm_ow0.same {u U : State} (h : u.vm = U.vm) (hw : qm_ow0 u) : qm_ow0 U := by
  intro w hm hu hg
  have h1 := hw w hm hu hg
  cases w with
  | methodLinkNest a i x y => exact va_Nw.same rfl h h1
  | arrayOver ty =>
    simp only [Cond.before, Cond.holds, Cond.value] at h1 ⊢
    rw [← h]
    exact h1
  | _ => simp [qm_use, hg] at hu
theorem qm_ow0.warm {s U : State} (hW : s.WarmedH U.vm) (hw : qm_ow0 s) : qm_ow0 U := by
  intro w hm hu hg
  have h1 := hw w hm hu hg
  cases w with
  | methodLinkNest a i x y => exact va_Nw.warmM hW h1
  | arrayOver ty =>
    have h2 : (Cond.arrayOver ty).before #[] (s.setVm U.vm) = true := by rw [Cond.arrayOver_setVmC hW.alike]; exact h1
    simp only [Cond.before, Cond.holds, Cond.value] at h2 ⊢
    exact h2
  | _ => simp [qm_use, hg] at hu
theorem qm_ow0.use {U : State} {A : Array Value} (hw : qm_ow0 U) {w : Cond} (hm : w ∈ lw_tbl) (hu : qm_use w = true) (hg : goodWord w = false) : w.before A U = true := by
  have h1 := hw w hm hu hg
  cases w with
  | methodLinkNest a i x y => exact va_Nw.use rfl h1
  | arrayOver ty =>
    simp only [Cond.before, Cond.holds, Cond.value] at h1 ⊢
    exact h1
  | _ => simp [qm_use, hg] at hu
/-- the words of the texts, as the class's constant has them: where the string and its bytes lie -/
def qk_text : String := "bays list trim bend lift plug pair place if or and not sort weight port bay row tier plugged osort oweight oport obay orow otier "
def qk_bytes : List Int32 := [98, 97, 121, 115, 32, 108, 105, 115, 116, 32, 116, 114, 105, 109, 32, 98, 101, 110, 100, 32, 108, 105, 102, 116, 32, 112, 108, 117, 103, 32, 112, 97, 105, 114, 32, 112, 108, 97, 99, 101, 32, 105, 102, 32, 111, 114, 32, 97, 110, 100, 32, 110, 111, 116, 32, 115, 111, 114, 116, 32, 119, 101, 105, 103, 104, 116, 32, 112, 111, 114, 116, 32, 98, 97, 121, 32, 114, 111, 119, 32, 116, 105, 101, 114, 32, 112, 108, 117, 103, 103, 101, 100, 32, 111, 115, 111, 114, 116, 32, 111, 119, 101, 105, 103, 104, 116, 32, 111, 112, 111, 114, 116, 32, 111, 98, 97, 121, 32, 111, 114, 111, 119, 32, 111, 116, 105, 101, 114, 32]
def qm_sw (B : Nat) (U : State) : Prop := ∃ (adK adV : Nat → Nat), vk_S 1 [129] [qk_bytes] adK adV (qm_A B) U U.heap ∧ vk_R "BoxQuay$Tokens" 64 qk_text (adK 0) U ∧ va_Z "java/lang/String" "COMPACT_STRINGS" "Z" (.int 1) (qm_A B) U U.heap ∧ va_Zq "jdk/internal/util/Preconditions" "SIOOBE_FORMATTER" "Ljava/util/function/BiFunction;" (qm_A B) U U.heap
def qm_ow (B : Nat) (U : State) : Prop := qm_ow0 U ∧ qm_sw B U
theorem qm_ow.same {B : Nat} {u U : State} (h : u.vm = U.vm) (hh : U.heap = u.heap) (hw : qm_ow B u) : qm_ow B U := by
  obtain ⟨h0, adK, adV, h1, h2, h3, h4⟩ := hw
  have ha : u.vm.Alike U.vm := by rw [← h]; exact Vm.Alike.refl u.vm
  refine ⟨h0.same h, adK, adV, ?_, h2.same h.symm, ?_, ?_⟩
  · rw [hh]; exact h1.moved ha
  · rw [hh]; exact h3.moved ha
  · rw [hh]; exact h4.moved ha
theorem qm_ow.warm {B : Nat} {s U : State} {H : Heap} {locs : List Loc} (hw : qm_ow B s) (hW : s.WarmedH U.vm) (hU : U.heap = H) (hS : va_S (qm_A B) s.heap H locs) : qm_ow B U := by
  obtain ⟨h0, adK, adV, h1, h2, h3, h4⟩ := hw
  refine ⟨qm_ow0.warm hW h0, adK, adV, ?_, h2.warm hW, ?_, ?_⟩
  · rw [hU]; exact (h1.moved hW.alike).kept hS.2.1
  · rw [hU]; exact (h3.moved hW.alike).kept hS.2.1
  · rw [hU]; exact (h4.moved hW.alike).kept hS.2.1
theorem qm_ow.use {B : Nat} {U : State} {A : Array Value} (hw : qm_ow B U) {w : Cond} (hm : w ∈ lw_tbl) (hu : qm_use w = true) (hg : goodWord w = false) : w.before A U = true := hw.1.use hm hu hg
/-- a method by its body; its class may have natives, the method itself is none -/
theorem qm_ofW {l : Launch} {y : MethodName} {ws ws' : List Cond} {rm : Room} {Pc : Array Value → State → Prop} {Qc : Array Value → State → Outcome → State → Prop} {mc ms : Nat} {free : Addr → Prop} {cc : ByteArray} {maxL : Nat} {ret : Option FieldType} (hy : plainFor y = true) (hw : ws = Cond.code y cc maxL ret :: ws')
    (body : ∀ p e s m args below meth c s₁, BodyLoose p l y (headSpec ws rm) cc maxL ret e s m args below meth c s₁ → c.maxLocals = maxL → Pc args s → W p l e (headSpec ws rm).room s m args below meth c s.heap [] 0 0 (MQ below Qc args s mc ms free) (entryFrame m args maxL)) : Met l y ws rm Pc Qc mc ms free := by
  refine MetFree.of_bodySF (code := cc) (maxLocals := maxL) (ret := ret) hy (fun args s m h hn => ?_) (fun p e s m args below meth c s₁ B hml hP _ => ?_)
  · obtain ⟨meth, c, h1, h2, h3, h4, h5, h6, -, -⟩ := Cond.code_spec hn (atoms_spec (ws := ws) h _ (by rw [hw]; exact List.mem_cons_self))
    exact ⟨meth, c, h1, h2, h3, h4, h5, h6⟩
  · have hh0 : s₁.heap = s.heap := by rw [B.state]; rfl
    obtain ⟨t, a1, o, b1, b2, b3⟩ := body p e s m args below meth c s₁ B hml hP s₁ hh0 (Stand.of_body B)
    exact ⟨t, o, a1, b1, b2, ⟨b3.1, b3.2⟩⟩
def qm_Pc (D : va_G) (aC : Nat → ClassId) (b B L : Nat) (xs : Nat → Int32) (as : List Value) (h : qm_H) : Array Value → State → Prop := fun v U =>
  v = (as.map (qm_cv b B)).toArray ∧ qm_HI D aC b B h U.heap ∧ va_K D qm_vc (qm_tys aC) U ∧ va_X b L xs U U.heap ∧ (b < B ∧ B ≤ U.heap.size) ∧ qm_ow B U
def qm_Qc (D : va_G) (aC : Nat → ClassId) (b B : Nat) (r : Option Value) (h' : qm_H) : Array Value → State → Outcome → State → Prop := fun _ st oc t =>
  oc = .returned (r.map (qm_cv b B)) ∧ qm_HI D aC b B h' t.heap ∧ va_F (qm_A B) st t
def qm_rm (d mc ms : Nat) : Room := { frames := d + 6, cells := mc, slots := ms, locals := 64 * (d + 6) }
theorem qm_Pc_blind {D : va_G} {aC : Nat → ClassId} {b B L : Nat} {xs : Nat → Int32} {as : List Value} {h : qm_H} : FrameBlind (qm_Pc D aC b B L xs as h) := fun a U g mk q =>
  ⟨q.1, q.2.1, va_K.moved (u := U) (U := U.calling g mk a) (Vm.Alike.refl U.vm) q.2.2.1, va_X.moved (u := U) (U := U.calling g mk a) (Vm.Alike.refl U.vm) q.2.2.2.1, q.2.2.2.2.1, qm_ow.same (u := U) (U := U.calling g mk a) rfl rfl q.2.2.2.2.2⟩
section QMX
variable {p : Program} {l : Launch} {e : Env} {R : Room} {s : State} {m : MethodId} {args : Array Value} {below : List Frame} {meth : Method} {c : Code} {H : Heap} {locs : List Loc} {cells slots : Nat} {Q : State → Prop}
variable {cc : ByteArray} {nL o rt : Nat} {ini : Bool} {D : va_G} {aC : Nat → ClassId} {b B L n0 t0 : Nat} {xs : Nat → Int32} {pc np a f : Nat} {v : Value} {ls st : List Value} {h : qm_H} {c1 : qm_C}
theorem qm_callW {la : Array Slot} {st0 rest : List Value} {mc ms : Nat} {a0 : Array Value} {r : Option Value} {h1 : qm_H} (hr : va_Run p l e R s m args below meth c H locs cells slots mc ms (F0 m pc la st0) rest (qm_Qc D aC b B r h1 a0) (qm_A B)) (hS : va_S (qm_A B) s.heap H locs)
    (kk : ∀ (H1 : Heap) (locs1 : List Loc), qm_HI D aC b B h1 H1 → va_S (qm_A B) s.heap H1 locs1 → W p l e R s m args below meth c H1 locs1 (cells + mc) (slots + ms) Q (F0 m (pc + 3) la ((r.map (qm_cv b B)).toList ++ rest))) : W p l e R s m args below meth c H locs cells slots Q (F0 m pc la st0) := by
  intro T hT X
  obtain ⟨v, st₀, t, T', L, h0, X', hL, e1, e2, ⟨hv, hh, hz, hk⟩, st⟩ := hr T hT X
  cases hv
  rw [h0] at hz hk
  obtain ⟨t2, a1, b1⟩ := kk T'.heap (locs ++ L) (by rw [e1]; exact hh)
    ⟨Nat.le_trans hS.1 (by rw [e1]; exact hz), fun q h1 h2 => by rw [e1, hk q (Nat.lt_of_lt_of_le h1 hS.1) h2]; exact hS.2.1 q h1 h2, fun q hq => by
      rcases List.mem_append.mp hq with h | h
      · exact hS.2.2 q h
      · exact hL q h⟩ T' rfl X'
  exact ⟨t2, st t2 a1, b1⟩
theorem qm_call_ok (C0 : qm_Cx p s m args meth c cc nL o ini D aC b B L xs) (how : qm_ow B s) {ins : Instr} (hok : qm_ok qm_hd o nL ini rt cc (pc, np, ins, a, f, v) = true) {j : Nat} {as : List Value} (hx : qm_x (some (L, xs)) (pc, np, ins, a, f, v) (pc, ls, st, h) = some (.inr (.inr (.inr (j, as, c1))))) {hd : qm_Hd} (hhd : qm_hd[j]? = some hd) {d : Nat} {r : Option Value} {h1 : qm_H}
    (hM : Met l hd.2.1 (qm_ws hd) (qm_rm d (h1.1.length - h.1.length) (qm_tot h1.1 - qm_tot h.1)) (qm_Pc D aC b B L xs as h) (qm_Qc D aC b B r h1) (h1.1.length - h.1.length) (qm_tot h1.1 - qm_tot h.1) (qm_A B)) (hgrow : ∃ t, h1.1 = h.1 ++ t) (h0 : n0 ≤ h.1.length ∧ t0 ≤ qm_tot h.1) (hroom : h1.1.length - n0 ≤ R.cells ∧ qm_tot h1.1 - t0 ≤ R.slots) (hR : d + 7 ≤ R.frames ∧ 64 * (d + 7) ≤ R.locals)
    (k : qm_Wm p l e R s m args below meth c D aC b B n0 t0 nL Q (c1.1, c1.2.1, r.toList ++ c1.2.2.1, h1)) : qm_Wm p l e R s m args below meth c D aC b B n0 t0 nL Q (pc, ls, st, h) := by
  have hfact := (qm_x_fact (some (L, xs)) pc np a f ins v (pc, ls, st, h) hx).1
  obtain ⟨hex, hb, hml, hown, hts, hK, hX, hbB, hBs, hini⟩ := C0
  obtain ⟨w1, w2, w3, w4, w5, w6, w7, w8, w9, w10⟩ := qm_hds hhd
  have hlen : h.1.length ≤ h1.1.length ∧ qm_tot h.1 ≤ qm_tot h1.1 := by
    obtain ⟨t, ht⟩ := hgrow
    rw [ht, qm_tot_push]
    simp
  have hws : ∀ w ∈ qm_ws hd, ∀ (a' : Array Value) (U : State), s.WarmedH U.vm → w.before a' U = true := by
    intro w hw a' U hW
    rcases List.mem_cons.mp hw with rfl | hw
    · exact word_at hW (good_of_word rfl) (hts _ w1 rfl)
    · obtain ⟨g1, g2⟩ := List.mem_filter.mp hw
      exact word_at hW (good_of_word g2) (hts w g1 (by simp [qm_use, g2]))
  have hcode : (Cond.code hd.2.1 hd.2.2.1 hd.2.2.2.1 hd.2.2.2.2.1).before args s = true := hts _ w1 rfl
  have hfr : (qm_rm d (h1.1.length - h.1.length) (qm_tot h1.1 - qm_tot h.1)).frames + 1 ≤ R.frames := by show d + 6 + 1 ≤ _; omega
  have hlo : 8 + (hd.2.2.2.1 + 11) + (qm_rm d (h1.1.length - h.1.length) (qm_tot h1.1 - qm_tot h.1)).locals ≤ R.locals := by show 8 + (hd.2.2.2.1 + 11) + 64 * (d + 6) ≤ _; omega
  have hpar : ∀ sig, parseMethodDescriptor hd.2.1.desc = some sig → hd.2.2.2.2.2.1 = sig.parameters.length := by
    intro sig hs
    rw [hs] at w7
    exact (Option.some.inj w7).symm
  have hsum : ∀ {H : Heap} {locs : List Loc} {la : Array Slot} {rest0 : List Value} {st0 : List Value} {a0 : Array Value} {qc : qm_C}, qc = c1 → qc.1 = pc + 3 → qc.2.1 = ls → qc.2.2.1 = rest0 → qm_LR b B nL ls la → va_S (qm_A B) s.heap H locs →
      va_Run p l e R s m args below meth c H locs (h.1.length - n0) (qm_tot h.1 - t0) (h1.1.length - h.1.length) (qm_tot h1.1 - qm_tot h.1) (F0 m pc la st0) (rest0.map (qm_cv b B)) (qm_Qc D aC b B r h1 a0) (qm_A B) → W p l e R s m args below meth c H locs (h.1.length - n0) (qm_tot h.1 - t0) Q (F0 m pc la st0) := by
    intro H locs la rest0 st0 a0 qc e0 e1 e2 e3 hL hS hr
    refine qm_callW hr hS (fun H1 locs1 hH1 hS1 => ?_)
    subst e0
    have := k H1 locs1 la hH1 hS1 (by show qm_LR b B nL qc.2.1 la; rw [e2]; exact hL)
    dsimp only at this
    rw [e1, e3] at this
    have ec : h1.1.length - n0 = h.1.length - n0 + (h1.1.length - h.1.length) := by omega
    have et : qm_tot h1.1 - t0 = qm_tot h.1 - t0 + (qm_tot h1.1 - qm_tot h.1) := by omega
    rw [ec, et, List.map_append] at this
    have er : (r.map (qm_cv b B)).toList = r.toList.map (qm_cv b B) := by cases r <;> rfl
    rw [er]
    exact this
  have hcf : h.1.length - n0 + (h1.1.length - h.1.length) ≤ R.cells ∧ qm_tot h.1 - t0 + (qm_tot h1.1 - qm_tot h.1) ≤ R.slots := by omega
  cases ins with
  | invokevirtual i =>
    simp only [qm_ok, Bool.and_eq_true, decide_eq_true_eq] at hok
    obtain ⟨hdg, hok, hn⟩ := hok
    have hnp := qm_np hn
    have hdk := qm_dg hdg hnp
    simp only [qm_x, qm_cl] at hx
    split at hx
    · rename_i q r0 hdr
      split at hx
      · rename_i z ci hq
        cases hc8 : Nat.beq z.1 (ci + 5) && Nat.ble (qm_cat r0) 8 with
        | false => simp only [hc8, cond_false] at hx; cases hx
        | true =>
          simp only [hc8, cond_true] at hx
          rw [Bool.and_eq_true] at hc8
          cases hx
          split at hok
          · rename_i q2 e2 hlk he2
            rw [hhd] at he2
            cases he2
            simp only [Bool.and_eq_true, Bool.not_eq_true', decide_eq_true_eq] at hok
            obtain ⟨⟨g1, g2⟩, ⟨g3, g4⟩, g5, g6⟩ := hok
            cases g5
            have g1 := Nat.eq_of_beq_eq_true g1
            have g2 := Nat.eq_of_beq_eq_true g2
            have g3 := Nat.eq_of_beq_eq_true g3
            have hlk : qm_lk qm_ml o i = some (q2.1, q2.2) := hlk
            rw [g1] at hlk
            have hlink : Cond.methodLink (qm_cn o) i hd.2.1 ∈ lw_tbl := by
              rcases qm_ml_use hlk hhd with ⟨-, z⟩ | ⟨z, -⟩
              · exact z
              · exact absurd g2 z
            have hz : h.1[q]? = some (hd.1 + 5, z.2) := by rw [hq, ← Nat.eq_of_beq_eq_true hc8.1]
            have hcat : qm_cat r0 ≤ 8 := Nat.le_of_ble_eq_true hc8.2
            have hfl : (st.take f).length = f := by
              have : f < st.length := by
                rcases Nat.lt_or_ge f st.length with y | y
                · exact y
                · rw [List.drop_eq_nil_of_le y] at hdr
                  cases hdr
              simp
              omega
            subst hnp
            intro H locs la hH hS hL
            obtain ⟨vr, hvr, -⟩ := hH.2.1 q _ (qm_w_get (aC := aC) (b := b) (B := B) hz)
            have hvr : qm_vc[hd.1]? = some vr := hvr
            have hrecv := va_recv hK hH.2.1 hvr (qm_w_get (aC := aC) (b := b) (B := B) hz)
            rw [← (qm_cls hvr).2.2.2.2.2.2.2, ← w6] at hrecv
            have hstk : st.map (qm_cv b B) = (((st.take f).reverse.map (qm_cv b B)).reverse) ++ .ref (B + q) :: r0.map (qm_cv b B) := by
              rw [← List.map_reverse, List.reverse_reverse]
              conv => lhs; rw [← List.take_append_drop f st, hdr]
              rw [List.map_append]
              rfl
            refine hsum (qc := (pc + 3, ls, r0, h)) rfl rfl rfl rfl hL hS (va_runV (C := hd.2.1.cls) (As := (st.take f).reverse.map (qm_cv b B)) (rest := r0.map (qm_cv b B)) (Ts := []) ⟨hex, hb, hml, hown, fun w hw => absurd hw List.not_mem_nil⟩ hM
              ⟨⟨rfl, rfl, hfr, hlo, hws, List.mem_cons_self, hcode, hts _ w5 rfl, w8, hpar, hts _ hlink rfl⟩, hts _ (w3 g4) rfl, hts _ (w4 g4 g6) rfl⟩
              ⟨qm_Pc_blind, hrecv, fun U hU hW => ⟨by rw [List.map_cons]; rfl, by rw [hU]; exact hH, va_K.moved hW.alike hK, ?_, ⟨hbB, by rw [hU]; exact Nat.le_trans hBs hS.1⟩, how.warm hW hU hS⟩⟩ rfl (by rw [List.length_map, List.length_reverse, hfl, g3]) hL.2.1 hstk ?_ hdk hcf)
            · rw [hU]
              exact (va_X.moved hW.alike hX).kept (hS.2.1 b (Nat.lt_of_lt_of_le hbB hBs) (fun y => absurd y (Nat.not_le.mpr hbB)))
            · show 2 * 0 + _ ≤ 8
              rw [qm_cat_cv]
              omega
          · cases hok
      · cases hx
    · cases hx
  | invokespecial i =>
    simp only [qm_ok, Bool.and_eq_true, decide_eq_true_eq] at hok
    obtain ⟨hdg, hok, hn⟩ := hok
    have hnp := qm_np hn
    have hdk := qm_dg hdg hnp
    simp only [qm_x, qm_cl, qm_nx] at hx
    split at hx
    · rename_i q r0 hdr
      split at hx
      · cases hc8 : Nat.ble (qm_cat r0) 8 with
        | false => simp only [hc8, cond_false] at hx; cases hx
        | true => simp only [hc8, cond_true] at hx; cases hx
      · rename_i hvn
        cases hc8 : Nat.ble (qm_cat r0) 8 with
        | false => simp only [hc8, cond_false] at hx; cases hx
        | true =>
          simp only [hc8, cond_true] at hx
          cases hx
          split at hok
          · exact absurd rfl hvn
          · split at hok
            · rename_i q2 e2 hlk he2
              rw [hhd] at he2
              cases he2
              simp only [Bool.and_eq_true, Bool.not_eq_true', decide_eq_true_eq] at hok
              obtain ⟨g1, ⟨g3, g4⟩, g6, hret⟩ := hok
              have g1 := Nat.eq_of_beq_eq_true g1
              have g3 := Nat.eq_of_beq_eq_true g3
              have hlk : qm_lk qm_ml o i = some (q2.1, q2.2) := hlk
              rw [g1] at hlk
              have hcat : qm_cat r0 ≤ 8 := Nat.le_of_ble_eq_true hc8
              have hfl : (st.take f).length = f := by
                have : f < st.length := by
                  rcases Nat.lt_or_ge f st.length with y | y
                  · exact y
                  · rw [List.drop_eq_nil_of_le y] at hdr
                    cases hdr
                simp
                omega
              subst hnp
              intro H locs la hH hS hL
              have hstk : st.map (qm_cv b B) = (((st.take f).reverse.map (qm_cv b B)).reverse) ++ .ref (B + q) :: r0.map (qm_cv b B) := by
                rw [← List.map_reverse, List.reverse_reverse]
                conv => lhs; rw [← List.take_append_drop f st, hdr]
                rw [List.map_append]
                rfl
              have hpre : PreS s H (qm_Pc D aC b B L xs (.ref q :: (st.take f).reverse) h) (.ref (B + q) :: (st.take f).reverse.map (qm_cv b B)) := ⟨qm_Pc_blind, fun U hU hW => ⟨by rw [List.map_cons]; rfl, by rw [hU]; exact hH, va_K.moved hW.alike hK, by
                rw [hU]
                exact (va_X.moved hW.alike hX).kept (hS.2.1 b (Nat.lt_of_lt_of_le hbB hBs) (fun y => absurd y (Nat.not_le.mpr hbB))), ⟨hbB, by rw [hU]; exact Nat.le_trans hBs hS.1⟩, how.warm hW hU hS⟩⟩
              have h8 : 2 * (F0 m pc la (st.map (qm_cv b B))).monitorRoom + ((r0.map (qm_cv b B)).map fun v => v.category).sum ≤ 8 := by
                show 2 * 0 + _ ≤ 8
                rw [qm_cat_cv]
                omega
              rw [hret] at hcode
              have hws' : Cond.code hd.2.1 hd.2.2.1 hd.2.2.2.1 none ∈ qm_ws hd := by
                rw [← hret]
                exact List.mem_cons_self
              rcases qm_ml_use hlk hhd with ⟨-, hlink⟩ | ⟨-, hlink⟩
              · exact hsum (qc := (pc + 3, ls, r0, h)) rfl rfl rfl rfl hL hS (va_runI (As := (st.take f).reverse.map (qm_cv b B)) (rest := r0.map (qm_cv b B)) (Ts := []) ⟨hex, hb, hml, hown, fun w hw => absurd hw List.not_mem_nil⟩ hM
                  ⟨⟨rfl, rfl, hfr, hlo, hws, hws', hcode, hts _ w5 rfl, w8, hpar, hts _ hlink rfl⟩, g6, hts _ (w3 g4) rfl⟩ hpre rfl (by rw [List.length_map, List.length_reverse, hfl, g3]) hL.2.1 hstk h8 hdk hcf)
              · exact hsum (qc := (pc + 3, ls, r0, h)) rfl rfl rfl rfl hL hS (va_runIN (host := "BoxQuay") (As := (st.take f).reverse.map (qm_cv b B)) (rest := r0.map (qm_cv b B)) (Ts := []) ⟨hex, hb, hml, hown, fun w hw => absurd hw List.not_mem_nil⟩ hM
                  ⟨⟨⟨rfl, rfl, hfr, hlo, hws, hws'⟩, hcode, hts _ w5 rfl, w8, hpar, hts _ hlink rfl⟩, g6, hts _ (w3 g4) rfl⟩ hpre rfl (by rw [List.length_map, List.length_reverse, hfl, g3]) hL.2.1 hstk h8 hdk hcf)
            · cases hok
    · cases hx
  | invokestatic i =>
    simp only [qm_ok, Bool.and_eq_true, decide_eq_true_eq] at hok
    obtain ⟨hdg, hok, hn⟩ := hok
    have hnp := qm_np hn
    have hdk := qm_dg hdg hnp
    simp only [qm_x, qm_cl, qm_nx, Bool.cond_eq_ite] at hx
    split at hx
    · (repeat' split at hx) <;> cases hx
    · (repeat' split at hx) <;> cases hx
    · rename_i hv1 hv2
      split at hx
      · rename_i hc8
        rw [Bool.and_eq_true] at hc8
        cases hx
        split at hok
        · exact absurd rfl hv1
        · exact absurd rfl (hv2 _)
        · split at hok
          · rename_i q2 e2 hlk he2
            rw [hhd] at he2
            cases he2
            simp only [Bool.and_eq_true] at hok
            obtain ⟨⟨g1, g2⟩, g3, g4⟩ := hok
            have g1 := Nat.eq_of_beq_eq_true g1
            have g2 := Nat.eq_of_beq_eq_true g2
            have g3 := Nat.eq_of_beq_eq_true g3
            have hlk : qm_lk qm_ml o i = some (q2.1, q2.2) := hlk
            rw [g1] at hlk
            have hlink : Cond.methodLink (qm_cn o) i hd.2.1 ∈ lw_tbl := by
              rcases qm_ml_use hlk hhd with ⟨-, z⟩ | ⟨z, -⟩
              · exact z
              · exact absurd g2 z
            have hfl : (st.take f).length = f := by
              have := Nat.le_of_ble_eq_true hc8.1
              simp
              omega
            have hcat : qm_cat (st.drop f) ≤ 8 := Nat.le_of_ble_eq_true hc8.2
            subst hnp
            intro H locs la hH hS hL
            have hstk : st.map (qm_cv b B) = (((st.take f).reverse.map (qm_cv b B)).reverse) ++ (st.drop f).map (qm_cv b B) := by
              rw [← List.map_reverse, List.reverse_reverse, ← List.map_append, List.take_append_drop]
            have hpre : PreS s H (qm_Pc D aC b B L xs ((st.take f).reverse) h) ((st.take f).reverse.map (qm_cv b B)) := ⟨qm_Pc_blind, fun U hU hW => ⟨rfl, by rw [hU]; exact hH, va_K.moved hW.alike hK, by
              rw [hU]
              exact (va_X.moved hW.alike hX).kept (hS.2.1 b (Nat.lt_of_lt_of_le hbB hBs) (fun y => absurd y (Nat.not_le.mpr hbB))), ⟨hbB, by rw [hU]; exact Nat.le_trans hBs hS.1⟩, how.warm hW hU hS⟩⟩
            have h8 : 2 * (F0 m pc la (st.map (qm_cv b B))).monitorRoom + (((st.drop f).map (qm_cv b B)).map fun v => v.category).sum ≤ 8 := by
              show 2 * 0 + _ ≤ 8
              rw [qm_cat_cv]
              omega
            exact hsum (qc := (pc + 3, ls, st.drop f, h)) rfl rfl rfl rfl hL hS (va_runS (As := (st.take f).reverse.map (qm_cv b B)) (rest := (st.drop f).map (qm_cv b B)) (Ts := []) ⟨hex, hb, hml, hown, fun w hw => absurd hw List.not_mem_nil⟩ hM
              ⟨⟨rfl, rfl, hfr, hlo, hws, List.mem_cons_self, hcode, hts _ w5 rfl, w8, hpar, hts _ hlink rfl⟩, hts _ (w2 g4) rfl⟩ hpre rfl (by rw [List.length_map, List.length_reverse, hfl, g3]) hL.2.1 hstk h8 hdk hcf)
          · cases hok
      · cases hx
  | _ => rcases hfact with z | z <;> cases z
/-- a call's arguments: the object first, or as many as the method has -/
theorem qm_call_as {ins : Instr} (hok : qm_ok qm_hd o nL ini rt cc (pc, np, ins, a, f, v) = true) {j : Nat} {as : List Value} (hx : qm_x (some (L, xs)) (pc, np, ins, a, f, v) (pc, ls, st, h) = some (.inr (.inr (.inr (j, as, c1))))) {hd : qm_Hd} (hhd : qm_hd[j]? = some hd) : (∃ q t, as = .ref q :: t) ∨ as.length = hd.2.2.2.2.2.1 := by
  have hfact := (qm_x_fact (some (L, xs)) pc np a f ins v (pc, ls, st, h) hx).1
  cases ins with
  | invokevirtual i =>
    simp only [qm_x, qm_cl] at hx
    split at hx
    · rename_i q r0 hdr
      split at hx
      · rename_i z ci hq
        cases hc8 : Nat.beq z.1 (ci + 5) && Nat.ble (qm_cat r0) 8 with
        | false => simp only [hc8, cond_false] at hx; cases hx
        | true =>
          simp only [hc8, cond_true] at hx
          cases hx
          exact Or.inl ⟨_, _, rfl⟩
      · cases hx
    · cases hx
  | invokespecial i =>
    simp only [qm_x, qm_cl, qm_nx] at hx
    split at hx
    · rename_i q r0 hdr
      split at hx
      · cases hc8 : Nat.ble (qm_cat r0) 8 with
        | false => simp only [hc8, cond_false] at hx; cases hx
        | true => simp only [hc8, cond_true] at hx; cases hx
      · cases hc8 : Nat.ble (qm_cat r0) 8 with
        | false => simp only [hc8, cond_false] at hx; cases hx
        | true =>
          simp only [hc8, cond_true] at hx
          cases hx
          exact Or.inl ⟨_, _, rfl⟩
    · cases hx
  | invokestatic i =>
    simp only [qm_ok, Bool.and_eq_true, decide_eq_true_eq] at hok
    obtain ⟨-, hok, -⟩ := hok
    simp only [qm_x, qm_cl, qm_nx, Bool.cond_eq_ite] at hx
    split at hx
    · (repeat' split at hx) <;> cases hx
    · (repeat' split at hx) <;> cases hx
    · rename_i hv1 hv2
      split at hx
      · rename_i hc8
        rw [Bool.and_eq_true] at hc8
        cases hx
        split at hok
        · exact absurd rfl hv1
        · exact absurd rfl (hv2 _)
        · split at hok
          · rename_i q2 e2 hlk he2
            rw [hhd] at he2
            cases he2
            simp only [Bool.and_eq_true] at hok
            have g3 := Nat.eq_of_beq_eq_true hok.2.1
            have := Nat.le_of_ble_eq_true hc8.1
            right
            rw [g3]
            simp
            omega
          · cases hok
      · cases hx
  | _ => rcases hfact with z | z <;> cases z
end QMX
