/-! the class's kindOf over the machine itself: the string constant of words, String.length, String.charAt, withLetter -/
noncomputable def qk_ws (y : MethodName) (cc : ByteArray) (n : Nat) (r : Option FieldType) : List Cond := .code y cc n r :: qm_gw
noncomputable def qm_sx (B : Nat) (adK adV : Nat → Nat) (U : State) : Prop := vk_S 1 [129] [qk_bytes] adK adV (qm_A B) U U.heap ∧ vk_R "BoxQuay$Tokens" 64 qk_text (adK 0) U ∧ va_Z "java/lang/String" "COMPACT_STRINGS" "Z" (.int 1) (qm_A B) U U.heap ∧ va_Zq "jdk/internal/util/Preconditions" "SIOOBE_FORMATTER" "Ljava/util/function/BiFunction;" (qm_A B) U U.heap
theorem qm_sx.warm {B : Nat} {adK adV : Nat → Nat} {s U : State} {H : Heap} {locs : List Loc} (h : qm_sx B adK adV s) (hW : s.WarmedH U.vm) (hU : U.heap = H) (hS : va_S (qm_A B) s.heap H locs) : qm_sx B adK adV U := by
  obtain ⟨h1, h2, h3, h4⟩ := h
  refine ⟨?_, h2.warm hW, ?_, ?_⟩
  · rw [hU]; exact (h1.moved hW.alike).kept hS.2.1
  · rw [hU]; exact (h3.moved hW.alike).kept hS.2.1
  · rw [hU]; exact (h4.moved hW.alike).kept hS.2.1
noncomputable def qk_P (B : Nat) (adK adV : Nat → Nat) (vs : List Value) : Array Value → State → Prop := fun a U => a = vs.toArray ∧ qm_sx B adK adV U
noncomputable def qk_Q (r : Option Value) : Array Value → State → Outcome → State → Prop := fun _ st oc t => oc = .returned r ∧ t.heap = st.heap
theorem qk_blind {B : Nat} {adK adV : Nat → Nat} {vs : List Value} : FrameBlind (qk_P B adK adV vs) := fun a U g mk q =>
  ⟨q.1, q.2.1.moved (u := U) (U := U.calling g mk a) (Vm.Alike.refl U.vm), q.2.2.1.same (u := U) (U := U.calling g mk a) rfl, q.2.2.2.1.moved (u := U) (U := U.calling g mk a) (Vm.Alike.refl U.vm), q.2.2.2.2.moved (u := U) (U := U.calling g mk a) (Vm.Alike.refl U.vm)⟩
noncomputable def qk_rm (f k : Nat) : Room := { frames := f, cells := 0, slots := 0, locals := k }
section QKW
variable {p : Program} {l : Launch} {e : Env} {R : Room} {s : State} {m : MethodId} {args : Array Value} {below : List Frame} {meth : Method} {c : Code} {H : Heap} {locs : List Loc} {cells slots : Nat} {Q : State → Prop}
variable {cc : ByteArray} {pc nL n index maxL f0 k0 : Nat} {la : Array Slot} {B : Nat} {adK adV : Nat → Nat} {own : String} {y : MethodName} {bytes : ByteArray} {ret : Option FieldType} {b : Addr} {As rest : List Value} {r : Option Value}
theorem qk_callW {a0 : Array Value} {st0 : List Value} (hr : va_Run p l e R s m args below meth c H locs cells slots 0 0 (F0 m pc la st0) rest (qk_Q r a0) (fun _ => False)) (kk : W p l e R s m args below meth c H locs cells slots Q (F0 m (pc + 3) la (r.toList ++ rest))) : W p l e R s m args below meth c H locs cells slots Q (F0 m pc la st0) := by
  intro T hT X
  obtain ⟨v, st₀, t, T', L, h0, X', hL, e1, e2, ⟨hv, hh⟩, st⟩ := hr T hT X
  cases hv
  have hL0 : L = [] := by
    cases L with
    | nil => rfl
    | cons q t => exact (hL q List.mem_cons_self).elim
  subst hL0
  rw [List.append_nil] at X'
  obtain ⟨t2, a1, b1⟩ := kk T' (by rw [e1, hh, h0]) X'
  exact ⟨t2, st t2 a1, b1⟩
theorem qk_wsw (hg : ∀ w ∈ lw_tbl, goodWord w = true → w.before args s = true) (w1 : Cond.code y bytes maxL ret ∈ lw_tbl) : ∀ w ∈ qk_ws y bytes maxL ret, ∀ (a' : Array Value) (U : State), s.WarmedH U.vm → w.before a' U = true := by
  intro w hw a' U hW
  rcases List.mem_cons.mp hw with rfl | hw
  · exact word_at hW (good_of_word rfl) (hg _ w1 rfl)
  · obtain ⟨g1, g2⟩ := List.mem_filter.mp hw
    exact word_at hW (good_of_word g2) (hg w g1 g2)
theorem qk_V (hx : p.tables.exec = Jvm.exec) (hb : c.code = cc) (hml : c.maxLocals = nL) (hown : s.vm.findClass own = some m.cls) (hg : ∀ w ∈ lw_tbl, goodWord w = true → w.before args s = true) (hw : qm_sx B adK adV s) (hS : va_S (qm_A B) s.heap H locs)
    (hM : Met l y (qk_ws y bytes maxL ret) (qk_rm f0 k0) (qk_P B adK adV (.ref b :: As)) (qk_Q r) 0 0 (fun _ => False)) (hfr : f0 + 1 ≤ R.frames) (hlo : 8 + (maxL + 11) + k0 ≤ R.locals) (w1 : Cond.code y bytes maxL ret ∈ lw_tbl) (w5 : Cond.initialized y.cls ∈ lw_tbl) (w3 : Cond.instanceMethod y ∈ lw_tbl) (w4 : Cond.selects y.cls y y ∈ lw_tbl) (wl : Cond.methodLink own index y ∈ lw_tbl)
    (hn8 : y.cls ≠ "java/lang/invoke/MethodHandle" ∧ y.cls ≠ "java/lang/invoke/VarHandle") (hpar : (parseMethodDescriptor y.desc).map (fun d => d.parameters.length) = some n) (hrecv : ∃ cell : Cell, H[b]? = some cell ∧ cell.vm.isStatics = false ∧ s.vm.findClass y.cls = some cell.cls)
    (hAs : As.length = n) (hsz : la.size = nL) (h8 : (rest.map fun v => v.category).sum ≤ 8) (hdg : decode cc pc = .ok (.invokevirtual index, 3)) (hcf : cells ≤ R.cells ∧ slots ≤ R.slots) (kk : W p l e R s m args below meth c H locs cells slots Q (F0 m (pc + 3) la (r.toList ++ rest))) : W p l e R s m args below meth c H locs cells slots Q (F0 m pc la (As.reverse ++ .ref b :: rest)) := by
  refine qk_callW (va_runV (C := y.cls) (As := As) (rest := rest) (Ts := []) ⟨hx, hb, hml, hown, fun w hw => absurd hw List.not_mem_nil⟩ hM ⟨⟨rfl, rfl, hfr, hlo, qk_wsw hg w1, List.mem_cons_self, hg _ w1 rfl, hg _ w5 rfl, hn8, fun sig hs => by rw [hs] at hpar; exact (Option.some.inj hpar).symm, hg _ wl rfl⟩, hg _ w3 rfl, hg _ w4 rfl⟩ ⟨qk_blind, hrecv, fun U hU hW => ⟨rfl, hw.warm hW hU hS⟩⟩ rfl hAs hsz rfl ?_ hdg hcf) kk
  show 2 * 0 + _ ≤ 8
  omega
theorem qk_S (hx : p.tables.exec = Jvm.exec) (hb : c.code = cc) (hml : c.maxLocals = nL) (hown : s.vm.findClass own = some m.cls) (hg : ∀ w ∈ lw_tbl, goodWord w = true → w.before args s = true) (hw : qm_sx B adK adV s) (hS : va_S (qm_A B) s.heap H locs)
    (hM : Met l y (qk_ws y bytes maxL ret) (qk_rm f0 k0) (qk_P B adK adV As) (qk_Q r) 0 0 (fun _ => False)) (hfr : f0 + 1 ≤ R.frames) (hlo : 8 + (maxL + 11) + k0 ≤ R.locals) (w1 : Cond.code y bytes maxL ret ∈ lw_tbl) (w5 : Cond.initialized y.cls ∈ lw_tbl) (w3 : Cond.static y ∈ lw_tbl) (wl : Cond.methodLink own index y ∈ lw_tbl)
    (hn8 : y.cls ≠ "java/lang/invoke/MethodHandle" ∧ y.cls ≠ "java/lang/invoke/VarHandle") (hpar : (parseMethodDescriptor y.desc).map (fun d => d.parameters.length) = some n)
    (hAs : As.length = n) (hsz : la.size = nL) (h8 : (rest.map fun v => v.category).sum ≤ 8) (hdg : decode cc pc = .ok (.invokestatic index, 3)) (hcf : cells ≤ R.cells ∧ slots ≤ R.slots) (kk : W p l e R s m args below meth c H locs cells slots Q (F0 m (pc + 3) la (r.toList ++ rest))) : W p l e R s m args below meth c H locs cells slots Q (F0 m pc la (As.reverse ++ rest)) := by
  refine qk_callW (va_runS (As := As) (rest := rest) (Ts := []) ⟨hx, hb, hml, hown, fun w hw => absurd hw List.not_mem_nil⟩ hM ⟨⟨rfl, rfl, hfr, hlo, qk_wsw hg w1, List.mem_cons_self, hg _ w1 rfl, hg _ w5 rfl, hn8, fun sig hs => by rw [hs] at hpar; exact (Option.some.inj hpar).symm, hg _ wl rfl⟩, hg _ w3 rfl⟩ ⟨qk_blind, fun U hU hW => ⟨rfl, hw.warm hW hU hS⟩⟩ rfl hAs hsz rfl ?_ hdg hcf) kk
  show 2 * 0 + _ ≤ 8
  omega
end QKW
noncomputable def qy_cod : MethodName := ⟨"java/lang/String", "coder", "()B"⟩
theorem qd_cod_0 : decode prog_17_method_152_code 0 = .ok (.getstatic 38, 3) := by decide +kernel
theorem qd_cod_3 : decode prog_17_method_152_code 3 = .ok (.ifCond .eq 10, 3) := by decide +kernel
theorem qd_cod_6 : decode prog_17_method_152_code 6 = .ok (.aload_n 0, 1) := by decide +kernel
theorem qd_cod_7 : decode prog_17_method_152_code 7 = .ok (.getfield 15, 3) := by decide +kernel
theorem qd_cod_10 : decode prog_17_method_152_code 10 = .ok (.goto 4, 3) := by decide +kernel
theorem qd_cod_13 : decode prog_17_method_152_code 13 = .ok (.iconst 1, 1) := by decide +kernel
theorem qd_cod_14 : decode prog_17_method_152_code 14 = .ok (.ireturn, 1) := by decide +kernel
noncomputable def qy_lat : MethodName := ⟨"java/lang/String", "isLatin1", "()Z"⟩
theorem qd_lat_0 : decode prog_17_method_154_code 0 = .ok (.getstatic 38, 3) := by decide +kernel
theorem qd_lat_3 : decode prog_17_method_154_code 3 = .ok (.ifCond .eq 14, 3) := by decide +kernel
theorem qd_lat_6 : decode prog_17_method_154_code 6 = .ok (.aload_n 0, 1) := by decide +kernel
theorem qd_lat_7 : decode prog_17_method_154_code 7 = .ok (.getfield 15, 3) := by decide +kernel
theorem qd_lat_10 : decode prog_17_method_154_code 10 = .ok (.ifCond .ne 7, 3) := by decide +kernel
theorem qd_lat_13 : decode prog_17_method_154_code 13 = .ok (.iconst 1, 1) := by decide +kernel
theorem qd_lat_14 : decode prog_17_method_154_code 14 = .ok (.goto 4, 3) := by decide +kernel
theorem qd_lat_17 : decode prog_17_method_154_code 17 = .ok (.iconst 0, 1) := by decide +kernel
theorem qd_lat_18 : decode prog_17_method_154_code 18 = .ok (.ireturn, 1) := by decide +kernel
noncomputable def qy_pre : MethodName := ⟨"jdk/internal/util/Preconditions", "checkIndex", "(IILjava/util/function/BiFunction;)I"⟩
theorem qd_pre_0 : decode prog_22_method_11_code 0 = .ok (.iload_n 0, 1) := by decide +kernel
theorem qd_pre_1 : decode prog_22_method_11_code 1 = .ok (.ifCond .lt 8, 3) := by decide +kernel
theorem qd_pre_4 : decode prog_22_method_11_code 4 = .ok (.iload_n 0, 1) := by decide +kernel
theorem qd_pre_5 : decode prog_22_method_11_code 5 = .ok (.iload_n 1, 1) := by decide +kernel
theorem qd_pre_6 : decode prog_22_method_11_code 6 = .ok (.if_icmp .lt 10, 3) := by decide +kernel
theorem qd_pre_9 : decode prog_22_method_11_code 9 = .ok (.aload_n 2, 1) := by decide +kernel
theorem qd_pre_10 : decode prog_22_method_11_code 10 = .ok (.iload_n 0, 1) := by decide +kernel
theorem qd_pre_11 : decode prog_22_method_11_code 11 = .ok (.iload_n 1, 1) := by decide +kernel
theorem qd_pre_12 : decode prog_22_method_11_code 12 = .ok (.invokestatic 95, 3) := by decide +kernel
theorem qd_pre_15 : decode prog_22_method_11_code 15 = .ok (.athrow, 1) := by decide +kernel
theorem qd_pre_16 : decode prog_22_method_11_code 16 = .ok (.iload_n 0, 1) := by decide +kernel
theorem qd_pre_17 : decode prog_22_method_11_code 17 = .ok (.ireturn, 1) := by decide +kernel
noncomputable def qy_chk : MethodName := ⟨"java/lang/String", "checkIndex", "(II)V"⟩
theorem qd_chk_0 : decode prog_17_method_155_code 0 = .ok (.iload_n 0, 1) := by decide +kernel
theorem qd_chk_1 : decode prog_17_method_155_code 1 = .ok (.iload_n 1, 1) := by decide +kernel
theorem qd_chk_2 : decode prog_17_method_155_code 2 = .ok (.getstatic 1053, 3) := by decide +kernel
theorem qd_chk_5 : decode prog_17_method_155_code 5 = .ok (.invokestatic 1059, 3) := by decide +kernel
theorem qd_chk_8 : decode prog_17_method_155_code 8 = .ok (.pop, 1) := by decide +kernel
theorem qd_chk_9 : decode prog_17_method_155_code 9 = .ok (.return_, 1) := by decide +kernel
noncomputable def qy_l1c : MethodName := ⟨"java/lang/StringLatin1", "charAt", "([BI)C"⟩
theorem qd_l1c_0 : decode prog_18_method_2_code 0 = .ok (.iload_n 1, 1) := by decide +kernel
theorem qd_l1c_1 : decode prog_18_method_2_code 1 = .ok (.aload_n 0, 1) := by decide +kernel
theorem qd_l1c_2 : decode prog_18_method_2_code 2 = .ok (.arraylength, 1) := by decide +kernel
theorem qd_l1c_3 : decode prog_18_method_2_code 3 = .ok (.invokestatic 9, 3) := by decide +kernel
theorem qd_l1c_6 : decode prog_18_method_2_code 6 = .ok (.aload_n 0, 1) := by decide +kernel
theorem qd_l1c_7 : decode prog_18_method_2_code 7 = .ok (.iload_n 1, 1) := by decide +kernel
theorem qd_l1c_8 : decode prog_18_method_2_code 8 = .ok (.baload, 1) := by decide +kernel
theorem qd_l1c_9 : decode prog_18_method_2_code 9 = .ok (.sipush 255, 3) := by decide +kernel
theorem qd_l1c_12 : decode prog_18_method_2_code 12 = .ok (.iand, 1) := by decide +kernel
theorem qd_l1c_13 : decode prog_18_method_2_code 13 = .ok (.i2c, 1) := by decide +kernel
theorem qd_l1c_14 : decode prog_18_method_2_code 14 = .ok (.ireturn, 1) := by decide +kernel
noncomputable def qy_len : MethodName := ⟨"java/lang/String", "length", "()I"⟩
theorem qd_len_0 : decode prog_17_method_54_code 0 = .ok (.aload_n 0, 1) := by decide +kernel
theorem qd_len_1 : decode prog_17_method_54_code 1 = .ok (.getfield 9, 3) := by decide +kernel
theorem qd_len_4 : decode prog_17_method_54_code 4 = .ok (.arraylength, 1) := by decide +kernel
theorem qd_len_5 : decode prog_17_method_54_code 5 = .ok (.aload_n 0, 1) := by decide +kernel
theorem qd_len_6 : decode prog_17_method_54_code 6 = .ok (.invokevirtual 335, 3) := by decide +kernel
theorem qd_len_9 : decode prog_17_method_54_code 9 = .ok (.ishr, 1) := by decide +kernel
theorem qd_len_10 : decode prog_17_method_54_code 10 = .ok (.ireturn, 1) := by decide +kernel
noncomputable def qy_chr : MethodName := ⟨"java/lang/String", "charAt", "(I)C"⟩
theorem qd_chr_0 : decode prog_17_method_56_code 0 = .ok (.aload_n 0, 1) := by decide +kernel
theorem qd_chr_1 : decode prog_17_method_56_code 1 = .ok (.invokevirtual 492, 3) := by decide +kernel
theorem qd_chr_4 : decode prog_17_method_56_code 4 = .ok (.ifCond .eq 12, 3) := by decide +kernel
theorem qd_chr_7 : decode prog_17_method_56_code 7 = .ok (.aload_n 0, 1) := by decide +kernel
theorem qd_chr_8 : decode prog_17_method_56_code 8 = .ok (.getfield 9, 3) := by decide +kernel
theorem qd_chr_11 : decode prog_17_method_56_code 11 = .ok (.iload_n 1, 1) := by decide +kernel
theorem qd_chr_12 : decode prog_17_method_56_code 12 = .ok (.invokestatic 495, 3) := by decide +kernel
theorem qd_chr_15 : decode prog_17_method_56_code 15 = .ok (.ireturn, 1) := by decide +kernel
theorem qd_chr_16 : decode prog_17_method_56_code 16 = .ok (.aload_n 0, 1) := by decide +kernel
theorem qd_chr_17 : decode prog_17_method_56_code 17 = .ok (.getfield 9, 3) := by decide +kernel
theorem qd_chr_20 : decode prog_17_method_56_code 20 = .ok (.iload_n 1, 1) := by decide +kernel
theorem qd_chr_21 : decode prog_17_method_56_code 21 = .ok (.invokestatic 498, 3) := by decide +kernel
theorem qd_chr_24 : decode prog_17_method_56_code 24 = .ok (.ireturn, 1) := by decide +kernel
noncomputable def qy_wl : MethodName := ⟨"BoxQuay$Tokens", "withLetter", "(JI)J"⟩
theorem qd_wl_0 : decode prog_9_method_10_code 0 = .ok (.lload_n 0, 1) := by decide +kernel
theorem qd_wl_1 : decode prog_9_method_10_code 1 = .ok (.ldc2_w 76, 3) := by decide +kernel
theorem qd_wl_4 : decode prog_9_method_10_code 4 = .ok (.lmul, 1) := by decide +kernel
theorem qd_wl_5 : decode prog_9_method_10_code 5 = .ok (.iload_n 2, 1) := by decide +kernel
theorem qd_wl_6 : decode prog_9_method_10_code 6 = .ok (.bipush 97, 2) := by decide +kernel
theorem qd_wl_8 : decode prog_9_method_10_code 8 = .ok (.isub, 1) := by decide +kernel
theorem qd_wl_9 : decode prog_9_method_10_code 9 = .ok (.iconst 1, 1) := by decide +kernel
theorem qd_wl_10 : decode prog_9_method_10_code 10 = .ok (.iadd, 1) := by decide +kernel
theorem qd_wl_11 : decode prog_9_method_10_code 11 = .ok (.i2l, 1) := by decide +kernel
theorem qd_wl_12 : decode prog_9_method_10_code 12 = .ok (.ladd, 1) := by decide +kernel
theorem qd_wl_13 : decode prog_9_method_10_code 13 = .ok (.lreturn, 1) := by decide +kernel
theorem qd_knd_0 : decode prog_9_method_9_code 0 = .ok (.iconst 0, 1) := by decide +kernel
theorem qd_knd_1 : decode prog_9_method_9_code 1 = .ok (.istore_n 2, 1) := by decide +kernel
theorem qd_knd_2 : decode prog_9_method_9_code 2 = .ok (.lconst 0, 1) := by decide +kernel
theorem qd_knd_3 : decode prog_9_method_9_code 3 = .ok (.lstore_n 3, 1) := by decide +kernel
theorem qd_knd_4 : decode prog_9_method_9_code 4 = .ok (.iconst 0, 1) := by decide +kernel
theorem qd_knd_5 : decode prog_9_method_9_code 5 = .ok (.istore 5, 2) := by decide +kernel
theorem qd_knd_7 : decode prog_9_method_9_code 7 = .ok (.iload 5, 2) := by decide +kernel
theorem qd_knd_9 : decode prog_9_method_9_code 9 = .ok (.ldc 64, 2) := by decide +kernel
theorem qd_knd_11 : decode prog_9_method_9_code 11 = .ok (.invokevirtual 66, 3) := by decide +kernel
theorem qd_knd_14 : decode prog_9_method_9_code 14 = .ok (.if_icmp .ge 48, 3) := by decide +kernel
theorem qd_knd_17 : decode prog_9_method_9_code 17 = .ok (.ldc 64, 2) := by decide +kernel
theorem qd_knd_19 : decode prog_9_method_9_code 19 = .ok (.iload 5, 2) := by decide +kernel
theorem qd_knd_21 : decode prog_9_method_9_code 21 = .ok (.invokevirtual 72, 3) := by decide +kernel
theorem qd_knd_24 : decode prog_9_method_9_code 24 = .ok (.istore 6, 2) := by decide +kernel
theorem qd_knd_26 : decode prog_9_method_9_code 26 = .ok (.iload 6, 2) := by decide +kernel
theorem qd_knd_28 : decode prog_9_method_9_code 28 = .ok (.bipush 32, 2) := by decide +kernel
theorem qd_knd_30 : decode prog_9_method_9_code 30 = .ok (.if_icmp .eq 13, 3) := by decide +kernel
theorem qd_knd_33 : decode prog_9_method_9_code 33 = .ok (.lload_n 3, 1) := by decide +kernel
theorem qd_knd_34 : decode prog_9_method_9_code 34 = .ok (.iload 6, 2) := by decide +kernel
theorem qd_knd_36 : decode prog_9_method_9_code 36 = .ok (.invokestatic 49, 3) := by decide +kernel
theorem qd_knd_39 : decode prog_9_method_9_code 39 = .ok (.lstore_n 3, 1) := by decide +kernel
theorem qd_knd_40 : decode prog_9_method_9_code 40 = .ok (.goto 16, 3) := by decide +kernel
theorem qd_knd_43 : decode prog_9_method_9_code 43 = .ok (.lload_n 3, 1) := by decide +kernel
theorem qd_knd_44 : decode prog_9_method_9_code 44 = .ok (.lload_n 0, 1) := by decide +kernel
theorem qd_knd_45 : decode prog_9_method_9_code 45 = .ok (.lcmp, 1) := by decide +kernel
theorem qd_knd_46 : decode prog_9_method_9_code 46 = .ok (.ifCond .ne 5, 3) := by decide +kernel
theorem qd_knd_49 : decode prog_9_method_9_code 49 = .ok (.iload_n 2, 1) := by decide +kernel
theorem qd_knd_50 : decode prog_9_method_9_code 50 = .ok (.ireturn, 1) := by decide +kernel
theorem qd_knd_51 : decode prog_9_method_9_code 51 = .ok (.iinc 2 1, 3) := by decide +kernel
theorem qd_knd_54 : decode prog_9_method_9_code 54 = .ok (.lconst 0, 1) := by decide +kernel
theorem qd_knd_55 : decode prog_9_method_9_code 55 = .ok (.lstore_n 3, 1) := by decide +kernel
theorem qd_knd_56 : decode prog_9_method_9_code 56 = .ok (.iinc 5 1, 3) := by decide +kernel
theorem qd_knd_59 : decode prog_9_method_9_code 59 = .ok (.goto (-52), 3) := by decide +kernel
theorem qd_knd_62 : decode prog_9_method_9_code 62 = .ok (.bipush 26, 2) := by decide +kernel
theorem qd_knd_64 : decode prog_9_method_9_code 64 = .ok (.ireturn, 1) := by decide +kernel
theorem qk_m_cod (l : Launch) (B : Nat) (adK adV : Nat → Nat) : Met l qy_cod (qk_ws qy_cod prog_17_method_152_code 1 (some .byte)) (qk_rm 0 0) (qk_P B adK adV [.ref (adK 0)]) (qk_Q (some (.int 0))) 0 0 (fun _ => False) := by
  refine qm_ofW (cc := prog_17_method_152_code) (maxL := 1) (ret := (some .byte)) (by decide +kernel) rfl ?_
  intro p e s m args below meth c s₁ Bd hml hv
  obtain ⟨rfl, hw⟩ := hv
  have hx := Bd.exec
  have hb := Bd.bytes
  have hr := Bd.returns
  have hlocks := Bd.notSynchronized
  have hts := atoms_spec (ws := qk_ws qy_cod prog_17_method_152_code 1 (some .byte)) Bd.pre
  have hg : ∀ w ∈ lw_tbl, goodWord w = true → w.before (([.ref (adK 0)] : List Value).toArray) s = true := fun w h1 h2 => hts w (List.mem_cons_of_mem _ (List.mem_filter.mpr ⟨h1, h2⟩))
  have hown : s.vm.findClass "java/lang/String" = some m.cls := findClass_of_methodNamed Bd.named
  have hS : va_S (qm_A B) s.heap s.heap [] := va_S.rf
  have hl := lv_entry ([.ref (adK 0)] : List Value) (n := 1) (Nat.le_of_ble_eq_true rfl)
  rw [lg_entry_eq]
  generalize (lg_sl ([.ref (adK 0)] : List Value) ++ List.replicate (1 - (lg_sl ([.ref (adK 0)] : List Value)).length) Slot.unset).toArray = ls at hl ⊢
  have hl : lv_has ls 1 [(0, .ref (adK 0))] := hl
  refine va_gets (C := "java/lang/String") (n := "COMPACT_STRINGS") (d := "Z") (ref := "java/lang/String") hx hb hw.2.2.1 hS hown (hg _ (qm_at_mem (q := 2111) (by decide +kernel)) rfl) (fun _ z => z) qd_cod_0 ?_
  refine lv_if_eq (tgt := 13) hx hb qd_cod_3 rfl (fun z => absurd z (by decide)) (fun _ => ?_)
  refine lv_aload_n hx hb qd_cod_6 rfl (lv_at hl 0 rfl) ?_
  refine vk_getf (o := "java/lang/String") (n := "coder") (d := "B") (ref := "java/lang/String") hx hb (hw.1.1 0 (by decide)).2.1 hS hown (hg _ (qm_at_mem (q := 10033) (by decide +kernel)) rfl) (fun _ z => z) qd_cod_7 ?_
  refine lv_goto (tgt := 14) hx hb qd_cod_10 rfl ?_
  exact W.zret (ty := .byte) hx hb hr rfl (fun t ht _ => ⟨rfl, ht⟩) (fun q hq => absurd hq List.not_mem_nil) qd_cod_14
theorem qk_m_lat (l : Launch) (B : Nat) (adK adV : Nat → Nat) : Met l qy_lat (qk_ws qy_lat prog_17_method_154_code 1 (some .boolean)) (qk_rm 0 0) (qk_P B adK adV [.ref (adK 0)]) (qk_Q (some (.int 1))) 0 0 (fun _ => False) := by
  refine qm_ofW (cc := prog_17_method_154_code) (maxL := 1) (ret := (some .boolean)) (by decide +kernel) rfl ?_
  intro p e s m args below meth c s₁ Bd hml hv
  obtain ⟨rfl, hw⟩ := hv
  have hx := Bd.exec
  have hb := Bd.bytes
  have hr := Bd.returns
  have hlocks := Bd.notSynchronized
  have hts := atoms_spec (ws := qk_ws qy_lat prog_17_method_154_code 1 (some .boolean)) Bd.pre
  have hg : ∀ w ∈ lw_tbl, goodWord w = true → w.before (([.ref (adK 0)] : List Value).toArray) s = true := fun w h1 h2 => hts w (List.mem_cons_of_mem _ (List.mem_filter.mpr ⟨h1, h2⟩))
  have hown : s.vm.findClass "java/lang/String" = some m.cls := findClass_of_methodNamed Bd.named
  have hS : va_S (qm_A B) s.heap s.heap [] := va_S.rf
  have hl := lv_entry ([.ref (adK 0)] : List Value) (n := 1) (Nat.le_of_ble_eq_true rfl)
  rw [lg_entry_eq]
  generalize (lg_sl ([.ref (adK 0)] : List Value) ++ List.replicate (1 - (lg_sl ([.ref (adK 0)] : List Value)).length) Slot.unset).toArray = ls at hl ⊢
  have hl : lv_has ls 1 [(0, .ref (adK 0))] := hl
  refine va_gets (C := "java/lang/String") (n := "COMPACT_STRINGS") (d := "Z") (ref := "java/lang/String") hx hb hw.2.2.1 hS hown (hg _ (qm_at_mem (q := 2111) (by decide +kernel)) rfl) (fun _ z => z) qd_lat_0 ?_
  refine lv_if_eq (tgt := 17) hx hb qd_lat_3 rfl (fun z => absurd z (by decide)) (fun _ => ?_)
  refine lv_aload_n hx hb qd_lat_6 rfl (lv_at hl 0 rfl) ?_
  refine vk_getf (o := "java/lang/String") (n := "coder") (d := "B") (ref := "java/lang/String") hx hb (hw.1.1 0 (by decide)).2.1 hS hown (hg _ (qm_at_mem (q := 10033) (by decide +kernel)) rfl) (fun _ z => z) qd_lat_7 ?_
  refine lv_if_ne (tgt := 17) hx hb qd_lat_10 rfl (fun z => absurd rfl z) (fun _ => ?_)
  refine lv_iconst (v := 1) hx hb qd_lat_13 (by decide) ?_
  refine lv_goto (tgt := 18) hx hb qd_lat_14 rfl ?_
  exact W.zret (ty := .boolean) hx hb hr rfl (fun t ht _ => ⟨rfl, ht⟩) (fun q hq => absurd hq List.not_mem_nil) qd_lat_18
theorem qk_m_preN (l : Launch) (B : Nat) (adK adV : Nat → Nat) (i : Nat) (hi : i < 129) : Met l qy_pre (qk_ws qy_pre prog_22_method_11_code 3 (some .int)) (qk_rm 0 0) (qk_P B adK adV [.int (nI i), .int 129, .null]) (qk_Q (some (.int (nI i)))) 0 0 (fun _ => False) := by
  refine qm_ofW (cc := prog_22_method_11_code) (maxL := 3) (ret := (some .int)) (by decide +kernel) rfl ?_
  intro p e s m args below meth c s₁ Bd hml hv
  obtain ⟨rfl, hw⟩ := hv
  have hx := Bd.exec
  have hb := Bd.bytes
  have hr := Bd.returns
  have hlocks := Bd.notSynchronized
  have hts := atoms_spec (ws := qk_ws qy_pre prog_22_method_11_code 3 (some .int)) Bd.pre
  have hg : ∀ w ∈ lw_tbl, goodWord w = true → w.before (([.int (nI i), .int 129, .null] : List Value).toArray) s = true := fun w h1 h2 => hts w (List.mem_cons_of_mem _ (List.mem_filter.mpr ⟨h1, h2⟩))
  have hown : s.vm.findClass "jdk/internal/util/Preconditions" = some m.cls := findClass_of_methodNamed Bd.named
  have hS : va_S (qm_A B) s.heap s.heap [] := va_S.rf
  have hl := lv_entry ([.int (nI i), .int 129, .null] : List Value) (n := 3) (Nat.le_of_ble_eq_true rfl)
  rw [lg_entry_eq]
  generalize (lg_sl ([.int (nI i), .int 129, .null] : List Value) ++ List.replicate (3 - (lg_sl ([.int (nI i), .int 129, .null] : List Value)).length) Slot.unset).toArray = ls at hl ⊢
  have hl : lv_has ls 3 [(0, .int (nI i)), (1, .int 129), (2, .null)] := hl
  refine lv_iload_n hx hb qd_pre_0 rfl (lv_at hl 0 rfl) ?_
  refine lv_if_lt (tgt := 9) hx hb qd_pre_1 rfl (fun z => absurd z (nI_pos (by omega))) (fun _ => ?_)
  refine lv_iload_n hx hb qd_pre_4 rfl (lv_at hl 0 rfl) ?_
  refine lv_iload_n hx hb qd_pre_5 rfl (lv_at hl 1 rfl) ?_
  refine lv_icmp_lt (tgt := 16) hx hb qd_pre_6 rfl (fun _ => ?_) (fun z => absurd (show nI i < nI 129 from nI_lt hi (by decide)) z)
  refine lv_iload_n hx hb qd_pre_16 rfl (lv_at hl 0 rfl) ?_
  exact W.iret hx hb hr (fun t ht _ => ⟨rfl, ht⟩) (fun q hq => absurd hq List.not_mem_nil) qd_pre_17
theorem qk_m_preR (l : Launch) (B : Nat) (adK adV : Nat → Nat) (i : Nat) (hi : i < 129) (t : Nat) : Met l qy_pre (qk_ws qy_pre prog_22_method_11_code 3 (some .int)) (qk_rm 0 0) (qk_P B adK adV [.int (nI i), .int 129, .ref t]) (qk_Q (some (.int (nI i)))) 0 0 (fun _ => False) := by
  refine qm_ofW (cc := prog_22_method_11_code) (maxL := 3) (ret := (some .int)) (by decide +kernel) rfl ?_
  intro p e s m args below meth c s₁ Bd hml hv
  obtain ⟨rfl, hw⟩ := hv
  have hx := Bd.exec
  have hb := Bd.bytes
  have hr := Bd.returns
  have hlocks := Bd.notSynchronized
  have hts := atoms_spec (ws := qk_ws qy_pre prog_22_method_11_code 3 (some .int)) Bd.pre
  have hg : ∀ w ∈ lw_tbl, goodWord w = true → w.before (([.int (nI i), .int 129, .ref t] : List Value).toArray) s = true := fun w h1 h2 => hts w (List.mem_cons_of_mem _ (List.mem_filter.mpr ⟨h1, h2⟩))
  have hown : s.vm.findClass "jdk/internal/util/Preconditions" = some m.cls := findClass_of_methodNamed Bd.named
  have hS : va_S (qm_A B) s.heap s.heap [] := va_S.rf
  have hl := lv_entry ([.int (nI i), .int 129, .ref t] : List Value) (n := 3) (Nat.le_of_ble_eq_true rfl)
  rw [lg_entry_eq]
  generalize (lg_sl ([.int (nI i), .int 129, .ref t] : List Value) ++ List.replicate (3 - (lg_sl ([.int (nI i), .int 129, .ref t] : List Value)).length) Slot.unset).toArray = ls at hl ⊢
  have hl : lv_has ls 3 [(0, .int (nI i)), (1, .int 129), (2, .ref t)] := hl
  refine lv_iload_n hx hb qd_pre_0 rfl (lv_at hl 0 rfl) ?_
  refine lv_if_lt (tgt := 9) hx hb qd_pre_1 rfl (fun z => absurd z (nI_pos (by omega))) (fun _ => ?_)
  refine lv_iload_n hx hb qd_pre_4 rfl (lv_at hl 0 rfl) ?_
  refine lv_iload_n hx hb qd_pre_5 rfl (lv_at hl 1 rfl) ?_
  refine lv_icmp_lt (tgt := 16) hx hb qd_pre_6 rfl (fun _ => ?_) (fun z => absurd (show nI i < nI 129 from nI_lt hi (by decide)) z)
  refine lv_iload_n hx hb qd_pre_16 rfl (lv_at hl 0 rfl) ?_
  exact W.iret hx hb hr (fun t ht _ => ⟨rfl, ht⟩) (fun q hq => absurd hq List.not_mem_nil) qd_pre_17
theorem qk_m_chk (l : Launch) (B : Nat) (adK adV : Nat → Nat) (i : Nat) (hi : i < 129) : Met l qy_chk (qk_ws qy_chk prog_17_method_155_code 2 none) (qk_rm 1 30) (qk_P B adK adV [.int (nI i), .int 129]) (qk_Q (none)) 0 0 (fun _ => False) := by
  refine qm_ofW (cc := prog_17_method_155_code) (maxL := 2) (ret := none) (by decide +kernel) rfl ?_
  intro p e s m args below meth c s₁ Bd hml hv
  obtain ⟨rfl, hw⟩ := hv
  have hx := Bd.exec
  have hb := Bd.bytes
  have hr := Bd.returns
  have hlocks := Bd.notSynchronized
  have hts := atoms_spec (ws := qk_ws qy_chk prog_17_method_155_code 2 none) Bd.pre
  have hg : ∀ w ∈ lw_tbl, goodWord w = true → w.before (([.int (nI i), .int 129] : List Value).toArray) s = true := fun w h1 h2 => hts w (List.mem_cons_of_mem _ (List.mem_filter.mpr ⟨h1, h2⟩))
  have hown : s.vm.findClass "java/lang/String" = some m.cls := findClass_of_methodNamed Bd.named
  have hS : va_S (qm_A B) s.heap s.heap [] := va_S.rf
  have hl := lv_entry ([.int (nI i), .int 129] : List Value) (n := 2) (Nat.le_of_ble_eq_true rfl)
  rw [lg_entry_eq]
  generalize (lg_sl ([.int (nI i), .int 129] : List Value) ++ List.replicate (2 - (lg_sl ([.int (nI i), .int 129] : List Value)).length) Slot.unset).toArray = ls at hl ⊢
  have hl : lv_has ls 2 [(0, .int (nI i)), (1, .int 129)] := hl
  have key : ∀ v : Value, Met l qy_pre (qk_ws qy_pre prog_22_method_11_code 3 (some .int)) (qk_rm 0 0) (qk_P B adK adV [.int (nI i), .int 129, v]) (qk_Q (some (.int (nI i)))) 0 0 (fun _ => False) → va_Z "jdk/internal/util/Preconditions" "SIOOBE_FORMATTER" "Ljava/util/function/BiFunction;" v (qm_A B) s s.heap → W p l e (headSpec (qk_ws qy_chk prog_17_method_155_code 2 none) (qk_rm 1 30)).room s m (([.int (nI i), .int 129] : List Value).toArray) below meth c s.heap [] 0 0 (MQ below (qk_Q none) (([.int (nI i), .int 129] : List Value).toArray) s 0 0 (fun _ => False)) (F0 m 0 ls []) := by
    intro v hM hZ
    refine lv_iload_n hx hb qd_chk_0 rfl (lv_at hl 0 rfl) ?_
    refine lv_iload_n hx hb qd_chk_1 rfl (lv_at hl 1 rfl) ?_
    refine va_gets (C := "jdk/internal/util/Preconditions") (n := "SIOOBE_FORMATTER") (d := "Ljava/util/function/BiFunction;") (ref := "jdk/internal/util/Preconditions") hx hb hZ hS hown (hg _ (qm_at_mem (q := 2127) (by decide +kernel)) rfl) (fun _ z => z) qd_chk_2 ?_
    refine qk_S (n := 3) (As := [.int (nI i), .int 129, v]) (rest := []) hx hb hml hown hg hw hS hM (by decide) (by decide) (qm_at_mem (q := 2131) rfl) (qm_at_mem (q := 16) (by decide +kernel)) (qm_at_mem (q := 2130) (by decide +kernel)) (qm_at_mem (q := 2129) (by decide +kernel)) (by decide) (by decide +kernel) rfl hl.1 (Nat.le_of_ble_eq_true rfl) qd_chk_5 ⟨Nat.zero_le _, Nat.zero_le _⟩ ?_
    refine lv_pop hx hb qd_chk_8 rfl ?_
    exact W.vret hx hb hr (fun t ht _ => ⟨rfl, ht⟩) (fun q hq => absurd hq List.not_mem_nil) qd_chk_9
  rcases hw.2.2.2 with hZ | ⟨t, hZ⟩
  · exact key .null (qk_m_preN l B adK adV i hi) hZ
  · exact key (.ref t) (qk_m_preR l B adK adV i hi t) hZ
theorem qk_byte : ∀ i, i < 129 → (((qk_bytes.getD i 0 &&& 255).toUInt32 % 65536).toInt32 = qk_bytes.getD i 0 ∧ narrow .char (.int (qk_bytes.getD i 0)) = .int (qk_bytes.getD i 0)) := by decide +kernel
theorem qk_m_l1c (l : Launch) (B : Nat) (adK adV : Nat → Nat) (i : Nat) (hi : i < 129) : Met l qy_l1c (qk_ws qy_l1c prog_18_method_2_code 2 (some .char)) (qk_rm 2 60) (qk_P B adK adV [.ref (adV 0), .int (nI i)]) (qk_Q (some (.int (qk_bytes.getD i 0)))) 0 0 (fun _ => False) := by
  refine qm_ofW (cc := prog_18_method_2_code) (maxL := 2) (ret := (some .char)) (by decide +kernel) rfl ?_
  intro p e s m args below meth c s₁ Bd hml hv
  obtain ⟨rfl, hw⟩ := hv
  have hx := Bd.exec
  have hb := Bd.bytes
  have hr := Bd.returns
  have hlocks := Bd.notSynchronized
  have hts := atoms_spec (ws := qk_ws qy_l1c prog_18_method_2_code 2 (some .char)) Bd.pre
  have hg : ∀ w ∈ lw_tbl, goodWord w = true → w.before (([.ref (adV 0), .int (nI i)] : List Value).toArray) s = true := fun w h1 h2 => hts w (List.mem_cons_of_mem _ (List.mem_filter.mpr ⟨h1, h2⟩))
  have hown : s.vm.findClass "java/lang/StringLatin1" = some m.cls := findClass_of_methodNamed Bd.named
  have hS : va_S (qm_A B) s.heap s.heap [] := va_S.rf
  have hl := lv_entry ([.ref (adV 0), .int (nI i)] : List Value) (n := 2) (Nat.le_of_ble_eq_true rfl)
  rw [lg_entry_eq]
  generalize (lg_sl ([.ref (adV 0), .int (nI i)] : List Value) ++ List.replicate (2 - (lg_sl ([.ref (adV 0), .int (nI i)] : List Value)).length) Slot.unset).toArray = ls at hl ⊢
  have hl : lv_has ls 2 [(0, .ref (adV 0)), (1, .int (nI i))] := hl
  have hT := (hw.1.1 0 (by decide)).2.2.2
  refine lv_iload_n hx hb qd_l1c_0 rfl (lv_at hl 1 rfl) ?_
  refine lv_aload_n hx hb qd_l1c_1 rfl (lv_at hl 0 rfl) ?_
  refine va_tlen (v := 129) hx hb hT hS (by decide) qd_l1c_2 ?_
  refine qk_S (n := 2) (As := [.int (nI i), .int 129]) (rest := []) hx hb hml hown hg hw hS (qk_m_chk l B adK adV i hi) (by decide) (by decide) (qm_at_mem (q := 2126) rfl) (qm_at_mem (q := 14) (by decide +kernel)) (qm_at_mem (q := 2125) (by decide +kernel)) (qm_at_mem (q := 2124) (by decide +kernel)) (by decide) (by decide +kernel) rfl hl.1 (Nat.le_of_ble_eq_true rfl) qd_l1c_3 ⟨Nat.zero_le _, Nat.zero_le _⟩ ?_
  refine lv_aload_n hx hb qd_l1c_6 rfl (lv_at hl 0 rfl) ?_
  refine lv_iload_n hx hb qd_l1c_7 rfl (lv_at hl 1 rfl) ?_
  refine va_tb (v := .int (qk_bytes.getD i 0)) hx hb hT hS (nI_in hi (by decide)) (by rw [nI_clamp (by omega)]; rfl) qd_l1c_8 ?_
  refine lv_sipush (v := 255) hx hb qd_l1c_9 (by decide) ?_
  refine lv_iand hx hb qd_l1c_12 ?_
  refine lv_i2c (v := qk_bytes.getD i 0) hx hb qd_l1c_13 (qk_byte i hi).1 ?_
  exact W.zret (ty := .char) hx hb hr (qk_byte i hi).2 (fun t ht _ => ⟨rfl, ht⟩) (fun q hq => absurd hq List.not_mem_nil) qd_l1c_14
theorem qk_m_len (l : Launch) (B : Nat) (adK adV : Nat → Nat) : Met l qy_len (qk_ws qy_len prog_17_method_54_code 1 (some .int)) (qk_rm 1 30) (qk_P B adK adV [.ref (adK 0)]) (qk_Q (some (.int 129))) 0 0 (fun _ => False) := by
  refine qm_ofW (cc := prog_17_method_54_code) (maxL := 1) (ret := (some .int)) (by decide +kernel) rfl ?_
  intro p e s m args below meth c s₁ Bd hml hv
  obtain ⟨rfl, hw⟩ := hv
  have hx := Bd.exec
  have hb := Bd.bytes
  have hr := Bd.returns
  have hlocks := Bd.notSynchronized
  have hts := atoms_spec (ws := qk_ws qy_len prog_17_method_54_code 1 (some .int)) Bd.pre
  have hg : ∀ w ∈ lw_tbl, goodWord w = true → w.before (([.ref (adK 0)] : List Value).toArray) s = true := fun w h1 h2 => hts w (List.mem_cons_of_mem _ (List.mem_filter.mpr ⟨h1, h2⟩))
  have hown : s.vm.findClass "java/lang/String" = some m.cls := findClass_of_methodNamed Bd.named
  have hS : va_S (qm_A B) s.heap s.heap [] := va_S.rf
  have hl := lv_entry ([.ref (adK 0)] : List Value) (n := 1) (Nat.le_of_ble_eq_true rfl)
  rw [lg_entry_eq]
  generalize (lg_sl ([.ref (adK 0)] : List Value) ++ List.replicate (1 - (lg_sl ([.ref (adK 0)] : List Value)).length) Slot.unset).toArray = ls at hl ⊢
  have hl : lv_has ls 1 [(0, .ref (adK 0))] := hl
  have hT := (hw.1.1 0 (by decide)).2.2.2
  refine lv_aload_n hx hb qd_len_0 rfl (lv_at hl 0 rfl) ?_
  refine vk_getf (o := "java/lang/String") (n := "value") (d := "[B") (ref := "java/lang/String") hx hb (hw.1.1 0 (by decide)).2.2.1 hS hown (hg _ (qm_at_mem (q := 10032) (by decide +kernel)) rfl) (fun _ z => z) qd_len_1 ?_
  refine va_tlen (v := 129) hx hb hT hS (by decide) qd_len_4 ?_
  refine lv_aload_n hx hb qd_len_5 rfl (lv_at hl 0 rfl) ?_
  refine qk_V (y := qy_cod) (n := 0) (As := []) (rest := [.int 129]) hx hb hml hown hg hw hS (qk_m_cod l B adK adV) (by decide) (by decide) (qm_at_mem (q := 2110) rfl) (qm_at_mem (q := 14) (by decide +kernel)) (qm_at_mem (q := 2108) (by decide +kernel)) (qm_at_mem (q := 2109) (by decide +kernel)) (qm_at_mem (q := 2107) (by decide +kernel)) (by decide) (by decide +kernel) (vk_recv hw.1 (by decide) hS) rfl hl.1 (Nat.le_of_ble_eq_true rfl) qd_len_6 ⟨Nat.zero_le _, Nat.zero_le _⟩ ?_
  refine lv_ishr hx hb qd_len_9 ?_
  exact W.iret (v := 129) hx hb hr (fun t ht _ => ⟨rfl, ht⟩) (fun q hq => absurd hq List.not_mem_nil) qd_len_10
theorem qk_m_chr (l : Launch) (B : Nat) (adK adV : Nat → Nat) (i : Nat) (hi : i < 129) : Met l qy_chr (qk_ws qy_chr prog_17_method_56_code 2 (some .char)) (qk_rm 3 90) (qk_P B adK adV [.ref (adK 0), .int (nI i)]) (qk_Q (some (.int (qk_bytes.getD i 0)))) 0 0 (fun _ => False) := by
  refine qm_ofW (cc := prog_17_method_56_code) (maxL := 2) (ret := (some .char)) (by decide +kernel) rfl ?_
  intro p e s m args below meth c s₁ Bd hml hv
  obtain ⟨rfl, hw⟩ := hv
  have hx := Bd.exec
  have hb := Bd.bytes
  have hr := Bd.returns
  have hlocks := Bd.notSynchronized
  have hts := atoms_spec (ws := qk_ws qy_chr prog_17_method_56_code 2 (some .char)) Bd.pre
  have hg : ∀ w ∈ lw_tbl, goodWord w = true → w.before (([.ref (adK 0), .int (nI i)] : List Value).toArray) s = true := fun w h1 h2 => hts w (List.mem_cons_of_mem _ (List.mem_filter.mpr ⟨h1, h2⟩))
  have hown : s.vm.findClass "java/lang/String" = some m.cls := findClass_of_methodNamed Bd.named
  have hS : va_S (qm_A B) s.heap s.heap [] := va_S.rf
  have hl := lv_entry ([.ref (adK 0), .int (nI i)] : List Value) (n := 2) (Nat.le_of_ble_eq_true rfl)
  rw [lg_entry_eq]
  generalize (lg_sl ([.ref (adK 0), .int (nI i)] : List Value) ++ List.replicate (2 - (lg_sl ([.ref (adK 0), .int (nI i)] : List Value)).length) Slot.unset).toArray = ls at hl ⊢
  have hl : lv_has ls 2 [(0, .ref (adK 0)), (1, .int (nI i))] := hl
  refine lv_aload_n hx hb qd_chr_0 rfl (lv_at hl 0 rfl) ?_
  refine qk_V (y := qy_lat) (n := 0) (As := []) (rest := []) hx hb hml hown hg hw hS (qk_m_lat l B adK adV) (by decide) (by decide) (qm_at_mem (q := 2120) rfl) (qm_at_mem (q := 14) (by decide +kernel)) (qm_at_mem (q := 2118) (by decide +kernel)) (qm_at_mem (q := 2119) (by decide +kernel)) (qm_at_mem (q := 2117) (by decide +kernel)) (by decide) (by decide +kernel) (vk_recv hw.1 (by decide) hS) rfl hl.1 (Nat.le_of_ble_eq_true rfl) qd_chr_1 ⟨Nat.zero_le _, Nat.zero_le _⟩ ?_
  refine lv_if_eq (tgt := 16) hx hb qd_chr_4 rfl (fun z => absurd z (by decide)) (fun _ => ?_)
  refine lv_aload_n hx hb qd_chr_7 rfl (lv_at hl 0 rfl) ?_
  refine vk_getf (o := "java/lang/String") (n := "value") (d := "[B") (ref := "java/lang/String") hx hb (hw.1.1 0 (by decide)).2.2.1 hS hown (hg _ (qm_at_mem (q := 10032) (by decide +kernel)) rfl) (fun _ z => z) qd_chr_8 ?_
  refine lv_iload_n hx hb qd_chr_11 rfl (lv_at hl 1 rfl) ?_
  refine qk_S (n := 2) (As := [.ref (adV 0), .int (nI i)]) (rest := []) hx hb hml hown hg hw hS (qk_m_l1c l B adK adV i hi) (by decide) (by decide) (qm_at_mem (q := 2123) rfl) (qm_at_mem (q := 15) (by decide +kernel)) (qm_at_mem (q := 2122) (by decide +kernel)) (qm_at_mem (q := 2121) (by decide +kernel)) (by decide) (by decide +kernel) rfl hl.1 (Nat.le_of_ble_eq_true rfl) qd_chr_12 ⟨Nat.zero_le _, Nat.zero_le _⟩ ?_
  exact W.zret (ty := .char) hx hb hr (qk_byte i hi).2 (fun t ht _ => ⟨rfl, ht⟩) (fun q hq => absurd hq List.not_mem_nil) qd_chr_15
theorem qk_m_wl (l : Launch) (B : Nat) (adK adV : Nat → Nat) (y0 : Int64) (ch : Int32) : Met l qy_wl (qk_ws qy_wl prog_9_method_10_code 3 (some .long)) (qk_rm 0 0) (qk_P B adK adV [.long y0, .int ch]) (qk_Q (some (.long (y0 * 27 + (ch - 97 + 1).toInt64)))) 0 0 (fun _ => False) := by
  refine qm_ofW (cc := prog_9_method_10_code) (maxL := 3) (ret := (some .long)) (by decide +kernel) rfl ?_
  intro p e s m args below meth c s₁ Bd hml hv
  obtain ⟨rfl, hw⟩ := hv
  have hx := Bd.exec
  have hb := Bd.bytes
  have hr := Bd.returns
  have hlocks := Bd.notSynchronized
  have hts := atoms_spec (ws := qk_ws qy_wl prog_9_method_10_code 3 (some .long)) Bd.pre
  have hg : ∀ w ∈ lw_tbl, goodWord w = true → w.before (([.long y0, .int ch] : List Value).toArray) s = true := fun w h1 h2 => hts w (List.mem_cons_of_mem _ (List.mem_filter.mpr ⟨h1, h2⟩))
  have hown : s.vm.findClass "BoxQuay$Tokens" = some m.cls := findClass_of_methodNamed Bd.named
  have hS : va_S (qm_A B) s.heap s.heap [] := va_S.rf
  have hl := lv_entry ([.long y0, .int ch] : List Value) (n := 3) (Nat.le_of_ble_eq_true rfl)
  rw [lg_entry_eq]
  generalize (lg_sl ([.long y0, .int ch] : List Value) ++ List.replicate (3 - (lg_sl ([.long y0, .int ch] : List Value)).length) Slot.unset).toArray = ls at hl ⊢
  have hl : lv_has ls 3 [(0, .long y0), (2, .int ch)] := hl
  refine lv_lload_n hx hb qd_wl_0 rfl (lv_at hl 0 rfl) ?_
  refine lv_ldc2 (v := 27) hx hb hown (hg _ (qm_at_mem (q := 2098) (by decide +kernel)) rfl) qd_wl_1 ?_
  refine lv_lmul hx hb qd_wl_4 ?_
  refine lv_iload_n hx hb qd_wl_5 rfl (lv_at hl 1 rfl) ?_
  refine lv_bipush (v := 97) hx hb qd_wl_6 (by decide) ?_
  refine lv_isub hx hb qd_wl_8 ?_
  refine lv_iconst (v := 1) hx hb qd_wl_9 (by decide) ?_
  refine lv_iadd hx hb qd_wl_10 ?_
  refine lv_i2l hx hb qd_wl_11 rfl ?_
  refine lv_ladd hx hb qd_wl_12 ?_
  exact W.lret hx hb hr (fun t ht _ => ⟨rfl, ht⟩) (fun q hq => absurd hq List.not_mem_nil) qd_wl_13
noncomputable def qk_go (x : Int64) : List Int32 → Int32 → Int64 → Int32
  | [], _, _ => 26
  | c :: r, k, w => if c = 32 then (if x = w then k else qk_go x r (k + 1) 0) else qk_go x r k (w * 27 + (c - 97 + 1).toInt64)
theorem qk_bl : qk_bytes.length = 129 := by decide +kernel
theorem qk_cmp0 (w x : Int64) : lg_cmp w x = 0 ↔ x = w := by
  unfold lg_cmp
  by_cases h : w = x
  · subst h
    simp
  · have h' : ¬ x = w := fun z => h z.symm
    by_cases h2 : w > x
    · simp [h, h', h2]
    · simp [h, h', h2]
theorem qk_loop {p : Program} {l : Launch} {e : Env} {R : Room} {s : State} {m : MethodId} {args : Array Value} {below : List Frame} {meth : Method} {c : Code} {Q : State → Prop} {B : Nat} {adK adV : Nat → Nat} {x : Int64} (hx : p.tables.exec = Jvm.exec) (hb : c.code = prog_9_method_9_code) (hml : c.maxLocals = 7) (hown : s.vm.findClass "BoxQuay$Tokens" = some m.cls) (hg : ∀ w ∈ lw_tbl, goodWord w = true → w.before args s = true) (hw : qm_sx B adK adV s) (hfr : 4 ≤ R.frames) (hlo : 200 ≤ R.locals)
    (kk : ∀ (ls : Array Slot) (v : Int32) (pc : Nat), decode prog_9_method_9_code pc = .ok (.ireturn, 1) → v = qk_go x qk_bytes 0 0 → W p l e R s m args below meth c s.heap [] 0 0 Q (F0 m pc ls [.int v])) :
    ∀ (r : List Int32) (i : Nat) (k : Int32) (w : Int64) (ls : Array Slot), qk_bytes.drop i = r → i ≤ 129 → qk_go x r k w = qk_go x qk_bytes 0 0 → lv_has ls 7 [(5, .int (nI i)), (3, .long w), (2, .int k), (0, .long x)] → W p l e R s m args below meth c s.heap [] 0 0 Q (F0 m 7 ls []) := by
  have hS : va_S (qm_A B) s.heap s.heap [] := va_S.rf
  intro r
  induction r with
  | nil =>
    intro i k w ls hd hi he hl
    have h129 : i = 129 := by
      have := List.drop_eq_nil_iff.mp hd
      rw [qk_bl] at this
      omega
    subst h129
    refine lv_iload hx hb qd_knd_7 (lv_at hl 0 rfl) ?_
    refine va_ldcS hx hb hown hw.2.1 qd_knd_9 ?_
    refine qk_V (y := qy_len) (n := 0) (As := []) (rest := [.int (nI 129)]) hx hb hml hown hg hw hS (qk_m_len l B adK adV) (by omega) (by omega) (qm_at_mem (q := 2106) rfl) (qm_at_mem (q := 14) (by decide +kernel)) (qm_at_mem (q := 2104) (by decide +kernel)) (qm_at_mem (q := 2105) (by decide +kernel)) (qm_at_mem (q := 2103) (by decide +kernel)) (by decide) (by decide +kernel) (vk_recv hw.1 (by decide) hS) rfl hl.1 (Nat.le_of_ble_eq_true rfl) qd_knd_11 ⟨Nat.zero_le _, Nat.zero_le _⟩ ?_
    refine lv_icmp_ge (tgt := 62) hx hb qd_knd_14 rfl (fun _ => ?_) (fun z => absurd (show nI 129 ≤ nI 129 from nI_le (Nat.le_refl _) (by decide)) z)
    refine lv_bipush (v := 26) hx hb qd_knd_62 (by decide) ?_
    exact kk ls 26 64 qd_knd_64 he
  | cons ch r ih =>
    intro i k w ls hd hi he hl
    have hlt : i < 129 := by
      rcases Nat.lt_or_ge i 129 with h | h
      · exact h
      · rw [List.drop_eq_nil_of_le (by rw [qk_bl]; exact h)] at hd
        cases hd
    have hch : qk_bytes.getD i 0 = ch := by
      have h1 : (qk_bytes.drop i)[0]? = some ch := by rw [hd]; rfl
      rw [List.getElem?_drop] at h1
      rw [List.getD_eq_getElem?_getD, show i = i + 0 from rfl, h1]
      rfl
    have hd2 : qk_bytes.drop (i + 1) = r := by
      rw [← List.drop_drop, hd]
      rfl
    refine lv_iload hx hb qd_knd_7 (lv_at hl 0 rfl) ?_
    refine va_ldcS hx hb hown hw.2.1 qd_knd_9 ?_
    refine qk_V (y := qy_len) (n := 0) (As := []) (rest := [.int (nI i)]) hx hb hml hown hg hw hS (qk_m_len l B adK adV) (by omega) (by omega) (qm_at_mem (q := 2106) rfl) (qm_at_mem (q := 14) (by decide +kernel)) (qm_at_mem (q := 2104) (by decide +kernel)) (qm_at_mem (q := 2105) (by decide +kernel)) (qm_at_mem (q := 2103) (by decide +kernel)) (by decide) (by decide +kernel) (vk_recv hw.1 (by decide) hS) rfl hl.1 (Nat.le_of_ble_eq_true rfl) qd_knd_11 ⟨Nat.zero_le _, Nat.zero_le _⟩ ?_
    refine lv_icmp_ge (tgt := 62) hx hb qd_knd_14 rfl (fun z => absurd (show nI 129 ≤ nI i from z) (nI_ge hlt (by decide))) (fun _ => ?_)
    refine va_ldcS hx hb hown hw.2.1 qd_knd_17 ?_
    refine lv_iload hx hb qd_knd_19 (lv_at hl 0 rfl) ?_
    refine qk_V (y := qy_chr) (n := 1) (As := [.int (nI i)]) (rest := []) hx hb hml hown hg hw hS (qk_m_chr l B adK adV i hlt) (by omega) (by omega) (qm_at_mem (q := 2116) rfl) (qm_at_mem (q := 14) (by decide +kernel)) (qm_at_mem (q := 2114) (by decide +kernel)) (qm_at_mem (q := 2115) (by decide +kernel)) (qm_at_mem (q := 2113) (by decide +kernel)) (by decide) (by decide +kernel) (vk_recv hw.1 (by decide) hS) rfl hl.1 (Nat.le_of_ble_eq_true rfl) qd_knd_21 ⟨Nat.zero_le _, Nat.zero_le _⟩ ?_
    rw [hch]
    refine lv_istore (lv' := [(6, .int ch), (5, .int (nI i)), (3, .long w), (2, .int k), (0, .long x)]) hx hb qd_knd_24 hl (by decide) rfl (fun ls hl => ?_)
    refine lv_iload hx hb qd_knd_26 (lv_at hl 0 rfl) ?_
    refine lv_bipush (v := 32) hx hb qd_knd_28 (by decide) ?_
    refine lv_icmp_eq (tgt := 43) hx hb qd_knd_30 rfl (fun z => ?_) (fun z => ?_)
    · rw [qk_go, if_pos z] at he
      refine lv_lload_n hx hb qd_knd_43 rfl (lv_at hl 2 rfl) ?_
      refine lv_lload_n hx hb qd_knd_44 rfl (lv_at hl 4 rfl) ?_
      refine W.lcmp hx hb qd_knd_45 ?_
      refine lv_if_ne (tgt := 51) hx hb qd_knd_46 rfl (fun z2 => ?_) (fun z2 => ?_)
      · rw [if_neg (fun z3 => z2 ((qk_cmp0 w x).mpr z3))] at he
        refine lv_iinc (k := 3) (x := k) (v := k + 1) (lv' := [(2, .int (k + 1)), (6, .int ch), (5, .int (nI i)), (3, .long w), (0, .long x)]) hx hb qd_knd_51 hl rfl rfl (by decide) rfl (fun ls hl => ?_)
        refine lv_lconst (v := 0) hx hb qd_knd_54 (by decide) ?_
        refine lv_lstore_n (lv' := [(3, .long 0), (2, .int (k + 1)), (6, .int ch), (5, .int (nI i)), (0, .long x)]) hx hb qd_knd_55 rfl hl (by decide) rfl (fun ls hl => ?_)
        refine lv_iinc (k := 3) (x := nI i) (v := nI (i + 1)) (lv' := [(5, .int (nI (i + 1))), (3, .long 0), (2, .int (k + 1)), (6, .int ch), (0, .long x)]) hx hb qd_knd_56 hl rfl (nI_succ i).symm (by decide) rfl (fun ls hl => ?_)
        refine lv_goto (tgt := 7) hx hb qd_knd_59 rfl ?_
        exact ih (i + 1) (k + 1) 0 ls hd2 (by omega) he (lv_sub hl [0, 1, 2, 4] rfl)
      · have z3 : x = w := (qk_cmp0 w x).mp z2
        rw [if_pos z3] at he
        refine lv_iload_n hx hb qd_knd_49 rfl (lv_at hl 3 rfl) ?_
        exact kk ls k 50 qd_knd_50 he
    · rw [qk_go, if_neg z] at he
      refine lv_lload_n hx hb qd_knd_33 rfl (lv_at hl 2 rfl) ?_
      refine lv_iload hx hb qd_knd_34 (lv_at hl 0 rfl) ?_
      refine qk_S (y := qy_wl) (n := 2) (As := [.long w, .int ch]) (rest := []) hx hb hml hown hg hw hS (qk_m_wl l B adK adV w ch) (by omega) (by omega) (qm_at_mem (q := 2097) rfl) (qm_at_mem (q := 2) (by decide +kernel)) (qm_at_mem (q := 2096) (by decide +kernel)) (qm_at_mem (q := 2095) (by decide +kernel)) (by decide) (by decide +kernel) rfl hl.1 (Nat.le_of_ble_eq_true rfl) qd_knd_36 ⟨Nat.zero_le _, Nat.zero_le _⟩ ?_
      refine lv_lstore_n (x := w * 27 + (ch - 97 + 1).toInt64) (lv' := [(3, .long (w * 27 + (ch - 97 + 1).toInt64)), (6, .int ch), (5, .int (nI i)), (2, .int k), (0, .long x)]) hx hb qd_knd_39 rfl hl (by decide) rfl (fun ls hl => ?_)
      refine lv_goto (tgt := 56) hx hb qd_knd_40 rfl ?_
      refine lv_iinc (k := 2) (x := nI i) (v := nI (i + 1)) (lv' := [(5, .int (nI (i + 1))), (3, .long (w * 27 + (ch - 97 + 1).toInt64)), (6, .int ch), (2, .int k), (0, .long x)]) hx hb qd_knd_56 hl rfl (nI_succ i).symm (by decide) rfl (fun ls hl => ?_)
      refine lv_goto (tgt := 7) hx hb qd_knd_59 rfl ?_
      exact ih (i + 1) k (w * 27 + (ch - 97 + 1).toInt64) ls hd2 (by omega) he (lv_sub hl [0, 1, 3, 4] rfl)
noncomputable def qk_wd : List Int32 → Int64 → Int64
  | [], w => w
  | c :: r, w => qk_wd r (w * 27 + (c - 97 + 1).toInt64)
theorem qk_gow (x : Int64) (k : Int32) (t : List Int32) : ∀ (r : List Int32) (w : Int64), r.all (fun c => !decide (c = 32)) = true → qk_go x (r ++ 32 :: t) k w = if x = qk_wd r w then k else qk_go x t (k + 1) 0
  | [], w, _ => by
    show qk_go x (32 :: t) k w = _
    rw [qk_go, if_pos rfl]
    rfl
  | c :: r, w, h => by
    rw [List.all_cons, Bool.and_eq_true, Bool.not_eq_true', decide_eq_false_iff_not] at h
    rw [List.cons_append, qk_go, if_neg h.1, qk_gow x k t r _ h.2]
    rfl
theorem qk_bsp : qk_bytes = ([98, 97, 121, 115] ++ 32 :: ([108, 105, 115, 116] ++ 32 :: ([116, 114, 105, 109] ++ 32 :: ([98, 101, 110, 100] ++ 32 :: ([108, 105, 102, 116] ++ 32 :: ([112, 108, 117, 103] ++ 32 :: ([112, 97, 105, 114] ++ 32 :: ([112, 108, 97, 99, 101] ++ 32 :: ([105, 102] ++ 32 :: ([111, 114] ++ 32 :: ([97, 110, 100] ++ 32 :: ([110, 111, 116] ++ 32 :: ([115, 111, 114, 116] ++ 32 :: ([119, 101, 105, 103, 104, 116] ++ 32 :: ([112, 111, 114, 116] ++ 32 :: ([98, 97, 121] ++ 32 :: ([114, 111, 119] ++ 32 :: ([116, 105, 101, 114] ++ 32 :: ([112, 108, 117, 103, 103, 101, 100] ++ 32 :: ([111, 115, 111, 114, 116] ++ 32 :: ([111, 119, 101, 105, 103, 104, 116] ++ 32 :: ([111, 112, 111, 114, 116] ++ 32 :: ([111, 98, 97, 121] ++ 32 :: ([111, 114, 111, 119] ++ 32 :: ([111, 116, 105, 101, 114] ++ 32 :: ([] : List Int32)))))))))))))))))))))))))) := by decide +kernel
theorem qk_same (x : Int64) : qk_go x qk_bytes 0 0 = qk_kind x := by
  rw [qk_bsp]
  rw [qk_gow _ _ _ _ _ (by decide +kernel), show qk_wd [98, 97, 121, 115] 0 = 40789 by decide +kernel]
  rw [qk_gow _ _ _ _ _ (by decide +kernel), show qk_wd [108, 105, 115, 116] 0 = 243290 by decide +kernel]
  rw [qk_gow _ _ _ _ _ (by decide +kernel), show qk_wd [116, 114, 105, 109] 0 = 407038 by decide +kernel]
  rw [qk_gow _ _ _ _ _ (by decide +kernel), show qk_wd [98, 101, 110, 100] 0 = 43393 by decide +kernel]
  rw [qk_gow _ _ _ _ _ (by decide +kernel), show qk_wd [108, 105, 102, 116] 0 = 242939 by decide +kernel]
  rw [qk_gow _ _ _ _ _ (by decide +kernel), show qk_wd [112, 108, 117, 103] 0 = 324250 by decide +kernel]
  rw [qk_gow _ _ _ _ _ (by decide +kernel), show qk_wd [112, 97, 105, 114] 0 = 315918 by decide +kernel]
  rw [qk_gow _ _ _ _ _ (by decide +kernel), show qk_wd [112, 108, 97, 99, 101] 0 = 8740067 by decide +kernel]
  rw [qk_gow _ _ _ _ _ (by decide +kernel), show qk_wd [105, 102] 0 = 249 by decide +kernel]
  rw [qk_gow _ _ _ _ _ (by decide +kernel), show qk_wd [111, 114] 0 = 423 by decide +kernel]
  rw [qk_gow _ _ _ _ _ (by decide +kernel), show qk_wd [97, 110, 100] 0 = 1111 by decide +kernel]
  rw [qk_gow _ _ _ _ _ (by decide +kernel), show qk_wd [110, 111, 116] 0 = 10631 by decide +kernel]
  rw [qk_gow _ _ _ _ _ (by decide +kernel), show qk_wd [115, 111, 114, 116] 0 = 385418 by decide +kernel]
  rw [qk_gow _ _ _ _ _ (by decide +kernel), show qk_wd [119, 101, 105, 103, 104, 116] 0 = 332864552 by decide +kernel]
  rw [qk_gow _ _ _ _ _ (by decide +kernel), show qk_wd [112, 111, 114, 116] 0 = 326369 by decide +kernel]
  rw [qk_gow _ _ _ _ _ (by decide +kernel), show qk_wd [98, 97, 121] 0 = 1510 by decide +kernel]
  rw [qk_gow _ _ _ _ _ (by decide +kernel), show qk_wd [114, 111, 119] 0 = 13550 by decide +kernel]
  rw [qk_gow _ _ _ _ _ (by decide +kernel), show qk_wd [116, 105, 101, 114] 0 = 400374 by decide +kernel]
  rw [qk_gow _ _ _ _ _ (by decide +kernel), show qk_wd [112, 108, 117, 103, 103, 101, 100] 0 = 6382217992 by decide +kernel]
  rw [qk_gow _ _ _ _ _ (by decide +kernel), show qk_wd [111, 115, 111, 114, 116] 0 = 8357033 by decide +kernel]
  rw [qk_gow _ _ _ _ _ (by decide +kernel), show qk_wd [111, 119, 101, 105, 103, 104, 116] 0 = 6144171887 by decide +kernel]
  rw [qk_gow _ _ _ _ _ (by decide +kernel), show qk_wd [111, 112, 111, 114, 116] 0 = 8297984 by decide +kernel]
  rw [qk_gow _ _ _ _ _ (by decide +kernel), show qk_wd [111, 98, 97, 121] 0 = 296755 by decide +kernel]
  rw [qk_gow _ _ _ _ _ (by decide +kernel), show qk_wd [111, 114, 111, 119] 0 = 308795 by decide +kernel]
  rw [qk_gow _ _ _ _ _ (by decide +kernel), show qk_wd [111, 116, 105, 101, 114] 0 = 8371989 by decide +kernel]
  rfl
theorem qk_kd (l : Launch) (D : va_G) (aC : Nat → ClassId) (b B L : Nat) (xs : Nat → Int32) (d : Nat) (x : Int64) (h : qm_H) : Met l hd_382.2.1 (qm_ws hd_382) (qm_rm d 0 0) (qm_Pc D aC b B L xs [.long x] h) (qm_Qc D aC b B (some (.int (qk_kind x))) h) 0 0 (qm_A B) := by
  refine qm_ofW (cc := prog_9_method_9_code) (maxL := 7) (ret := (some .int)) (by decide +kernel) rfl ?_
  intro p e s m args below meth c s₁ Bd hml hv
  obtain ⟨rfl, hH, hK, hX, hB, how⟩ := hv
  obtain ⟨-, adK, adV, hw⟩ := how
  have hx := Bd.exec
  have hb := Bd.bytes
  have hr := Bd.returns
  have hlocks := Bd.notSynchronized
  have hts := atoms_spec (ws := qm_ws hd_382) Bd.pre
  have hg : ∀ w ∈ lw_tbl, goodWord w = true → w.before (([Value.long x].map (qm_cv b B)).toArray) s = true := fun w h1 h2 => hts w (List.mem_cons_of_mem _ (List.mem_filter.mpr ⟨h1, h2⟩))
  have hown : s.vm.findClass "BoxQuay$Tokens" = some m.cls := findClass_of_methodNamed Bd.named
  have hS : va_S (qm_A B) s.heap s.heap [] := va_S.rf
  have hl := lv_entry ([.long x] : List Value) (n := 7) (Nat.le_of_ble_eq_true rfl)
  show W p l e _ s m _ below meth c s.heap [] 0 0 _ (entryFrame m ([.long x] : List Value).toArray 7)
  rw [lg_entry_eq]
  generalize (lg_sl ([.long x] : List Value) ++ List.replicate (7 - (lg_sl ([.long x] : List Value)).length) Slot.unset).toArray = ls at hl ⊢
  have hl : lv_has ls 7 [(0, .long x)] := hl
  refine lv_iconst (v := 0) hx hb qd_knd_0 (by decide) ?_
  refine lv_istore_n (lv' := [(2, .int 0), (0, .long x)]) hx hb qd_knd_1 rfl hl (by decide) rfl (fun ls hl => ?_)
  refine lv_lconst (v := 0) hx hb qd_knd_2 (by decide) ?_
  refine lv_lstore_n (lv' := [(3, .long 0), (2, .int 0), (0, .long x)]) hx hb qd_knd_3 rfl hl (by decide) rfl (fun ls hl => ?_)
  refine lv_iconst (v := 0) hx hb qd_knd_4 (by decide) ?_
  refine lv_istore (lv' := [(5, .int (nI 0)), (3, .long 0), (2, .int 0), (0, .long x)]) hx hb qd_knd_5 hl (by decide) rfl (fun ls hl => ?_)
  refine qk_loop (x := x) hx hb hml hown hg hw ?_ ?_ ?_ qk_bytes 0 0 0 ls rfl (by decide) rfl hl
  · show 4 ≤ d + 6
    omega
  · show 200 ≤ 64 * (d + 6)
    omega
  · intro ls v pc hdg hv
    rw [qk_same] at hv
    subst hv
    exact W.iret hx hb hr (fun t ht _ => ⟨rfl, by rw [ht]; exact hH, hS.F ht⟩) (fun q hq => absurd hq List.not_mem_nil) hdg
