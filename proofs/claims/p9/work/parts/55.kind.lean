/-! the kind of a word, by code of our own that answers as the class's does -/
def qk_words : List Int64 := [40789, 243290, 407038, 43393, 242939, 324250, 315918, 8740067, 249, 423, 1111, 10631, 385418, 332864552, 326369, 1510, 13550, 400374, 6382217992, 8357033, 6144171887, 8297984, 296755, 308795, 8371989]
def qk_at : List Int64 → Int32 → Int64 → Int32
  | [], _, _ => 26
  | w :: r, k, x => if x = w then k else qk_at r (k + 1) x
def qk_kind (x : Int64) : Int32 := qk_at qk_words 0 x
section QK
variable {F : Nat → Nat × qm_Cd} {X : Option (Nat × (Nat → Int32))} {n d : Nat} {cd : qm_Cd} {c c' c1 c2 : qm_C} {r : Option Value × qm_H} {b : Bool}
theorem qk_nx (hs : qm_step X cd c = some (.inl c')) (hr : qm_run F X n d cd c = some r) : ∃ n', qm_run F X n' d cd c' = some r := by
  cases n with
  | zero => cases hr
  | succ n =>
    unfold qm_run at hr
    rw [hs] at hr
    exact ⟨n, hr⟩
theorem qk_br (hs : qm_step X cd c = some (.inr (.inl (b, c1, c2)))) (hr : qm_run F X n d cd c = some r) : ∃ n', qm_run F X n' d cd (bif b then c1 else c2) = some r := by
  cases n with
  | zero => cases hr
  | succ n =>
    unfold qm_run at hr
    rw [hs] at hr
    exact ⟨n, hr⟩
theorem qk_rt {q : Option Value × qm_H} (hs : qm_step X cd c = some (.inr (.inr (.inl q)))) (hr : qm_run F X n d cd c = some r) : r = q := by
  cases n with
  | zero => cases hr
  | succ n =>
    unfold qm_run at hr
    rw [hs] at hr
    exact (Option.some.inj hr).symm
theorem qk_no (hs : qm_step X cd c = none) (hr : qm_run F X n d cd c = some r) : False := by
  cases n with
  | zero => cases hr
  | succ n =>
    unfold qm_run at hr
    rw [hs] at hr
    cases hr
theorem qk_cmp (x w : Int64) : qm_cz .ne (lg_cmp x w) = !decide (x = w) := by
  unfold qm_cz lg_cmp
  by_cases h : x = w
  · subst h
    simp
  · by_cases h2 : x > w
    · simp [h, h2]
    · simp [h, h2]
theorem qk_link {p0 p1 p2 p3 p4 p5 p6 pz : Nat} {w x : Int64} {k : Int32} {i1 : Nat} {i2 : Int} {t : List Value} {h : qm_H} {rest : List Int64} {n4 : Int}
    (f0 : qm_fetch cd p0 = some (p0, p1, .lload_n 0, 0, 0, .null)) (f1 : qm_fetch cd p1 = some (p1, p2, .ldc2_w i1, 0, 0, .long w)) (f2 : qm_fetch cd p2 = some (p2, p3, .lcmp, 0, 0, .null)) (f3 : qm_fetch cd p3 = some (p3, p4, .ifCond .ne i2, pz, 0, .null)) (f4 : qm_fetch cd p4 = some (p4, p5, .bipush n4, 0, 0, .int k)) (f5 : qm_fetch cd p5 = some (p5, p6, .ireturn, 0, 0, .null))
    (hr : qm_run F X n d cd (p0, .long x :: t, [], h) = some r) (g : ∀ n', qm_run F X n' d cd (pz, .long x :: t, [], h) = some r → r = (some (.int (qk_at rest (k + 1) x)), h)) : r = (some (.int (qk_at (w :: rest) k x)), h) := by
  obtain ⟨n1, h1⟩ := qk_nx (c' := (p1, .long x :: t, [.long x], h)) (by unfold qm_step; rw [f0]; rfl) hr
  obtain ⟨n2, h2⟩ := qk_nx (c' := (p2, .long x :: t, [.long w, .long x], h)) (by unfold qm_step; rw [f1]; rfl) h1
  obtain ⟨n3, h3⟩ := qk_nx (c' := (p3, .long x :: t, [.int (lg_cmp x w)], h)) (by unfold qm_step; rw [f2]; rfl) h2
  obtain ⟨n4, h4⟩ := qk_br (b := qm_cz .ne (lg_cmp x w)) (c1 := (pz, .long x :: t, [], h)) (c2 := (p4, .long x :: t, [], h)) (by unfold qm_step; rw [f3]; rfl) h3
  rw [qk_cmp] at h4
  by_cases e : x = w
  · simp only [e, decide_true, Bool.not_true, cond_false] at h4
    obtain ⟨n5, h5⟩ := qk_nx (c' := (p5, .long w :: t, [.int k], h)) (by unfold qm_step; rw [f4]; rfl) h4
    have h6 := qk_rt (q := (some (.int k), h)) (by unfold qm_step; rw [f5]; rfl) h5
    rw [h6, qk_at, if_pos e]
  · simp only [e, decide_false, Bool.not_false, cond_true] at h4
    rw [qk_at, if_neg e]
    exact g n4 h4
theorem qk_run {x : Int64} {t : List Value} {h : qm_H} (hr : qm_run F X n d cd_382 (0, .long x :: t, [], h) = some r) : r = (some (.int (qk_kind x)), h) := by
  unfold qk_kind qk_words
  refine qk_link (p0 := 0) (p1 := 1) (p2 := 4) (p3 := 5) (p4 := 8) (p5 := 9) (p6 := 10) (pz := 10) rfl rfl rfl rfl rfl rfl hr (fun _ hr => ?_)
  refine qk_link (p0 := 10) (p1 := 11) (p2 := 14) (p3 := 15) (p4 := 18) (p5 := 19) (p6 := 20) (pz := 20) rfl rfl rfl rfl rfl rfl hr (fun _ hr => ?_)
  refine qk_link (p0 := 20) (p1 := 21) (p2 := 24) (p3 := 25) (p4 := 28) (p5 := 29) (p6 := 30) (pz := 30) rfl rfl rfl rfl rfl rfl hr (fun _ hr => ?_)
  refine qk_link (p0 := 30) (p1 := 31) (p2 := 34) (p3 := 35) (p4 := 38) (p5 := 39) (p6 := 40) (pz := 40) rfl rfl rfl rfl rfl rfl hr (fun _ hr => ?_)
  refine qk_link (p0 := 40) (p1 := 41) (p2 := 44) (p3 := 45) (p4 := 48) (p5 := 49) (p6 := 50) (pz := 50) rfl rfl rfl rfl rfl rfl hr (fun _ hr => ?_)
  refine qk_link (p0 := 50) (p1 := 51) (p2 := 54) (p3 := 55) (p4 := 58) (p5 := 59) (p6 := 60) (pz := 60) rfl rfl rfl rfl rfl rfl hr (fun _ hr => ?_)
  refine qk_link (p0 := 60) (p1 := 61) (p2 := 64) (p3 := 65) (p4 := 68) (p5 := 69) (p6 := 70) (pz := 70) rfl rfl rfl rfl rfl rfl hr (fun _ hr => ?_)
  refine qk_link (p0 := 70) (p1 := 71) (p2 := 74) (p3 := 75) (p4 := 78) (p5 := 79) (p6 := 80) (pz := 80) rfl rfl rfl rfl rfl rfl hr (fun _ hr => ?_)
  refine qk_link (p0 := 80) (p1 := 81) (p2 := 84) (p3 := 85) (p4 := 88) (p5 := 89) (p6 := 90) (pz := 90) rfl rfl rfl rfl rfl rfl hr (fun _ hr => ?_)
  refine qk_link (p0 := 90) (p1 := 91) (p2 := 94) (p3 := 95) (p4 := 98) (p5 := 99) (p6 := 100) (pz := 100) rfl rfl rfl rfl rfl rfl hr (fun _ hr => ?_)
  refine qk_link (p0 := 100) (p1 := 101) (p2 := 104) (p3 := 105) (p4 := 108) (p5 := 109) (p6 := 110) (pz := 110) rfl rfl rfl rfl rfl rfl hr (fun _ hr => ?_)
  refine qk_link (p0 := 110) (p1 := 111) (p2 := 114) (p3 := 115) (p4 := 118) (p5 := 119) (p6 := 120) (pz := 120) rfl rfl rfl rfl rfl rfl hr (fun _ hr => ?_)
  refine qk_link (p0 := 120) (p1 := 121) (p2 := 124) (p3 := 125) (p4 := 128) (p5 := 129) (p6 := 130) (pz := 130) rfl rfl rfl rfl rfl rfl hr (fun _ hr => ?_)
  refine qk_link (p0 := 130) (p1 := 131) (p2 := 134) (p3 := 135) (p4 := 138) (p5 := 139) (p6 := 140) (pz := 140) rfl rfl rfl rfl rfl rfl hr (fun _ hr => ?_)
  refine qk_link (p0 := 140) (p1 := 141) (p2 := 144) (p3 := 145) (p4 := 148) (p5 := 149) (p6 := 150) (pz := 150) rfl rfl rfl rfl rfl rfl hr (fun _ hr => ?_)
  refine qk_link (p0 := 150) (p1 := 151) (p2 := 154) (p3 := 155) (p4 := 158) (p5 := 159) (p6 := 160) (pz := 160) rfl rfl rfl rfl rfl rfl hr (fun _ hr => ?_)
  refine qk_link (p0 := 160) (p1 := 161) (p2 := 164) (p3 := 165) (p4 := 168) (p5 := 169) (p6 := 170) (pz := 170) rfl rfl rfl rfl rfl rfl hr (fun _ hr => ?_)
  refine qk_link (p0 := 170) (p1 := 171) (p2 := 174) (p3 := 175) (p4 := 178) (p5 := 179) (p6 := 180) (pz := 180) rfl rfl rfl rfl rfl rfl hr (fun _ hr => ?_)
  refine qk_link (p0 := 180) (p1 := 181) (p2 := 184) (p3 := 185) (p4 := 188) (p5 := 189) (p6 := 190) (pz := 190) rfl rfl rfl rfl rfl rfl hr (fun _ hr => ?_)
  refine qk_link (p0 := 190) (p1 := 191) (p2 := 194) (p3 := 195) (p4 := 198) (p5 := 199) (p6 := 200) (pz := 200) rfl rfl rfl rfl rfl rfl hr (fun _ hr => ?_)
  refine qk_link (p0 := 200) (p1 := 201) (p2 := 204) (p3 := 205) (p4 := 208) (p5 := 209) (p6 := 210) (pz := 210) rfl rfl rfl rfl rfl rfl hr (fun _ hr => ?_)
  refine qk_link (p0 := 210) (p1 := 211) (p2 := 214) (p3 := 215) (p4 := 218) (p5 := 219) (p6 := 220) (pz := 220) rfl rfl rfl rfl rfl rfl hr (fun _ hr => ?_)
  refine qk_link (p0 := 220) (p1 := 221) (p2 := 224) (p3 := 225) (p4 := 228) (p5 := 229) (p6 := 230) (pz := 230) rfl rfl rfl rfl rfl rfl hr (fun _ hr => ?_)
  refine qk_link (p0 := 230) (p1 := 231) (p2 := 234) (p3 := 235) (p4 := 238) (p5 := 239) (p6 := 240) (pz := 240) rfl rfl rfl rfl rfl rfl hr (fun _ hr => ?_)
  refine qk_link (p0 := 240) (p1 := 241) (p2 := 244) (p3 := 245) (p4 := 248) (p5 := 249) (p6 := 250) (pz := 250) rfl rfl rfl rfl rfl rfl hr (fun _ hr => ?_)
  obtain ⟨n5, h5⟩ := qk_nx (c' := (252, .long x :: t, [.int 26], h)) rfl hr
  exact qk_rt (q := (some (.int 26), h)) rfl h5
theorem qk_call {as : List Value} {h : qm_H} (hlen : (∃ q t, as = .ref q :: t) ∨ as.length = 1) (hr : qm_run F X n d cd_382 (qm_ent 7 as h) = some r) : ∃ x, as = [.long x] ∧ r = (some (.int (qk_kind x)), h) := by
  rcases hlen with ⟨q, t, rfl⟩ | hl
  · exact (qk_no (c := (0, .ref q :: (qm_la t ++ List.replicate (7 - (qm_la (.ref q :: t)).length) (.float 0)), [], h)) rfl hr).elim
  · match as, hl with
    | [w], _ =>
      cases w with
      | long x => exact ⟨x, rfl, qk_run (t := .float 0 :: ([] ++ List.replicate 5 (.float 0))) hr⟩
      | int x => exact (qk_no (c := (0, .int x :: ([] ++ List.replicate 6 (.float 0)), [], h)) rfl hr).elim
      | float x => exact (qk_no (c := (0, .float x :: ([] ++ List.replicate 6 (.float 0)), [], h)) rfl hr).elim
      | double x => exact (qk_no (c := (0, .double x :: .float 0 :: ([] ++ List.replicate 5 (.float 0)), [], h)) rfl hr).elim
      | null => exact (qk_no (c := (0, .null :: ([] ++ List.replicate 6 (.float 0)), [], h)) rfl hr).elim
      | ref x => exact (qk_no (c := (0, .ref x :: ([] ++ List.replicate 6 (.float 0)), [], h)) rfl hr).elim
      | retAddr x => exact (qk_no (c := (0, .retAddr x :: ([] ++ List.replicate 6 (.float 0)), [], h)) rfl hr).elim
end QK
