/-! the law's run, whole -/
theorem qm_law_run {L : Nat} (hL : L ≤ 6) (xs : Nat → Int32) : qm_Ru (some (L, xs)) 13 cd_law (qm_ent 4 [.retAddr 0] qm_h0) qm_Qf := by
  refine qm_begin (d := 12) (by decide) ?_
  by_cases h6 : L < 6
  · exact qm_short h6
  · have h : L = 6 := by omega
    subst h
    refine qm_Ru.deep ?_ (Nat.le_succ 12)
    obtain ⟨j, hj, e⟩ := qm_63 (xs 0)
    by_cases h44 : j = 44
    · subst h44; exact wk_all e
    · by_cases h53 : j = 53
      · subst h53; exact qz_53 e
      · by_cases h54 : j = 54
        · subst h54; exact qz_54 e
        · by_cases h23 : j = 23
          · subst h23; exact ti_23 e
          · by_cases h24 : j = 24
            · subst h24; exact ti_24 e
            · exact qm_one xs hj e h23 h24 h44 h53 h54
theorem whole_start {p : Program} {e : Env} {s : State} {m : MethodId} {below : List Frame} {meth : Method} {c : Code} (l : Launch) {b L : Nat} {xs : Nat → Int32} (hL : L ≤ 6) (C0 : lw_At p s m meth c b L xs) : W p l e room_1 s m #[Value.ref b] below meth c s.heap [] 0 0 (lw_Z below #[Value.ref b] s) (entryFrame m ([Value.ref b] : List Value).toArray 4) :=
  qm_law_W l C0 (d := 13) (by decide) (qm_law_run hL xs)
