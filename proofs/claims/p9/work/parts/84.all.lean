/-! all ways from a head, to heads that lie lower, or to the law's next call -/
noncomputable def qm_cod (F : Nat → Nat × qm_Cd) (j : Nat) : qm_Cd := bif Nat.beq j 1000 then cd_law else (F j).2
noncomputable def qa_KK (X : Option (Nat × (Nat → Int32))) (Z : Option Value → qm_H → Prop) : Nat → qa_Fs → Option Value → qm_H → Prop
  | _, [] => Z
  | d, g :: fs => fun v h => qm_Ru X (d + 1) (qm_cod qm_F g.1) (g.2.1, g.2.2.1, v.toList ++ g.2.2.2, h) (qa_KK X Z (d + 1) fs)
noncomputable def qa_run (X : Option (Nat × (Nat → Int32))) (Z : Option Value → qm_H → Prop) (d j : Nat) (c : qm_C) (fs : qa_Fs) : Prop := qm_Ru X d (qm_cod qm_F j) c (qa_KK X Z d fs)
/-- a method taken at its word: its number; may it be called so; the answer's bounds; the objects that it may write; the frames that it needs -/
abbrev qa_Ct : Type := Nat × (qa_K → List Value → Bool) × Option qa_B × List Nat × Nat
noncomputable def qa_hv (K : qa_K) (mod : List Nat) : qa_K := (K.1, K.2.1, K.2.2.1, K.2.2.2.1, K.2.2.2.2.1.filter (fun q => !qa_has mod q.1), K.2.2.2.2.2.filter (fun q => !qa_has mod q.1))
noncomputable def qa_hc (P : qa_P) (S : qm_H → Prop) (X : Option (Nat × (Nat → Int32))) (q : qa_Ct) : Prop := ∀ (p : List Int32) (K : qa_K) (as as' : List Value) (h : qm_H) (d : Nat) (Z : Option Value → qm_H → Prop), qa_sat p K → qa_hp p K h → qa_G p as as' → q.2.1 K as = true → qa_Inv P S h → q.2.2.2.2 ≤ d → (∀ r h', (match q.2.2.1 with
  | none => r = none
  | some b => ∃ x, r = some (.int x) ∧ qa_in b x) → qa_Inv P S h' → (∀ o, q.2.2.2.1.contains o = false → ∀ i, h'.2.1 o i = h.2.1 o i) → Z r h') → qm_Ru X d (qm_F q.1).2 (qm_ent (qm_F q.1).1 as' h) Z
noncomputable def qa_fc2 : List qa_Ct → Nat → Option qa_Ct
  | [], _ => none
  | q :: r, j => bif Nat.beq q.1 j then some q else qa_fc2 r j
noncomputable def qa_ex (c : qa_C) : Bool := match c.2.1, c.2.2.1 with
  | [.retAddr 0, .ref 0, .ref 118, .retAddr (n + 1)], [] => c.2.2.2.2.2.2.1.any (fun d => Nat.beq d.1 n && (Nat.beq d.2.1 0 && decide (d.2.2 = 6)))
  | _, _ => false
noncomputable def qa_end (j : Nat) (c : qa_C) (fs : qa_Fs) : Bool := (Nat.beq j 1000 && Nat.beq c.1 18) && (fs.isEmpty && qa_ex c)
noncomputable def qa_z0 (th : List (Nat × Value)) : Bool := match qa_tl th 0 with
  | some a => decide (a = .retAddr 1)
  | none => false
noncomputable def qa_hit (rk : List (Nat × Nat × Int)) (j : Nat) (c : qa_C) (fs : qa_Fs) (nd : qa_Nd) : Bool := (Nat.beq nd.1 j && Nat.beq nd.2.1.1 c.1) && ((qa_z0 (qa_th nd c fs) && Nat.blt 0 nd.2.1.2.2.2.1) && (qa_ck nd (qa_th nd c fs) c fs && qa_rk c.2.2.2 (qa_th nd c fs) nd.2.1.2.2.2.1 rk nd.2.2.2))
noncomputable def qa_wk (c : qa_C) (K : qa_K) : qa_C := (c.1, c.2.1, c.2.2.1, K)
noncomputable def qa_cut (K : qa_K) (m : Nat) (q : qa_B) : qa_K := qa_set K (.retAddr (m + 1)) q
/-- what a frame without one below may answer: nothing (it is the law's), void, an int within .. -/
noncomputable def qa_ro (ro : Option (Option qa_B)) (q : Option Value × qa_K) : Bool := match ro with
  | none => false
  | some none => decide (q.1 = none)
  | some (some b) => (match q.1 with
    | some a => qa_il a && qa_le (qa_bd q.2 a) b
    | none => false)
noncomputable def qa_rO (ro : Option (Option qa_B)) (r : Option Value) : Prop := match ro with
  | none => False
  | some none => r = none
  | some (some b) => ∃ x, r = some (.int x) ∧ qa_in b x
noncomputable def qa_all (P : qa_P) (T : List qa_Nd) (CT : List qa_Ct) (ro : Option (Option qa_B)) (rk : List (Nat × Nat × Int)) : Nat → Nat → Nat → qa_C → qa_Fs → Bool
  | 0, _, _, _, _ => false
  | n + 1, d, j, c, fs => bif (ro.isNone && qa_end j c fs) || T.any (qa_hit rk j c fs) then true else match qm_fetch (qm_cod qm_F j) c.1 with
    | none => false
    | some it => match qa_x P it c with
      | none => false
      | some (.inl c') => qa_all P T CT ro rk n d j c' fs
      | some (.inr (.inl q)) => (match qa_as q.2.2.2.1.2.2.2 q.1 q.2.1 q.2.2.1 true with
        | none => true
        | some K1 => qa_all P T CT ro rk n d j (qa_wk q.2.2.2.1 K1) fs) && (match qa_as q.2.2.2.2.2.2.2 q.1 q.2.1 q.2.2.1 false with
        | none => true
        | some K1 => qa_all P T CT ro rk n d j (qa_wk q.2.2.2.2 K1) fs)
      | some (.inr (.inr (.inl q))) => (match fs with
        | [] => qa_ro ro q
        | g :: fs' => qa_all P T CT ro rk n (d + 1) g.1 (g.2.1, g.2.2.1, q.1.toList ++ g.2.2.2, q.2) fs')
      | some (.inr (.inr (.inr (.inl q)))) => (match d with
        | 0 => false
        | d' + 1 => bif Nat.blt q.1 1000 && Nat.ble (qm_la q.2.1).length (qm_F q.1).1 then (match qa_fc2 CT q.1 with
          | some w => bif w.2.1 q.2.2.2.2.2 q.2.1 && Nat.ble w.2.2.2.2 d' then (match w.2.2.1 with
            | none => qa_all P T CT ro rk n (d' + 1) j (q.2.2.1, q.2.2.2.1, q.2.2.2.2.1, qa_hv q.2.2.2.2.2 w.2.2.2.1) fs
            | some b => qa_all P T CT ro rk n (d' + 1) j (q.2.2.1, q.2.2.2.1, (qa_mk (qa_hv q.2.2.2.2.2 w.2.2.2.1) b).1 :: q.2.2.2.2.1, (qa_mk (qa_hv q.2.2.2.2.2 w.2.2.2.1) b).2) fs) else false
          | none => qa_all P T CT ro rk n d' q.1 (0, qm_la q.2.1 ++ List.replicate ((qm_F q.1).1 - (qm_la q.2.1).length) (.float 0), [], q.2.2.2.2.2) ((j, q.2.2.1, q.2.2.2.1, q.2.2.2.2.1) :: fs)) else false)
      | some (.inr (.inr (.inr (.inr q)))) => bif Nat.blt q.1 c.2.2.2.1 && decide (q.2.2 - q.2.1 ≤ 70) then ((bif decide ((qa_lk c.2.2.2.2.1 q.1).1 < q.2.1) then qa_all P T CT ro rk n d j (qa_wk c (qa_cut c.2.2.2 q.1 ((qa_lk c.2.2.2.2.1 q.1).1, min (qa_lk c.2.2.2.2.1 q.1).2 (q.2.1 - 1)))) fs else true) && (bif decide (q.2.2 < (qa_lk c.2.2.2.2.1 q.1).2) then qa_all P T CT ro rk n d j (qa_wk c (qa_cut c.2.2.2 q.1 (max (qa_lk c.2.2.2.2.1 q.1).1 (q.2.2 + 1), (qa_lk c.2.2.2.2.1 q.1).2))) fs else true)) && (List.range (q.2.2 - q.2.1 + 1).toNat).all (fun t => bif decide ((qa_lk c.2.2.2.2.1 q.1).1 ≤ q.2.1 + t) && decide (q.2.1 + t ≤ (qa_lk c.2.2.2.2.1 q.1).2) then qa_all P T CT ro rk n d j (qa_wk c (qa_cut c.2.2.2 q.1 (q.2.1 + t, q.2.1 + t))) fs else true) else false
