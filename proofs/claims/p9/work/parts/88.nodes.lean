/-! all heads of a call at once -/
theorem qa_GF_len {p : List Int32} : ∀ {fs gs : qa_Fs}, qa_GF p fs gs → gs.length = fs.length
  | [], _, h => by
    rw [show _ = [] from h]
  | _ :: _, _, ⟨g', gs, h1, _, _, h4⟩ => by
    rw [h1, List.length_cons, List.length_cons, qa_GF_len h4]
/-- every way from the head is right -/
noncomputable def qa_nok (P : qa_P) (CT : List qa_Ct) (ro : Option (Option qa_B)) (D : Nat) (T : List qa_Nd) (nd : qa_Nd) : Prop := (∀ r ∈ nd.2.2.2, r.1 ≠ 0 → r.2.1 < nd.2.1.2.2.2.1) ∧ ∃ n Tn, (∀ x ∈ Tn, x ∈ T) ∧ qa_all P Tn CT ro nd.2.2.2 n (D - nd.2.2.1.length) nd.1 nd.2.1 nd.2.2.1 = true
theorem qa_nodes {P : qa_P} {S : qm_H → Prop} {X : Option (Nat × (Nat → Int32))} {Z : Option Value → qm_H → Prop} {T : List qa_Nd} {CT : List qa_Ct} {ro : Option (Option qa_B)} {D : Nat} {i0 : Int32} (hL : qa_locK P S) (hX : ∃ L xs, X = some (L, xs) ∧ 0 ≤ i0.toInt ∧ i0.toInt + 5 < (L : Int) ∧ ∀ c, c < 6 → qa_in (P.2.2.2.2.2.getD c qa_full) (xs (i0.toInt.toNat + c))) (hC : ∀ q ∈ CT, qa_hc P S X q) (hR : ∀ (r : Option Value) (h : qm_H), qa_rO ro r → qa_Inv P S h → Z r h) (hE : ro = none → ∀ (h : qm_H) (x : Int32), x.toInt = i0.toInt + 6 → qa_Inv P S h → qm_Ru X D cd_law (18, [.retAddr 0, .ref 0, .ref 118, .int x], [], h) Z) (hN : ∀ nd ∈ T, qa_nok P CT ro D T nd) : ∀ (mu : Nat) (nd : qa_Nd), nd ∈ T → ∀ (p : List Int32) (c' : qm_C) (fs' : qa_Fs) (d : Nat), p[0]? = some i0 → qa_ms p nd.2.2.2 = mu → qa_rel P S p nd.2.1 c' → qa_GF p nd.2.2.1 fs' → d + fs'.length = D → qa_run X Z d nd.1 c' fs' := by
  intro mu
  induction mu using Nat.strongRecOn with
  | ind mu ih =>
    intro nd hnd p c' fs' d h0 hm hr hf hd
    obtain ⟨hk, n, Tn, hT, ha⟩ := hN nd hnd
    have hlen := qa_GF_len hf
    have e : D - nd.2.2.1.length = d := by omega
    rw [e] at ha
    refine qa_all_ok (i := 0) (mu := mu) hL hX hC hR hE (fun x hx p c' fs' d z1 _ z3 z4 z5 z6 => ih _ z3 x (hT x hx) p c' fs' d z1 rfl z4 z5 z6) n d nd.1 nd.2.1 nd.2.2.1 p c' fs' ha h0 (fun r hr1 hz => ?_) hm hr hf hd
    have := hk r hr1 hz
    rw [hr.2.2.2.1.1]
    exact this
