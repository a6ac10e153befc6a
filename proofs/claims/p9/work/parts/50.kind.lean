/-! what an instruction of the small machine comes to: its kind, and that cells only come -/
def qm_kd (ins : Instr) : Nat := match ins with
  | .ifCond _ _ => 1
  | .if_icmp _ _ => 1
  | .ireturn => 2
  | .lreturn => 2
  | .return_ => 2
  | .invokevirtual _ => 3
  | .invokespecial _ => 4
  | .invokestatic _ => 4
  | _ => 0
def qm_fact (ins : Instr) (c : qm_C) (r : qm_C ⊕ ((Bool × qm_C × qm_C) ⊕ ((Option Value × qm_H) ⊕ (Nat × List Value × qm_C)))) : Prop := match r with
  | .inl c' => (qm_kd ins = 0 ∨ qm_kd ins = 4) ∧ ∃ t, c'.2.2.2.1 = c.2.2.2.1 ++ t
  | .inr (.inl q) => qm_kd ins = 1 ∧ q.2.1.2.2.2 = c.2.2.2 ∧ q.2.2.2.2.2 = c.2.2.2
  | .inr (.inr (.inl q)) => qm_kd ins = 2 ∧ q.2 = c.2.2.2
  | .inr (.inr (.inr q)) => (qm_kd ins = 3 ∨ qm_kd ins = 4) ∧ q.2.2.2.2.2 = c.2.2.2
set_option maxHeartbeats 4000000 in
theorem qm_x_fact (X : Option (Nat × (Nat → Int32))) (pc np a f : Nat) (ins : Instr) (v : Value) (c : qm_C) {r : qm_C ⊕ ((Bool × qm_C × qm_C) ⊕ ((Option Value × qm_H) ⊕ (Nat × List Value × qm_C)))} (h : qm_x X (pc, np, ins, a, f, v) c = some r) : qm_fact ins c r := by
  have nil : ∀ (q : List (Nat × Nat)), ∃ t, q = q ++ t := fun q => ⟨[], (List.append_nil q).symm⟩
  cases ins <;> simp only [qm_x, qm_nx, qm_br, qm_rt, qm_cl, Bool.cond_eq_ite] at h <;> (repeat' split at h) <;> first
    | (cases h; exact ⟨Or.inl rfl, nil _⟩)
    | (cases h; exact ⟨Or.inr rfl, nil _⟩)
    | (cases h; exact ⟨Or.inl rfl, _, rfl⟩)
    | (cases h; exact ⟨rfl, rfl, rfl⟩)
    | (cases h; exact ⟨rfl, rfl⟩)
    | (cases h; exact ⟨Or.inl rfl, rfl⟩)
    | (cases h; exact ⟨Or.inr rfl, rfl⟩)
    | (cases h; done)
