/-! the search for the fewest digs: what falls -/
noncomputable def wk : Nat → Int
  | 0 => 3200000
  | 1 => 160000
  | 2 => 8000
  | 3 => 400
  | 4 => 20
  | _ => 1
noncomputable def mk1 (t : Nat → Int) (d : Int) (k : Nat) : Int := if (k : Int) ≤ d then wk k * (16 - t k) else 0
noncomputable def msr (t : Nat → Int) (d : Int) : Nat := (mk1 t d 0 + mk1 t d 1 + mk1 t d 2 + mk1 t d 3 + mk1 t d 4 + mk1 t d 5).toNat
/-- bounds of what was tried -/
noncomputable def tok (t : Nat → Int) (d : Int) : Prop := (∀ k : Nat, k < 6 → -1 ≤ t k ∧ t k ≤ 15) ∧ ∀ k : Nat, k < 6 → d < (k : Int) → t k = -1
theorem d6 {d : Int} (h0 : 0 ≤ d) (h5 : d ≤ 5) : d = 0 ∨ d = 1 ∨ d = 2 ∨ d = 3 ∨ d = 4 ∨ d = 5 := by omega
section TOK
variable {t t' : Nat → Int} {d : Int}
theorem msr_up (ht : tok t d) (h0 : 0 ≤ d) (h5 : d ≤ 5) : msr t (d - 1) < msr t d := by
  have a0 := ht.1 0 (by decide)
  have a1 := ht.1 1 (by decide)
  have a2 := ht.1 2 (by decide)
  have a3 := ht.1 3 (by decide)
  have a4 := ht.1 4 (by decide)
  have a5 := ht.1 5 (by decide)
  rcases d6 h0 h5 with rfl | rfl | rfl | rfl | rfl | rfl <;> simp only [msr, mk1, wk] <;> simp <;> omega
/-- the next is tried at the same level -/
theorem msr_on (ht : tok t d) (h0 : 0 ≤ d) (h5 : d ≤ 5) (e : t' = fu_up t d.toNat (t d.toNat + 1)) (hl : t d.toNat ≤ 14) : msr t' d < msr t d ∧ tok t' d := by
  have a0 := ht.1 0 (by decide)
  have a1 := ht.1 1 (by decide)
  have a2 := ht.1 2 (by decide)
  have a3 := ht.1 3 (by decide)
  have a4 := ht.1 4 (by decide)
  have a5 := ht.1 5 (by decide)
  subst e
  constructor
  · rcases d6 h0 h5 with rfl | rfl | rfl | rfl | rfl | rfl <;> simp only [msr, mk1, wk, fu_up] <;> simp at hl ⊢ <;> omega
  · refine ⟨fun k hk => ?_, fun k hk hd => ?_⟩
    · have := ht.1 k hk
      by_cases c : k = d.toNat
      · subst c
        rw [fu_eq]
        omega
      · rw [fu_ne c]
        exact this
    · rw [fu_ne (by omega)]
      exact ht.2 k hk hd
/-- one level deeper -/
theorem msr_in (ht : tok t d) (h0 : 0 ≤ d) (h5 : d ≤ 4) (e : t' = fu_up t d.toNat (t d.toNat + 1)) (hl : t d.toNat ≤ 14) : msr t' (d + 1) < msr t d ∧ tok t' (d + 1) := by
  have a0 := ht.1 0 (by decide)
  have a1 := ht.1 1 (by decide)
  have a2 := ht.1 2 (by decide)
  have a3 := ht.1 3 (by decide)
  have a4 := ht.1 4 (by decide)
  have a5 := ht.1 5 (by decide)
  have hm := msr_on ht h0 (by omega) e hl
  refine ⟨?_, hm.2.1, fun k hk hd => hm.2.2 k hk (by omega)⟩
  have b1 := ht.2 1 (by decide)
  have b2 := ht.2 2 (by decide)
  have b3 := ht.2 3 (by decide)
  have b4 := ht.2 4 (by decide)
  have b5 := ht.2 5 (by decide)
  subst e
  rcases d6 h0 (by omega) with rfl | rfl | rfl | rfl | rfl | rfl <;> simp only [msr, mk1, wk, fu_up] <;> simp at hl b1 b2 b3 b4 b5 ⊢ <;> omega
/-- all were tried: one level up, and that one's forgotten -/
theorem msr_off (ht : tok t d) (h0 : 0 ≤ d) (h5 : d ≤ 5) (e : t' = fu_up t d.toNat (-1)) : msr t' (d - 1) < msr t d ∧ tok t' (d - 1) := by
  have a0 := ht.1 0 (by decide)
  have a1 := ht.1 1 (by decide)
  have a2 := ht.1 2 (by decide)
  have a3 := ht.1 3 (by decide)
  have a4 := ht.1 4 (by decide)
  have a5 := ht.1 5 (by decide)
  subst e
  constructor
  · rcases d6 h0 h5 with rfl | rfl | rfl | rfl | rfl | rfl <;> simp only [msr, mk1, wk, fu_up] <;> simp <;> omega
  · refine ⟨fun k hk => ?_, fun k hk hd => ?_⟩
    · have := ht.1 k hk
      by_cases c : k = d.toNat
      · subst c
        rw [fu_eq]
        omega
      · rw [fu_ne c]
        exact this
    · by_cases c : k = d.toNat
      · subst c
        rw [fu_eq]
      · rw [fu_ne c]
        exact ht.2 k hk (by omega)
end TOK
theorem con_cg {f f' : Nat → Int} {s : Nat} {x : Int} (hs : s < 4) (e : ∀ i : Nat, i < 20 → f' i = f i) (hc : con f s x) : con f' s x := by
  obtain ⟨i, i4, i1, i2⟩ := hc
  exact ⟨i, i4, by rw [e _ (by omega)]; exact i1, by rw [e _ (by omega)]; exact i2⟩
theorem lev_cg {f f' qd : Nat → Int} {sv qn : Int} (h : lev f qd sv qn) (e : ∀ i : Nat, i < 20 → f' i = f i) : lev f' qd sv qn := by
  refine ⟨fun s hs => by rw [e _ (by omega)]; exact h.1 s hs, fun q h1 h2 => ?_⟩
  obtain ⟨s, s4, sc⟩ := h.2 q h1 h2
  exact ⟨s, s4, con_cg s4 e sc⟩
theorem fu_fu {t : Nat → Int} {k : Nat} {x y : Int} : fu_up (fu_up t k x) k y = fu_up t k y := by
  funext i
  by_cases c : i = k
  · subst c
    rw [fu_eq, fu_eq]
  · rw [fu_ne c, fu_ne c, fu_ne c]
