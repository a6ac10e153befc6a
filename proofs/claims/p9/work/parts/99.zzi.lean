/-! rules of the reference as they are told: pure -/
noncomputable def ru (I : Nat → Nat → Int32) (la li lf c : Int) : Prop := ∀ l : Nat, la ≤ (l : Int) → (l : Int) < li → lit_ok I l ∧ lf ≤ pI I 138 l ∧ pI I 140 l ≤ c
noncomputable def pl (I0 I : Nat → Nat → Int32) (la li : Int) : Prop := ∀ i : Nat, (i : Int) < la ∨ li < (i : Int) → I 138 i = I0 138 i ∧ I 139 i = I0 139 i ∧ I 140 i = I0 140 i
theorem lit_cg {I I2 : Nat → Nat → Int32} {l : Nat} (h : lit_ok I l) (e : I2 138 l = I 138 l ∧ I2 139 l = I 139 l ∧ I2 140 l = I 140 l) (a : ∀ i : Nat, (i : Int) < pI I 140 l → I2 141 i = I 141 i ∧ I2 142 i = I 142 i) : lit_ok I2 l := by
  obtain ⟨⟨b1, b2, b3, b4⟩, s1, s2⟩ := h
  have e1 : pI I2 138 l = pI I 138 l := congrArg Int32.toInt e.1
  have e2 : pI I2 139 l = pI I 139 l := congrArg Int32.toInt e.2.1
  have e3 : pI I2 140 l = pI I 140 l := congrArg Int32.toInt e.2.2
  unfold lit_ok
  rw [e1, e2, e3]
  exact ⟨⟨b1, b2, b3, b4⟩, pf_cg s1 (fun i hi => congrArg Int32.toInt (a i (by omega)).1) (fun i hi => congrArg Int32.toInt (a i (by omega)).2), pf_cg s2 (fun i hi => congrArg Int32.toInt (a i (by omega)).1) (fun i hi => congrArg Int32.toInt (a i (by omega)).2)⟩
theorem ru_more {I I2 : Nat → Nat → Int32} {la li lf c c' c2 hi : Int} (h : ru I la li lf c) (a : pa I I2 c' hi) (n : ∀ i : Nat, i ≠ li.toNat → I2 138 i = I 138 i ∧ I2 139 i = I 139 i ∧ I2 140 i = I 140 i) (q : lit_ok I2 li.toNat ∧ c' ≤ pI I2 138 li.toNat ∧ pI I2 140 li.toNat ≤ c2) (h1 : lf ≤ c ∧ c ≤ c' ∧ c ≤ c2 ∧ 0 ≤ li) : ru I2 la (li + 1) lf c2 := by
  intro l hl1 hl2
  by_cases z : l = li.toNat
  · rw [z]
    exact ⟨q.1, by omega, q.2.2⟩
  · obtain ⟨g1, g2, g3⟩ := h l hl1 (by omega)
    obtain ⟨n1, n2, n3⟩ := n l z
    have e1 : pI I2 138 l = pI I 138 l := congrArg Int32.toInt n1
    have e3 : pI I2 140 l = pI I 140 l := congrArg Int32.toInt n3
    exact ⟨lit_cg g1 ⟨n1, n2, n3⟩ (fun i hi => a i (Or.inl (by omega))), by omega, by omega⟩
theorem ru_sm {I I2 : Nat → Nat → Int32} {la li lf c : Int} (h : ru I la li lf c) (e1 : ∀ i, I2 138 i = I 138 i) (e2 : ∀ i, I2 139 i = I 139 i) (e3 : ∀ i, I2 140 i = I 140 i) (e4 : ∀ i, I2 141 i = I 141 i) (e5 : ∀ i, I2 142 i = I 142 i) : ru I2 la li lf c := by
  intro l h1 h2
  obtain ⟨g1, g2, g3⟩ := h l h1 h2
  have a1 : pI I2 138 l = pI I 138 l := congrArg Int32.toInt (e1 l)
  have a3 : pI I2 140 l = pI I 140 l := congrArg Int32.toInt (e3 l)
  exact ⟨lit_cg g1 ⟨e1 l, e2 l, e3 l⟩ (fun i _ => ⟨e4 i, e5 i⟩), by omega, by omega⟩
theorem ru_nil {I : Nat → Nat → Int32} {la lf c : Int} : ru I la la lf c := fun l h1 h2 => by omega
theorem pl_cg {I0 I I2 : Nat → Nat → Int32} {la li : Int} (h : pl I0 I la li) (e1 : ∀ i, I2 138 i = I 138 i) (e2 : ∀ i, I2 139 i = I 139 i) (e3 : ∀ i, I2 140 i = I 140 i) : pl I0 I2 la li := fun i hi => ⟨(e1 i).trans (h i hi).1, (e2 i).trans (h i hi).2.1, (e3 i).trans (h i hi).2.2⟩
theorem pl_refl {I : Nat → Nat → Int32} {la li : Int} : pl I I la li := fun _ _ => ⟨rfl, rfl, rfl⟩
theorem pl_more {I0 I I2 : Nat → Nat → Int32} {la li l2 : Int} (h : pl I0 I la li) (n : ∀ i : Nat, i ≠ li.toNat → I2 138 i = I 138 i ∧ I2 139 i = I 139 i ∧ I2 140 i = I 140 i) (h1 : 0 ≤ la ∧ la ≤ li ∧ li ≤ l2) : pl I0 I2 la l2 := by
  intro i hi
  obtain ⟨n1, n2, n3⟩ := n i (by omega)
  obtain ⟨g1, g2, g3⟩ := h i (by omega)
  exact ⟨n1.trans g1, n2.trans g2, n3.trans g3⟩
theorem pl_tr {I0 I I2 : Nat → Nat → Int32} {la li la' li' : Int} (h : pl I0 I la li) (g : pl I I2 la' li') (h1 : la ≤ la' ∧ li ≤ li') : pl I0 I2 la li' := fun i hi => ⟨((g i (by omega)).1).trans (h i (by omega)).1, ((g i (by omega)).2.1).trans (h i (by omega)).2.1, ((g i (by omega)).2.2).trans (h i (by omega)).2.2⟩
