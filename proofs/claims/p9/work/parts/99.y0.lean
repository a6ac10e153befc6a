/-! conditions in postfix order: pure -/
/-- the height behind n items from a on -/
noncomputable def ht (co : Nat → Int) (a : Nat) : Nat → Int
  | 0 => 0
  | n + 1 => if co (a + n) < 2 then ht co a n + 1 else ht co a n - 1
noncomputable def pf_seg (co ci : Nat → Int) (a b : Nat) : Prop := a ≤ b ∧ b ≤ a + 400 ∧ ∀ n, a + n < b → (co (a + n) = 1 → 0 ≤ ci (a + n) ∧ ci (a + n) ≤ 12) ∧ (2 ≤ co (a + n) → 2 ≤ ht co a n)
theorem ht_le {co : Nat → Int} {a : Nat} : ∀ n : Nat, ht co a n ≤ (n : Int)
  | 0 => Int.le_refl _
  | n + 1 => by
    have := ht_le (co := co) (a := a) n
    unfold ht
    split <;> omega
theorem ht_ge {co ci : Nat → Int} {a b : Nat} (h : pf_seg co ci a b) : ∀ n : Nat, a + n ≤ b → 0 ≤ ht co a n
  | 0, _ => Int.le_refl _
  | n + 1, hn => by
    have ih := ht_ge h n (by omega)
    unfold ht
    split
    · omega
    · have := (h.2.2 n (by omega)).2 (by omega)
      omega
theorem pf_at {I : Nat → Nat → Int32} {a b c : Nat} {x : Int32} (h : pf_seg (pI I 141) (pI I 142) a b) (h1 : a ≤ c) (h2 : c < b) (q : I 141 c = x) : (x.toInt = 1 → 0 ≤ (I 142 c).toInt ∧ (I 142 c).toInt ≤ 12) ∧ (2 ≤ x.toInt → 2 ≤ ht (pI I 141) a (c - a)) ∧ ht (pI I 141) a (c - a) ≤ ((c - a : Nat) : Int) ∧ 0 ≤ ht (pI I 141) a (c - a) ∧ ht (pI I 141) a (c + 1 - a) = if x.toInt < 2 then ht (pI I 141) a (c - a) + 1 else ht (pI I 141) a (c - a) - 1 := by
  have e : a + (c - a) = c := by omega
  have ex : pI I 141 c = x.toInt := congrArg Int32.toInt q
  have f := h.2.2 (c - a) (by omega)
  rw [e, ex] at f
  refine ⟨f.1, f.2, ht_le _, ht_ge h _ (by omega), ?_⟩
  rw [show c + 1 - a = (c - a) + 1 by omega]
  show (if pI I 141 (a + (c - a)) < 2 then ht (pI I 141) a (c - a) + 1 else ht (pI I 141) a (c - a) - 1) = _
  rw [e, ex]
/-- a literal of the reference -/
noncomputable def lit_ok (I : Nat → Nat → Int32) (l : Nat) : Prop := (0 ≤ pI I 138 l ∧ pI I 138 l ≤ pI I 139 l ∧ pI I 139 l ≤ pI I 140 l ∧ pI I 140 l ≤ 840) ∧ pf_seg (pI I 141) (pI I 142) (pI I 138 l).toNat (pI I 139 l).toNat ∧ pf_seg (pI I 141) (pI I 142) (pI I 139 l).toNat (pI I 140 l).toNat
/-- each side's literals and items lie apart from the other's -/
noncomputable def l_rg (I : Nat → Nat → Int32) (r l : Nat) : Prop := (r < 16 → l < 150 ∧ pI I 140 l ≤ 420) ∧ (16 ≤ r → 150 ≤ l ∧ 420 ≤ pI I 138 l)
noncomputable def rule_ok (I : Nat → Nat → Int32) (r : Nat) : Prop := ∀ l : Nat, pI I 133 r ≤ (l : Int) → (l : Int) < pI I 134 r → lit_ok I l ∧ l_rg I r l
/-- the rules in force -/
noncomputable def s_P (I : Nat → Nat → Int32) : Prop := ∀ j : Nat, ((j : Int) < pI I 131 (I 118 18).toInt.toNat → rule_ok I (16 * (I 118 18).toInt.toNat + j)) ∧ ((j : Int) < pI I 132 (I 118 18).toInt.toNat → rule_ok I (16 * (I 118 18).toInt.toNat + 8 + j))
theorem lit_at {I : Nat → Nat → Int32} {l : Nat} {x y z : Int32} (h : lit_ok I l) (q1 : I 138 l = x) (q2 : I 139 l = y) (q3 : I 140 l = z) : (0 ≤ x.toInt ∧ x.toInt ≤ y.toInt ∧ y.toInt ≤ z.toInt ∧ z.toInt ≤ 840) ∧ pf_seg (pI I 141) (pI I 142) x.toInt.toNat y.toInt.toNat ∧ pf_seg (pI I 141) (pI I 142) y.toInt.toNat z.toInt.toNat := by
  have e1 : pI I 138 l = x.toInt := congrArg Int32.toInt q1
  have e2 : pI I 139 l = y.toInt := congrArg Int32.toInt q2
  have e3 : pI I 140 l = z.toInt := congrArg Int32.toInt q3
  unfold lit_ok at h
  rw [e1, e2, e3] at h
  exact h
theorem rule_cg {I I' : Nat → Nat → Int32} {r : Nat} (h : rule_ok I r) (e1 : pI I' 133 = pI I 133) (e2 : pI I' 134 = pI I 134) (e3 : pI I' 138 = pI I 138) (e4 : pI I' 139 = pI I 139) (e5 : pI I' 140 = pI I 140) (e6 : pI I' 141 = pI I 141) (e7 : pI I' 142 = pI I 142) : rule_ok I' r := by
  intro l h1 h2
  rw [e1] at h1
  rw [e2] at h2
  have := h l h1 h2
  unfold lit_ok l_rg at this ⊢
  rw [e3, e4, e5, e6, e7]
  exact this
