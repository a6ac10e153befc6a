/-! signs that wait, and items in postfix order as they come: pure -/
/-- each sign against the one below it: 6 opens; 8, 9 on nothing or an open; 10 on nothing, an open, 8 or 9 -/
noncomputable def ws (w : Nat → Int) (n : Nat) : Prop := ∀ k, k < n → w k = 6 ∨ ((w k = 8 ∨ w k = 9) ∧ (k = 0 ∨ w (k - 1) = 6)) ∨ (w k = 10 ∧ (k = 0 ∨ w (k - 1) = 6 ∨ w (k - 1) = 8 ∨ w (k - 1) = 9))
noncomputable def wo (w : Nat → Int) : Nat → Nat
  | 0 => 0
  | n + 1 => wo w n + (if w n = 6 then 1 else 0)
theorem ws_le3 {w : Nat → Int} : ∀ n : Nat, ws w n → (n = 0 ∨ w (n - 1) = 6 → n ≤ 3 * wo w n) ∧ (1 ≤ n → w (n - 1) = 8 ∨ w (n - 1) = 9 → n ≤ 3 * wo w n + 1) ∧ n ≤ 3 * wo w n + 2
  | 0, _ => ⟨fun _ => Nat.zero_le _, fun h => by omega, Nat.zero_le _⟩
  | n + 1, h => by
    obtain ⟨i1, i2, i3⟩ := ws_le3 n (fun k hk => h k (by omega))
    have hn := h n (by omega)
    have e : n + 1 - 1 = n := rfl
    rw [e]
    unfold wo
    rcases hn with z | ⟨z, z2⟩ | ⟨z, z2⟩
    · rw [if_pos z]
      exact ⟨fun _ => by omega, fun _ _ => by omega, by omega⟩
    · have z6 : ¬ w n = 6 := by omega
      rw [if_neg z6]
      have := i1 z2
      exact ⟨fun y => by omega, fun _ _ => by omega, by omega⟩
    · have z6 : ¬ w n = 6 := by omega
      rw [if_neg z6]
      refine ⟨fun y => by omega, fun _ y => by omega, ?_⟩
      rcases z2 with y | y | y
      · have := i1 (Or.inl y)
        omega
      · have := i1 (Or.inr y)
        omega
      · by_cases c : n = 0
        · omega
        · have := i2 (by omega) y
          omega
theorem ws_le {w : Nat → Int} {n : Nat} (h : ws w n) : n ≤ 3 * wo w n + 2 := (ws_le3 n h).2.2
theorem wo_le {w : Nat → Int} : ∀ n : Nat, wo w n ≤ n
  | 0 => Nat.le_refl _
  | n + 1 => by
    have := wo_le (w := w) n
    unfold wo
    split <;> omega
theorem ws_pop {w : Nat → Int} {n : Nat} (h : ws w (n + 1)) : ws w n := fun k hk => h k (by omega)
theorem wo_cg {w w' : Nat → Int} : ∀ n : Nat, (∀ k, k < n → w' k = w k) → wo w' n = wo w n
  | 0, _ => rfl
  | n + 1, h => by
    unfold wo
    rw [wo_cg n (fun k hk => h k (by omega)), h n (by omega)]
theorem ws_cg {w w' : Nat → Int} {n : Nat} (h : ws w n) (e : ∀ k, k < n → w' k = w k) : ws w' n := by
  intro k hk
  rw [e k hk]
  by_cases c : k = 0
  · have := h k hk
    rw [c] at this ⊢
    omega
  · rw [e (k - 1) (by omega)]
    exact h k hk
theorem fu_at {f : Nat → Int} {k : Nat} {x : Int} : fu_up f k x k = x := by
  unfold fu_up
  rw [if_pos rfl]
theorem ws_push {w : Nat → Int} {n : Nat} {x : Int} (h : ws w n) (hx : x = 6 ∨ ((x = 8 ∨ x = 9) ∧ (n = 0 ∨ w (n - 1) = 6)) ∨ (x = 10 ∧ (n = 0 ∨ w (n - 1) = 6 ∨ w (n - 1) = 8 ∨ w (n - 1) = 9))) : ws (fu_up w n x) (n + 1) ∧ wo (fu_up w n x) (n + 1) = wo w n + (if x = 6 then 1 else 0) := by
  have e : ∀ k, k < n → fu_up w n x k = w k := fun k hk => fu_ne (by omega)
  refine ⟨fun k hk => ?_, ?_⟩
  · by_cases c : k = n
    · subst c
      rw [fu_at]
      by_cases c0 : k = 0
      · omega
      · rw [fu_ne (by omega)]
        exact hx
    · exact ws_cg h e k (by omega)
  · show wo (fu_up w n x) n + (if fu_up w n x n = 6 then 1 else 0) = _
    rw [fu_at, wo_cg n e]
/-- an item more -/
theorem ht_cg {co co' : Nat → Int} {a : Nat} : ∀ n : Nat, (∀ i, i < a + n → co' i = co i) → ht co' a n = ht co a n
  | 0, _ => rfl
  | n + 1, h => by
    unfold ht
    rw [ht_cg n (fun i hi => h i (by omega)), h (a + n) (by omega)]
theorem pf_cg {co ci co' ci' : Nat → Int} {a b : Nat} (h : pf_seg co ci a b) (e1 : ∀ i, i < b → co' i = co i) (e2 : ∀ i, i < b → ci' i = ci i) : pf_seg co' ci' a b := by
  refine ⟨h.1, h.2.1, fun n hn => ?_⟩
  rw [e1 _ hn, e2 _ hn, ht_cg n (fun i hi => e1 i (by omega))]
  exact h.2.2 n hn
theorem pf_more {co ci : Nat → Int} {a b : Nat} {k v : Int} (h : pf_seg co ci a b) (hb : b + 1 ≤ a + 400) (h1 : k = 1 → 0 ≤ v ∧ v ≤ 12) (h2 : 2 ≤ k → 2 ≤ ht co a (b - a)) : pf_seg (fu_up co b k) (fu_up ci b v) a (b + 1) ∧ ht (fu_up co b k) a (b + 1 - a) = ht co a (b - a) + (if k < 2 then 1 else -1) := by
  have e1 : ∀ i, i < b → fu_up co b k i = co i := fun i hi => fu_ne (by omega)
  have e2 : ∀ i, i < b → fu_up ci b v i = ci i := fun i hi => fu_ne (by omega)
  have hab := h.1
  refine ⟨⟨by omega, hb, fun n hn => ?_⟩, ?_⟩
  · by_cases c : a + n = b
    · have en : n = b - a := by omega
      rw [c, fu_at, fu_at, en, ht_cg (b - a) (fun i hi => e1 i (by omega))]
      exact ⟨h1, h2⟩
    · exact (pf_cg h e1 e2).2.2 n (by omega)
  · rw [show b + 1 - a = (b - a) + 1 from by omega]
    show (if fu_up co b k (a + (b - a)) < 2 then ht (fu_up co b k) a (b - a) + 1 else ht (fu_up co b k) a (b - a) - 1) = _
    rw [show a + (b - a) = b from by omega, fu_at, ht_cg (b - a) (fun i hi => e1 i (by omega))]
    split <;> omega
theorem pf_nil {co ci : Nat → Int} {a : Nat} : pf_seg co ci a a ∧ ht co a (a - a) = 0 := by
  refine ⟨⟨Nat.le_refl _, by omega, fun n hn => by omega⟩, ?_⟩
  rw [Nat.sub_self]
  rfl
