/-! rules told: one more -/
theorem ru_wk {I : Nat → Nat → Int32} {la li lf lf' c : Int} (h : ru I la li lf c) (hl : lf' ≤ lf) : ru I la li lf' c := fun l h1 h2 => ⟨(h l h1 h2).1, by have := (h l h1 h2).2.1; omega, (h l h1 h2).2.2⟩
theorem rk_new {I : Nat → Nat → Int32} {r : Nat} {l0 la li c0 lf cd : Int} (q : pI I 133 r = la ∧ pI I 134 r = li ∧ ru I la li lf cd) (hc : c0 ≤ lf ∧ l0 ≤ la) : rk I r l0 li c0 cd := by
  unfold rk
  rw [q.1, q.2.1]
  exact ⟨hc.2, Int.le_refl _, ru_wk q.2.2 hc.1⟩
theorem rs_add1 {I I2 : Nat → Nat → Int32} {sd r : Nat} {p1 p2 l0 la li c0 ca lf cd hi : Int} (h : rs I sd p1 p2 l0 la c0 ca) (a : pa I I2 ca hi) (p : pl I I2 la li) (F : ∀ i, i ≠ r → I2 133 i = I 133 i ∧ I2 134 i = I 134 i) (hr : (r : Int) = 16 * (sd : Int) + p1) (hp : 0 ≤ p1 ∧ p1 ≤ 7) (q : pI I2 133 r = la ∧ pI I2 134 r = li ∧ ru I2 la li lf cd) (hc : c0 ≤ lf ∧ l0 ≤ la) (hl : la ≤ li ∧ ca ≤ cd) : rs I2 sd (p1 + 1) p2 l0 li c0 cd := by
  refine ⟨fun j hj => ?_, fun j hj => ?_⟩
  · by_cases z : 16 * sd + j = r
    · rw [z]
      exact rk_new q hc
    · exact rk_keep (h.1 j (by omega)) a p (F _ z).1 (F _ z).2 hl
  · have z : 16 * sd + 8 + j ≠ r := by omega
    exact rk_keep (h.2 j hj) a p (F _ z).1 (F _ z).2 hl
theorem rs_add2 {I I2 : Nat → Nat → Int32} {sd r : Nat} {p1 p2 l0 la li c0 ca lf cd hi : Int} (h : rs I sd p1 p2 l0 la c0 ca) (a : pa I I2 ca hi) (p : pl I I2 la li) (F : ∀ i, i ≠ r → I2 133 i = I 133 i ∧ I2 134 i = I 134 i) (hr : (r : Int) = 16 * (sd : Int) + 8 + p2) (hp : 0 ≤ p2 ∧ p1 ≤ 8) (q : pI I2 133 r = la ∧ pI I2 134 r = li ∧ ru I2 la li lf cd) (hc : c0 ≤ lf ∧ l0 ≤ la) (hl : la ≤ li ∧ ca ≤ cd) : rs I2 sd p1 (p2 + 1) l0 li c0 cd := by
  refine ⟨fun j hj => ?_, fun j hj => ?_⟩
  · have z : 16 * sd + j ≠ r := by omega
    exact rk_keep (h.1 j hj) a p (F _ z).1 (F _ z).2 hl
  · by_cases z : 16 * sd + 8 + j = r
    · rw [z]
      exact rk_new q hc
    · exact rk_keep (h.2 j (by omega)) a p (F _ z).1 (F _ z).2 hl
theorem rs_sm {I I2 : Nat → Nat → Int32} {sd : Nat} {p1 p2 l0 la li c0 ca cd : Int} (h : rs I sd p1 p2 l0 la c0 ca) (e1 : ∀ i, I2 133 i = I 133 i) (e2 : ∀ i, I2 134 i = I 134 i) (e3 : ∀ i, I2 138 i = I 138 i) (e4 : ∀ i, I2 139 i = I 139 i) (e5 : ∀ i, I2 140 i = I 140 i) (e6 : ∀ i, I2 141 i = I 141 i) (e7 : ∀ i, I2 142 i = I 142 i) (hl : la ≤ li ∧ ca ≤ cd) : rs I2 sd p1 p2 l0 li c0 cd :=
  ⟨fun j hj => rk_keep (hi := 0) (h.1 j hj) (fun i _ => ⟨e6 i, e7 i⟩) (fun i _ => ⟨e3 i, e4 i, e5 i⟩) (e1 _) (e2 _) hl, fun j hj => rk_keep (hi := 0) (h.2 j hj) (fun i _ => ⟨e6 i, e7 i⟩) (fun i _ => ⟨e3 i, e4 i, e5 i⟩) (e1 _) (e2 _) hl⟩
theorem rs_nil {I : Nat → Nat → Int32} {sd : Nat} {p1 p2 l0 la c0 ca : Int} (h : p1 ≤ 0 ∧ p2 ≤ 0) : rs I sd p1 p2 l0 la c0 ca := ⟨fun j hj => by omega, fun j hj => by omega⟩
