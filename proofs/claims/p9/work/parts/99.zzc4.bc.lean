/-! loaded and unloaded: what stays -/
theorem ldS_K {s : Nat} {A : Nat → Nat → Int} {b y x : Int32} (hi : zI s A) (hk : zK A) : zK (ldS s A b y x) := by
  by_cases c : 0 ≤ ldV s A b y x
  · obtain ⟨⟨b0, bn, y0, yB, x0, x3⟩, hh, hf, -, -, -⟩ := try_inv c
    have hB := hi.2.2.2
    have hf : ¬ frA A y x.toInt = -1 := hf
    have fi := fr_in (cv := Int32.ofInt (A 118 54)) (y := y) (x := x.toInt) (c := A 152) ⟨y0, by omega⟩ ⟨x0, x3⟩ hf
    have fi : 16 * y.toInt + 4 * x.toInt ≤ frA A y x.toInt ∧ frA A y x.toInt ≤ 16 * y.toInt + 4 * x.toInt + 3 ∧ A 152 (frA A y x.toInt).toNat = -1 := fi
    unfold ldS
    rw [if_pos c]
    refine ⟨hk.1, hk.2.1, ?_⟩
    show zO (fu_up (A 150) b.toInt.toNat 1) (fu_up (A 151) b.toInt.toNat (frA A y x.toInt)) (fu_up (A 152) (frA A y x.toInt).toNat b.toInt)
    exact zO_on hk.2.2 fi.2.2 (by omega)
  · unfold ldS
    rw [if_neg c]
    refine ⟨hk.1, hk.2.1, ?_⟩
    show zO (A 150) (if ldV s A b y x = -3 ∧ A 150 b.toInt.toNat = 0 then fu_up (A 151) b.toInt.toNat (frA A y x.toInt) else A 151) (A 152)
    by_cases e : ldV s A b y x = -3 ∧ A 150 b.toInt.toNat = 0
    · rw [if_pos e]
      refine zO_cg hk.2.2 (fun q hq => ⟨hq, fu_ne (fun z => ?_)⟩)
      subst z
      omega
    · rw [if_neg e]
      exact hk.2.2
theorem ulS_K {s : Nat} {A : Nat → Nat → Int} {y x g : Int32} (hi : zI s A) (hk : zK A) : zK (ulS s A y x g) := by
  have hB := hi.2.2.2
  by_cases h : 0 < ulV s A y x g
  · obtain ⟨c, l, hkv, q⟩ := ul_inv hi h
    rcases q with ⟨q1, q2⟩ | ⟨q1, q2, q3, q4⟩
    · unfold ulS
      rw [if_pos q1]
      have kb := kV_b (A 152) (loA A y x.toInt)
      have a := ul_at hi (k := kV (A 152) (loA A y x.toInt)) (by omega) (by omega) hkv
      refine ⟨hk.1, hk.2.1, ?_⟩
      show zO (fu_up (A 150) (A 152 (kV (A 152) (loA A y x.toInt)).toNat).toNat (if g.toInt = -1 then 0 else 2)) (if g.toInt = -1 then A 151 else fu_up (A 151) (A 152 (kV (A 152) (loA A y x.toInt)).toNat).toNat (4 * g.toInt + A 154 g.toInt.toNat)) (fu_up (A 152) (kV (A 152) (loA A y x.toInt)).toNat (-1))
      refine zO_off hk.2.2 (fun z hz => ?_) (fun z hz => ?_)
      · by_cases e : z = (A 152 (kV (A 152) (loA A y x.toInt)).toNat).toNat
        · rw [e, fu_eq] at hz
          split at hz <;> omega
        · rw [fu_ne e] at hz
          exact ⟨hz, by omega⟩
      · split
        · rfl
        · exact fu_ne (by omega)
    · unfold ulS
      rw [if_neg (by omega), if_pos q1]
      have a := ul_at hi (k := loA A y x.toInt + 1) (by omega) (by omega) q3
      have t := ul_at hi (k := loA A y x.toInt) (by omega) (by omega) q4
      refine ⟨hk.1, hk.2.1, ?_⟩
      show zO (if g.toInt = -1 then fu_up (fu_up (A 150) (A 152 (loA A y x.toInt + 1).toNat).toNat 0) (A 152 (loA A y x.toInt).toNat).toNat 0 else fu_up (fu_up (A 150) (A 152 (loA A y x.toInt).toNat).toNat 2) (A 152 (loA A y x.toInt + 1).toNat).toNat 2) (if g.toInt = -1 then A 151 else fu_up (fu_up (A 151) (A 152 (loA A y x.toInt).toNat).toNat (4 * g.toInt + A 154 g.toInt.toNat)) (A 152 (loA A y x.toInt + 1).toNat).toNat (4 * g.toInt + (A 154 g.toInt.toNat + 1))) (fu_up (fu_up (A 152) (loA A y x.toInt + 1).toNat (-1)) (loA A y x.toInt).toNat (-1))
      have w : ∀ z : Nat, (if g.toInt = -1 then fu_up (fu_up (A 150) (A 152 (loA A y x.toInt + 1).toNat).toNat 0) (A 152 (loA A y x.toInt).toNat).toNat 0 else fu_up (fu_up (A 150) (A 152 (loA A y x.toInt).toNat).toNat 2) (A 152 (loA A y x.toInt + 1).toNat).toNat 2) z = 1 → A 150 z = 1 ∧ z ≠ (A 152 (loA A y x.toInt + 1).toNat).toNat ∧ z ≠ (A 152 (loA A y x.toInt).toNat).toNat := fun z hz => by
        have e1 : z ≠ (A 152 (loA A y x.toInt + 1).toNat).toNat := fun e => by
          subst e
          split at hz
          · unfold fu_up at hz
            split at hz
            · omega
            · rw [if_pos rfl] at hz
              omega
          · rw [fu_eq] at hz
            omega
        have e2 : z ≠ (A 152 (loA A y x.toInt).toNat).toNat := fun e => by
          subst e
          split at hz
          · rw [fu_eq] at hz
            omega
          · rw [fu_ne e1, fu_eq] at hz
            omega
        refine ⟨?_, e1, e2⟩
        split at hz
        · rw [fu_ne e2, fu_ne e1] at hz
          exact hz
        · rw [fu_ne e1, fu_ne e2] at hz
          exact hz
      have sp : ∀ z : Nat, z ≠ (A 152 (loA A y x.toInt + 1).toNat).toNat → z ≠ (A 152 (loA A y x.toInt).toNat).toNat → (if g.toInt = -1 then A 151 else fu_up (fu_up (A 151) (A 152 (loA A y x.toInt).toNat).toNat (4 * g.toInt + A 154 g.toInt.toNat)) (A 152 (loA A y x.toInt + 1).toNat).toNat (4 * g.toInt + (A 154 g.toInt.toNat + 1))) z = A 151 z := fun z e1 e2 => by
        split
        · rfl
        · rw [fu_ne e1, fu_ne e2]
      intro z hz
      obtain ⟨w1, e1, e2⟩ := w z hz
      have k := hk.2.2 z w1
      rw [sp z e1 e2, fu_ne (fun e => by
        rw [e] at k
        omega), fu_ne (fun e => by
        rw [e] at k
        omega)]
      exact k
  · unfold ulS
    rw [if_neg (by omega), if_neg (by omega)]
    exact hk
