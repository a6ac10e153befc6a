/-! sums over boxes, the bend: pure -/
noncomputable def ab (z : Int) : Int := if z < 0 then -z else z
theorem ab_n (z : Int) : ab (-z) = ab z := by
  unfold ab
  split <;> split <;> omega
/-- the sum of f below n -/
noncomputable def nS (f : Nat → Int) : Nat → Int
  | 0 => 0
  | n + 1 => nS f n + f n
theorem nS_cg {f g : Nat → Int} : ∀ {n : Nat}, (∀ b, b < n → f b = g b) → nS f n = nS g n
  | 0, _ => rfl
  | n + 1, h => by
    show nS f n + f n = nS g n + g n
    rw [nS_cg (fun b hb => h b (Nat.lt_succ_of_lt hb)), h n (Nat.lt_succ_self n)]
theorem nS_up {f : Nat → Int} {b : Nat} {v : Int} : ∀ {n : Nat}, b < n → nS (fu_up f b v) n = nS f n - f b + v
  | 0, h => absurd h (Nat.not_lt_zero b)
  | n + 1, h => by
    show nS (fu_up f b v) n + fu_up f b v n = nS f n + f n - f b + v
    by_cases e : b = n
    · subst e
      rw [fu_eq, nS_cg (g := f) (fun x hx => fu_ne (by omega))]
      omega
    · rw [fu_ne (fun z => e z.symm), nS_up (show b < n by omega)]
      omega
theorem nS_in {f : Nat → Int} {p q : Int} : ∀ {n : Nat}, (∀ b, b < n → p ≤ f b ∧ f b ≤ q) → p * (n : Int) ≤ nS f n ∧ nS f n ≤ q * (n : Int)
  | 0, _ => by
    rw [show ((0 : Nat) : Int) = 0 from rfl, Int.mul_zero, Int.mul_zero]
    exact ⟨Int.le_refl _, Int.le_refl _⟩
  | n + 1, h => by
    have a := nS_in (n := n) (fun b hb => h b (Nat.lt_succ_of_lt hb))
    have c := h n (Nat.lt_succ_self n)
    show p * ((n + 1 : Nat) : Int) ≤ nS f n + f n ∧ nS f n + f n ≤ q * ((n + 1 : Nat) : Int)
    rw [show ((n + 1 : Nat) : Int) = (n : Int) + 1 by omega, Int.mul_add, Int.mul_add, Int.mul_one, Int.mul_one]
    omega
theorem nS_add {f g : Nat → Int} : ∀ {n : Nat}, nS (fun b => f b + g b) n = nS f n + nS g n
  | 0 => rfl
  | n + 1 => by
    show nS (fun b => f b + g b) n + (f n + g n) = nS f n + f n + (nS g n + g n)
    rw [nS_add]
    omega
theorem fu_id {f : Nat → Int} {b : Nat} : fu_up f b (f b) = f := funext fun i => by
  by_cases e : i = b
  · subst e
    exact fu_eq
  · exact fu_ne e
/-- what a box aboard counts -/
noncomputable def wF (p : Int → Int → Int) (wt wh sp : Nat → Int) : Nat → Int := fun b => if wh b = 1 then p (wt b) (sp b) else 0
noncomputable def pL : Int → Int → Int := fun w s => w * (2 * (s / 4 % 4) - 3)
noncomputable def pT (B : Int) : Int → Int → Int := fun w s => w * (2 * (s / 16) + 1 - B)
noncomputable def pA : Int → Int → Int := fun w _ => w
noncomputable def pB (c : Int) : Int → Int → Int := fun w s => if s / 16 = c then w else 0
theorem wF_up {p : Int → Int → Int} {wt wh sp : Nat → Int} {b : Nat} {v s : Int} : wF p wt (fu_up wh b v) (fu_up sp b s) = fu_up (wF p wt wh sp) b (if v = 1 then p (wt b) s else 0) := funext fun i => by
  unfold wF
  by_cases e : i = b
  · subst e
    rw [fu_eq, fu_eq, fu_eq]
  · rw [fu_ne e, fu_ne e, fu_ne e]
theorem wF_w {p : Int → Int → Int} {wt wh sp : Nat → Int} {b : Nat} {v : Int} : wF p wt (fu_up wh b v) sp = fu_up (wF p wt wh sp) b (if v = 1 then p (wt b) (sp b) else 0) := by
  have h := wF_up (p := p) (wt := wt) (wh := wh) (sp := sp) (b := b) (v := v) (s := sp b)
  rw [fu_id] at h
  exact h
/-- a box comes aboard -/
theorem wF_on {p : Int → Int → Int} {wt wh sp : Nat → Int} {b n : Nat} {s : Int} (hb : b < n) (hw : wh b ≠ 1) : nS (wF p wt (fu_up wh b 1) (fu_up sp b s)) n = nS (wF p wt wh sp) n + p (wt b) s := by
  rw [wF_up, nS_up hb, if_pos rfl, show wF p wt wh sp b = 0 from if_neg hw]
  omega
/-- a box leaves -/
theorem wF_off {p : Int → Int → Int} {wt wh sp : Nat → Int} {b n : Nat} {v : Int} (hb : b < n) (hw : wh b = 1) (hv : v ≠ 1) : nS (wF p wt (fu_up wh b v) sp) n = nS (wF p wt wh sp) n - p (wt b) (sp b) := by
  rw [wF_w, nS_up hb, if_neg hv, show wF p wt wh sp b = p (wt b) (sp b) from if_pos hw]
  omega
/-- a box that isn't aboard -/
theorem wF_no {p : Int → Int → Int} {wt wh sp : Nat → Int} {b n : Nat} {v s : Int} (hw : wh b ≠ 1) (hv : v ≠ 1) : nS (wF p wt (fu_up wh b v) (fu_up sp b s)) n = nS (wF p wt wh sp) n := by
  refine nS_cg (fun x _ => ?_)
  unfold wF
  by_cases e : x = b
  · subst e
    rw [fu_eq, if_neg hv, if_neg hw]
  · rw [fu_ne e, fu_ne e]
theorem wF_cg {p : Int → Int → Int} {wt wt' wh wh' sp sp' : Nat → Int} {n : Nat} (h : ∀ b, b < n → wh b = wh' b ∧ (wh b = 1 → wt b = wt' b ∧ sp b = sp' b)) : nS (wF p wt wh sp) n = nS (wF p wt' wh' sp') n := nS_cg fun b hb => by
  obtain ⟨h1, h2⟩ := h b hb
  unfold wF
  by_cases c : wh b = 1
  · rw [if_pos c, if_pos (h1 ▸ c), (h2 c).1, (h2 c).2]
  · rw [if_neg c, if_neg (fun z => c (h1.trans z))]
theorem wF_in {p : Int → Int → Int} {wt wh sp : Nat → Int} {n : Nat} {u v : Int} (h0 : u ≤ 0 ∧ 0 ≤ v) (h : ∀ b, b < n → wh b = 1 → u ≤ p (wt b) (sp b) ∧ p (wt b) (sp b) ≤ v) : u * (n : Int) ≤ nS (wF p wt wh sp) n ∧ nS (wF p wt wh sp) n ≤ v * (n : Int) := nS_in fun b hb => by
  unfold wF
  by_cases c : wh b = 1
  · rw [if_pos c]
    exact h b hb c
  · rw [if_neg c]
    exact h0
theorem pT_5 {w s B : Int} (h0 : 0 ≤ s) (h1 : s ≤ 79) : pT B w s = pB 0 w s * (1 - B) + pB 1 w s * (3 - B) + pB 2 w s * (5 - B) + pB 3 w s * (7 - B) + pB 4 w s * (9 - B) := by
  unfold pT pB
  rcases (show s / 16 = 0 ∨ s / 16 = 1 ∨ s / 16 = 2 ∨ s / 16 = 3 ∨ s / 16 = 4 by omega) with h | h | h | h | h
  · rw [if_pos h, if_neg (show ¬ s / 16 = 1 by omega), if_neg (show ¬ s / 16 = 2 by omega), if_neg (show ¬ s / 16 = 3 by omega), if_neg (show ¬ s / 16 = 4 by omega), show 2 * (s / 16) + 1 - B = 1 - B by omega]
    omega
  · rw [if_neg (show ¬ s / 16 = 0 by omega), if_pos h, if_neg (show ¬ s / 16 = 2 by omega), if_neg (show ¬ s / 16 = 3 by omega), if_neg (show ¬ s / 16 = 4 by omega), show 2 * (s / 16) + 1 - B = 3 - B by omega]
    omega
  · rw [if_neg (show ¬ s / 16 = 0 by omega), if_neg (show ¬ s / 16 = 1 by omega), if_pos h, if_neg (show ¬ s / 16 = 3 by omega), if_neg (show ¬ s / 16 = 4 by omega), show 2 * (s / 16) + 1 - B = 5 - B by omega]
    omega
  · rw [if_neg (show ¬ s / 16 = 0 by omega), if_neg (show ¬ s / 16 = 1 by omega), if_neg (show ¬ s / 16 = 2 by omega), if_pos h, if_neg (show ¬ s / 16 = 4 by omega), show 2 * (s / 16) + 1 - B = 7 - B by omega]
    omega
  · rw [if_neg (show ¬ s / 16 = 0 by omega), if_neg (show ¬ s / 16 = 1 by omega), if_neg (show ¬ s / 16 = 2 by omega), if_neg (show ¬ s / 16 = 3 by omega), if_pos h, show 2 * (s / 16) + 1 - B = 9 - B by omega]
    omega
/-- the trim out of the bays' weights -/
theorem zT_5 {wt wh sp : Nat → Int} {B : Int} : ∀ {n : Nat}, (∀ b, b < n → wh b = 1 → 0 ≤ sp b ∧ sp b ≤ 79) → nS (wF (pT B) wt wh sp) n = nS (wF (pB 0) wt wh sp) n * (1 - B) + nS (wF (pB 1) wt wh sp) n * (3 - B) + nS (wF (pB 2) wt wh sp) n * (5 - B) + nS (wF (pB 3) wt wh sp) n * (7 - B) + nS (wF (pB 4) wt wh sp) n * (9 - B)
  | 0, _ => by
    show (0 : Int) = 0 * (1 - B) + 0 * (3 - B) + 0 * (5 - B) + 0 * (7 - B) + 0 * (9 - B)
    omega
  | n + 1, h => by
    have ih := zT_5 (n := n) (B := B) (wt := wt) (fun b hb => h b (Nat.lt_succ_of_lt hb))
    have q : wF (pT B) wt wh sp n = wF (pB 0) wt wh sp n * (1 - B) + wF (pB 1) wt wh sp n * (3 - B) + wF (pB 2) wt wh sp n * (5 - B) + wF (pB 3) wt wh sp n * (7 - B) + wF (pB 4) wt wh sp n * (9 - B) := by
      unfold wF
      by_cases c : wh n = 1
      · rw [if_pos c, if_pos c, if_pos c, if_pos c, if_pos c, if_pos c]
        exact pT_5 (h n (Nat.lt_succ_self n) c).1 (h n (Nat.lt_succ_self n) c).2
      · rw [if_neg c, if_neg c, if_neg c, if_neg c, if_neg c, if_neg c]
        omega
    show nS (wF (pT B) wt wh sp) n + wF (pT B) wt wh sp n = (nS (wF (pB 0) wt wh sp) n + wF (pB 0) wt wh sp n) * (1 - B) + (nS (wF (pB 1) wt wh sp) n + wF (pB 1) wt wh sp n) * (3 - B) + (nS (wF (pB 2) wt wh sp) n + wF (pB 2) wt wh sp n) * (5 - B) + (nS (wF (pB 3) wt wh sp) n + wF (pB 3) wt wh sp n) * (7 - B) + (nS (wF (pB 4) wt wh sp) n + wF (pB 4) wt wh sp n) * (9 - B)
    rw [Int.add_mul, Int.add_mul, Int.add_mul, Int.add_mul, Int.add_mul, ih, q]
    omega
/-- all out of the bays' weights -/
theorem zA_5 {wt wh sp : Nat → Int} : ∀ {n : Nat}, (∀ b, b < n → wh b = 1 → 0 ≤ sp b ∧ sp b ≤ 79) → nS (wF pA wt wh sp) n = nS (wF (pB 0) wt wh sp) n + nS (wF (pB 1) wt wh sp) n + nS (wF (pB 2) wt wh sp) n + nS (wF (pB 3) wt wh sp) n + nS (wF (pB 4) wt wh sp) n
  | 0, _ => rfl
  | n + 1, h => by
    have ih := zA_5 (n := n) (wt := wt) (fun b hb => h b (Nat.lt_succ_of_lt hb))
    have q : wF pA wt wh sp n = wF (pB 0) wt wh sp n + wF (pB 1) wt wh sp n + wF (pB 2) wt wh sp n + wF (pB 3) wt wh sp n + wF (pB 4) wt wh sp n := by
      unfold wF
      by_cases c : wh n = 1
      · rw [if_pos c, if_pos c, if_pos c, if_pos c, if_pos c, if_pos c]
        have k := h n (Nat.lt_succ_self n) c
        unfold pA pB
        split <;> split <;> split <;> split <;> split <;> omega
      · rw [if_neg c, if_neg c, if_neg c, if_neg c, if_neg c, if_neg c]
        omega
    show nS (wF pA wt wh sp) n + wF pA wt wh sp n = (nS (wF (pB 0) wt wh sp) n + wF (pB 0) wt wh sp n) + (nS (wF (pB 1) wt wh sp) n + wF (pB 1) wt wh sp n) + (nS (wF (pB 2) wt wh sp) n + wF (pB 2) wt wh sp n) + (nS (wF (pB 3) wt wh sp) n + wF (pB 3) wt wh sp n) + (nS (wF (pB 4) wt wh sp) n + wF (pB 4) wt wh sp n)
    omega
/-- a product of two that are within bounds -/
theorem zm_bd {x y u p q : Int} (hx : 0 ≤ x) (hx2 : x ≤ u) (hp : -p ≤ y) (hq : y ≤ q) (p0 : 0 ≤ p) (q0 : 0 ≤ q) : -(u * p) ≤ x * y ∧ x * y ≤ u * q := by
  constructor
  · have h1 : x * (-p) ≤ x * y := Int.mul_le_mul_of_nonneg_left hp hx
    have h2 : x * p ≤ u * p := Int.mul_le_mul_of_nonneg_right hx2 p0
    have h3 : x * (-p) = -(x * p) := Int.mul_neg x p
    omega
  · have h1 : x * y ≤ x * q := Int.mul_le_mul_of_nonneg_left hq hx
    have h2 : x * q ≤ u * q := Int.mul_le_mul_of_nonneg_right hx2 q0
    omega
/-- how the ship bends: the sum behind c bays, and the greatest so far -/
noncomputable def bnS (B al : Int) (f : Nat → Int) : Nat → Int
  | 0 => 0
  | c + 1 => bnS B al f c + (B * nS f (c + 1) - ((c : Int) + 1) * al)
noncomputable def bnM (B al : Int) (f : Nat → Int) : Nat → Int
  | 0 => 0
  | c + 1 => if bnM B al f c < ab (bnS B al f (c + 1)) then ab (bnS B al f (c + 1)) else bnM B al f c
theorem bnS_cg {B al : Int} {f g : Nat → Int} : ∀ {c : Nat}, (∀ i, i < c → f i = g i) → bnS B al f c = bnS B al g c
  | 0, _ => rfl
  | c + 1, h => by
    show bnS B al f c + (B * nS f (c + 1) - ((c : Int) + 1) * al) = bnS B al g c + (B * nS g (c + 1) - ((c : Int) + 1) * al)
    rw [bnS_cg (fun i hi => h i (Nat.lt_succ_of_lt hi)), nS_cg h]
theorem bnM_cg {B al : Int} {f g : Nat → Int} : ∀ {c : Nat}, (∀ i, i < c → f i = g i) → bnM B al f c = bnM B al g c
  | 0, _ => rfl
  | c + 1, h => by
    show (if bnM B al f c < ab (bnS B al f (c + 1)) then ab (bnS B al f (c + 1)) else bnM B al f c) = (if bnM B al g c < ab (bnS B al g (c + 1)) then ab (bnS B al g (c + 1)) else bnM B al g c)
    rw [bnM_cg (fun i hi => h i (Nat.lt_succ_of_lt hi)), bnS_cg h]
theorem bnS_in {B al : Int} {f : Nat → Int} (hB : 0 ≤ B ∧ B ≤ 5) (ha : -8000 ≤ al ∧ al ≤ 8000) : ∀ {c : Nat}, c ≤ 5 → (∀ i, i ≤ c → -8000 ≤ nS f i ∧ nS f i ≤ 8000) → -80000 * (c : Int) ≤ bnS B al f c ∧ bnS B al f c ≤ 80000 * (c : Int)
  | 0, _, _ => ⟨by show -80000 * ((0 : Nat) : Int) ≤ 0; omega, by show (0 : Int) ≤ 80000 * ((0 : Nat) : Int); omega⟩
  | c + 1, hc, h => by
    have ih := bnS_in (c := c) hB ha (by omega) (fun i hi => h i (by omega))
    have k := h (c + 1) (Nat.le_refl _)
    have a := zm_bd (x := B) (y := nS f (c + 1)) (u := 5) (p := 8000) (q := 8000) hB.1 hB.2 (by omega) (by omega) (by omega) (by omega)
    have b := zm_bd (x := (c : Int) + 1) (y := al) (u := 5) (p := 8000) (q := 8000) (by omega) (by omega) (by omega) (by omega) (by omega) (by omega)
    show -80000 * ((c + 1 : Nat) : Int) ≤ bnS B al f c + (B * nS f (c + 1) - ((c : Int) + 1) * al) ∧ bnS B al f c + (B * nS f (c + 1) - ((c : Int) + 1) * al) ≤ 80000 * ((c + 1 : Nat) : Int)
    omega
theorem bnM_in {B al : Int} {f : Nat → Int} (hB : 0 ≤ B ∧ B ≤ 5) (ha : -8000 ≤ al ∧ al ≤ 8000) : ∀ {c : Nat}, c ≤ 5 → (∀ i, i ≤ c → -8000 ≤ nS f i ∧ nS f i ≤ 8000) → 0 ≤ bnM B al f c ∧ bnM B al f c ≤ 400000
  | 0, _, _ => ⟨Int.le_refl _, by show (0 : Int) ≤ 400000; omega⟩
  | c + 1, hc, h => by
    have ih := bnM_in (c := c) hB ha (by omega) (fun i hi => h i (by omega))
    have k := bnS_in (c := c + 1) hB ha hc h
    show 0 ≤ (if bnM B al f c < ab (bnS B al f (c + 1)) then ab (bnS B al f (c + 1)) else bnM B al f c) ∧ (if bnM B al f c < ab (bnS B al f (c + 1)) then ab (bnS B al f (c + 1)) else bnM B al f c) ≤ 400000
    unfold ab
    split <;> split <;> omega
theorem zm_bc {x y u p q : Int} (hx : 0 ≤ y) (hx2 : y ≤ u) (hp : -p ≤ x) (hq : x ≤ q) (p0 : 0 ≤ p) (q0 : 0 ≤ q) : -(u * p) ≤ x * y ∧ x * y ≤ u * q := by
  have h := zm_bd hx hx2 hp hq p0 q0
  rw [Int.mul_comm y x] at h
  exact h
theorem zm_be {x y u p : Int} (h1 : -u ≤ x) (h2 : x ≤ u) (h3 : -p ≤ y) (h4 : y ≤ p) : -(u * p) ≤ x * y ∧ x * y ≤ u * p := by
  by_cases c : 0 ≤ x
  · exact zm_bd c h2 h3 h4 (by omega) (by omega)
  · have h := zm_bd (x := -x) (y := y) (u := u) (p := p) (q := p) (by omega) (by omega) h3 h4 (by omega) (by omega)
    rw [Int.neg_mul] at h
    omega
theorem ab_in {z m : Int} (h1 : -m ≤ z) (h2 : z ≤ m) : 0 ≤ ab z ∧ ab z ≤ m := by
  unfold ab
  split <;> omega
theorem ab_0 {z : Int} (h : 0 ≤ z) : ab z = z := if_neg (by omega)
theorem m_abs {x z : Int32} (q : (if 0 ≤ x then x else 0 - x) = z) (h : -2147483647 ≤ x.toInt) : z.toInt = ab x.toInt := by
  have e0 : (0 : Int32).toInt = 0 := rfl
  subst q
  unfold ab
  by_cases c : 0 ≤ x
  · have c2 := hk_lei.mp c
    rw [if_pos c, if_neg (by omega)]
  · have c2 : ¬ (0 : Int32).toInt ≤ x.toInt := fun z => c (hk_lei.mpr z)
    rw [if_neg c, if_pos (by omega)]
    have r := hk_rng x
    obtain ⟨z, e1, e2⟩ := hk_sub (x := 0) (y := x) (a := 0) (b := x.toInt) rfl rfl (by omega) (by omega)
    rw [e1, e2]
    omega
theorem m_max {x y z : Int32} (q : (if x < y then y else x) = z) : z.toInt = if x.toInt < y.toInt then y.toInt else x.toInt := by
  subst q
  by_cases c : x < y
  · rw [if_pos c, if_pos (hk_lti.mp c)]
  · rw [if_neg c, if_neg (fun z => c (hk_lti.mpr z))]
/-- one step of a sum -/
theorem nS_st {f : Nat → Int} {i i2 base s s2 z : Int} (hs : s = base + nS f i.toNat) (hz : z = f i.toNat) (h2 : s2 = s + z) (hi : i2 = i + 1) (h0 : 0 ≤ i) : s2 = base + nS f i2.toNat := by
  have e : i2.toNat = i.toNat + 1 := by omega
  rw [e]
  show s2 = base + (nS f i.toNat + f i.toNat)
  omega
theorem nS_s0 {f : Nat → Int} {i i2 s s2 z : Int} (hs : s = nS f i.toNat) (hz : z = f i.toNat) (h2 : s2 = s + z) (hi : i2 = i + 1) (h0 : 0 ≤ i) : s2 = nS f i2.toNat := by
  have e : i2.toNat = i.toNat + 1 := by omega
  rw [e]
  show s2 = nS f i.toNat + f i.toNat
  omega
theorem pL_in {w s : Int} (hw : 0 ≤ w ∧ w ≤ 40) : -120 ≤ pL w s ∧ pL w s ≤ 120 := by
  have h := zm_bd (x := w) (y := 2 * (s / 4 % 4) - 3) (u := 40) (p := 3) (q := 3) hw.1 hw.2 (by omega) (by omega) (by omega) (by omega)
  unfold pL
  omega
theorem pT_in {B w s : Int} (hB : 0 ≤ B ∧ B ≤ 5) (hw : 0 ≤ w ∧ w ≤ 40) (hs : 0 ≤ s ∧ s ≤ 79) : -400 ≤ pT B w s ∧ pT B w s ≤ 400 := by
  have h := zm_bd (x := w) (y := 2 * (s / 16) + 1 - B) (u := 40) (p := 10) (q := 10) hw.1 hw.2 (by omega) (by omega) (by omega) (by omega)
  unfold pT
  omega
theorem pA_in {w s : Int} (hw : 0 ≤ w ∧ w ≤ 40) : 0 ≤ pA w s ∧ pA w s ≤ 40 := hw
theorem pB_in {c w s : Int} (hw : 0 ≤ w ∧ w ≤ 40) : 0 ≤ pB c w s ∧ pB c w s ≤ 40 := by
  unfold pB
  split <;> omega
/-- what the ship has: list, trim, all, bend -/
noncomputable def zL (w wh sp : Nat → Int) (n : Nat) : Int := nS (wF pL w wh sp) n
noncomputable def zT (B : Int) (w wh sp : Nat → Int) (n : Nat) : Int := nS (wF (pT B) w wh sp) n
noncomputable def zA (w wh sp : Nat → Int) (n : Nat) : Int := nS (wF pA w wh sp) n
noncomputable def zB (w wh sp : Nat → Int) (n : Nat) : Nat → Int := fun c => nS (wF (pB c) w wh sp) n
noncomputable def zD (B : Int) (w wh sp : Nat → Int) (n : Nat) : Int := bnM B (zA w wh sp n) (zB w wh sp n) (B - 1).toNat
theorem zL_in {w wh sp : Nat → Int} {n : Nat} (hw : ∀ b, 0 ≤ w b ∧ w b ≤ 40) (hn : n ≤ 30) : -3600 ≤ zL w wh sp n ∧ zL w wh sp n ≤ 3600 := by
  have h := wF_in (p := pL) (wt := w) (wh := wh) (sp := sp) (n := n) (u := -120) (v := 120) (by omega) (fun b _ _ => pL_in (hw b))
  unfold zL
  omega
theorem zT_in {B : Int} {w wh sp : Nat → Int} {n : Nat} (hB : 0 ≤ B ∧ B ≤ 5) (hw : ∀ b, 0 ≤ w b ∧ w b ≤ 40) (hs : ∀ b, 0 ≤ sp b ∧ sp b ≤ 79) (hn : n ≤ 30) : -12000 ≤ zT B w wh sp n ∧ zT B w wh sp n ≤ 12000 := by
  have h := wF_in (p := pT B) (wt := w) (wh := wh) (sp := sp) (n := n) (u := -400) (v := 400) (by omega) (fun b _ _ => pT_in hB (hw b) (hs b))
  unfold zT
  omega
theorem zA_in {w wh sp : Nat → Int} {n : Nat} (hw : ∀ b, 0 ≤ w b ∧ w b ≤ 40) (hn : n ≤ 30) : 0 ≤ zA w wh sp n ∧ zA w wh sp n ≤ 1200 := by
  have h := wF_in (p := pA) (wt := w) (wh := wh) (sp := sp) (n := n) (u := 0) (v := 40) (by omega) (fun b _ _ => pA_in (s := sp b) (hw b))
  unfold zA
  omega
theorem zB_in {w wh sp : Nat → Int} {n c : Nat} (hw : ∀ b, 0 ≤ w b ∧ w b ≤ 40) (hn : n ≤ 30) : 0 ≤ zB w wh sp n c ∧ zB w wh sp n c ≤ 1200 := by
  have h := wF_in (p := pB c) (wt := w) (wh := wh) (sp := sp) (n := n) (u := 0) (v := 40) (by omega) (fun b _ _ => pB_in (hw b))
  unfold zB
  omega
theorem zBs_in {w wh sp : Nat → Int} {n i : Nat} (hw : ∀ b, 0 ≤ w b ∧ w b ≤ 40) (hn : n ≤ 30) (hi : i ≤ 5) : 0 ≤ nS (zB w wh sp n) i ∧ nS (zB w wh sp n) i ≤ 6000 := by
  have h := nS_in (f := zB w wh sp n) (p := 0) (q := 1200) (n := i) (fun c _ => zB_in hw hn)
  omega
theorem zD_in {B : Int} {w wh sp : Nat → Int} {n : Nat} (hB : 1 ≤ B ∧ B ≤ 5) (hw : ∀ b, 0 ≤ w b ∧ w b ≤ 40) (hn : n ≤ 30) : 0 ≤ zD B w wh sp n ∧ zD B w wh sp n ≤ 400000 := by
  have a := zA_in (wh := wh) (sp := sp) hw hn
  exact bnM_in (by omega) (by omega) (by omega) (fun i hi => by
    have := zBs_in (wh := wh) (sp := sp) (i := i) hw hn (by omega)
    omega)
/-- may the ship be so: g what it bears, q what it had -/
noncomputable def mayP (B g0 g1 g2 q0 q1 q2 : Int) (w wh sp : Nat → Int) (n : Nat) : Prop := (ab (zL w wh sp n) ≤ g0 ∧ ab (zT B w wh sp n) ≤ g1 ∧ zD B w wh sp n ≤ g2) ∨ (ab (zL w wh sp n) ≤ q0 ∧ ab (zT B w wh sp n) ≤ q1 ∧ zD B w wh sp n ≤ q2)
/-- what loading answers: ok: may it be so -/
noncomputable def tryV (n b : Int) (had : Bool) (y x B fr w lift : Int) (ok : Bool) : Int := if 0 ≤ b ∧ b < n ∧ 0 ≤ y ∧ y < B ∧ 0 ≤ x ∧ x ≤ 3 ∧ had = true then (if fr = -1 then -1 else if lift < w then -2 else if ok = true then fr % 4 else -3) else -1
