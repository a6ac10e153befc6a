/-! bits of a long; facts, voids: pure -/
noncomputable def bt (v : Int64) (k : Nat) : Bool := v.toBitVec.getLsbD k
theorem bt_sh : ∀ k, k < 60 → ((Int32.toInt64 (Int32.ofNat k) &&& 63).toBitVec.smod 64).toNat = k := by decide +kernel
theorem bt_one : ∀ k, k < 60 → ((1 : Int64) <<< (Int32.toInt64 (Int32.ofNat k) &&& 63)).toBitVec = BitVec.twoPow 64 k := by decide +kernel
theorem bt_n {t : Int32} (ht : 0 ≤ t.toInt ∧ t.toInt < 60) : ∃ m : Nat, m < 60 ∧ t = Int32.ofNat m ∧ t.toInt = (m : Int) := by
  refine ⟨t.toInt.toNat, by omega, ?_, by omega⟩
  apply Int32.toInt_inj.mp
  rw [Int32.toInt_ofNat_of_lt (by omega)]
  omega
theorem bt_or {v : Int64} {t : Int32} {k : Nat} (ht : 0 ≤ t.toInt ∧ t.toInt < 60) : bt (v ||| ((1 : Int64) <<< (Int32.toInt64 t &&& 63))) k = true ↔ (bt v k = true ∨ (k : Int) = t.toInt) := by
  obtain ⟨m, hm, rfl, e⟩ := bt_n ht
  unfold bt
  rw [Int64.toBitVec_or, bt_one m hm, BitVec.getLsbD_or, BitVec.getLsbD_twoPow, Bool.or_eq_true, e, decide_eq_true (show m < 64 by omega), Bool.true_and, decide_eq_true_eq]
  constructor
  · rintro (h | h)
    · exact Or.inl h
    · exact Or.inr (by omega)
  · rintro (h | h)
    · exact Or.inl h
    · exact Or.inr (by omega)
theorem bt_zero {k : Nat} : bt 0 k = false := by
  unfold bt
  rw [show (0 : Int64).toBitVec = 0#64 from rfl]
  simp
theorem bt_and1 (y : Int64) : y &&& 1 = 0 ↔ y.toBitVec.getLsbD 0 = false := by
  have e1 : (1 : Int64).toBitVec.getLsbD 0 = true := by decide +kernel
  constructor
  · intro h
    have h2 : (y &&& 1).toBitVec.getLsbD 0 = (0 : Int64).toBitVec.getLsbD 0 := by rw [h]
    rw [Int64.toBitVec_and, BitVec.getLsbD_and, e1, Bool.and_true] at h2
    rw [h2]
    decide +kernel
  · intro h
    apply Int64.toBitVec_inj.mp
    apply BitVec.eq_of_getLsbD_eq
    intro i hi
    have e0 : ∀ i, i < 64 → (0 : Int64).toBitVec.getLsbD i = false := by decide +kernel
    have e2 : ∀ i, i < 64 → i ≠ 0 → (1 : Int64).toBitVec.getLsbD i = false := by decide +kernel
    rw [Int64.toBitVec_and, BitVec.getLsbD_and, e0 i hi]
    by_cases c : i = 0
    · subst c
      rw [h]
      rfl
    · rw [e2 i hi c, Bool.and_false]
theorem bt_get {v : Int64} {k : Int32} (hk : 0 ≤ k.toInt ∧ k.toInt < 60) : lg_cmp ((v >>> (Int32.toInt64 k &&& 63)) &&& 1) 0 = 0 ↔ bt v k.toInt.toNat = false := by
  obtain ⟨m, hm, rfl, e⟩ := bt_n hk
  have e2 : (Int32.ofNat m).toInt.toNat = m := by omega
  have e3 : (!decide ((64 : Nat) ≤ 0)) = true := by decide
  rw [lg_cmp_eq, bt_and1, Int64.toBitVec_shiftRight, e2]
  unfold bt
  rw [BitVec.getLsbD_sshiftRight', bt_sh m hm, e3, Bool.true_and, if_pos (by omega), Nat.add_zero]
/-- a void among the first n names k: as the class has it, as the reference has it -/
noncomputable def voC (I : Nat → Nat → Int32) (n k : Nat) : Prop := ∃ j, j < n ∧ (I 43 j).toInt = 4 ∧ (I 45 j).toInt = (k : Int)
noncomputable def voR (I : Nat → Nat → Int32) (n k : Nat) : Prop := ∃ j, k < j ∧ j < n ∧ (I 164 j).toInt = 4 ∧ (I 165 j).toInt = (k : Int)
theorem voC_0 {I : Nat → Nat → Int32} {k : Nat} : ¬ voC I 0 k := fun ⟨_, h, _⟩ => by omega
theorem voC_s {I : Nat → Nat → Int32} {n k : Nat} : voC I (n + 1) k ↔ (voC I n k ∨ ((I 43 n).toInt = 4 ∧ (I 45 n).toInt = (k : Int))) := by
  constructor
  · rintro ⟨j, h1, h2, h3⟩
    by_cases e : j = n
    · subst e
      exact Or.inr ⟨h2, h3⟩
    · exact Or.inl ⟨j, by omega, h2, h3⟩
  · rintro (⟨j, h1, h2, h3⟩ | ⟨h2, h3⟩)
    · exact ⟨j, by omega, h2, h3⟩
    · exact ⟨n, by omega, h2, h3⟩
theorem vo_eq {I : Nat → Nat → Int32} (hF : gF I) {n k : Nat} (hn : (n : Int) ≤ (I 42 7).toInt) : voC I n k ↔ voR I n k := by
  constructor
  · rintro ⟨j, h1, h2, h3⟩
    obtain ⟨⟨a, b, c⟩, -, -, d, e⟩ := hF j (by omega)
    rw [c] at h2
    have e := e h2
    rw [d (by omega)] at h3
    exact ⟨j, by omega, h1, h2, h3⟩
  · rintro ⟨j, h0, h1, h2, h3⟩
    obtain ⟨⟨a, b, c⟩, -, -, d, e⟩ := hF j (by omega)
    refine ⟨j, h1, by rw [c]; exact h2, by rw [d (by omega)]; exact h3⟩
/-- the last below n of which P holds -/
noncomputable def lastS (P : Nat → Prop) (n : Nat) (o : Option Nat) : Prop := match o with
  | none => ∀ k, k < n → ¬ P k
  | some k => k < n ∧ P k ∧ ∀ j, k < j → j < n → ¬ P j
theorem lastS_eq {P Q : Nat → Prop} {n : Nat} {o o2 : Option Nat} (h : ∀ k, k < n → (P k ↔ Q k)) (a : lastS P n o) (b : lastS Q n o2) : o = o2 := by
  cases o with
  | none =>
    cases o2 with
    | none => rfl
    | some k => exact absurd ((h k b.1).mpr b.2.1) (a k b.1)
  | some k =>
    cases o2 with
    | none => exact absurd ((h k a.1).mp a.2.1) (b k a.1)
    | some m =>
      have e : k = m := by
        rcases Nat.lt_trichotomy k m with c | c | c
        · exact absurd ((h m b.1).mpr b.2.1) (a.2.2 m c b.1)
        · exact c
        · exact absurd ((h k a.1).mp a.2.1) (b.2.2 k c a.1)
      rw [e]
theorem lastS_0 {P : Nat → Prop} : lastS P 0 none := fun k h => by omega
theorem lastS_yes {P : Nat → Prop} {n : Nat} (h : P n) : lastS P (n + 1) (some n) := ⟨by omega, h, fun j a b => by omega⟩
theorem lastS_no {P : Nat → Prop} {n : Nat} {o : Option Nat} (a : lastS P n o) (h : ¬ P n) : lastS P (n + 1) o := by
  cases o with
  | none =>
    intro k hk
    by_cases e : k = n
    · subst e
      exact h
    · exact a k (by omega)
  | some m =>
    refine ⟨by have := a.1; omega, a.2.1, fun j c d => ?_⟩
    by_cases e : j = n
    · subst e
      exact h
    · exact a.2.2 j c (by omega)
/-- none from n down to i -/
theorem lastS_down {P : Nat → Prop} {n k : Nat} (hk : k < n) (h : P k) (no : ∀ j, k < j → j < n → ¬ P j) : lastS P n (some k) := ⟨hk, h, no⟩
noncomputable def lastR (f : Nat → Int32) (d : Int32) (o : Option Nat) : Int32 := match o with
  | none => d
  | some k => f k
/-- sights of a box, customs of a box, as both have them -/
noncomputable def siC (I : Nat → Nat → Int32) (b : Int32) (n k : Nat) : Prop := (I 43 k).toInt = 0 ∧ (I 44 k).toInt = b.toInt ∧ ¬ voC I n k
noncomputable def siR (I : Nat → Nat → Int32) (b : Int32) (n k : Nat) : Prop := ((I 164 k).toInt = 0 ∧ ¬ voR I n k) ∧ (I 165 k).toInt = b.toInt
theorem si_eq {I : Nat → Nat → Int32} (hF : gF I) {b : Int32} {n : Nat} (hn : (n : Int) ≤ (I 42 7).toInt) (k : Nat) (hk : k < n) : siC I b n k ↔ siR I b n k := by
  obtain ⟨⟨x, y, c⟩, d, -, -, -⟩ := hF k (by omega)
  unfold siC siR
  rw [vo_eq hF hn, c]
  constructor
  · rintro ⟨h1, h2, h3⟩
    exact ⟨⟨h1, h3⟩, by rw [← d (by omega)]; exact h2⟩
  · rintro ⟨⟨h1, h3⟩, h2⟩
    exact ⟨h1, by rw [d (by omega)]; exact h2, h3⟩
noncomputable def cuC (I : Nat → Nat → Int32) (b : Int32) (n k : Nat) : Prop := ((I 43 k).toInt = 1 ∨ (I 43 k).toInt = 2) ∧ (I 44 k).toInt = b.toInt ∧ ¬ voC I n k
noncomputable def cuR (I : Nat → Nat → Int32) (b : Int32) (n k : Nat) : Prop := (I 165 k).toInt = b.toInt ∧ (((I 164 k).toInt = 1 ∨ (I 164 k).toInt = 2) ∧ ¬ voR I n k)
theorem cu_eq {I : Nat → Nat → Int32} (hF : gF I) {b : Int32} {n : Nat} (hn : (n : Int) ≤ (I 42 7).toInt) (k : Nat) (hk : k < n) : cuC I b n k ↔ cuR I b n k := by
  obtain ⟨⟨x, y, c⟩, d, -, -, -⟩ := hF k (by omega)
  unfold cuC cuR
  rw [vo_eq hF hn, c]
  constructor
  · rintro ⟨h1, h2, h3⟩
    exact ⟨by rw [← d (by omega)]; exact h2, h1, h3⟩
  · rintro ⟨h2, h1, h3⟩
    exact ⟨h1, by rw [d (by omega)]; exact h2, h3⟩
theorem vo_b {I : Nat → Nat → Int32} (hF : gF I) {n : Nat} (hn : (n : Int) ≤ (I 42 7).toInt) (h60 : (I 42 7).toInt ≤ 60) : ∀ j : Nat, j < n → (I 43 j).toInt = 4 → 0 ≤ (I 45 j).toInt ∧ (I 45 j).toInt < 60 := by
  intro j hj h4
  obtain ⟨⟨a, b, c⟩, -, -, d, e⟩ := hF j (by omega)
  rw [c] at h4
  have e := e h4
  rw [d (by omega)]
  omega
theorem last_eq {I : Nat → Nat → Int32} (hF : gF I) {b : Int32} {n : Nat} (hn : (n : Int) ≤ (I 42 7).toInt) {o o2 : Option Nat} (a : lastS (siC I b n) n o) (a2 : lastS (siR I b n) n o2) : lastR (fun k => I 45 k) (-2) o = lastR (fun k => I 166 k) (-2) o2 := by
  rw [lastS_eq (fun k hk => si_eq hF hn k hk) a a2]
  cases o2 with
  | none => rfl
  | some k => exact (hF k (by have := a2.1; omega)).2.2.1 a2.2.1.1.1
/-- the way of holders: who had it last, how many there were; at which fact the i-th comes -/
noncomputable def wst (P : Nat → Prop) (f : Nat → Int32) : Nat → Int32 × Int
  | 0 => (-1, 0)
  | k + 1 => @ite _ (P k ∧ f k ≠ (wst P f k).1) (Classical.propDecidable _) (f k, (wst P f k).2 + 1) (wst P f k)
theorem wst_yes {P : Nat → Prop} {f : Nat → Int32} {k : Nat} (h : P k ∧ f k ≠ (wst P f k).1) : wst P f (k + 1) = (f k, (wst P f k).2 + 1) := by
  show @ite _ (P k ∧ f k ≠ (wst P f k).1) (Classical.propDecidable _) (f k, (wst P f k).2 + 1) (wst P f k) = _
  exact @if_pos _ (Classical.propDecidable _) h _ _ _
theorem wst_no {P : Nat → Prop} {f : Nat → Int32} {k : Nat} (h : ¬ (P k ∧ f k ≠ (wst P f k).1)) : wst P f (k + 1) = wst P f k := by
  show @ite _ (P k ∧ f k ≠ (wst P f k).1) (Classical.propDecidable _) (f k, (wst P f k).2 + 1) (wst P f k) = _
  exact @if_neg _ (Classical.propDecidable _) h _ _ _
theorem wst_b {P : Nat → Prop} {f : Nat → Int32} : ∀ k : Nat, 0 ≤ (wst P f k).2 ∧ (wst P f k).2 ≤ (k : Int)
  | 0 => ⟨Int.le_refl _, Int.le_refl _⟩
  | k + 1 => by
    have ih := wst_b (P := P) (f := f) k
    by_cases c : P k ∧ f k ≠ (wst P f k).1
    · rw [wst_yes c]
      show 0 ≤ (wst P f k).2 + 1 ∧ (wst P f k).2 + 1 ≤ ((k + 1 : Nat) : Int)
      omega
    · rw [wst_no c]
      omega
noncomputable def hit (P : Nat → Prop) (f : Nat → Int32) (i : Int) (k : Nat) : Prop := (P k ∧ f k ≠ (wst P f k).1) ∧ (wst P f k).2 = i
noncomputable def wayS (P : Nat → Prop) (f : Nat → Int32) (i : Int) (n : Nat) (r : Int32) : Prop := (∃ k, k < n ∧ hit P f i k ∧ r = f k ∧ ∀ j, j < k → ¬ hit P f i j) ∨ ((∀ k, k < n → ¬ hit P f i k) ∧ r = -1)
theorem wst_eq {P Q : Nat → Prop} {f g : Nat → Int32} {n : Nat} (h : ∀ k, k < n → (P k ↔ Q k)) (e : ∀ k, k < n → P k → f k = g k) : ∀ k, k ≤ n → wst P f k = wst Q g k
  | 0, _ => rfl
  | k + 1, hk => by
    have ih := wst_eq h e k (by omega)
    by_cases c : P k ∧ f k ≠ (wst P f k).1
    · have c2 : Q k ∧ g k ≠ (wst Q g k).1 := ⟨(h k (by omega)).mp c.1, by rw [← e k (by omega) c.1, ← ih]; exact c.2⟩
      rw [wst_yes c, wst_yes c2, ih, e k (by omega) c.1]
    · have c2 : ¬ (Q k ∧ g k ≠ (wst Q g k).1) := fun w => c ⟨(h k (by omega)).mpr w.1, by rw [e k (by omega) ((h k (by omega)).mpr w.1), ih]; exact w.2⟩
      rw [wst_no c, wst_no c2, ih]
theorem hit_eq {P Q : Nat → Prop} {f g : Nat → Int32} {n : Nat} {i : Int} (h : ∀ k, k < n → (P k ↔ Q k)) (e : ∀ k, k < n → P k → f k = g k) (k : Nat) (hk : k < n) : hit P f i k ↔ hit Q g i k := by
  have w := wst_eq h e k (by omega)
  unfold hit
  rw [w]
  constructor
  · rintro ⟨⟨a, b⟩, c⟩
    exact ⟨⟨(h k hk).mp a, by rw [← e k hk a]; exact b⟩, c⟩
  · rintro ⟨⟨a, b⟩, c⟩
    exact ⟨⟨(h k hk).mpr a, by rw [e k hk ((h k hk).mpr a)]; exact b⟩, c⟩
theorem wayS_eq {P Q : Nat → Prop} {f g : Nat → Int32} {n : Nat} {i : Int} {r r2 : Int32} (h : ∀ k, k < n → (P k ↔ Q k)) (e : ∀ k, k < n → P k → f k = g k) (a : wayS P f i n r) (b : wayS Q g i n r2) : r = r2 := by
  rcases a with ⟨k, k1, k2, k3, k4⟩ | ⟨k1, k2⟩
  · rcases b with ⟨m, m1, m2, m3, m4⟩ | ⟨m1, m2⟩
    · have c : k = m := by
        rcases Nat.lt_trichotomy k m with c | c | c
        · exact absurd ((hit_eq h e k k1).mp k2) (m4 k c)
        · exact c
        · exact absurd ((hit_eq h e m m1).mpr m2) (k4 m c)
      subst c
      rw [k3, m3, e k k1 k2.1.1]
    · exact absurd ((hit_eq h e k k1).mp k2) (m1 k k1)
  · rcases b with ⟨m, m1, m2, m3, m4⟩ | ⟨m1, m2⟩
    · exact absurd ((hit_eq h e m m1).mpr m2) (k1 m m1)
    · rw [k2, m2]
theorem wayS_neg {P : Nat → Prop} {f : Nat → Int32} {n : Nat} {i : Int} {r : Int32} (hi : i < 0) (a : wayS P f i n r) : r = -1 := by
  rcases a with ⟨k, k1, k2, k3, k4⟩ | ⟨k1, k2⟩
  · have := (wst_b (P := P) (f := f) k).1
    have := k2.2
    omega
  · exact k2
theorem way_eq {I : Nat → Nat → Int32} (hF : gF I) {b : Int32} {n : Nat} {i : Int} (hn : (n : Int) ≤ (I 42 7).toInt) {r r2 : Int32} (a : wayS (siC I b n) (fun k => I 45 k) i n r) (a2 : wayS (siR I b n) (fun k => I 166 k) i n r2) : r = r2 := wayS_eq (fun k hk => si_eq hF hn k hk) (fun k hk w => (hF k (by omega)).2.2.1 (((si_eq hF hn k hk).mp w).1.1)) a a2
noncomputable def cuV (s : Nat → Int32) (o : Option Nat) : Int32 := match o with
  | none => 0
  | some k => if (s k).toInt = 1 then 1 else 0
theorem cuV_b {s : Nat → Int32} {o : Option Nat} : 0 ≤ (cuV s o).toInt ∧ (cuV s o).toInt ≤ 1 := by
  unfold cuV
  split
  · decide
  · split <;> decide
theorem stop_eq {I : Nat → Nat → Int32} (hF : gF I) {b : Int32} {n : Nat} (hn : (n : Int) ≤ (I 42 7).toInt) {o o2 : Option Nat} (a : lastS (cuC I b n) n o) (a2 : lastS (cuR I b n) n o2) : cuV (fun k => I 43 k) o = cuV (fun k => I 164 k) o2 := by
  rw [lastS_eq (fun k hk => cu_eq hF hn k hk) a a2]
  cases o2 with
  | none => rfl
  | some k =>
    have e := (hF k (by have := a2.1; omega)).1.2.2
    show (if (I 43 k).toInt = 1 then (1 : Int32) else 0) = if (I 164 k).toInt = 1 then 1 else 0
    rw [e]
theorem hl_void {L : Nat} {xs : Nat → Int32} {d : Nat} {Z : Option Value → qm_H → Prop} {h : qm_H} (hH : hk_H h) (hB : hk_B h.2.1) {n : Int32} (hn : (0 : Int) ≤ n.toInt ∧ n.toInt ≤ 60) (hv : ∀ j : Nat, j < n.toInt.toNat → (h.2.1 43 j).toInt = 4 → 0 ≤ (h.2.1 45 j).toInt ∧ (h.2.1 45 j).toInt < 60) (k : ∀ v : Int64, (∀ k : Nat, bt v k = true ↔ voC h.2.1 n.toInt.toNat k) → Z (some (.long v)) h) : ∀ (m : Nat) (v : Int64) (f : Int32), ((0 : Int) ≤ f.toInt ∧ f.toInt ≤ n.toInt) → (∀ k : Nat, bt v k = true ↔ voC h.2.1 f.toInt.toNat k) → (n.toInt - f.toInt).toNat = m → qm_Ru (some (L, xs)) (d + 10) cd_83 (5, [.ref 42, .int n, .long v, .float 0, .int f], [], h) Z := by
  intro m
  induction m using Nat.strongRecOn with
  | ind m ih =>
    intro v f hf hi hm
    have kz0 : (0 : Int32).toInt = 0 := rfl
    have kz1 : (1 : Int32).toInt = 1 := rfl
    have kz2 : (2 : Int32).toInt = 2 := rfl
    have kzm1 : (-1 : Int32).toInt = -1 := rfl
    have kzm2 : (-2 : Int32).toInt = -2 := rfl
    refine qm_Ru.go 2 (c' := (8, [.ref 42, .int n, .long v, .float 0, .int f], [.int n, .int f], h)) rfl ?_
    refine hk_cge (ix := f.toInt) (iy := n.toInt) rfl rfl rfl (fun z1 => ?_) (fun z1 => ?_)
    · refine qm_Ru.go 1 (c' := (41, [.ref 42, .int n, .long v, .float 0, .int f], [.long v], h)) rfl ?_
      refine qm_Ru.rt (v := (some (.long v))) (h' := h) rfl ?_
      exact k v (fun k => by rw [hi k, show f.toInt.toNat = n.toInt.toNat from by omega])
    · refine qm_Ru.go 1 (c' := (12, [.ref 42, .int n, .long v, .float 0, .int f], [.ref 42], h)) rfl ?_
      refine hk_getr rfl (hH.1 42 (7, 11) rfl) rfl (hH.2 42 1 (some 43) rfl) ?_
      refine qm_Ru.go 1 (c' := (17, [.ref 42, .int n, .long v, .float 0, .int f], [.int f, .ref 43], h)) rfl ?_
      obtain ⟨v2, q_v2⟩ : ∃ v_, h.2.1 43 (f.toInt.toNat) = v_ := ⟨_, rfl⟩
      have b_v2 : (0 : Int) ≤ v2.toInt ∧ v2.toInt ≤ 4 := by rw [← q_v2]; exact hB 43 (f.toInt.toNat)
      refine hk_ial (v := v2) rfl (hH.1 43 (0, 60) rfl) (by omega) (by omega) q_v2 ?_
      refine qm_Ru.go 1 (c' := (19, [.ref 42, .int n, .long v, .float 0, .int f], [.int 4, .int v2], h)) rfl ?_
      refine hk_cne (ix := v2.toInt) (iy := 4) rfl rfl rfl (fun z3 => ?_) (fun z3 => ?_)
      · refine qm_Ru.go 1 (c' := (37, [.ref 42, .int n, .long v, .float 0, .int (f + 1)], [], h)) rfl ?_
        obtain ⟨v4, q_v4, e_v4⟩ := hk_add (x := f) (y := 1) (a := f.toInt) (b := 1) rfl rfl (by omega) (by omega)
        rw [q_v4]
        refine qm_Ru.go 1 (c' := (5, [.ref 42, .int n, .long v, .float 0, .int v4], [], h)) rfl ?_
        have es : v4.toInt.toNat = f.toInt.toNat + 1 := by omega
        exact ih _ (by omega) v v4 (by omega) (fun k => by rw [es, voC_s, q_v2]; exact ⟨fun w => Or.inl ((hi k).mp w), fun w => by rcases w with w | ⟨w, _⟩; exact (hi k).mpr w; omega⟩) rfl
      · refine qm_Ru.go 3 (c' := (25, [.ref 42, .int n, .long v, .float 0, .int f], [.ref 42, .long (1 : Int64), .long v], h)) rfl ?_
        refine hk_getr rfl (hH.1 42 (7, 11) rfl) rfl (hH.2 42 3 (some 45) rfl) ?_
        refine qm_Ru.go 1 (c' := (30, [.ref 42, .int n, .long v, .float 0, .int f], [.int f, .ref 45, .long (1 : Int64), .long v], h)) rfl ?_
        obtain ⟨v5, q_v5⟩ : ∃ v_, h.2.1 45 (f.toInt.toNat) = v_ := ⟨_, rfl⟩
        have b_v5 : (-99999 : Int) ≤ v5.toInt ∧ v5.toInt ≤ 99999 := by rw [← q_v5]; exact hB 45 (f.toInt.toNat)
        refine hk_ial (v := v5) rfl (hH.1 45 (0, 60) rfl) (by omega) (by omega) q_v5 ?_
        refine qm_Ru.go 1 (c' := (32, [.ref 42, .int n, .long v, .float 0, .int f], [.long ((1 : Int64) <<< (Int32.toInt64 v5 &&& 63)), .long v], h)) rfl ?_
        obtain ⟨v6, q_v6⟩ : ∃ v_, ((1 : Int64) <<< (Int32.toInt64 v5 &&& 63)) = v_ := ⟨_, rfl⟩
        rw [q_v6]
        refine qm_Ru.go 1 (c' := (33, [.ref 42, .int n, .long v, .float 0, .int f], [.long (v ||| v6)], h)) rfl ?_
        obtain ⟨v7, q_v7⟩ : ∃ v_, (v ||| v6) = v_ := ⟨_, rfl⟩
        rw [q_v7]
        refine qm_Ru.go 2 (c' := (37, [.ref 42, .int n, .long v7, .float 0, .int (f + 1)], [], h)) rfl ?_
        obtain ⟨v8, q_v8, e_v8⟩ := hk_add (x := f) (y := 1) (a := f.toInt) (b := 1) rfl rfl (by omega) (by omega)
        rw [q_v8]
        refine qm_Ru.go 1 (c' := (5, [.ref 42, .int n, .long v7, .float 0, .int v8], [], h)) rfl ?_
        have es : v8.toInt.toNat = f.toInt.toNat + 1 := by omega
        have ht := hv f.toInt.toNat (by omega) (by rw [q_v2]; omega)
        rw [q_v5] at ht
        exact ih _ (by omega) v7 v8 (by omega) (fun k => by rw [es, voC_s, q_v2, q_v5, ← q_v7, ← q_v6, bt_or ht]; exact ⟨fun w => by rcases w with w | w; exact Or.inl ((hi k).mp w); exact Or.inr ⟨by omega, by omega⟩, fun w => by rcases w with w | ⟨_, w⟩; exact Or.inl ((hi k).mpr w); exact Or.inr (by omega)⟩) rfl
theorem hs_void {L : Nat} {xs : Nat → Int32} {d : Nat} {Z : Option Value → qm_H → Prop} {h : qm_H} (hH : hk_H h) (hB : hk_B h.2.1) {n : Int32} (hn : (0 : Int) ≤ n.toInt ∧ n.toInt ≤ 60) (hv : ∀ j : Nat, j < n.toInt.toNat → (h.2.1 43 j).toInt = 4 → 0 ≤ (h.2.1 45 j).toInt ∧ (h.2.1 45 j).toInt < 60) (k : ∀ v : Int64, (∀ k : Nat, bt v k = true ↔ voC h.2.1 n.toInt.toNat k) → Z (some (.long v)) h) : qm_Ru (some (L, xs)) (d + 10) cd_83 (qm_ent 5 [.ref 42, .int n] h) Z := by
  have kz0 : (0 : Int32).toInt = 0 := rfl
  have kz1 : (1 : Int32).toInt = 1 := rfl
  have kz2 : (2 : Int32).toInt = 2 := rfl
  have kzm1 : (-1 : Int32).toInt = -1 := rfl
  have kzm2 : (-2 : Int32).toInt = -2 := rfl
  refine qm_Ru.go 4 (c' := (5, [.ref 42, .int n, .long (0 : Int64), .float 0, .int 0], [], h)) rfl ?_
  exact hl_void hH hB hn hv k _ 0 0 (by omega) (fun k => by rw [bt_zero]; exact ⟨fun w => absurd w (by decide), fun w => absurd w voC_0⟩) rfl
theorem hl_isf {L : Nat} {xs : Nat → Int32} {d : Nat} {Z : Option Value → qm_H → Prop} {h : qm_H} (hH : hk_H h) (hB : hk_B h.2.1) {x s n : Int32} (hx : (0 : Int) ≤ x.toInt ∧ x.toInt ≤ 59) (hn : (0 : Int) ≤ n.toInt ∧ n.toInt ≤ 60) (k1 : ((h.2.1 164 x.toInt.toNat).toInt = s.toInt ∧ ¬ voR h.2.1 n.toInt.toNat x.toInt.toNat) → Z (some (.int 1)) h) (k0 : ¬ ((h.2.1 164 x.toInt.toNat).toInt = s.toInt ∧ ¬ voR h.2.1 n.toInt.toNat x.toInt.toNat) → Z (some (.int 0)) h) (hs : (h.2.1 164 x.toInt.toNat).toInt = s.toInt) : ∀ (m : Nat) (y : Int32), (x.toInt < y.toInt ∧ y.toInt ≤ 60) → (∀ j : Nat, x.toInt.toNat < j → j < y.toInt.toNat → ¬ ((h.2.1 164 j).toInt = 4 ∧ (h.2.1 165 j).toInt = x.toInt)) → (60 - y.toInt).toNat = m → qm_Ru (some (L, xs)) (d + 10) cd_282 (17, [.ref 118, .int x, .int s, .int n, .int y], [], h) Z := by
  intro m
  induction m using Nat.strongRecOn with
  | ind m ih =>
    intro y hy hi hm
    have kz0 : (0 : Int32).toInt = 0 := rfl
    have kz1 : (1 : Int32).toInt = 1 := rfl
    have kz2 : (2 : Int32).toInt = 2 := rfl
    have kzm1 : (-1 : Int32).toInt = -1 := rfl
    have kzm2 : (-2 : Int32).toInt = -2 := rfl
    refine qm_Ru.go 2 (c' := (20, [.ref 118, .int x, .int s, .int n, .int y], [.int n, .int y], h)) rfl ?_
    refine hk_cge (ix := y.toInt) (iy := n.toInt) rfl rfl rfl (fun z1 => ?_) (fun z1 => ?_)
    · refine qm_Ru.go 1 (c' := (54, [.ref 118, .int x, .int s, .int n, .int y], [.int 1], h)) rfl ?_
      refine qm_Ru.rt (v := (some (.int 1))) (h' := h) rfl ?_
      exact k1 ⟨hs, fun ⟨j, a, b, c, e⟩ => hi j a (by omega) ⟨c, by omega⟩⟩
    · refine qm_Ru.go 1 (c' := (24, [.ref 118, .int x, .int s, .int n, .int y], [.ref 118], h)) rfl ?_
      refine hk_getr rfl (hH.1 118 (17, 105) rfl) rfl (hH.2 118 71 (some 164) rfl) ?_
      refine qm_Ru.go 1 (c' := (29, [.ref 118, .int x, .int s, .int n, .int y], [.int y, .ref 164], h)) rfl ?_
      obtain ⟨v2, q_v2⟩ : ∃ v_, h.2.1 164 (y.toInt.toNat) = v_ := ⟨_, rfl⟩
      have b_v2 : (0 : Int) ≤ v2.toInt ∧ v2.toInt ≤ 4 := by rw [← q_v2]; exact hB 164 (y.toInt.toNat)
      refine hk_ial (v := v2) rfl (hH.1 164 (0, 60) rfl) (by omega) (by omega) q_v2 ?_
      refine qm_Ru.go 1 (c' := (31, [.ref 118, .int x, .int s, .int n, .int y], [.int 4, .int v2], h)) rfl ?_
      refine hk_cne (ix := v2.toInt) (iy := 4) rfl rfl rfl (fun z3 => ?_) (fun z3 => ?_)
      · refine qm_Ru.go 1 (c' := (50, [.ref 118, .int x, .int s, .int n, .int (y + 1)], [], h)) rfl ?_
        obtain ⟨v4, q_v4, e_v4⟩ := hk_add (x := y) (y := 1) (a := y.toInt) (b := 1) rfl rfl (by omega) (by omega)
        rw [q_v4]
        refine qm_Ru.go 1 (c' := (17, [.ref 118, .int x, .int s, .int n, .int v4], [], h)) rfl ?_
        exact ih _ (by omega) v4 (by omega) (fun j a c w => by by_cases e : j = y.toInt.toNat; (subst e; have w1 := w.1; have w2 := w.2; rw [q_v2] at w1; omega); exact hi j a (by omega) w) rfl
      · refine qm_Ru.go 1 (c' := (35, [.ref 118, .int x, .int s, .int n, .int y], [.ref 118], h)) rfl ?_
        refine hk_getr rfl (hH.1 118 (17, 105) rfl) rfl (hH.2 118 72 (some 165) rfl) ?_
        refine qm_Ru.go 1 (c' := (40, [.ref 118, .int x, .int s, .int n, .int y], [.int y, .ref 165], h)) rfl ?_
        obtain ⟨v5, q_v5⟩ : ∃ v_, h.2.1 165 (y.toInt.toNat) = v_ := ⟨_, rfl⟩
        have b_v5 : (-99999 : Int) ≤ v5.toInt ∧ v5.toInt ≤ 99999 := by rw [← q_v5]; exact hB 165 (y.toInt.toNat)
        refine hk_ial (v := v5) rfl (hH.1 165 (0, 60) rfl) (by omega) (by omega) q_v5 ?_
        refine qm_Ru.go 1 (c' := (42, [.ref 118, .int x, .int s, .int n, .int y], [.int x, .int v5], h)) rfl ?_
        refine hk_cne (ix := v5.toInt) (iy := x.toInt) rfl rfl rfl (fun z6 => ?_) (fun z6 => ?_)
        · refine qm_Ru.go 1 (c' := (50, [.ref 118, .int x, .int s, .int n, .int (y + 1)], [], h)) rfl ?_
          obtain ⟨v7, q_v7, e_v7⟩ := hk_add (x := y) (y := 1) (a := y.toInt) (b := 1) rfl rfl (by omega) (by omega)
          rw [q_v7]
          refine qm_Ru.go 1 (c' := (17, [.ref 118, .int x, .int s, .int n, .int v7], [], h)) rfl ?_
          exact ih _ (by omega) v7 (by omega) (fun j a c w => by by_cases e : j = y.toInt.toNat; (subst e; have w1 := w.1; have w2 := w.2; rw [q_v2] at w1; rw [q_v5] at w2; omega); exact hi j a (by omega) w) rfl
        · refine qm_Ru.go 1 (c' := (46, [.ref 118, .int x, .int s, .int n, .int y], [.int 0], h)) rfl ?_
          refine qm_Ru.rt (v := (some (.int 0))) (h' := h) rfl ?_
          exact k0 (fun w => w.2 ⟨y.toInt.toNat, by omega, by omega, by rw [q_v2]; omega, by rw [q_v5]; omega⟩)
theorem hs_isf {L : Nat} {xs : Nat → Int32} {d : Nat} {Z : Option Value → qm_H → Prop} {h : qm_H} (hH : hk_H h) (hB : hk_B h.2.1) {x s n : Int32} (hx : (0 : Int) ≤ x.toInt ∧ x.toInt ≤ 59) (hn : (0 : Int) ≤ n.toInt ∧ n.toInt ≤ 60) (k1 : ((h.2.1 164 x.toInt.toNat).toInt = s.toInt ∧ ¬ voR h.2.1 n.toInt.toNat x.toInt.toNat) → Z (some (.int 1)) h) (k0 : ¬ ((h.2.1 164 x.toInt.toNat).toInt = s.toInt ∧ ¬ voR h.2.1 n.toInt.toNat x.toInt.toNat) → Z (some (.int 0)) h) : qm_Ru (some (L, xs)) (d + 10) cd_282 (qm_ent 5 [.ref 118, .int x, .int s, .int n] h) Z := by
  have kz0 : (0 : Int32).toInt = 0 := rfl
  have kz1 : (1 : Int32).toInt = 1 := rfl
  have kz2 : (2 : Int32).toInt = 2 := rfl
  have kzm1 : (-1 : Int32).toInt = -1 := rfl
  have kzm2 : (-2 : Int32).toInt = -2 := rfl
  refine qm_Ru.go 1 (c' := (1, [.ref 118, .int x, .int s, .int n, .float 0], [.ref 118], h)) rfl ?_
  refine hk_getr rfl (hH.1 118 (17, 105) rfl) rfl (hH.2 118 71 (some 164) rfl) ?_
  refine qm_Ru.go 1 (c' := (5, [.ref 118, .int x, .int s, .int n, .float 0], [.int x, .ref 164], h)) rfl ?_
  obtain ⟨v1, q_v1⟩ : ∃ v_, h.2.1 164 (x.toInt.toNat) = v_ := ⟨_, rfl⟩
  have b_v1 : (0 : Int) ≤ v1.toInt ∧ v1.toInt ≤ 4 := by rw [← q_v1]; exact hB 164 (x.toInt.toNat)
  refine hk_ial (v := v1) rfl (hH.1 164 (0, 60) rfl) (by omega) (by omega) q_v1 ?_
  refine qm_Ru.go 1 (c' := (7, [.ref 118, .int x, .int s, .int n, .float 0], [.int s, .int v1], h)) rfl ?_
  refine hk_ceq (ix := v1.toInt) (iy := s.toInt) rfl rfl rfl (fun z2 => ?_) (fun z2 => ?_)
  · refine qm_Ru.go 3 (c' := (15, [.ref 118, .int x, .int s, .int n, .float 0], [.int (x + 1)], h)) rfl ?_
    obtain ⟨v3, q_v3, e_v3⟩ := hk_add (x := x) (y := 1) (a := x.toInt) (b := 1) rfl rfl (by omega) (by omega)
    rw [q_v3]
    refine qm_Ru.go 1 (c' := (17, [.ref 118, .int x, .int s, .int n, .int v3], [], h)) rfl ?_
    exact hl_isf hH hB hx hn k1 k0 (by rw [q_v1]; omega) _ v3 (by omega) (fun j a c => by omega) rfl
  · refine qm_Ru.go 1 (c' := (11, [.ref 118, .int x, .int s, .int n, .float 0], [.int 0], h)) rfl ?_
    refine qm_Ru.rt (v := (some (.int 0))) (h' := h) rfl ?_
    exact k0 (fun w => by have w1 := w.1; rw [q_v1] at w1; omega)
theorem hl_stopc {L : Nat} {xs : Nat → Int32} {d : Nat} {Z : Option Value → qm_H → Prop} {h : qm_H} (hH : hk_H h) (hB : hk_B h.2.1) {b n : Int32} {v : Int64} (hn : (0 : Int) ≤ n.toInt ∧ n.toInt ≤ 60) (hv : ∀ k : Nat, bt v k = true ↔ voC h.2.1 n.toInt.toNat k) (k : ∀ o : Option Nat, lastS (cuC h.2.1 b n.toInt.toNat) n.toInt.toNat o → Z (some (.int (cuV (fun k => h.2.1 43 k) o))) h) : ∀ (m : Nat) (f : Int32) (l6 : Value), ((-1 : Int) ≤ f.toInt ∧ f.toInt < n.toInt) → (∀ j : Nat, f.toInt < (j : Int) → j < n.toInt.toNat → ¬ (cuC h.2.1 b n.toInt.toNat) j) → (f.toInt + 1).toNat = m → qm_Ru (some (L, xs)) (d + 20) cd_82 (11, [.ref 42, .int b, .int n, .long v, .float 0, .int f, l6], [], h) Z := by
  intro m
  induction m using Nat.strongRecOn with
  | ind m ih =>
    intro f l6 hf hno hm
    have kz0 : (0 : Int32).toInt = 0 := rfl
    have kz1 : (1 : Int32).toInt = 1 := rfl
    have kz2 : (2 : Int32).toInt = 2 := rfl
    have kzm1 : (-1 : Int32).toInt = -1 := rfl
    have kzm2 : (-2 : Int32).toInt = -2 := rfl
    refine qm_Ru.go 1 (c' := (13, [.ref 42, .int b, .int n, .long v, .float 0, .int f, l6], [.int f], h)) rfl ?_
    refine hk_zlt (ix := f.toInt) rfl rfl (fun z1 => ?_) (fun z1 => ?_)
    · refine qm_Ru.go 1 (c' := (96, [.ref 42, .int b, .int n, .long v, .float 0, .int f, l6], [.int 0], h)) rfl ?_
      refine qm_Ru.rt (v := (some (.int 0))) (h' := h) rfl ?_
      exact k none (fun j hj => hno j (by omega) hj)
    · refine qm_Ru.go 1 (c' := (17, [.ref 42, .int b, .int n, .long v, .float 0, .int f, l6], [.ref 42], h)) rfl ?_
      refine hk_getr rfl (hH.1 42 (7, 11) rfl) rfl (hH.2 42 1 (some 43) rfl) ?_
      refine qm_Ru.go 1 (c' := (22, [.ref 42, .int b, .int n, .long v, .float 0, .int f, l6], [.int f, .ref 43], h)) rfl ?_
      obtain ⟨v2, q_v2⟩ : ∃ v_, h.2.1 43 (f.toInt.toNat) = v_ := ⟨_, rfl⟩
      have b_v2 : (0 : Int) ≤ v2.toInt ∧ v2.toInt ≤ 4 := by rw [← q_v2]; exact hB 43 (f.toInt.toNat)
      refine hk_ial (v := v2) rfl (hH.1 43 (0, 60) rfl) (by omega) (by omega) q_v2 ?_
      refine qm_Ru.go 1 (c' := (24, [.ref 42, .int b, .int n, .long v, .float 0, .int f, l6], [.int 1, .int v2], h)) rfl ?_
      refine hk_ceq (ix := v2.toInt) (iy := 1) rfl rfl rfl (fun z3 => ?_) (fun z3 => ?_)
      · refine qm_Ru.go 6 (c' := (51, [.ref 42, .int b, .int n, .long v, .float 0, .int f, .int 1], [.ref 42], h)) rfl ?_
        refine hk_getr rfl (hH.1 42 (7, 11) rfl) rfl (hH.2 42 2 (some 44) rfl) ?_
        refine qm_Ru.go 1 (c' := (56, [.ref 42, .int b, .int n, .long v, .float 0, .int f, .int 1], [.int f, .ref 44], h)) rfl ?_
        obtain ⟨v4, q_v4⟩ : ∃ v_, h.2.1 44 (f.toInt.toNat) = v_ := ⟨_, rfl⟩
        have b_v4 : (-1 : Int) ≤ v4.toInt ∧ v4.toInt ≤ 29 := by rw [← q_v4]; exact hB 44 (f.toInt.toNat)
        refine hk_ial (v := v4) rfl (hH.1 44 (0, 60) rfl) (by omega) (by omega) q_v4 ?_
        refine qm_Ru.go 1 (c' := (58, [.ref 42, .int b, .int n, .long v, .float 0, .int f, .int 1], [.int b, .int v4], h)) rfl ?_
        refine hk_cne (ix := v4.toInt) (iy := b.toInt) rfl rfl rfl (fun z5 => ?_) (fun z5 => ?_)
        · refine qm_Ru.go 1 (c' := (92, [.ref 42, .int b, .int n, .long v, .float 0, .int (f + (-1)), .int 1], [], h)) rfl ?_
          obtain ⟨v6, q_v6, e_v6⟩ := hk_add (x := f) (y := (-1)) (a := f.toInt) (b := (-1)) rfl rfl (by omega) (by omega)
          rw [q_v6]
          refine qm_Ru.go 1 (c' := (11, [.ref 42, .int b, .int n, .long v, .float 0, .int v6, .int 1], [], h)) rfl ?_
          exact ih _ (by omega) v6 (.int 1) (by omega) (fun j a c => by by_cases e : j = f.toInt.toNat; (subst e; exact fun w => by have w1 := w.2.1; rw [q_v4] at w1; omega); exact hno j (by omega) c) rfl
        · refine qm_Ru.go 3 (c' := (65, [.ref 42, .int b, .int n, .long v, .float 0, .int f, .int 1], [.long (v >>> (Int32.toInt64 f &&& 63))], h)) rfl ?_
          obtain ⟨v7, q_v7⟩ : ∃ v_, (v >>> (Int32.toInt64 f &&& 63)) = v_ := ⟨_, rfl⟩
          rw [q_v7]
          refine qm_Ru.go 2 (c' := (67, [.ref 42, .int b, .int n, .long v, .float 0, .int f, .int 1], [.long (v7 &&& (1 : Int64))], h)) rfl ?_
          obtain ⟨v8, q_v8⟩ : ∃ v_, (v7 &&& (1 : Int64)) = v_ := ⟨_, rfl⟩
          rw [q_v8]
          refine qm_Ru.go 2 (c' := (69, [.ref 42, .int b, .int n, .long v, .float 0, .int f, .int 1], [.int (lg_cmp v8 (0 : Int64))], h)) rfl ?_
          obtain ⟨v9, q_v9⟩ : ∃ v_, (lg_cmp v8 (0 : Int64)) = v_ := ⟨_, rfl⟩
          rw [q_v9]
          refine hk_zne (ix := v9.toInt) rfl rfl (fun z10 => ?_) (fun z10 => ?_)
          · refine qm_Ru.go 1 (c' := (92, [.ref 42, .int b, .int n, .long v, .float 0, .int (f + (-1)), .int 1], [], h)) rfl ?_
            obtain ⟨v11, q_v11, e_v11⟩ := hk_add (x := f) (y := (-1)) (a := f.toInt) (b := (-1)) rfl rfl (by omega) (by omega)
            rw [q_v11]
            refine qm_Ru.go 1 (c' := (11, [.ref 42, .int b, .int n, .long v, .float 0, .int v11, .int 1], [], h)) rfl ?_
            exact ih _ (by omega) v11 (.int 1) (by omega) (fun j a c => by by_cases e : j = f.toInt.toNat; (subst e; exact fun w => w.2.2 ((hv _).mp (by cases hb : bt v f.toInt.toNat with | true => rfl | false => exfalso; have w2 := (bt_get (k := f) (by omega)).mpr hb; rw [q_v7, q_v8, q_v9] at w2; have w2 := congrArg Int32.toInt w2; omega))); exact hno j (by omega) c) rfl
          · refine qm_Ru.go 1 (c' := (73, [.ref 42, .int b, .int n, .long v, .float 0, .int f, .int 1], [.ref 42], h)) rfl ?_
            refine hk_getr rfl (hH.1 42 (7, 11) rfl) rfl (hH.2 42 1 (some 43) rfl) ?_
            refine qm_Ru.go 1 (c' := (78, [.ref 42, .int b, .int n, .long v, .float 0, .int f, .int 1], [.int f, .ref 43], h)) rfl ?_
            refine hk_ial (v := v2) rfl (hH.1 43 (0, 60) rfl) (by omega) (by omega) q_v2 ?_
            refine qm_Ru.go 1 (c' := (80, [.ref 42, .int b, .int n, .long v, .float 0, .int f, .int 1], [.int 1, .int v2], h)) rfl ?_
            refine hk_cne (ix := v2.toInt) (iy := 1) rfl rfl rfl (fun z12 => by exfalso; omega) (fun z12 => ?_)
            refine qm_Ru.go 2 (c' := (88, [.ref 42, .int b, .int n, .long v, .float 0, .int f, .int 1], [.int 1], h)) rfl ?_
            refine qm_Ru.rt (v := (some (.int 1))) (h' := h) rfl ?_
            have w := k (some f.toInt.toNat) ⟨by omega, ⟨by rw [q_v2]; omega, by rw [q_v4]; omega, (fun w => by have w := (hv _).mpr w; rw [(bt_get (k := f) (by omega)).mp (by rw [q_v7, q_v8, q_v9]; exact hk_eqi.mpr (show v9.toInt = 0 from by omega))] at w; cases w)⟩, fun j a c => hno j (by omega) c⟩
            rw [show cuV (fun k => h.2.1 43 k) (some f.toInt.toNat) = 1 from if_pos (by show (h.2.1 43 f.toInt.toNat).toInt = 1; rw [q_v2]; omega)] at w
            exact w
      · refine qm_Ru.go 1 (c' := (28, [.ref 42, .int b, .int n, .long v, .float 0, .int f, l6], [.ref 42], h)) rfl ?_
        refine hk_getr rfl (hH.1 42 (7, 11) rfl) rfl (hH.2 42 1 (some 43) rfl) ?_
        refine qm_Ru.go 1 (c' := (33, [.ref 42, .int b, .int n, .long v, .float 0, .int f, l6], [.int f, .ref 43], h)) rfl ?_
        refine hk_ial (v := v2) rfl (hH.1 43 (0, 60) rfl) (by omega) (by omega) q_v2 ?_
        refine qm_Ru.go 1 (c' := (35, [.ref 42, .int b, .int n, .long v, .float 0, .int f, l6], [.int 2, .int v2], h)) rfl ?_
        refine hk_cne (ix := v2.toInt) (iy := 2) rfl rfl rfl (fun z13 => ?_) (fun z13 => ?_)
        · refine qm_Ru.go 5 (c' := (92, [.ref 42, .int b, .int n, .long v, .float 0, .int (f + (-1)), .int 0], [], h)) rfl ?_
          obtain ⟨v14, q_v14, e_v14⟩ := hk_add (x := f) (y := (-1)) (a := f.toInt) (b := (-1)) rfl rfl (by omega) (by omega)
          rw [q_v14]
          refine qm_Ru.go 1 (c' := (11, [.ref 42, .int b, .int n, .long v, .float 0, .int v14, .int 0], [], h)) rfl ?_
          exact ih _ (by omega) v14 (.int 0) (by omega) (fun j a c => by by_cases e : j = f.toInt.toNat; (subst e; exact fun w => by have w1 := w.1; rw [q_v2] at w1; omega); exact hno j (by omega) c) rfl
        · refine qm_Ru.go 6 (c' := (51, [.ref 42, .int b, .int n, .long v, .float 0, .int f, .int 1], [.ref 42], h)) rfl ?_
          refine hk_getr rfl (hH.1 42 (7, 11) rfl) rfl (hH.2 42 2 (some 44) rfl) ?_
          refine qm_Ru.go 1 (c' := (56, [.ref 42, .int b, .int n, .long v, .float 0, .int f, .int 1], [.int f, .ref 44], h)) rfl ?_
          obtain ⟨v15, q_v15⟩ : ∃ v_, h.2.1 44 (f.toInt.toNat) = v_ := ⟨_, rfl⟩
          have b_v15 : (-1 : Int) ≤ v15.toInt ∧ v15.toInt ≤ 29 := by rw [← q_v15]; exact hB 44 (f.toInt.toNat)
          refine hk_ial (v := v15) rfl (hH.1 44 (0, 60) rfl) (by omega) (by omega) q_v15 ?_
          refine qm_Ru.go 1 (c' := (58, [.ref 42, .int b, .int n, .long v, .float 0, .int f, .int 1], [.int b, .int v15], h)) rfl ?_
          refine hk_cne (ix := v15.toInt) (iy := b.toInt) rfl rfl rfl (fun z16 => ?_) (fun z16 => ?_)
          · refine qm_Ru.go 1 (c' := (92, [.ref 42, .int b, .int n, .long v, .float 0, .int (f + (-1)), .int 1], [], h)) rfl ?_
            obtain ⟨v17, q_v17, e_v17⟩ := hk_add (x := f) (y := (-1)) (a := f.toInt) (b := (-1)) rfl rfl (by omega) (by omega)
            rw [q_v17]
            refine qm_Ru.go 1 (c' := (11, [.ref 42, .int b, .int n, .long v, .float 0, .int v17, .int 1], [], h)) rfl ?_
            exact ih _ (by omega) v17 (.int 1) (by omega) (fun j a c => by by_cases e : j = f.toInt.toNat; (subst e; exact fun w => by have w1 := w.2.1; rw [q_v15] at w1; omega); exact hno j (by omega) c) rfl
          · refine qm_Ru.go 3 (c' := (65, [.ref 42, .int b, .int n, .long v, .float 0, .int f, .int 1], [.long (v >>> (Int32.toInt64 f &&& 63))], h)) rfl ?_
            obtain ⟨v18, q_v18⟩ : ∃ v_, (v >>> (Int32.toInt64 f &&& 63)) = v_ := ⟨_, rfl⟩
            rw [q_v18]
            refine qm_Ru.go 2 (c' := (67, [.ref 42, .int b, .int n, .long v, .float 0, .int f, .int 1], [.long (v18 &&& (1 : Int64))], h)) rfl ?_
            obtain ⟨v19, q_v19⟩ : ∃ v_, (v18 &&& (1 : Int64)) = v_ := ⟨_, rfl⟩
            rw [q_v19]
            refine qm_Ru.go 2 (c' := (69, [.ref 42, .int b, .int n, .long v, .float 0, .int f, .int 1], [.int (lg_cmp v19 (0 : Int64))], h)) rfl ?_
            obtain ⟨v20, q_v20⟩ : ∃ v_, (lg_cmp v19 (0 : Int64)) = v_ := ⟨_, rfl⟩
            rw [q_v20]
            refine hk_zne (ix := v20.toInt) rfl rfl (fun z21 => ?_) (fun z21 => ?_)
            · refine qm_Ru.go 1 (c' := (92, [.ref 42, .int b, .int n, .long v, .float 0, .int (f + (-1)), .int 1], [], h)) rfl ?_
              obtain ⟨v22, q_v22, e_v22⟩ := hk_add (x := f) (y := (-1)) (a := f.toInt) (b := (-1)) rfl rfl (by omega) (by omega)
              rw [q_v22]
              refine qm_Ru.go 1 (c' := (11, [.ref 42, .int b, .int n, .long v, .float 0, .int v22, .int 1], [], h)) rfl ?_
              exact ih _ (by omega) v22 (.int 1) (by omega) (fun j a c => by by_cases e : j = f.toInt.toNat; (subst e; exact fun w => w.2.2 ((hv _).mp (by cases hb : bt v f.toInt.toNat with | true => rfl | false => exfalso; have w2 := (bt_get (k := f) (by omega)).mpr hb; rw [q_v18, q_v19, q_v20] at w2; have w2 := congrArg Int32.toInt w2; omega))); exact hno j (by omega) c) rfl
            · refine qm_Ru.go 1 (c' := (73, [.ref 42, .int b, .int n, .long v, .float 0, .int f, .int 1], [.ref 42], h)) rfl ?_
              refine hk_getr rfl (hH.1 42 (7, 11) rfl) rfl (hH.2 42 1 (some 43) rfl) ?_
              refine qm_Ru.go 1 (c' := (78, [.ref 42, .int b, .int n, .long v, .float 0, .int f, .int 1], [.int f, .ref 43], h)) rfl ?_
              refine hk_ial (v := v2) rfl (hH.1 43 (0, 60) rfl) (by omega) (by omega) q_v2 ?_
              refine qm_Ru.go 1 (c' := (80, [.ref 42, .int b, .int n, .long v, .float 0, .int f, .int 1], [.int 1, .int v2], h)) rfl ?_
              refine hk_cne (ix := v2.toInt) (iy := 1) rfl rfl rfl (fun z23 => ?_) (fun z23 => by exfalso; omega)
              refine qm_Ru.go 1 (c' := (88, [.ref 42, .int b, .int n, .long v, .float 0, .int f, .int 1], [.int 0], h)) rfl ?_
              refine qm_Ru.rt (v := (some (.int 0))) (h' := h) rfl ?_
              have w := k (some f.toInt.toNat) ⟨by omega, ⟨by rw [q_v2]; omega, by rw [q_v15]; omega, (fun w => by have w := (hv _).mpr w; rw [(bt_get (k := f) (by omega)).mp (by rw [q_v18, q_v19, q_v20]; exact hk_eqi.mpr (show v20.toInt = 0 from by omega))] at w; cases w)⟩, fun j a c => hno j (by omega) c⟩
              rw [show cuV (fun k => h.2.1 43 k) (some f.toInt.toNat) = 0 from if_neg (by show ¬ (h.2.1 43 f.toInt.toNat).toInt = 1; rw [q_v2]; omega)] at w
              exact w
theorem hs_stopc {L : Nat} {xs : Nat → Int32} {d : Nat} {Z : Option Value → qm_H → Prop} {h : qm_H} (hH : hk_H h) (hB : hk_B h.2.1) {b n : Int32} (hn : (0 : Int) ≤ n.toInt ∧ n.toInt ≤ 60) (hvb : ∀ j : Nat, j < n.toInt.toNat → (h.2.1 43 j).toInt = 4 → 0 ≤ (h.2.1 45 j).toInt ∧ (h.2.1 45 j).toInt < 60) (k : ∀ o : Option Nat, lastS (cuC h.2.1 b n.toInt.toNat) n.toInt.toNat o → Z (some (.int (cuV (fun k => h.2.1 43 k) o))) h) : qm_Ru (some (L, xs)) (d + 20) cd_82 (qm_ent 7 [.ref 42, .int b, .int n] h) Z := by
  have kz0 : (0 : Int32).toInt = 0 := rfl
  have kz1 : (1 : Int32).toInt = 1 := rfl
  have kz2 : (2 : Int32).toInt = 2 := rfl
  have kzm1 : (-1 : Int32).toInt = -1 := rfl
  have kzm2 : (-2 : Int32).toInt = -2 := rfl
  refine qm_Ru.go 2 (c' := (2, [.ref 42, .int b, .int n, .float 0, .float 0, .float 0, .float 0], [.int n, .ref 42], h)) rfl ?_
  refine hk_inv (o := 42) (r := []) (as := [.ref 42, .int n]) rfl rfl (hH.1 42 (7, 11) rfl) rfl rfl rfl rfl (hs_void (h := h) hH hB (n := n) (by omega) hvb (fun v1 hv => ?_))
  refine qm_Ru.go 4 (c' := (9, [.ref 42, .int b, .int n, .long v1, .float 0, .float 0, .float 0], [.int (n - 1)], h)) rfl ?_
  obtain ⟨v2, q_v2, e_v2⟩ := hk_sub (x := n) (y := 1) (a := n.toInt) (b := 1) rfl rfl (by omega) (by omega)
  rw [q_v2]
  refine qm_Ru.go 1 (c' := (11, [.ref 42, .int b, .int n, .long v1, .float 0, .int v2, .float 0], [], h)) rfl ?_
  exact hl_stopc hH hB hn hv k _ v2 _ (by omega) (fun j a c => by omega) rfl
theorem hl_stopr {L : Nat} {xs : Nat → Int32} {d : Nat} {Z : Option Value → qm_H → Prop} {h : qm_H} (hH : hk_H h) (hB : hk_B h.2.1) {b n : Int32} (hn : (0 : Int) ≤ n.toInt ∧ n.toInt ≤ 60) (k : ∀ o : Option Nat, lastS (cuR h.2.1 b n.toInt.toNat) n.toInt.toNat o → Z (some (.int (cuV (fun k => h.2.1 164 k) o))) h) : ∀ (m : Nat) (s x : Int32) (o : Option Nat), ((0 : Int) ≤ x.toInt ∧ x.toInt ≤ n.toInt) → lastS (cuR h.2.1 b n.toInt.toNat) x.toInt.toNat o → s = cuV (fun k => h.2.1 164 k) o → (n.toInt - x.toInt).toNat = m → qm_Ru (some (L, xs)) (d + 20) cd_281 (5, [.ref 118, .int b, .int n, .int s, .int x], [], h) Z := by
  intro m
  induction m using Nat.strongRecOn with
  | ind m ih =>
    intro s x o hx ho hs hm
    have hs01 : (0 : Int) ≤ s.toInt ∧ s.toInt ≤ 1 := by rw [hs]; exact cuV_b
    have kz0 : (0 : Int32).toInt = 0 := rfl
    have kz1 : (1 : Int32).toInt = 1 := rfl
    have kz2 : (2 : Int32).toInt = 2 := rfl
    have kzm1 : (-1 : Int32).toInt = -1 := rfl
    have kzm2 : (-2 : Int32).toInt = -2 := rfl
    refine qm_Ru.go 2 (c' := (8, [.ref 118, .int b, .int n, .int s, .int x], [.int n, .int x], h)) rfl ?_
    refine hk_cge (ix := x.toInt) (iy := n.toInt) rfl rfl rfl (fun z1 => ?_) (fun z1 => ?_)
    · refine qm_Ru.go 1 (c' := (58, [.ref 118, .int b, .int n, .int s, .int x], [.int s], h)) rfl ?_
      refine hk_rtb rfl (by omega) ?_
      rw [hs]
      exact k o ((show x.toInt.toNat = n.toInt.toNat from by omega) ▸ ho)
    · refine qm_Ru.go 1 (c' := (12, [.ref 118, .int b, .int n, .int s, .int x], [.ref 118], h)) rfl ?_
      refine hk_getr rfl (hH.1 118 (17, 105) rfl) rfl (hH.2 118 72 (some 165) rfl) ?_
      refine qm_Ru.go 1 (c' := (17, [.ref 118, .int b, .int n, .int s, .int x], [.int x, .ref 165], h)) rfl ?_
      obtain ⟨v2, q_v2⟩ : ∃ v_, h.2.1 165 (x.toInt.toNat) = v_ := ⟨_, rfl⟩
      have b_v2 : (-99999 : Int) ≤ v2.toInt ∧ v2.toInt ≤ 99999 := by rw [← q_v2]; exact hB 165 (x.toInt.toNat)
      refine hk_ial (v := v2) rfl (hH.1 165 (0, 60) rfl) (by omega) (by omega) q_v2 ?_
      refine qm_Ru.go 1 (c' := (19, [.ref 118, .int b, .int n, .int s, .int x], [.int b, .int v2], h)) rfl ?_
      refine hk_ceq (ix := v2.toInt) (iy := b.toInt) rfl rfl rfl (fun z3 => ?_) (fun z3 => ?_)
      · refine qm_Ru.go 4 (c' := (30, [.ref 118, .int b, .int n, .int s, .int x], [.int n, .int 1, .int x, .ref 118], h)) rfl ?_
        refine hk_inv (o := 118) (r := []) (as := [.ref 118, .int x, .int 1, .int n]) rfl rfl (hH.1 118 (17, 105) rfl) rfl rfl rfl rfl (hs_isf (h := h) hH hB (by omega) (by omega) (fun c4 => ?_) (fun c4 => ?_))
        · have dc4 := c4.1
          refine qm_Ru.go 7 (c' := (43, [.ref 118, .int b, .int n, .int 1, .int x], [.int n, .int 2, .int x, .ref 118], h)) rfl ?_
          refine hk_inv (o := 118) (r := []) (as := [.ref 118, .int x, .int 2, .int n]) rfl rfl (hH.1 118 (17, 105) rfl) rfl rfl rfl rfl (hs_isf (h := h) hH hB (by omega) (by omega) (fun c5 => ?_) (fun c5 => ?_))
          · have dc5 := c5.1
            refine qm_Ru.go 4 (c' := (54, [.ref 118, .int b, .int n, .int 0, .int (x + 1)], [], h)) rfl ?_
            obtain ⟨v6, q_v6, e_v6⟩ := hk_add (x := x) (y := 1) (a := x.toInt) (b := 1) rfl rfl (by omega) (by omega)
            rw [q_v6]
            refine qm_Ru.go 1 (c' := (5, [.ref 118, .int b, .int n, .int 0, .int v6], [], h)) rfl ?_
            exfalso
            omega
          · refine qm_Ru.go 2 (c' := (54, [.ref 118, .int b, .int n, .int 1, .int (x + 1)], [], h)) rfl ?_
            obtain ⟨v7, q_v7, e_v7⟩ := hk_add (x := x) (y := 1) (a := x.toInt) (b := 1) rfl rfl (by omega) (by omega)
            rw [q_v7]
            refine qm_Ru.go 1 (c' := (5, [.ref 118, .int b, .int n, .int 1, .int v7], [], h)) rfl ?_
            exact ih _ (by omega) 1 v7 (some x.toInt.toNat) (by omega) (by rw [show v7.toInt.toNat = x.toInt.toNat + 1 from by omega]; exact lastS_yes ⟨by rw [q_v2]; omega, by omega, c4.2⟩) (by show _ = cuV (fun k => h.2.1 164 k) (some x.toInt.toNat); exact (if_pos (by show (h.2.1 164 x.toInt.toNat).toInt = 1; omega)).symm) rfl
        · refine qm_Ru.go 5 (c' := (43, [.ref 118, .int b, .int n, .int s, .int x], [.int n, .int 2, .int x, .ref 118], h)) rfl ?_
          refine hk_inv (o := 118) (r := []) (as := [.ref 118, .int x, .int 2, .int n]) rfl rfl (hH.1 118 (17, 105) rfl) rfl rfl rfl rfl (hs_isf (h := h) hH hB (by omega) (by omega) (fun c8 => ?_) (fun c8 => ?_))
          · have dc8 := c8.1
            refine qm_Ru.go 4 (c' := (54, [.ref 118, .int b, .int n, .int 0, .int (x + 1)], [], h)) rfl ?_
            obtain ⟨v9, q_v9, e_v9⟩ := hk_add (x := x) (y := 1) (a := x.toInt) (b := 1) rfl rfl (by omega) (by omega)
            rw [q_v9]
            refine qm_Ru.go 1 (c' := (5, [.ref 118, .int b, .int n, .int 0, .int v9], [], h)) rfl ?_
            exact ih _ (by omega) 0 v9 (some x.toInt.toNat) (by omega) (by rw [show v9.toInt.toNat = x.toInt.toNat + 1 from by omega]; exact lastS_yes ⟨by rw [q_v2]; omega, by omega, c8.2⟩) (by show _ = cuV (fun k => h.2.1 164 k) (some x.toInt.toNat); exact (if_neg (by show ¬ (h.2.1 164 x.toInt.toNat).toInt = 1; omega)).symm) rfl
          · refine qm_Ru.go 2 (c' := (54, [.ref 118, .int b, .int n, .int s, .int (x + 1)], [], h)) rfl ?_
            obtain ⟨v10, q_v10, e_v10⟩ := hk_add (x := x) (y := 1) (a := x.toInt) (b := 1) rfl rfl (by omega) (by omega)
            rw [q_v10]
            refine qm_Ru.go 1 (c' := (5, [.ref 118, .int b, .int n, .int s, .int v10], [], h)) rfl ?_
            exact ih _ (by omega) s v10 o (by omega) (by rw [show v10.toInt.toNat = x.toInt.toNat + 1 from by omega]; exact lastS_no ho (fun w => by rcases w.2.1 with w3 | w3; exact c4 ⟨by omega, w.2.2⟩; exact c8 ⟨by omega, w.2.2⟩)) hs rfl
      · refine qm_Ru.go 2 (c' := (54, [.ref 118, .int b, .int n, .int s, .int (x + 1)], [], h)) rfl ?_
        obtain ⟨v11, q_v11, e_v11⟩ := hk_add (x := x) (y := 1) (a := x.toInt) (b := 1) rfl rfl (by omega) (by omega)
        rw [q_v11]
        refine qm_Ru.go 1 (c' := (5, [.ref 118, .int b, .int n, .int s, .int v11], [], h)) rfl ?_
        exact ih _ (by omega) s v11 o (by omega) (by rw [show v11.toInt.toNat = x.toInt.toNat + 1 from by omega]; exact lastS_no ho (fun w => by have w2 := w.1; rw [q_v2] at w2; omega)) hs rfl
theorem hs_stopr {L : Nat} {xs : Nat → Int32} {d : Nat} {Z : Option Value → qm_H → Prop} {h : qm_H} (hH : hk_H h) (hB : hk_B h.2.1) {b n : Int32} (hn : (0 : Int) ≤ n.toInt ∧ n.toInt ≤ 60) (k : ∀ o : Option Nat, lastS (cuR h.2.1 b n.toInt.toNat) n.toInt.toNat o → Z (some (.int (cuV (fun k => h.2.1 164 k) o))) h) : qm_Ru (some (L, xs)) (d + 20) cd_281 (qm_ent 5 [.ref 118, .int b, .int n] h) Z := by
  have kz0 : (0 : Int32).toInt = 0 := rfl
  have kz1 : (1 : Int32).toInt = 1 := rfl
  have kz2 : (2 : Int32).toInt = 2 := rfl
  have kzm1 : (-1 : Int32).toInt = -1 := rfl
  have kzm2 : (-2 : Int32).toInt = -2 := rfl
  refine qm_Ru.go 4 (c' := (5, [.ref 118, .int b, .int n, .int 0, .int 0], [], h)) rfl ?_
  exact hl_stopr hH hB hn k _ 0 0 none (by omega) lastS_0 rfl rfl
