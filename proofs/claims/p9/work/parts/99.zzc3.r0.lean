/-! texts and their tokens: pure. B: the bytes; n: how many -/
abbrev tB (x : Int32) : Prop := x.toInt = 32 ∨ x.toInt = 9 ∨ x.toInt = 10 ∨ x.toInt = 13
abbrev tL (x : Int32) : Prop := 97 ≤ x.toInt ∧ x.toInt ≤ 122
abbrev tD (x : Int32) : Prop := 48 ≤ x.toInt ∧ x.toInt ≤ 57
noncomputable def sk (B : Nat → Int32) (n : Nat) : Nat → Nat → Nat
  | 0, p => p
  | f + 1, p => if p < n ∧ tB (B p) then sk B n f (p + 1) else p
noncomputable def skp (B : Nat → Int32) (n p : Nat) : Nat := sk B n (n - p) p
theorem skp_y {B : Nat → Int32} {n p p2 : Nat} {b : Int32} (hp : p < n) (q : B p = b) (hb : tB b) (h2 : p2 = p + 1) : skp B n p = skp B n p2 := by
  subst h2
  unfold skp
  rw [show n - p = (n - (p + 1)) + 1 by omega]
  show (if p < n ∧ tB (B p) then sk B n (n - (p + 1)) (p + 1) else p) = _
  rw [if_pos ⟨hp, by rw [q]; exact hb⟩]
theorem skp_n {B : Nat → Int32} {n p : Nat} (h : ¬ (p < n ∧ tB (B p))) : skp B n p = p := by
  unfold skp
  cases n - p with
  | zero => rfl
  | succ f =>
    show (if p < n ∧ tB (B p) then sk B n f (p + 1) else p) = _
    rw [if_neg h]
theorem skp_b {B : Nat → Int32} {n p : Nat} {b : Int32} (q : B p = b) (hb : ¬ tB b) : skp B n p = p := skp_n (fun z => hb (by rw [← q]; exact z.2))
theorem skp_e {B : Nat → Int32} {n p : Nat} (h : n ≤ p) : skp B n p = p := skp_n (fun z => by omega)
theorem sk_le {B : Nat → Int32} {n : Nat} : ∀ f p, p ≤ sk B n f p ∧ (p ≤ n → sk B n f p ≤ n)
  | 0, p => ⟨Nat.le_refl _, fun h => h⟩
  | f + 1, p => by
    show p ≤ (if p < n ∧ tB (B p) then sk B n f (p + 1) else p) ∧ (p ≤ n → (if p < n ∧ tB (B p) then sk B n f (p + 1) else p) ≤ n)
    by_cases c : p < n ∧ tB (B p)
    · rw [if_pos c]
      have := sk_le (B := B) (n := n) f (p + 1)
      omega
    · rw [if_neg c]
      omega
theorem skp_le {B : Nat → Int32} {n p : Nat} (h : p ≤ n) : p ≤ skp B n p ∧ skp B n p ≤ n := ⟨(sk_le _ _).1, (sk_le _ _).2 h⟩
/-- a word from p on, c letters of it ahead, v the name so far: its end, the name -/
noncomputable def wl (B : Nat → Int32) (n : Nat) : Nat → Nat → Nat → Int64 → Nat × Int64
  | 0, p, _, v => (p, v)
  | f + 1, p, c, v => if p < n ∧ tL (B p) then wl B n f (p + 1) (c + 1) (if c < 8 then v * 27 + Int32.toInt64 (B p - 97 + 1) else v) else (p, v)
noncomputable def wlp (B : Nat → Int32) (n p c : Nat) (v : Int64) : Nat × Int64 := wl B n (n - p) p c v
theorem wlp_0 {B : Nat → Int32} {n p c : Nat} {v : Int64} (hp : p < n) (hb : tL (B p)) : wlp B n p c v = wlp B n (p + 1) (c + 1) (if c < 8 then v * 27 + Int32.toInt64 (B p - 97 + 1) else v) := by
  unfold wlp
  rw [show n - p = (n - (p + 1)) + 1 by omega]
  show (if p < n ∧ tL (B p) then wl B n (n - (p + 1)) (p + 1) (c + 1) (if c < 8 then v * 27 + Int32.toInt64 (B p - 97 + 1) else v) else (p, v)) = _
  rw [if_pos ⟨hp, hb⟩]
theorem wlp_y {B : Nat → Int32} {n p p2 c c2 : Nat} {v v2 : Int64} {b : Int32} (hp : p < n) (q : B p = b) (hb : tL b) (hc : c < 8) (hv : v * 27 + Int32.toInt64 (b - 97 + 1) = v2) (h2 : p2 = p + 1) (h3 : c2 = c + 1) : wlp B n p c v = wlp B n p2 c2 v2 := by
  subst q
  subst h2
  subst h3
  rw [wlp_0 hp hb, if_pos hc, hv]
theorem wlp_z {B : Nat → Int32} {n p p2 c c2 : Nat} {v : Int64} {b : Int32} (hp : p < n) (q : B p = b) (hb : tL b) (hc : ¬ c < 8) (h2 : p2 = p + 1) (h3 : c2 = c + 1) : wlp B n p c v = wlp B n p2 c2 v := by
  subst q
  subst h2
  subst h3
  rw [wlp_0 hp hb, if_neg hc]
theorem wlp_n {B : Nat → Int32} {n p c : Nat} {v : Int64} (h : ¬ (p < n ∧ tL (B p))) : wlp B n p c v = (p, v) := by
  unfold wlp
  cases n - p with
  | zero => rfl
  | succ f =>
    show (if p < n ∧ tL (B p) then wl B n f (p + 1) (c + 1) (if c < 8 then v * 27 + Int32.toInt64 (B p - 97 + 1) else v) else (p, v)) = _
    rw [if_neg h]
theorem wlp_b {B : Nat → Int32} {n p c : Nat} {v : Int64} {b : Int32} (q : B p = b) (hb : ¬ tL b) : wlp B n p c v = (p, v) := wlp_n (fun z => hb (by rw [← q]; exact z.2))
theorem wlp_e {B : Nat → Int32} {n p c : Nat} {v : Int64} (h : n ≤ p) : wlp B n p c v = (p, v) := wlp_n (fun z => by omega)
theorem wl_le {B : Nat → Int32} {n : Nat} : ∀ f p c v, p ≤ (wl B n f p c v).1 ∧ (p ≤ n → (wl B n f p c v).1 ≤ n)
  | 0, p, _, _ => ⟨Nat.le_refl _, fun h => h⟩
  | f + 1, p, c, v => by
    show p ≤ (if p < n ∧ tL (B p) then wl B n f (p + 1) (c + 1) (if c < 8 then v * 27 + Int32.toInt64 (B p - 97 + 1) else v) else (p, v)).1 ∧ (p ≤ n → (if p < n ∧ tL (B p) then wl B n f (p + 1) (c + 1) (if c < 8 then v * 27 + Int32.toInt64 (B p - 97 + 1) else v) else (p, v)).1 ≤ n)
    by_cases h : p < n ∧ tL (B p)
    · rw [if_pos h]
      have := wl_le (B := B) (n := n) f (p + 1) (c + 1) (if c < 8 then v * 27 + Int32.toInt64 (B p - 97 + 1) else v)
      omega
    · rw [if_neg h]
      exact ⟨Nat.le_refl _, fun h => h⟩
theorem wlp_le {B : Nat → Int32} {n p c : Nat} {v : Int64} (h : p ≤ n) : p ≤ (wlp B n p c v).1 ∧ (wlp B n p c v).1 ≤ n := ⟨(wl_le _ _ _ _).1, (wl_le _ _ _ _).2 h⟩
theorem wlp_lt {B : Nat → Int32} {n p c : Nat} {v : Int64} (h : p < n) (hb : tL (B p)) : p < (wlp B n p c v).1 := by
  rw [wlp_0 h hb]
  have := (wlp_le (B := B) (n := n) (p := p + 1) (c := c + 1) (v := if c < 8 then v * 27 + Int32.toInt64 (B p - 97 + 1) else v) (by omega)).1
  omega
/-- an int likewise -/
noncomputable def dl (B : Nat → Int32) (n : Nat) : Nat → Nat → Nat → Int32 → Nat × Int32
  | 0, p, _, v => (p, v)
  | f + 1, p, c, v => if p < n ∧ tD (B p) then dl B n f (p + 1) (c + 1) (if c < 4 then v * 10 + B p - 48 else v) else (p, v)
noncomputable def dlp (B : Nat → Int32) (n p c : Nat) (v : Int32) : Nat × Int32 := dl B n (n - p) p c v
theorem dlp_0 {B : Nat → Int32} {n p c : Nat} {v : Int32} (hp : p < n) (hb : tD (B p)) : dlp B n p c v = dlp B n (p + 1) (c + 1) (if c < 4 then v * 10 + B p - 48 else v) := by
  unfold dlp
  rw [show n - p = (n - (p + 1)) + 1 by omega]
  show (if p < n ∧ tD (B p) then dl B n (n - (p + 1)) (p + 1) (c + 1) (if c < 4 then v * 10 + B p - 48 else v) else (p, v)) = _
  rw [if_pos ⟨hp, hb⟩]
theorem dlp_y {B : Nat → Int32} {n p p2 c c2 : Nat} {v v2 b : Int32} (hp : p < n) (q : B p = b) (hb : tD b) (hc : c < 4) (hv : v * 10 + b - 48 = v2) (h2 : p2 = p + 1) (h3 : c2 = c + 1) : dlp B n p c v = dlp B n p2 c2 v2 := by
  subst q
  subst h2
  subst h3
  rw [dlp_0 hp hb, if_pos hc, hv]
theorem dlp_z {B : Nat → Int32} {n p p2 c c2 : Nat} {v b : Int32} (hp : p < n) (q : B p = b) (hb : tD b) (hc : ¬ c < 4) (h2 : p2 = p + 1) (h3 : c2 = c + 1) : dlp B n p c v = dlp B n p2 c2 v := by
  subst q
  subst h2
  subst h3
  rw [dlp_0 hp hb, if_neg hc]
theorem dlp_n {B : Nat → Int32} {n p c : Nat} {v : Int32} (h : ¬ (p < n ∧ tD (B p))) : dlp B n p c v = (p, v) := by
  unfold dlp
  cases n - p with
  | zero => rfl
  | succ f =>
    show (if p < n ∧ tD (B p) then dl B n f (p + 1) (c + 1) (if c < 4 then v * 10 + B p - 48 else v) else (p, v)) = _
    rw [if_neg h]
theorem dlp_b {B : Nat → Int32} {n p c : Nat} {v b : Int32} (q : B p = b) (hb : ¬ tD b) : dlp B n p c v = (p, v) := dlp_n (fun z => hb (by rw [← q]; exact z.2))
theorem dlp_e {B : Nat → Int32} {n p c : Nat} {v : Int32} (h : n ≤ p) : dlp B n p c v = (p, v) := dlp_n (fun z => by omega)
theorem dl_le {B : Nat → Int32} {n : Nat} : ∀ f p c v, p ≤ (dl B n f p c v).1 ∧ (p ≤ n → (dl B n f p c v).1 ≤ n)
  | 0, p, _, _ => ⟨Nat.le_refl _, fun h => h⟩
  | f + 1, p, c, v => by
    show p ≤ (if p < n ∧ tD (B p) then dl B n f (p + 1) (c + 1) (if c < 4 then v * 10 + B p - 48 else v) else (p, v)).1 ∧ (p ≤ n → (if p < n ∧ tD (B p) then dl B n f (p + 1) (c + 1) (if c < 4 then v * 10 + B p - 48 else v) else (p, v)).1 ≤ n)
    by_cases h : p < n ∧ tD (B p)
    · rw [if_pos h]
      have := dl_le (B := B) (n := n) f (p + 1) (c + 1) (if c < 4 then v * 10 + B p - 48 else v)
      omega
    · rw [if_neg h]
      exact ⟨Nat.le_refl _, fun h => h⟩
theorem dlp_le {B : Nat → Int32} {n p c : Nat} {v : Int32} (h : p ≤ n) : p ≤ (dlp B n p c v).1 ∧ (dlp B n p c v).1 ≤ n := ⟨(dl_le _ _ _ _).1, (dl_le _ _ _ _).2 h⟩
theorem dlp_lt {B : Nat → Int32} {n p c : Nat} {v : Int32} (h : p < n) (hb : tD (B p)) : p < (dlp B n p c v).1 := by
  rw [dlp_0 h hb]
  have := (dlp_le (B := B) (n := n) (p := p + 1) (c := c + 1) (v := if c < 4 then v * 10 + B p - 48 else v) (by omega)).1
  omega
/-- the words, by their numbers -/
noncomputable def kwL : List Int64 := [40789, 243290, 407038, 43393, 242939, 324250, 315918, 8740067, 249, 423, 1111, 10631, 385418, 332864552, 326369, 1510, 13550, 400374, 6382217992, 8357033, 6144171887, 8297984, 296755, 308795, 8371989]
noncomputable def kwf : List Int64 → Int → Int64 → Int
  | [], _, _ => 26
  | k :: r, i, x => if x = k then i else kwf r (i + 1) x
noncomputable def kw (x : Int64) : Int := kwf kwL 0 x
/-- signs: kind, length; w: an = stands behind it -/
noncomputable def sgK (x : Int) (w : Bool) : Int := if x = 59 then 27 else if x = 43 then 28 else if x = 45 then 29 else if x = 42 then 30 else if x = 40 then 35 else if x = 41 then 36 else if x = 61 then (if w = true then 31 else 38) else if x = 33 then (if w = true then 32 else 38) else if x = 60 then (if w = true then 34 else 33) else 38
noncomputable def sgN (x : Int) (w : Bool) : Nat := if w = true ∧ (x = 61 ∨ x = 33 ∨ x = 60) then 2 else 1
noncomputable def sgW (B : Nat → Int32) (n q : Nat) : Bool := decide (q + 1 < n) && decide ((B (q + 1)).toInt = 61)
/-- the token that starts at q: kind, where the next one may start, the int, the name -/
noncomputable def tR (B : Nat → Int32) (n q : Nat) : Int × Nat × Int32 × Int64 :=
  if n ≤ q then (37, q, 0, 0)
  else if tL (B q) then (if 8 < (wlp B n q 0 0).1 - q then 38 else kw (wlp B n q 0 0).2, (wlp B n q 0 0).1, 0, (wlp B n q 0 0).2)
  else if tD (B q) then (if 4 < (dlp B n q 0 0).1 - q then 38 else 25, (dlp B n q 0 0).1, (dlp B n q 0 0).2, 0)
  else (sgK (B q).toInt (sgW B n q), q + sgN (B q).toInt (sgW B n q), 0, 0)
theorem tR_end {B : Nat → Int32} {n q : Nat} (h : n ≤ q) : tR B n q = (37, q, 0, 0) := if_pos h
theorem tR_word {B : Nat → Int32} {n q e : Nat} {b : Int32} {v : Int64} (h : q < n) (hq : B q = b) (hb : tL b) (hw : wlp B n q 0 0 = (e, v)) : tR B n q = (if 8 < e - q then 38 else kw v, e, 0, v) := by
  unfold tR
  rw [if_neg (by omega), if_pos (by rw [hq]; exact hb), hw]
theorem tR_int {B : Nat → Int32} {n q e : Nat} {b v : Int32} (h : q < n) (hq : B q = b) (hb : tD b) (hw : dlp B n q 0 0 = (e, v)) : tR B n q = (if 4 < e - q then 38 else 25, e, v, 0) := by
  unfold tR
  rw [if_neg (by omega), if_neg (by rw [hq]; omega), if_pos (by rw [hq]; exact hb), hw]
theorem tR_w {B : Nat → Int32} {n q : Nat} {b : Int32} (h : q < n) (hq : B q = b) (hb : tL b) : tR B n q = (if 8 < (wlp B n q 0 0).1 - q then 38 else kw (wlp B n q 0 0).2, (wlp B n q 0 0).1, 0, (wlp B n q 0 0).2) := tR_word (e := (wlp B n q 0 0).1) (v := (wlp B n q 0 0).2) h hq hb rfl
theorem tR_i {B : Nat → Int32} {n q : Nat} {b : Int32} (h : q < n) (hq : B q = b) (hb : tD b) : tR B n q = (if 4 < (dlp B n q 0 0).1 - q then 38 else 25, (dlp B n q 0 0).1, (dlp B n q 0 0).2, 0) := tR_int (e := (dlp B n q 0 0).1) (v := (dlp B n q 0 0).2) h hq hb rfl
theorem tR_sign {B : Nat → Int32} {n q : Nat} {b : Int32} (h : q < n) (hq : B q = b) (h1 : ¬ tL b) (h2 : ¬ tD b) : tR B n q = (sgK b.toInt (sgW B n q), q + sgN b.toInt (sgW B n q), 0, 0) := by
  unfold tR
  rw [if_neg (by omega), if_neg (by rw [hq]; exact h1), if_neg (by rw [hq]; exact h2), hq]
theorem sgW_y {B : Nat → Int32} {n q q2 : Nat} {b : Int32} (h : q + 1 < n) (e : q2 = q + 1) (hq : B q2 = b) (hb : b.toInt = 61) : sgW B n q = true := by
  subst e
  unfold sgW
  rw [decide_eq_true h, hq, decide_eq_true hb]
  rfl
theorem sgW_n {B : Nat → Int32} {n q : Nat} (h : n ≤ q + 1) : sgW B n q = false := by
  unfold sgW
  rw [decide_eq_false (by omega)]
  rfl
theorem sgW_b {B : Nat → Int32} {n q q2 : Nat} {b : Int32} (e : q2 = q + 1) (hq : B q2 = b) (hb : ¬ b.toInt = 61) : sgW B n q = false := by
  subst e
  unfold sgW
  rw [hq, decide_eq_false hb, Bool.and_false]
/-- where the i-th token may start; where it starts; its kind, int, name -/
noncomputable def tP (B : Nat → Int32) (n : Nat) : Nat → Nat
  | 0 => 0
  | i + 1 => (tR B n (skp B n (tP B n i))).2.1
noncomputable def tS (B : Nat → Int32) (n i : Nat) : Nat := skp B n (tP B n i)
noncomputable def tK (B : Nat → Int32) (n i : Nat) : Int := (tR B n (tS B n i)).1
noncomputable def tV (B : Nat → Int32) (n i : Nat) : Int := (tR B n (tS B n i)).2.2.1.toInt
noncomputable def tM (B : Nat → Int32) (n i : Nat) : Int64 := (tR B n (tS B n i)).2.2.2
theorem tR_nx {B : Nat → Int32} {n q : Nat} (h : q ≤ n) : q ≤ (tR B n q).2.1 ∧ (tR B n q).2.1 ≤ n ∧ (q < n → q < (tR B n q).2.1) := by
  by_cases c : n ≤ q
  · rw [tR_end c]
    exact ⟨Nat.le_refl _, h, fun z => by omega⟩
  · have hq : q < n := by omega
    by_cases c1 : tL (B q)
    · rw [tR_w hq rfl c1]
      have := wlp_le (B := B) (c := 0) (v := 0) h
      have := wlp_lt (B := B) (c := 0) (v := 0) hq c1
      exact ⟨by dsimp only; omega, by dsimp only; omega, fun _ => by dsimp only; omega⟩
    · by_cases c2 : tD (B q)
      · rw [tR_i hq rfl c2]
        have := dlp_le (B := B) (c := 0) (v := 0) h
        have := dlp_lt (B := B) (c := 0) (v := 0) hq c2
        exact ⟨by dsimp only; omega, by dsimp only; omega, fun _ => by dsimp only; omega⟩
      · rw [tR_sign hq rfl c1 c2]
        dsimp only
        unfold sgN
        by_cases c3 : sgW B n q = true ∧ ((B q).toInt = 61 ∨ (B q).toInt = 33 ∨ (B q).toInt = 60)
        · rw [if_pos c3]
          have hw := c3.1
          unfold sgW at hw
          rw [Bool.and_eq_true, decide_eq_true_eq] at hw
          omega
        · rw [if_neg c3]
          omega
theorem tP_le {B : Nat → Int32} {n : Nat} : ∀ i, tP B n i ≤ n
  | 0 => Nat.zero_le _
  | i + 1 => (tR_nx (skp_le (tP_le i)).2).2.1
theorem tS_le {B : Nat → Int32} {n i : Nat} : tS B n i ≤ n := (skp_le (tP_le i)).2
/-- ahead of the end the tokens' places grow -/
theorem tS_lt {B : Nat → Int32} {n i : Nat} (h : tK B n i ≠ 37) : tS B n i < tS B n (i + 1) := by
  have h1 : tS B n i < n := by
    rcases Nat.lt_or_ge (tS B n i) n with c | c
    · exact c
    · exact absurd (show tK B n i = 37 by unfold tK; rw [tR_end c]) h
  have h2 := (tR_nx (B := B) (Nat.le_of_lt h1)).2.2 h1
  have h3 : tP B n (i + 1) ≤ tS B n (i + 1) := (skp_le (tP_le (i + 1))).1
  have h4 : tP B n (i + 1) = (tR B n (tS B n i)).2.1 := rfl
  omega
theorem kwf_b : ∀ (l : List Int64) (i : Int) (x : Int64), 0 ≤ i → i + (l.length : Int) ≤ 25 → 0 ≤ kwf l i x ∧ kwf l i x ≤ 26 ∧ kwf l i x ≠ 25
  | [], i, x, _, _ => by unfold kwf; omega
  | k :: r, i, x, h0, h1 => by
    rw [List.length_cons] at h1
    unfold kwf
    by_cases c : x = k
    · rw [if_pos c]
      omega
    · rw [if_neg c]
      exact kwf_b r (i + 1) x (by omega) (by omega)
theorem kw_b (x : Int64) : 0 ≤ kw x ∧ kw x ≤ 26 ∧ kw x ≠ 25 := kwf_b kwL 0 x (by decide) (by decide)
/-- an int of four digits -/
theorem dl_b {B : Nat → Int32} {n : Nat} : ∀ f p c v, (c ≤ 4 → 0 ≤ v.toInt ∧ v.toInt < 10 ^ c) → (4 < c → 0 ≤ v.toInt ∧ v.toInt < 10000) → 0 ≤ (dl B n f p c v).2.toInt ∧ (dl B n f p c v).2.toInt < 10000
  | 0, p, c, v, h1, h2 => by
    show 0 ≤ v.toInt ∧ v.toInt < 10000
    rcases Nat.lt_or_ge 4 c with k | k
    · exact h2 k
    · have h1 := h1 k
      rcases (show c = 0 ∨ c = 1 ∨ c = 2 ∨ c = 3 ∨ c = 4 by omega) with e | e | e | e | e <;> subst e <;> simp at h1 <;> omega
  | f + 1, p, c, v, h1, h2 => by
    show 0 ≤ (if p < n ∧ tD (B p) then dl B n f (p + 1) (c + 1) (if c < 4 then v * 10 + B p - 48 else v) else (p, v)).2.toInt ∧ (if p < n ∧ tD (B p) then dl B n f (p + 1) (c + 1) (if c < 4 then v * 10 + B p - 48 else v) else (p, v)).2.toInt < 10000
    by_cases h : p < n ∧ tD (B p)
    · rw [if_pos h]
      have hd := h.2
      refine dl_b f (p + 1) (c + 1) _ (fun k => ?_) (fun k => ?_)
      · rw [if_pos (by omega)]
        have h1 := h1 (by omega)
        have e : (v * 10 + B p - 48).toInt = v.toInt * 10 + (B p).toInt - 48 := by
          rcases (show c = 0 ∨ c = 1 ∨ c = 2 ∨ c = 3 by omega) with e | e | e | e <;> subst e <;> simp at h1 <;>
          · rw [Int32.toInt_sub, Int32.toInt_add, Int32.toInt_mul, show (10 : Int32).toInt = 10 from rfl, show (48 : Int32).toInt = 48 from rfl, hk_bm (z := v.toInt * 10) (by omega) (by omega), hk_bm (z := v.toInt * 10 + (B p).toInt) (by omega) (by omega), hk_bm (by omega) (by omega)]
        rw [e]
        rcases (show c = 0 ∨ c = 1 ∨ c = 2 ∨ c = 3 by omega) with e | e | e | e <;> subst e <;> simp at h1 ⊢ <;> omega
      · by_cases k4 : c < 4
        · omega
        · rw [if_neg k4]
          rcases Nat.lt_or_ge 4 c with k5 | k5
          · exact h2 k5
          · have e : c = 4 := by omega
            subst e
            have h1 := h1 (Nat.le_refl _)
            simp at h1
            omega
    · rw [if_neg h]
      show 0 ≤ v.toInt ∧ v.toInt < 10000
      rcases Nat.lt_or_ge 4 c with k | k
      · exact h2 k
      · have h1 := h1 k
        rcases (show c = 0 ∨ c = 1 ∨ c = 2 ∨ c = 3 ∨ c = 4 by omega) with e | e | e | e | e <;> subst e <;> simp at h1 <;> omega
theorem tV_b {B : Nat → Int32} {n i : Nat} : 0 ≤ tV B n i ∧ tV B n i < 10000 := by
  unfold tV
  have e0 : (0 : Int32).toInt = 0 := rfl
  by_cases c : n ≤ tS B n i
  · rw [tR_end c]
    dsimp only
    omega
  · have hq : tS B n i < n := by omega
    by_cases c1 : tL (B (tS B n i))
    · rw [tR_w hq rfl c1]
      dsimp only
      omega
    · by_cases c2 : tD (B (tS B n i))
      · rw [tR_i hq rfl c2]
        exact dl_b _ _ 0 0 (fun _ => by decide) (fun k => by omega)
      · rw [tR_sign hq rfl c1 c2]
        dsimp only
        omega
theorem sgK_r (x : Int) (w : Bool) : 27 ≤ sgK x w ∧ sgK x w ≤ 38 := by
  unfold sgK
  repeat' split
  all_goals omega
theorem tK_b {B : Nat → Int32} {n i : Nat} : 0 ≤ tK B n i ∧ tK B n i ≤ 38 := by
  unfold tK
  by_cases c : n ≤ tS B n i
  · rw [tR_end c]
    dsimp only
    omega
  · have hq : tS B n i < n := by omega
    by_cases c1 : tL (B (tS B n i))
    · rw [tR_w hq rfl c1]
      dsimp only
      have := kw_b (wlp B n (tS B n i) 0 0).2
      split <;> omega
    · by_cases c2 : tD (B (tS B n i))
      · rw [tR_i hq rfl c2]
        dsimp only
        split <;> omega
      · rw [tR_sign hq rfl c1 c2]
        dsimp only
        have := sgK_r (B (tS B n i)).toInt (sgW B n (tS B n i))
        omega
