/-! side goals, each with the facts that it needs -/
theorem rTk_b {B : Nat → Int32} {n m : Nat} {k : Int32} (h : rTk B n m k) : 0 ≤ k.toInt ∧ k.toInt ≤ 44 := by
  obtain ⟨h1, h2⟩ := h
  rw [h2]
  have key : ∀ d : Nat, d < 39 → 0 ≤ rkd (d : Int) ∧ rkd (d : Int) ≤ 44 := by decide +kernel
  have := key (tK B n m).toNat (by omega)
  rw [show (((tK B n m).toNat : Nat) : Int) = tK B n m by omega] at this
  exact this
theorem al_lt {v k s c : Int} (e : v = k - s) (z : v < c) : k < c + s := by omega
theorem al_ge {v k s c : Int} (e : v = k - s) (z : c ≤ v) : c + s ≤ k := by omega
theorem al_gt {v k s c : Int} (e : v = k - s) (z : c < v) : c + s < k := by omega
theorem al_le {v k s c : Int} (e : v = k - s) (z : v ≤ c) : k ≤ c + s := by omega
theorem q_le {t : Int32} (h0 : 0 ≤ t.toInt) (h : t.toInt.toNat ≤ 400) : 0 ≤ t.toInt ∧ t.toInt ≤ 400 := ⟨h0, by omega⟩
theorem q_t0 {t t2 : Int32} (e : t2.toInt = t.toInt + 1) (h0 : 0 ≤ t.toInt) : 0 ≤ t2.toInt := by omega
theorem q_m {t t2 : Int32} (h0 : 0 ≤ t.toInt) (e : t2.toInt = t.toInt + 1) : t2.toInt.toNat = t.toInt.toNat + 1 := by omega
theorem q_m4 {t : Int32} (h0 : 0 ≤ t.toInt) (x4 : t.toInt ≠ 400) : t.toInt.toNat ≠ 400 := by omega
theorem q_m5 {t : Int32} (x4 : t.toInt = 400) : t.toInt.toNat = 400 := by omega
theorem q_hop1 {v op : Int32} {dp : Int} (e : v.toInt = op.toInt + 1) (h : op.toInt = dp) : v.toInt = dp + 1 := by omega
theorem q_hop2 {v op : Int32} {dp : Int} (e : v.toInt = op.toInt - 1) (h : op.toInt = dp) : v.toInt = dp - 1 := by omega
theorem q_z {op : Int32} {dp : Int} (h : op.toInt = dp) (z : op.toInt ≤ 0) (g : 0 ≤ dp) : op.toInt = (0 : Int32).toInt ∧ dp = 0 := by
  have e : (0 : Int32).toInt = 0 := rfl
  omega
theorem q_pos {op : Int32} {dp : Int} (h : op.toInt = dp) (z : 0 < op.toInt) : 0 < dp := by omega
theorem q_d6 {op : Int32} {dp : Int} (h : op.toInt = dp) (z : op.toInt = 6) : dp = 6 := by omega
theorem q_d6n {op : Int32} {dp : Int} (h : op.toInt = dp) (z : op.toInt ≠ 6) : dp ≠ 6 := by omega
theorem q_nf {k dp pr pl : Int} (h : k ≠ 35 ∧ k ≠ 6 ∧ k ≠ 7) : ¬ frm k dp pr pl := by
  unfold frm
  omega
theorem q_67 {k td pr pl : Int} (h : k = td) (h2 : (td = 6 ∧ pr ≠ 8) ∨ (td = 7 ∧ pl ≠ 8)) : k = 6 ∨ k = 7 := by omega
theorem q_67n {k td pr pl : Int} (h : k = td) (h2 : (td = 6 ∧ pr ≠ 8) ∨ (td = 7 ∧ pl ≠ 8)) : k ≠ 37 := by omega
theorem q_nf67 {k td dp pr pl : Int} (h : k = td) (h2 : (td = 6 ∧ pr ≠ 8) ∨ (td = 7 ∧ pl ≠ 8)) : ¬ frm k dp pr pl := by
  unfold frm
  omega
theorem q_8 {v : Int32} {p c : Int} (h : v.toInt = p) (z : v.toInt = c) : p = c := h.symm.trans z
theorem q_8n {v : Int32} {p c : Int} (h : v.toInt = p) (z : v.toInt ≠ c) : p ≠ c := fun e => z (h.trans e)
section FQ
variable {B : Nat → Int32} {n : Nat} {aw td dp rt nm lf lp b li tr be lt pr pl : Int} {T : Nat → Int64} {t t2 : Int32}
theorem q_c (hF : fS B n t.toInt.toNat = some (aw, td, dp, rt, nm, lf, lp, b, li, tr, be, lt, pr, pl, T)) {a0 d2 r2 : Int} (ha : 7 ≤ aw) (h37 : tK B n t.toInt.toNat ≠ 37) (h27 : tK B n t.toInt.toNat ≠ 27) (e0 : fo aw (tK B n t.toInt.toNat) dp rt = a0) (h0 : a0 ≠ -1) (ht0 : 0 ≤ t.toInt) (x4 : t.toInt ≠ 400) (hr : ¬ frm (tK B n t.toInt.toNat) dp pr pl) (e2 : f2 aw dp (tK B n t.toInt.toNat) = d2) (e3 : f3 aw rt (tK B n t.toInt.toNat) = r2) (e : t2.toInt = t.toInt + 1) : fS B n t2.toInt.toNat = some (a0, td, d2, r2, nm, lf, lp, b, li, tr, be, lt, pr, pl, T) := fS_c hF ha h37 h27 e0 h0 (q_m4 ht0 x4) hr e2 e3 (q_m ht0 e)
theorem q_open (hF : fS B n t.toInt.toNat = some (aw, td, dp, rt, nm, lf, lp, b, li, tr, be, lt, pr, pl, T)) (haw : aw = 7 ∨ aw = 8) (hk : tK B n t.toInt.toNat = 35) (hd : dp ≠ 6) (ht0 : 0 ≤ t.toInt) (x4 : t.toInt ≠ 400) (e : t2.toInt = t.toInt + 1) : fS B n t2.toInt.toNat = some (8, td, dp + 1, rt, nm, lf, lp, b, li, tr, be, lt, pr, pl, T) := q_c hF (by omega) (by omega) (by omega) (fo_7c ⟨haw, hk⟩) (by decide) ht0 x4 (by unfold frm; omega) (by unfold f2; rw [if_pos ⟨haw, hk⟩]) (by unfold f3; rw [if_neg (by omega), if_neg (by omega), if_neg (by omega)]) e
theorem q_unit (hF : fS B n t.toInt.toNat = some (aw, td, dp, rt, nm, lf, lp, b, li, tr, be, lt, pr, pl, T)) (haw : aw = 7 ∨ aw = 8) (hk : tK B n t.toInt.toNat = 25 ∨ (12 ≤ tK B n t.toInt.toNat ∧ tK B n t.toInt.toNat ≤ 24)) (ht0 : 0 ≤ t.toInt) (x4 : t.toInt ≠ 400) (e : t2.toInt = t.toInt + 1) : fS B n t2.toInt.toNat = some (9, td, dp, rt, nm, lf, lp, b, li, tr, be, lt, pr, pl, T) := q_c hF (by omega) (by omega) (by omega) (fo_7b ⟨haw, hk⟩) (by decide) ht0 x4 (by unfold frm; omega) (by unfold f2; rw [if_neg (by omega), if_neg (by omega)]) (by unfold f3; rw [if_neg (by omega), if_neg (by omega), if_neg (by omega)]) e
theorem q_close (hF : fS B n t.toInt.toNat = some (aw, td, dp, rt, nm, lf, lp, b, li, tr, be, lt, pr, pl, T)) (haw : aw = 9) (hk : tK B n t.toInt.toNat = 36) (hd : 0 < dp) (ht0 : 0 ≤ t.toInt) (x4 : t.toInt ≠ 400) (e : t2.toInt = t.toInt + 1) : fS B n t2.toInt.toNat = some (9, td, dp - 1, rt, nm, lf, lp, b, li, tr, be, lt, pr, pl, T) := q_c hF (by omega) (by omega) (by omega) (fo_9b ⟨haw, hd, hk⟩) (by decide) ht0 x4 (by unfold frm; omega) (by unfold f2; rw [if_neg (by omega), if_pos ⟨haw, hk⟩]) (by unfold f3; rw [if_neg (by omega), if_neg (by omega), if_neg (by omega)]) e
theorem q_sign (hF : fS B n t.toInt.toNat = some (aw, td, dp, rt, nm, lf, lp, b, li, tr, be, lt, pr, pl, T)) (haw : aw = 9) (hk : 28 ≤ tK B n t.toInt.toNat ∧ tK B n t.toInt.toNat ≤ 30) (ht0 : 0 ≤ t.toInt) (x4 : t.toInt ≠ 400) (e : t2.toInt = t.toInt + 1) : fS B n t2.toInt.toNat = some (8, td, dp, rt, nm, lf, lp, b, li, tr, be, lt, pr, pl, T) := q_c hF (by omega) (by omega) (by omega) (fo_9a ⟨haw, hk⟩) (by decide) ht0 x4 (by unfold frm; omega) (by unfold f2; rw [if_neg (by omega), if_neg (by omega)]) (by unfold f3; rw [if_neg (by omega), if_neg (by omega), if_neg (by omega)]) e
theorem q_not (hF : fS B n t.toInt.toNat = some (aw, td, dp, rt, nm, lf, lp, b, li, tr, be, lt, pr, pl, T)) (haw : aw = 7) (hk : tK B n t.toInt.toNat = 11) (ht0 : 0 ≤ t.toInt) (x4 : t.toInt ≠ 400) (e : t2.toInt = t.toInt + 1) : fS B n t2.toInt.toNat = some (7, td, dp, rt, nm, lf, lp, b, li, tr, be, lt, pr, pl, T) := q_c hF (by omega) (by omega) (by omega) (fo_7a ⟨haw, hk⟩) (by decide) ht0 x4 (by unfold frm; omega) (by unfold f2; rw [if_neg (by omega), if_neg (by omega)]) (by unfold f3; rw [if_neg (by omega), if_neg (by omega), if_neg (by omega)]) e
theorem q_cmp (hF : fS B n t.toInt.toNat = some (aw, td, dp, rt, nm, lf, lp, b, li, tr, be, lt, pr, pl, T)) (haw : aw = 9) (hd : dp = 0) (hrt : rt = 0) (hk : 31 ≤ tK B n t.toInt.toNat ∧ tK B n t.toInt.toNat ≤ 34) (ht0 : 0 ≤ t.toInt) (x4 : t.toInt ≠ 400) (e : t2.toInt = t.toInt + 1) : fS B n t2.toInt.toNat = some (8, td, dp, 1, nm, lf, lp, b, li, tr, be, lt, pr, pl, T) := q_c hF (by omega) (by omega) (by omega) (fo_9c ⟨haw, by omega, hrt, hk⟩) (by decide) ht0 x4 (by unfold frm; omega) (by unfold f2; rw [if_neg (by omega), if_neg (by omega)]) (by unfold f3; rw [if_neg (by omega), if_pos (by omega)]) e
theorem r_unit (hF : fS B n t.toInt.toNat = some (aw, td, dp, rt, nm, lf, lp, b, li, tr, be, lt, pr, pl, T)) (haw : aw = 7 ∨ aw = 8) (h11 : aw = 7 → tK B n t.toInt.toNat ≠ 11) (hk : tK B n t.toInt.toNat ≠ 25 ∧ (tK B n t.toInt.toNat < 12 ∨ 24 < tK B n t.toInt.toNat) ∧ tK B n t.toInt.toNat ≠ 35) {f fp : Int32} (hf : f.toInt = 1) (hp : fp.toInt = tS B n t.toInt.toNat) : rfin B n f fp := fE_x hF ⟨fun _ => by omega, fun _ => fo_7n ⟨by omega, hk⟩⟩ hf hp
theorem r_close (hF : fS B n t.toInt.toNat = some (aw, td, dp, rt, nm, lf, lp, b, li, tr, be, lt, pr, pl, T)) (haw : aw = 9) (hd : 0 < dp) (hk : tK B n t.toInt.toNat ≠ 36 ∧ (tK B n t.toInt.toNat < 28 ∨ 30 < tK B n t.toInt.toNat)) {f fp : Int32} (hf : f.toInt = 1) (hp : fp.toInt = tS B n t.toInt.toNat) : rfin B n f fp := fE_x hF ⟨fun _ => by omega, fun _ => fo_9m ⟨haw, hd, hk⟩⟩ hf hp
theorem r_cmp (hF : fS B n t.toInt.toNat = some (aw, td, dp, rt, nm, lf, lp, b, li, tr, be, lt, pr, pl, T)) (haw : aw = 9) (hd : dp = 0) (hrt : rt = 0) (nk : ¬ (28 ≤ tK B n t.toInt.toNat ∧ tK B n t.toInt.toNat ≤ 30)) (hk : tK B n t.toInt.toNat < 31 ∨ 34 < tK B n t.toInt.toNat) {f fp : Int32} (hf : f.toInt = 1) (hp : fp.toInt = tS B n t.toInt.toNat) : rfin B n f fp := fE_x hF ⟨fun _ => by omega, fun _ => fo_9o ⟨haw, by omega, hrt, by omega⟩⟩ hf hp
theorem r_9n (hF : fS B n t.toInt.toNat = some (aw, td, dp, rt, nm, lf, lp, b, li, tr, be, lt, pr, pl, T)) (haw : aw = 9) (hd : dp = 0) (hrt : rt = 1) (nk : ¬ (28 ≤ tK B n t.toInt.toNat ∧ tK B n t.toInt.toNat ≤ 30)) (hk : tK B n t.toInt.toNat ≠ 9 ∧ tK B n t.toInt.toNat ≠ 10 ∧ tK B n t.toInt.toNat ≠ 27) {f fp : Int32} (hf : f.toInt = 1) (hp : fp.toInt = tS B n t.toInt.toNat) : rfin B n f fp := fE_x hF ⟨fun _ => by omega, fun _ => fo_9n ⟨haw, by omega, by omega, hk.1, hk.2.1, hk.2.2, by omega⟩⟩ hf hp
theorem r_0n (hF : fS B n t.toInt.toNat = some (aw, td, dp, rt, nm, lf, lp, b, li, tr, be, lt, pr, pl, T)) (haw : aw = 0) (h37 : tK B n t.toInt.toNat ≠ 37) (hk : tK B n t.toInt.toNat < 0 ∨ 7 < tK B n t.toInt.toNat) {f fp : Int32} (hf : f.toInt = 1) (hp : fp.toInt = tS B n t.toInt.toNat) : rfin B n f fp := fE_x hF ⟨fun z => absurd z h37, fun _ => fo_0n ⟨haw, hk⟩⟩ hf hp
theorem r_1n (hF : fS B n t.toInt.toNat = some (aw, td, dp, rt, nm, lf, lp, b, li, tr, be, lt, pr, pl, T)) (haw : aw = 1) (hk : tK B n t.toInt.toNat ≠ 25) {f fp : Int32} (hf : f.toInt = 1) (hp : fp.toInt = tS B n t.toInt.toNat) : rfin B n f fp := fE_x hF ⟨fun _ => by omega, fun _ => fo_1n ⟨haw, hk⟩⟩ hf hp
theorem r_2n (hF : fS B n t.toInt.toNat = some (aw, td, dp, rt, nm, lf, lp, b, li, tr, be, lt, pr, pl, T)) (haw : aw = 2) (hk : tK B n t.toInt.toNat ≠ 25) {f fp : Int32} (hf : f.toInt = 1) (hp : fp.toInt = tS B n t.toInt.toNat) : rfin B n f fp := fE_x hF ⟨fun _ => by omega, fun _ => fo_2n ⟨haw, hk⟩⟩ hf hp
theorem r_3n (hF : fS B n t.toInt.toNat = some (aw, td, dp, rt, nm, lf, lp, b, li, tr, be, lt, pr, pl, T)) (haw : aw = 3) (hk : tK B n t.toInt.toNat ≠ 25) {f fp : Int32} (hf : f.toInt = 1) (hp : fp.toInt = tS B n t.toInt.toNat) : rfin B n f fp := fE_x hF ⟨fun _ => by omega, fun _ => fo_3n ⟨haw, hk⟩⟩ hf hp
theorem r_4n (hF : fS B n t.toInt.toNat = some (aw, td, dp, rt, nm, lf, lp, b, li, tr, be, lt, pr, pl, T)) (haw : aw = 4) (hk : tK B n t.toInt.toNat ≠ 27) {f fp : Int32} (hf : f.toInt = 1) (hp : fp.toInt = tS B n t.toInt.toNat) : rfin B n f fp := fE_x hF ⟨fun _ => by omega, fun _ => fo_4n ⟨haw, hk⟩⟩ hf hp
theorem r_5n (hF : fS B n t.toInt.toNat = some (aw, td, dp, rt, nm, lf, lp, b, li, tr, be, lt, pr, pl, T)) (haw : aw = 5) (hk : tK B n t.toInt.toNat ≠ 26) {f fp : Int32} (hf : f.toInt = 1) (hp : fp.toInt = tS B n t.toInt.toNat) : rfin B n f fp := fE_x hF ⟨fun _ => by omega, fun _ => fo_5n ⟨haw, hk⟩⟩ hf hp
theorem r_6n (hF : fS B n t.toInt.toNat = some (aw, td, dp, rt, nm, lf, lp, b, li, tr, be, lt, pr, pl, T)) (haw : aw = 6) (hk : tK B n t.toInt.toNat ≠ 8) {f fp : Int32} (hf : f.toInt = 1) (hp : fp.toInt = tS B n t.toInt.toNat) : rfin B n f fp := fE_x hF ⟨fun _ => by omega, fun _ => fo_6n ⟨haw, hk⟩⟩ hf hp
theorem r2_open6 (hF : fS B n t.toInt.toNat = some (aw, td, dp, rt, nm, lf, lp, b, li, tr, be, lt, pr, pl, T)) (haw : aw = 7 ∨ aw = 8) (hk : tK B n t.toInt.toNat = 35) (hd : dp = 6) {f fp : Int32} (hf : f.toInt = 2) (hp : fp.toInt = tS B n t.toInt.toNat) : rfin B n f fp := fE_y hF ⟨by omega, fo_ne (fo_7c ⟨haw, hk⟩) (by decide)⟩ (Or.inr (Or.inl ⟨hk, hd⟩)) hf hp
theorem r2_pair (hF : fS B n t.toInt.toNat = some (aw, td, dp, rt, nm, lf, lp, b, li, tr, be, lt, pr, pl, T)) (haw : aw = 0) (hk : (tK B n t.toInt.toNat = 6 ∧ pr = 8) ∨ (tK B n t.toInt.toNat = 7 ∧ pl = 8)) {f fp : Int32} (hf : f.toInt = 2) (hp : fp.toInt = tS B n t.toInt.toNat) : rfin B n f fp := fE_y hF ⟨by omega, fo_ne (fo_0c ⟨haw, by omega⟩) (by decide)⟩ (Or.inr (Or.inr hk)) hf hp
theorem r2_go (hF : fS B n t.toInt.toNat = some (aw, td, dp, rt, nm, lf, lp, b, li, tr, be, lt, pr, pl, T)) {a0 : Int} (h37 : tK B n t.toInt.toNat ≠ 37) (hfo : fo aw (tK B n t.toInt.toNat) dp rt = a0) (h0 : a0 ≠ -1) (x4 : t.toInt = 400) {f fp : Int32} (hf : f.toInt = 2) (hp : fp.toInt = tS B n t.toInt.toNat) : rfin B n f fp := fE_y hF ⟨h37, fo_ne hfo h0⟩ (Or.inl (q_m5 x4)) hf hp
end FQ
section TL
variable {aw td v lf lp p ws wp x : Int} {w : Bool}
theorem tl_g (h5 : aw ≠ 5) (hn : ¬ ((aw = 1 ∧ td = 0 ∧ (v < 2 ∨ 5 < v)) ∨ (aw = 1 ∧ td = 4 ∧ v = 0) ∨ (aw = 2 ∧ 5 ≤ v) ∨ (aw = 3 ∧ 4 ≤ v))) (lk : ws = lf ∧ (lf ≠ 0 → wp = lp)) : (ws = f5 aw td v w lf ∧ (f5 aw td v w lf ≠ 0 → wp = f6 aw td v w lf lp p)) ∧ (f5 aw td v w lf = 0 → lf = 0 ∧ ¬ ((aw = 1 ∧ td = 0 ∧ (v < 2 ∨ 5 < v)) ∨ (aw = 1 ∧ td = 4 ∧ v = 0) ∨ (aw = 2 ∧ 5 ≤ v) ∨ (aw = 3 ∧ 4 ≤ v))) := by
  have hz := f5_n (aw := aw) (td := td) (v := v) (w := w) (lf := lf) (lp := lp) (p := p) (by omega)
  rw [hz.1, hz.2]
  exact ⟨lk, fun z => ⟨z, hn⟩⟩
theorem tl_b (hb : ((aw = 1 ∧ td = 0 ∧ (v < 2 ∨ 5 < v)) ∨ (aw = 1 ∧ td = 4 ∧ v = 0) ∨ (aw = 2 ∧ 5 ≤ v) ∨ (aw = 3 ∧ 4 ≤ v))) {ws0 wp0 : Int} (lk : ws0 = lf ∧ (lf ≠ 0 → wp0 = lp)) (z0 : ws0 = 0) (e5 : ws = 5) (hp : wp = p) : (ws = f5 aw td v w lf ∧ (f5 aw td v w lf ≠ 0 → wp = f6 aw td v w lf lp p)) ∧ (f5 aw td v w lf = 0 → lf = 0 ∧ ¬ ((aw = 1 ∧ td = 0 ∧ (v < 2 ∨ 5 < v)) ∨ (aw = 1 ∧ td = 4 ∧ v = 0) ∨ (aw = 2 ∧ 5 ≤ v) ∨ (aw = 3 ∧ 4 ≤ v))) := by
  have hz := f5_y (w := w) (lp := lp) (p := p) ⟨lk.1.symm.trans z0, hb⟩
  rw [hz.1, hz.2]
  exact ⟨⟨e5, fun _ => hp⟩, fun z => absurd z (by decide)⟩
theorem tl_c (hb : ((aw = 1 ∧ td = 0 ∧ (v < 2 ∨ 5 < v)) ∨ (aw = 1 ∧ td = 4 ∧ v = 0) ∨ (aw = 2 ∧ 5 ≤ v) ∨ (aw = 3 ∧ 4 ≤ v))) (lk : ws = lf ∧ (lf ≠ 0 → wp = lp)) (z0 : ws ≠ 0) : (ws = f5 aw td v w lf ∧ (f5 aw td v w lf ≠ 0 → wp = f6 aw td v w lf lp p)) ∧ (f5 aw td v w lf = 0 → lf = 0 ∧ ¬ ((aw = 1 ∧ td = 0 ∧ (v < 2 ∨ 5 < v)) ∨ (aw = 1 ∧ td = 4 ∧ v = 0) ∨ (aw = 2 ∧ 5 ≤ v) ∨ (aw = 3 ∧ 4 ≤ v))) := by
  have hz := f5_n (aw := aw) (td := td) (v := v) (w := w) (lf := lf) (lp := lp) (p := p) (fun z => z0 (lk.1.trans z.1))
  rw [hz.1, hz.2]
  exact ⟨lk, fun z => absurd (lk.1.trans z) z0⟩
end TL
theorem tn_0 {v x : Int} (e : x = v) (z1 : 2 ≤ x) (z2 : x ≤ 5) : ¬ (((1 : Int) = 1 ∧ (0 : Int) = 0 ∧ (v < 2 ∨ 5 < v)) ∨ ((1 : Int) = 1 ∧ (0 : Int) = 4 ∧ v = 0) ∨ ((1 : Int) = 2 ∧ 5 ≤ v) ∨ ((1 : Int) = 3 ∧ 4 ≤ v)) := by omega
theorem tn_1 {v x : Int} (e : x = v)  : ¬ (((1 : Int) = 1 ∧ (1 : Int) = 0 ∧ (v < 2 ∨ 5 < v)) ∨ ((1 : Int) = 1 ∧ (1 : Int) = 4 ∧ v = 0) ∨ ((1 : Int) = 2 ∧ 5 ≤ v) ∨ ((1 : Int) = 3 ∧ 4 ≤ v)) := by omega
theorem tn_2 {v x : Int} (e : x = v)  : ¬ (((1 : Int) = 1 ∧ (2 : Int) = 0 ∧ (v < 2 ∨ 5 < v)) ∨ ((1 : Int) = 1 ∧ (2 : Int) = 4 ∧ v = 0) ∨ ((1 : Int) = 2 ∧ 5 ≤ v) ∨ ((1 : Int) = 3 ∧ 4 ≤ v)) := by omega
theorem tn_3 {v x : Int} (e : x = v)  : ¬ (((1 : Int) = 1 ∧ (3 : Int) = 0 ∧ (v < 2 ∨ 5 < v)) ∨ ((1 : Int) = 1 ∧ (3 : Int) = 4 ∧ v = 0) ∨ ((1 : Int) = 2 ∧ 5 ≤ v) ∨ ((1 : Int) = 3 ∧ 4 ≤ v)) := by omega
theorem tn_4 {v x : Int} (e : x = v) (z1 : 1 ≤ x) : ¬ (((1 : Int) = 1 ∧ (4 : Int) = 0 ∧ (v < 2 ∨ 5 < v)) ∨ ((1 : Int) = 1 ∧ (4 : Int) = 4 ∧ v = 0) ∨ ((1 : Int) = 2 ∧ 5 ≤ v) ∨ ((1 : Int) = 3 ∧ 4 ≤ v)) := by omega
theorem tn_p2 {v x : Int} (e : x = v) (z2 : x ≤ 4) : ¬ (((2 : Int) = 1 ∧ (5 : Int) = 0 ∧ (v < 2 ∨ 5 < v)) ∨ ((2 : Int) = 1 ∧ (5 : Int) = 4 ∧ v = 0) ∨ ((2 : Int) = 2 ∧ 5 ≤ v) ∨ ((2 : Int) = 3 ∧ 4 ≤ v)) := by omega
theorem tn_p3 {v x : Int} (e : x = v) (z2 : x ≤ 3) : ¬ (((3 : Int) = 1 ∧ (5 : Int) = 0 ∧ (v < 2 ∨ 5 < v)) ∨ ((3 : Int) = 1 ∧ (5 : Int) = 4 ∧ v = 0) ∨ ((3 : Int) = 2 ∧ 5 ≤ v) ∨ ((3 : Int) = 3 ∧ 4 ≤ v)) := by omega
theorem tb_0l {v x : Int} (e : x = v) (z : x < 2) : (((1 : Int) = 1 ∧ (0 : Int) = 0 ∧ (v < 2 ∨ 5 < v)) ∨ ((1 : Int) = 1 ∧ (0 : Int) = 4 ∧ v = 0) ∨ ((1 : Int) = 2 ∧ 5 ≤ v) ∨ ((1 : Int) = 3 ∧ 4 ≤ v)) := by omega
theorem tb_0r {v x : Int} (e : x = v) (z : 5 < x) : (((1 : Int) = 1 ∧ (0 : Int) = 0 ∧ (v < 2 ∨ 5 < v)) ∨ ((1 : Int) = 1 ∧ (0 : Int) = 4 ∧ v = 0) ∨ ((1 : Int) = 2 ∧ 5 ≤ v) ∨ ((1 : Int) = 3 ∧ 4 ≤ v)) := by omega
theorem tb_4l {v x : Int} (e : x = v) (g : 0 ≤ v) (z : x < 1) : (((1 : Int) = 1 ∧ (4 : Int) = 0 ∧ (v < 2 ∨ 5 < v)) ∨ ((1 : Int) = 1 ∧ (4 : Int) = 4 ∧ v = 0) ∨ ((1 : Int) = 2 ∧ 5 ≤ v) ∨ ((1 : Int) = 3 ∧ 4 ≤ v)) := by omega
theorem tb_p2r {v x : Int} (e : x = v) (z : 4 < x) : (((2 : Int) = 1 ∧ (5 : Int) = 0 ∧ (v < 2 ∨ 5 < v)) ∨ ((2 : Int) = 1 ∧ (5 : Int) = 4 ∧ v = 0) ∨ ((2 : Int) = 2 ∧ 5 ≤ v) ∨ ((2 : Int) = 3 ∧ 4 ≤ v)) := by omega
theorem tb_p3r {v x : Int} (e : x = v) (z : 3 < x) : (((3 : Int) = 1 ∧ (5 : Int) = 0 ∧ (v < 2 ∨ 5 < v)) ∨ ((3 : Int) = 1 ∧ (5 : Int) = 4 ∧ v = 0) ∨ ((3 : Int) = 2 ∧ 5 ≤ v) ∨ ((3 : Int) = 3 ∧ 4 ≤ v)) := by omega
set_option maxHeartbeats 20000000 in
theorem px_exl {X : Option (Nat × (Nat → Int32))} {Z : Option Value → qm_H → Prop} {h : qm_H} (hH : hk_H h) {B : Nat → Int32} {n : Nat} (hA : rAll B n h.2.1 h.2.2.1) {td rt nm lf lp b li tr be lt pr pl : Int} {T : Nat → Int64} (k0 : ∀ (I : Nat → Nat → Int32) (t : Int32), (∀ o, [118, 141, 142, 143].contains o = false → ∀ i, I o i = h.2.1 o i) → (∀ i, [11, 12, 13, 14, 37, 41].contains i = false → I 118 i = h.2.1 118 i) → I 118 11 = t → I 118 12 = 0 → I 118 13 = 0 → 0 ≤ t.toInt → fS B n t.toInt.toNat = some (9, td, 0, rt, nm, lf, lp, b, li, tr, be, lt, pr, pl, T) → ¬ (28 ≤ tK B n t.toInt.toNat ∧ tK B n t.toInt.toNat ≤ 30) → Z none (h.1, I, h.2.2.1, h.2.2.2)) (k1 : ∀ (I : Nat → Nat → Int32) (f fp op : Int32), (∀ o, [118, 141, 142, 143].contains o = false → ∀ i, I o i = h.2.1 o i) → (∀ i, [11, 12, 13, 14, 37, 41].contains i = false → I 118 i = h.2.1 118 i) → I 118 12 = op → I 118 13 = f → I 118 14 = fp → rfin B n f fp → Z none (h.1, I, h.2.2.1, h.2.2.2)) : ∀ fu : Nat, (∀ (I : Nat → Nat → Int32) (t op : Int32) (aw dp : Int), ((∀ o, [118, 141, 142, 143].contains o = false → ∀ i, I o i = h.2.1 o i)) → ((∀ i, [11, 12, 13, 14, 37, 41].contains i = false → I 118 i = h.2.1 118 i)) → (I 118 11 = t) → (I 118 12 = op) → (I 118 13 = 0) → (0 ≤ t.toInt) → (fS B n t.toInt.toNat = some (aw, td, dp, rt, nm, lf, lp, b, li, tr, be, lt, pr, pl, T)) → (aw = 7 ∨ aw = 8) → (op.toInt = dp) → (aw = 7 → tK B n t.toInt.toNat ≠ 11) → ∀ l2 : Value, qm_Rp fu X cd_264 (23, [.ref 118, .int 0, l2], [], (h.1, I, h.2.2.1, h.2.2.2)) Z) ∧ (∀ (I : Nat → Nat → Int32) (t op : Int32) (aw dp : Int), ((∀ o, [118, 141, 142, 143].contains o = false → ∀ i, I o i = h.2.1 o i)) → ((∀ i, [11, 12, 13, 14, 37, 41].contains i = false → I 118 i = h.2.1 118 i)) → (I 118 11 = t) → (I 118 12 = op) → (I 118 13 = 0) → (0 ≤ t.toInt) → (fS B n t.toInt.toNat = some (aw, td, dp, rt, nm, lf, lp, b, li, tr, be, lt, pr, pl, T)) → (aw = 9) → (op.toInt = dp) → ∀ l2 : Value, qm_Rp fu X cd_264 (96, [.ref 118, .int 0, l2], [], (h.1, I, h.2.2.1, h.2.2.2)) Z) := by
  intro fu
  induction fu using Nat.strongRecOn with
  | ind fu ih =>
    refine ⟨?_, ?_⟩
    · intro I t op aw dp e e8 q_t q_op q_f ht0 hF haw hop h11 l2
      have kz0 : (0 : Int32).toInt = 0 := rfl
      have kz1 : (1 : Int32).toInt = 1 := rfl
      have kz2 : (2 : Int32).toInt = 2 := rfl
      have kz3 : (3 : Int32).toInt = 3 := rfl
      have kz4 : (4 : Int32).toInt = 4 := rfl
      have kz5 : (5 : Int32).toInt = 5 := rfl
      have kz6 : (6 : Int32).toInt = 6 := rfl
      have kz7 : (7 : Int32).toInt = 7 := rfl
      have kz8 : (8 : Int32).toInt = 8 := rfl
      have kz9 : (9 : Int32).toInt = 9 := rfl
      have kzm1 : ((-1) : Int32).toInt = (-1) := rfl
      have kzm2 : ((-2) : Int32).toInt = (-2) := rfl
      have kzm3 : ((-3) : Int32).toInt = (-3) := rfl
      obtain ⟨kv1, q_kv1⟩ : ∃ v_, h.2.1 121 t.toInt.toNat = v_ := ⟨_, rfl⟩
      obtain ⟨pv2, q_pv2⟩ : ∃ v_, h.2.1 122 t.toInt.toNat = v_ := ⟨_, rfl⟩
      obtain ⟨ht_kv1, hp_kv1, h4_kv1⟩ := rAll_at hA hF q_kv1 q_pv2
      have hkb_kv1 := rTk_b ht_kv1
      have htb_kv1 := q_le ht0 h4_kv1
      obtain ⟨g0, g1, ⟨g2, g2b, g2c⟩, g3, ⟨g4, g4b, g4c⟩, ⟨g5, g5b, g5c⟩, ⟨g6, g6b⟩, g7, g8, g9⟩ := fS_b _ _ _ _ _ _ _ _ _ _ _ _ _ _ _ _ hF
      have g1 : hid _ := g1
      have g2c : hid _ := g2c
      have g3 : hid _ := g3
      have g4c : hid _ := g4c
      have g5c : hid _ := g5c
      have g6 : hid _ := g6
      have g6b : hid _ := g6b
      have g7 : hid _ := g7
      have haw : hid _ := haw
      refine qm_Rp.go1 1 (c' := (26, [.ref 118, .int 0, l2], [.int 6, .ref 118], (h.1, I, h.2.2.1, h.2.2.2))) rfl (fun g hg => ?_)
      refine hp_inv (o := 118) (r := []) (as := [.ref 118, .int 6]) rfl rfl (hH.1 118 (17, 105) rfl) rfl rfl rfl ?_
      refine qm_Rp.go 1 (c' := (1, [.ref 118, .int 6], [.ref 118], (h.1, I, h.2.2.1, h.2.2.2))) rfl ?_
      refine hp_geti (v := 0) rfl (hH.1 118 (17, 105) rfl) rfl q_f ?_
      refine qm_Rp.go 2 (c' := (8, [.ref 118, .int 6], [.ref 118], (h.1, I, h.2.2.1, h.2.2.2))) rfl ?_
      refine hp_getr rfl (hH.1 118 (17, 105) rfl) rfl (hH.2 118 5 (some 121) rfl) ?_
      refine qm_Rp.go 1 (c' := (12, [.ref 118, .int 6], [.ref 118, .ref 121], (h.1, I, h.2.2.1, h.2.2.2))) rfl ?_
      refine hp_geti (v := t) rfl (hH.1 118 (17, 105) rfl) rfl q_t ?_
      refine qm_Rp.go 0 (c' := (15, [.ref 118, .int 6], [.int t, .ref 121], (h.1, I, h.2.2.1, h.2.2.2))) rfl ?_
      refine hp_ial (v := kv1) rfl (hH.1 121 (0, 403) rfl) (show (I) 121 t.toInt.toNat = _ from ((e 121 rfl t.toInt.toNat).trans q_kv1)) (fun ia_2 ib_2 => ?_)
      refine qm_Rp.go 1 (c' := (17, [.ref 118, .int 6], [.int 6, .int kv1], (h.1, I, h.2.2.1, h.2.2.2))) rfl ?_
      refine hp_cne (ix := kv1.toInt) (iy := 6) rfl rfl rfl (fun (z4 : hid (kv1.toInt ≠ 6)) => ?_) (fun z4 => ?_)
      · refine qm_Rp.go 1 (c' := (25, [.ref 118, .int 6], [.int 0], (h.1, I, h.2.2.1, h.2.2.2))) rfl ?_
        refine qm_Rp.rt (v := (some (.int 0))) (h' := (h.1, I, h.2.2.1, h.2.2.2)) rfl ?_
        refine qm_Rp.go 2 (c' := (85, [.ref 118, .int 0, l2], [.ref 118], (h.1, I, h.2.2.1, h.2.2.2))) rfl ?_
        refine hp_inv (o := 118) (r := []) (as := [.ref 118]) rfl rfl (hH.1 118 (17, 105) rfl) rfl rfl rfl ?_
        refine qm_Rp.go 0 (c' := (0, [.ref 118], [], (h.1, I, h.2.2.1, h.2.2.2))) rfl ?_
        refine qm_Rp.go 2 (c' := (2, [.ref 118], [.int 2, .ref 118], (h.1, I, h.2.2.1, h.2.2.2))) rfl ?_
        refine hp_inv (o := 118) (r := []) (as := [.ref 118, .int 2]) rfl rfl (hH.1 118 (17, 105) rfl) rfl rfl rfl ?_
        refine qm_Rp.go 1 (c' := (1, [.ref 118, .int 2], [.ref 118], (h.1, I, h.2.2.1, h.2.2.2))) rfl ?_
        refine hp_geti (v := 0) rfl (hH.1 118 (17, 105) rfl) rfl q_f ?_
        refine qm_Rp.go 2 (c' := (8, [.ref 118, .int 2], [.ref 118], (h.1, I, h.2.2.1, h.2.2.2))) rfl ?_
        refine hp_getr rfl (hH.1 118 (17, 105) rfl) rfl (hH.2 118 5 (some 121) rfl) ?_
        refine qm_Rp.go 1 (c' := (12, [.ref 118, .int 2], [.ref 118, .ref 121], (h.1, I, h.2.2.1, h.2.2.2))) rfl ?_
        refine hp_geti (v := t) rfl (hH.1 118 (17, 105) rfl) rfl q_t ?_
        refine qm_Rp.go 0 (c' := (15, [.ref 118, .int 2], [.int t, .ref 121], (h.1, I, h.2.2.1, h.2.2.2))) rfl ?_
        refine hp_ial (v := kv1) rfl (hH.1 121 (0, 403) rfl) (show (I) 121 t.toInt.toNat = _ from ((e 121 rfl t.toInt.toNat).trans q_kv1)) (fun ia_4 ib_4 => ?_)
        refine qm_Rp.go 1 (c' := (17, [.ref 118, .int 2], [.int 2, .int kv1], (h.1, I, h.2.2.1, h.2.2.2))) rfl ?_
        refine hp_cne (ix := kv1.toInt) (iy := 2) rfl rfl rfl (fun (z6 : hid (kv1.toInt ≠ 2)) => ?_) (fun z6 => ?_)
        · refine qm_Rp.go 1 (c' := (25, [.ref 118, .int 2], [.int 0], (h.1, I, h.2.2.1, h.2.2.2))) rfl ?_
          refine qm_Rp.rt (v := (some (.int 0))) (h' := (h.1, I, h.2.2.1, h.2.2.2)) rfl ?_
          refine qm_Rp.go 2 (c' := (30, [.ref 118], [.ref 118], (h.1, I, h.2.2.1, h.2.2.2))) rfl ?_
          refine hp_geti (v := 0) rfl (hH.1 118 (17, 105) rfl) rfl q_f ?_
          refine qm_Rp.go 2 (c' := (37, [.ref 118], [.ref 118], (h.1, I, h.2.2.1, h.2.2.2))) rfl ?_
          refine hp_getr rfl (hH.1 118 (17, 105) rfl) rfl (hH.2 118 5 (some 121) rfl) ?_
          refine qm_Rp.go 1 (c' := (41, [.ref 118], [.ref 118, .ref 121], (h.1, I, h.2.2.1, h.2.2.2))) rfl ?_
          refine hp_geti (v := t) rfl (hH.1 118 (17, 105) rfl) rfl q_t ?_
          refine qm_Rp.go 0 (c' := (44, [.ref 118], [.int t, .ref 121], (h.1, I, h.2.2.1, h.2.2.2))) rfl ?_
          refine hp_ial (v := kv1) rfl (hH.1 121 (0, 403) rfl) (show (I) 121 t.toInt.toNat = _ from ((e 121 rfl t.toInt.toNat).trans q_kv1)) (fun ia_6 ib_6 => ?_)
          refine qm_Rp.go 1 (c' := (47, [.ref 118], [.int 32, .int kv1], (h.1, I, h.2.2.1, h.2.2.2))) rfl ?_
          refine hp_clt (ix := kv1.toInt) (iy := 32) rfl rfl rfl (fun z8 => ?_) (fun z8 => ?_)
          · refine qm_Rp.go 2 (c' := (90, [.ref 118], [.int 1, .ref 118], (h.1, I, h.2.2.1, h.2.2.2))) rfl ?_
            refine hp_inv (o := 118) (r := []) (as := [.ref 118, .int 1]) rfl rfl (hH.1 118 (17, 105) rfl) rfl rfl rfl ?_
            refine qm_Rp.go 1 (c' := (1, [.ref 118, .int 1], [.ref 118], (h.1, I, h.2.2.1, h.2.2.2))) rfl ?_
            refine hp_geti (v := 0) rfl (hH.1 118 (17, 105) rfl) rfl q_f ?_
            refine qm_Rp.go 3 (c' := (10, [.ref 118, .int 1], [.int 1, .ref 118], (h.1, I, h.2.2.1, h.2.2.2))) rfl ?_
            refine hp_puti rfl (hH.1 118 (17, 105) rfl) rfl ?_
            refine qm_Rp.go 2 (c' := (15, [.ref 118, .int 1], [.ref 118, .ref 118], (h.1, qm_up I 118 13 1, h.2.2.1, h.2.2.2))) rfl ?_
            refine hp_getr rfl (hH.1 118 (17, 105) rfl) rfl (hH.2 118 6 (some 122) rfl) ?_
            refine qm_Rp.go 1 (c' := (19, [.ref 118, .int 1], [.ref 118, .ref 122, .ref 118], (h.1, qm_up I 118 13 1, h.2.2.1, h.2.2.2))) rfl ?_
            refine hp_geti (v := t) rfl (hH.1 118 (17, 105) rfl) rfl (show (qm_up I 118 13 1) 118 11 = _ from ((hk_neq (by decide)).trans q_t)) ?_
            refine qm_Rp.go 0 (c' := (22, [.ref 118, .int 1], [.int t, .ref 122, .ref 118], (h.1, qm_up I 118 13 1, h.2.2.1, h.2.2.2))) rfl ?_
            refine hp_ial (v := pv2) rfl (hH.1 122 (0, 403) rfl) (show (qm_up I 118 13 1) 122 t.toInt.toNat = _ from ((hk_ot rfl).trans ((e 122 rfl t.toInt.toNat).trans q_pv2))) (fun ia_8 ib_8 => ?_)
            refine qm_Rp.go 0 (c' := (23, [.ref 118, .int 1], [.int pv2, .ref 118], (h.1, qm_up I 118 13 1, h.2.2.1, h.2.2.2))) rfl ?_
            refine hp_puti rfl (hH.1 118 (17, 105) rfl) rfl ?_
            refine qm_Rp.go 0 (c' := (26, [.ref 118, .int 1], [], (h.1, qm_up (qm_up I 118 13 1) 118 14 pv2, h.2.2.1, h.2.2.2))) rfl ?_
            refine qm_Rp.rt (v := none) (h' := (h.1, qm_up (qm_up I 118 13 1) 118 14 pv2, h.2.2.1, h.2.2.2)) rfl ?_
            refine qm_Rp.go 0 (c' := (93, [.ref 118], [], (h.1, qm_up (qm_up I 118 13 1) 118 14 pv2, h.2.2.1, h.2.2.2))) rfl ?_
            refine qm_Rp.rt (v := none) (h' := (h.1, qm_up (qm_up I 118 13 1) 118 14 pv2, h.2.2.1, h.2.2.2)) rfl ?_
            refine qm_Rp.go 1 (c' := (89, [.ref 118, .int 0, l2], [.ref 118], (h.1, qm_up (qm_up I 118 13 1) 118 14 pv2, h.2.2.1, h.2.2.2))) rfl ?_
            refine hp_geti (v := 1) rfl (hH.1 118 (17, 105) rfl) rfl (show (qm_up (qm_up I 118 13 1) 118 14 pv2) 118 13 = _ from ((hk_neq (by decide)).trans (hk_same))) ?_
            refine qm_Rp.go 1 (c' := (95, [.ref 118, .int 0, l2], [], (h.1, qm_up (qm_up I 118 13 1) 118 14 pv2, h.2.2.1, h.2.2.2))) rfl ?_
            refine qm_Rp.rt (v := none) (h' := (h.1, qm_up (qm_up I 118 13 1) 118 14 pv2, h.2.2.1, h.2.2.2)) rfl ?_
            have kq10 : tK B n t.toInt.toNat ≠ 25 ∧ (tK B n t.toInt.toNat < 12 ∨ 24 < tK B n t.toInt.toNat) ∧ tK B n t.toInt.toNat ≠ 35 := rTk_P (P := fun x => x ≠ 6 ∧ x ≠ 2 ∧ x < 32) (Q := fun d => d ≠ 25 ∧ (d < 12 ∨ 24 < d) ∧ d ≠ 35) ht_kv1 (by decide +kernel) ⟨z4, z6, z8⟩
            have rf11 : rfin B n 1 pv2 := r_unit hF haw h11 kq10 rfl hp_kv1
            exact k1 (qm_up (qm_up I 118 13 1) 118 14 pv2) 1 pv2 op (fun o ho i => ((hk_mod ho rfl).trans ((hk_mod ho rfl).trans ((e o (hk_ms rfl ho) i).trans rfl)))) (fun i hi => ((hk_neq (fun z => by subst z; cases hi)).trans ((hk_neq (fun z => by subst z; cases hi)).trans ((e8 i (hk_ms rfl hi)).trans rfl)))) (show (qm_up (qm_up I 118 13 1) 118 14 pv2) 118 12 = _ from ((hk_neq (by decide)).trans ((hk_neq (by decide)).trans q_op))) (show (qm_up (qm_up I 118 13 1) 118 14 pv2) 118 13 = _ from ((hk_neq (by decide)).trans (hk_same))) (show (qm_up (qm_up I 118 13 1) 118 14 pv2) 118 14 = _ from (hk_same)) rf11
          · refine qm_Rp.go 1 (c' := (51, [.ref 118], [.ref 118], (h.1, I, h.2.2.1, h.2.2.2))) rfl ?_
            refine hp_getr rfl (hH.1 118 (17, 105) rfl) rfl (hH.2 118 5 (some 121) rfl) ?_
            refine qm_Rp.go 1 (c' := (55, [.ref 118], [.ref 118, .ref 121], (h.1, I, h.2.2.1, h.2.2.2))) rfl ?_
            refine hp_geti (v := t) rfl (hH.1 118 (17, 105) rfl) rfl q_t ?_
            refine qm_Rp.go 0 (c' := (58, [.ref 118], [.int t, .ref 121], (h.1, I, h.2.2.1, h.2.2.2))) rfl ?_
            refine hp_ial (v := kv1) rfl (hH.1 121 (0, 403) rfl) (show (I) 121 t.toInt.toNat = _ from ((e 121 rfl t.toInt.toNat).trans q_kv1)) (fun ia_11 ib_11 => ?_)
            refine qm_Rp.go 1 (c' := (61, [.ref 118], [.int 44, .int kv1], (h.1, I, h.2.2.1, h.2.2.2))) rfl ?_
            refine hp_cgt (ix := kv1.toInt) (iy := 44) rfl rfl rfl (fun z13 => by exfalso; omega) (fun z13 => ?_)
            refine qm_Rp.go 3 (c' := (67, [.ref 118], [.ref 118, .int 1, .ref 118], (h.1, I, h.2.2.1, h.2.2.2))) rfl ?_
            refine hp_getr rfl (hH.1 118 (17, 105) rfl) rfl (hH.2 118 5 (some 121) rfl) ?_
            refine qm_Rp.go 1 (c' := (71, [.ref 118], [.ref 118, .ref 121, .int 1, .ref 118], (h.1, I, h.2.2.1, h.2.2.2))) rfl ?_
            refine hp_geti (v := t) rfl (hH.1 118 (17, 105) rfl) rfl q_t ?_
            refine qm_Rp.go 0 (c' := (74, [.ref 118], [.int t, .ref 121, .int 1, .ref 118], (h.1, I, h.2.2.1, h.2.2.2))) rfl ?_
            refine hp_ial (v := kv1) rfl (hH.1 121 (0, 403) rfl) (show (I) 121 t.toInt.toNat = _ from ((e 121 rfl t.toInt.toNat).trans q_kv1)) (fun ia_13 ib_13 => ?_)
            refine qm_Rp.go 2 (c' := (78, [.ref 118], [.int (kv1 - 32), .int 1, .ref 118], (h.1, I, h.2.2.1, h.2.2.2))) rfl ?_
            obtain ⟨v15, q_v15, e_v15⟩ := hk_sub (x := kv1) (y := 32) (a := kv1.toInt) (b := 32) rfl rfl (by omega) (by omega)
            rw [q_v15]
            refine hp_inv (o := 118) (r := []) (as := [.ref 118, .int 1, .int v15]) rfl rfl (hH.1 118 (17, 105) rfl) rfl rfl rfl ?_
            refine qm_Rp.go 1 (c' := (1, [.ref 118, .int 1, .int v15], [.ref 118], (h.1, I, h.2.2.1, h.2.2.2))) rfl ?_
            refine hp_getr rfl (hH.1 118 (17, 105) rfl) rfl (hH.2 118 38 (some 141) rfl) ?_
            refine qm_Rp.go 1 (c' := (5, [.ref 118, .int 1, .int v15], [.ref 118, .ref 141], (h.1, I, h.2.2.1, h.2.2.2))) rfl ?_
            obtain ⟨v16, q_v16⟩ : ∃ v_, I 118 37 = v_ := ⟨_, rfl⟩
            refine hp_geti (v := v16) rfl (hH.1 118 (17, 105) rfl) rfl q_v16 ?_
            refine qm_Rp.go 1 (c' := (9, [.ref 118, .int 1, .int v15], [.int 1, .int v16, .ref 141], (h.1, I, h.2.2.1, h.2.2.2))) rfl ?_
            refine hp_ias rfl (hH.1 141 (0, 840) rfl) (fun ia_16 ib_16 => ?_)
            refine qm_Rp.go 1 (c' := (11, [.ref 118, .int 1, .int v15], [.ref 118], (h.1, qm_up I 141 v16.toInt.toNat 1, h.2.2.1, h.2.2.2))) rfl ?_
            refine hp_getr rfl (hH.1 118 (17, 105) rfl) rfl (hH.2 118 39 (some 142) rfl) ?_
            refine qm_Rp.go 1 (c' := (15, [.ref 118, .int 1, .int v15], [.ref 118, .ref 142], (h.1, qm_up I 141 v16.toInt.toNat 1, h.2.2.1, h.2.2.2))) rfl ?_
            refine hp_geti (v := v16) rfl (hH.1 118 (17, 105) rfl) rfl (show (qm_up I 141 v16.toInt.toNat 1) 118 37 = _ from ((hk_ot rfl).trans q_v16)) ?_
            refine qm_Rp.go 1 (c' := (19, [.ref 118, .int 1, .int v15], [.int v15, .int v16, .ref 142], (h.1, qm_up I 141 v16.toInt.toNat 1, h.2.2.1, h.2.2.2))) rfl ?_
            refine hp_ias rfl (hH.1 142 (0, 840) rfl) (fun ia_17 ib_17 => ?_)
            refine qm_Rp.go 2 (c' := (22, [.ref 118, .int 1, .int v15], [.ref 118, .ref 118], (h.1, qm_up (qm_up I 141 v16.toInt.toNat 1) 142 v16.toInt.toNat v15, h.2.2.1, h.2.2.2))) rfl ?_
            refine hp_geti (v := v16) rfl (hH.1 118 (17, 105) rfl) rfl (show (qm_up (qm_up I 141 v16.toInt.toNat 1) 142 v16.toInt.toNat v15) 118 37 = _ from ((hk_ot rfl).trans ((hk_ot rfl).trans q_v16))) ?_
            refine qm_Rp.go 2 (c' := (27, [.ref 118, .int 1, .int v15], [.int (v16 + 1), .ref 118], (h.1, qm_up (qm_up I 141 v16.toInt.toNat 1) 142 v16.toInt.toNat v15, h.2.2.1, h.2.2.2))) rfl ?_
            obtain ⟨v19, q_v19, e_v19⟩ := hk_add (x := v16) (y := 1) (a := v16.toInt) (b := 1) rfl rfl (by omega) (by omega)
            rw [q_v19]
            refine hp_puti rfl (hH.1 118 (17, 105) rfl) rfl ?_
            refine qm_Rp.go 0 (c' := (30, [.ref 118, .int 1, .int v15], [], (h.1, qm_up (qm_up (qm_up I 141 v16.toInt.toNat 1) 142 v16.toInt.toNat v15) 118 37 v19, h.2.2.1, h.2.2.2))) rfl ?_
            refine qm_Rp.rt (v := none) (h' := (h.1, qm_up (qm_up (qm_up I 141 v16.toInt.toNat 1) 142 v16.toInt.toNat v15) 118 37 v19, h.2.2.1, h.2.2.2)) rfl ?_
            refine qm_Rp.go 1 (c' := (82, [.ref 118], [.ref 118], (h.1, qm_up (qm_up (qm_up I 141 v16.toInt.toNat 1) 142 v16.toInt.toNat v15) 118 37 v19, h.2.2.1, h.2.2.2))) rfl ?_
            refine hp_inv (o := 118) (r := []) (as := [.ref 118]) rfl rfl (hH.1 118 (17, 105) rfl) rfl rfl rfl (px_go (h := (h.1, qm_up (qm_up (qm_up I 141 v16.toInt.toNat 1) 142 v16.toInt.toNat v15) 118 37 v19, h.2.2.1, h.2.2.2)) hH (show (qm_up (qm_up (qm_up I 141 v16.toInt.toNat 1) 142 v16.toInt.toNat v15) 118 37 v19) 118 11 = _ from ((hk_neq (by decide)).trans ((hk_ot rfl).trans ((hk_ot rfl).trans q_t)))) (show (qm_up (qm_up (qm_up I 141 v16.toInt.toNat 1) 142 v16.toInt.toNat v15) 118 37 v19) 118 13 = _ from ((hk_neq (by decide)).trans ((hk_ot rfl).trans ((hk_ot rfl).trans q_f)))) htb_kv1 (fun fp20 q_fp20 x4_fp20 => ?_) (fun t21 e_t21 x4_t21 => ?_))
            · have ex_fp20 : fp20 = pv2 := (q_fp20.symm.trans (show (qm_up (qm_up (qm_up I 141 v16.toInt.toNat 1) 142 v16.toInt.toNat v15) 118 37 v19) 122 t.toInt.toNat = _ from ((hk_ot rfl).trans ((hk_ot rfl).trans ((hk_ot rfl).trans ((e 122 rfl t.toInt.toNat).trans q_pv2))))))
              have kq22 : tK B n t.toInt.toNat ≠ 37 := rTk_P (P := fun x => x ≠ 6 ∧ x ≠ 2 ∧ 32 ≤ x ∧ x ≤ 44) (Q := fun d => d ≠ 37) ht_kv1 (by decide +kernel) ⟨z4, z6, z8, z13⟩
              have kq23 : tK B n t.toInt.toNat = 25 ∨ (12 ≤ tK B n t.toInt.toNat ∧ tK B n t.toInt.toNat ≤ 24) := rTk_P (P := fun x => x ≠ 6 ∧ x ≠ 2 ∧ 32 ≤ x ∧ x ≤ 44) (Q := fun d => d = 25 ∨ (12 ≤ d ∧ d ≤ 24)) ht_kv1 (by decide +kernel) ⟨z4, z6, z8, z13⟩
              have rf24 : rfin B n 2 fp20 := r2_go hF kq22 (fo_7b ⟨haw, kq23⟩) (by decide) x4_fp20 rfl ((congrArg Int32.toInt ex_fp20).trans hp_kv1)
              refine qm_Rp.go 1 (c' := (93, [.ref 118], [], (h.1, qm_up (qm_up (qm_up (qm_up (qm_up I 141 v16.toInt.toNat 1) 142 v16.toInt.toNat v15) 118 37 v19) 118 13 2) 118 14 fp20, h.2.2.1, h.2.2.2))) rfl ?_
              refine qm_Rp.rt (v := none) (h' := (h.1, qm_up (qm_up (qm_up (qm_up (qm_up I 141 v16.toInt.toNat 1) 142 v16.toInt.toNat v15) 118 37 v19) 118 13 2) 118 14 fp20, h.2.2.1, h.2.2.2)) rfl ?_
              refine qm_Rp.go 1 (c' := (89, [.ref 118, .int 0, l2], [.ref 118], (h.1, qm_up (qm_up (qm_up (qm_up (qm_up I 141 v16.toInt.toNat 1) 142 v16.toInt.toNat v15) 118 37 v19) 118 13 2) 118 14 fp20, h.2.2.1, h.2.2.2))) rfl ?_
              refine hp_geti (v := 2) rfl (hH.1 118 (17, 105) rfl) rfl (show (qm_up (qm_up (qm_up (qm_up (qm_up I 141 v16.toInt.toNat 1) 142 v16.toInt.toNat v15) 118 37 v19) 118 13 2) 118 14 fp20) 118 13 = _ from ((hk_neq (by decide)).trans (hk_same))) ?_
              refine qm_Rp.go 1 (c' := (95, [.ref 118, .int 0, l2], [], (h.1, qm_up (qm_up (qm_up (qm_up (qm_up I 141 v16.toInt.toNat 1) 142 v16.toInt.toNat v15) 118 37 v19) 118 13 2) 118 14 fp20, h.2.2.1, h.2.2.2))) rfl ?_
              refine qm_Rp.rt (v := none) (h' := (h.1, qm_up (qm_up (qm_up (qm_up (qm_up I 141 v16.toInt.toNat 1) 142 v16.toInt.toNat v15) 118 37 v19) 118 13 2) 118 14 fp20, h.2.2.1, h.2.2.2)) rfl ?_
              exact k1 (qm_up (qm_up (qm_up (qm_up (qm_up I 141 v16.toInt.toNat 1) 142 v16.toInt.toNat v15) 118 37 v19) 118 13 2) 118 14 fp20) 2 fp20 op (fun o ho i => ((hk_mod ho rfl).trans ((hk_mod ho rfl).trans ((hk_mod ho rfl).trans ((hk_mod ho rfl).trans ((hk_mod ho rfl).trans ((e o (hk_ms rfl ho) i).trans rfl))))))) (fun i hi => ((hk_neq (fun z => by subst z; cases hi)).trans ((hk_neq (fun z => by subst z; cases hi)).trans ((hk_neq (fun z => by subst z; cases hi)).trans ((hk_ot rfl).trans ((hk_ot rfl).trans ((e8 i (hk_ms rfl hi)).trans rfl))))))) (show (qm_up (qm_up (qm_up (qm_up (qm_up I 141 v16.toInt.toNat 1) 142 v16.toInt.toNat v15) 118 37 v19) 118 13 2) 118 14 fp20) 118 12 = _ from ((hk_neq (by decide)).trans ((hk_neq (by decide)).trans ((hk_neq (by decide)).trans ((hk_ot rfl).trans ((hk_ot rfl).trans q_op)))))) (show (qm_up (qm_up (qm_up (qm_up (qm_up I 141 v16.toInt.toNat 1) 142 v16.toInt.toNat v15) 118 37 v19) 118 13 2) 118 14 fp20) 118 13 = _ from ((hk_neq (by decide)).trans (hk_same))) (show (qm_up (qm_up (qm_up (qm_up (qm_up I 141 v16.toInt.toNat 1) 142 v16.toInt.toNat v15) 118 37 v19) 118 13 2) 118 14 fp20) 118 14 = _ from (hk_same)) rf24
            · have t0_t21 := q_t0 e_t21 ht0
              have kq26 : tK B n t.toInt.toNat = 25 ∨ (12 ≤ tK B n t.toInt.toNat ∧ tK B n t.toInt.toNat ≤ 24) := rTk_P (P := fun x => x ≠ 6 ∧ x ≠ 2 ∧ 32 ≤ x ∧ x ≤ 44) (Q := fun d => d = 25 ∨ (12 ≤ d ∧ d ≤ 24)) ht_kv1 (by decide +kernel) ⟨z4, z6, z8, z13⟩
              have hF25 : fS B n t21.toInt.toNat = some (9, td, dp, rt, nm, lf, lp, b, li, tr, be, lt, pr, pl, T) := q_unit hF haw kq26 ht0 x4_t21 e_t21
              refine qm_Rp.go 1 (c' := (93, [.ref 118], [], (h.1, qm_up (qm_up (qm_up (qm_up I 141 v16.toInt.toNat 1) 142 v16.toInt.toNat v15) 118 37 v19) 118 11 t21, h.2.2.1, h.2.2.2))) rfl ?_
              refine qm_Rp.rt (v := none) (h' := (h.1, qm_up (qm_up (qm_up (qm_up I 141 v16.toInt.toNat 1) 142 v16.toInt.toNat v15) 118 37 v19) 118 11 t21, h.2.2.1, h.2.2.2)) rfl ?_
              refine qm_Rp.go 1 (c' := (89, [.ref 118, .int 0, l2], [.ref 118], (h.1, qm_up (qm_up (qm_up (qm_up I 141 v16.toInt.toNat 1) 142 v16.toInt.toNat v15) 118 37 v19) 118 11 t21, h.2.2.1, h.2.2.2))) rfl ?_
              refine hp_geti (v := 0) rfl (hH.1 118 (17, 105) rfl) rfl (show (qm_up (qm_up (qm_up (qm_up I 141 v16.toInt.toNat 1) 142 v16.toInt.toNat v15) 118 37 v19) 118 11 t21) 118 13 = _ from ((hk_neq (by decide)).trans ((hk_neq (by decide)).trans ((hk_ot rfl).trans ((hk_ot rfl).trans q_f))))) ?_
              refine qm_Rp.go 1 (c' := (96, [.ref 118, .int 0, l2], [], (h.1, qm_up (qm_up (qm_up (qm_up I 141 v16.toInt.toNat 1) 142 v16.toInt.toNat v15) 118 37 v19) 118 11 t21, h.2.2.1, h.2.2.2))) rfl ?_
              exact (ih g hg).2 (qm_up (qm_up (qm_up (qm_up I 141 v16.toInt.toNat 1) 142 v16.toInt.toNat v15) 118 37 v19) 118 11 t21) t21 op 9 dp (fun o ho i => ((hk_mod ho rfl).trans ((hk_mod ho rfl).trans ((hk_mod ho rfl).trans ((hk_mod ho rfl).trans ((e o (hk_ms rfl ho) i).trans rfl)))))) (fun i hi => ((hk_neq (fun z => by subst z; cases hi)).trans ((hk_neq (fun z => by subst z; cases hi)).trans ((hk_ot rfl).trans ((hk_ot rfl).trans ((e8 i (hk_ms rfl hi)).trans rfl)))))) (show (qm_up (qm_up (qm_up (qm_up I 141 v16.toInt.toNat 1) 142 v16.toInt.toNat v15) 118 37 v19) 118 11 t21) 118 11 = _ from (hk_same)) (show (qm_up (qm_up (qm_up (qm_up I 141 v16.toInt.toNat 1) 142 v16.toInt.toNat v15) 118 37 v19) 118 11 t21) 118 12 = _ from ((hk_neq (by decide)).trans ((hk_neq (by decide)).trans ((hk_ot rfl).trans ((hk_ot rfl).trans q_op))))) (show (qm_up (qm_up (qm_up (qm_up I 141 v16.toInt.toNat 1) 142 v16.toInt.toNat v15) 118 37 v19) 118 11 t21) 118 13 = _ from ((hk_neq (by decide)).trans ((hk_neq (by decide)).trans ((hk_ot rfl).trans ((hk_ot rfl).trans q_f))))) t0_t21 hF25 rfl hop _
        · refine qm_Rp.go 2 (c' := (25, [.ref 118, .int 2], [.int 1], (h.1, I, h.2.2.1, h.2.2.2))) rfl ?_
          refine qm_Rp.rt (v := (some (.int 1))) (h' := (h.1, I, h.2.2.1, h.2.2.2)) rfl ?_
          refine qm_Rp.go 4 (c' := (11, [.ref 118], [.ref 118, .int 0, .ref 118], (h.1, I, h.2.2.1, h.2.2.2))) rfl ?_
          refine hp_getr rfl (hH.1 118 (17, 105) rfl) rfl (hH.2 118 7 (some 123) rfl) ?_
          refine qm_Rp.go 1 (c' := (15, [.ref 118], [.ref 118, .ref 123, .int 0, .ref 118], (h.1, I, h.2.2.1, h.2.2.2))) rfl ?_
          refine hp_geti (v := t) rfl (hH.1 118 (17, 105) rfl) rfl q_t ?_
          refine qm_Rp.go 0 (c' := (18, [.ref 118], [.int t, .ref 123, .int 0, .ref 118], (h.1, I, h.2.2.1, h.2.2.2))) rfl ?_
          obtain ⟨v27, q_v27⟩ : ∃ v_, h.2.1 123 t.toInt.toNat = v_ := ⟨_, rfl⟩
          refine hp_ial (v := v27) rfl (hH.1 123 (0, 403) rfl) (show (I) 123 t.toInt.toNat = _ from ((e 123 rfl t.toInt.toNat).trans q_v27)) (fun ia_27 ib_27 => ?_)
          refine qm_Rp.go 0 (c' := (19, [.ref 118], [.int v27, .int 0, .ref 118], (h.1, I, h.2.2.1, h.2.2.2))) rfl ?_
          refine hp_inv (o := 118) (r := []) (as := [.ref 118, .int 0, .int v27]) rfl rfl (hH.1 118 (17, 105) rfl) rfl rfl rfl ?_
          refine qm_Rp.go 1 (c' := (1, [.ref 118, .int 0, .int v27], [.ref 118], (h.1, I, h.2.2.1, h.2.2.2))) rfl ?_
          refine hp_getr rfl (hH.1 118 (17, 105) rfl) rfl (hH.2 118 38 (some 141) rfl) ?_
          refine qm_Rp.go 1 (c' := (5, [.ref 118, .int 0, .int v27], [.ref 118, .ref 141], (h.1, I, h.2.2.1, h.2.2.2))) rfl ?_
          obtain ⟨v29, q_v29⟩ : ∃ v_, I 118 37 = v_ := ⟨_, rfl⟩
          refine hp_geti (v := v29) rfl (hH.1 118 (17, 105) rfl) rfl q_v29 ?_
          refine qm_Rp.go 1 (c' := (9, [.ref 118, .int 0, .int v27], [.int 0, .int v29, .ref 141], (h.1, I, h.2.2.1, h.2.2.2))) rfl ?_
          refine hp_ias rfl (hH.1 141 (0, 840) rfl) (fun ia_29 ib_29 => ?_)
          refine qm_Rp.go 1 (c' := (11, [.ref 118, .int 0, .int v27], [.ref 118], (h.1, qm_up I 141 v29.toInt.toNat 0, h.2.2.1, h.2.2.2))) rfl ?_
          refine hp_getr rfl (hH.1 118 (17, 105) rfl) rfl (hH.2 118 39 (some 142) rfl) ?_
          refine qm_Rp.go 1 (c' := (15, [.ref 118, .int 0, .int v27], [.ref 118, .ref 142], (h.1, qm_up I 141 v29.toInt.toNat 0, h.2.2.1, h.2.2.2))) rfl ?_
          refine hp_geti (v := v29) rfl (hH.1 118 (17, 105) rfl) rfl (show (qm_up I 141 v29.toInt.toNat 0) 118 37 = _ from ((hk_ot rfl).trans q_v29)) ?_
          refine qm_Rp.go 1 (c' := (19, [.ref 118, .int 0, .int v27], [.int v27, .int v29, .ref 142], (h.1, qm_up I 141 v29.toInt.toNat 0, h.2.2.1, h.2.2.2))) rfl ?_
          refine hp_ias rfl (hH.1 142 (0, 840) rfl) (fun ia_30 ib_30 => ?_)
          refine qm_Rp.go 2 (c' := (22, [.ref 118, .int 0, .int v27], [.ref 118, .ref 118], (h.1, qm_up (qm_up I 141 v29.toInt.toNat 0) 142 v29.toInt.toNat v27, h.2.2.1, h.2.2.2))) rfl ?_
          refine hp_geti (v := v29) rfl (hH.1 118 (17, 105) rfl) rfl (show (qm_up (qm_up I 141 v29.toInt.toNat 0) 142 v29.toInt.toNat v27) 118 37 = _ from ((hk_ot rfl).trans ((hk_ot rfl).trans q_v29))) ?_
          refine qm_Rp.go 2 (c' := (27, [.ref 118, .int 0, .int v27], [.int (v29 + 1), .ref 118], (h.1, qm_up (qm_up I 141 v29.toInt.toNat 0) 142 v29.toInt.toNat v27, h.2.2.1, h.2.2.2))) rfl ?_
          obtain ⟨v32, q_v32, e_v32⟩ := hk_add (x := v29) (y := 1) (a := v29.toInt) (b := 1) rfl rfl (by omega) (by omega)
          rw [q_v32]
          refine hp_puti rfl (hH.1 118 (17, 105) rfl) rfl ?_
          refine qm_Rp.go 0 (c' := (30, [.ref 118, .int 0, .int v27], [], (h.1, qm_up (qm_up (qm_up I 141 v29.toInt.toNat 0) 142 v29.toInt.toNat v27) 118 37 v32, h.2.2.1, h.2.2.2))) rfl ?_
          refine qm_Rp.rt (v := none) (h' := (h.1, qm_up (qm_up (qm_up I 141 v29.toInt.toNat 0) 142 v29.toInt.toNat v27) 118 37 v32, h.2.2.1, h.2.2.2)) rfl ?_
          refine qm_Rp.go 1 (c' := (23, [.ref 118], [.ref 118], (h.1, qm_up (qm_up (qm_up I 141 v29.toInt.toNat 0) 142 v29.toInt.toNat v27) 118 37 v32, h.2.2.1, h.2.2.2))) rfl ?_
          refine hp_inv (o := 118) (r := []) (as := [.ref 118]) rfl rfl (hH.1 118 (17, 105) rfl) rfl rfl rfl (px_go (h := (h.1, qm_up (qm_up (qm_up I 141 v29.toInt.toNat 0) 142 v29.toInt.toNat v27) 118 37 v32, h.2.2.1, h.2.2.2)) hH (show (qm_up (qm_up (qm_up I 141 v29.toInt.toNat 0) 142 v29.toInt.toNat v27) 118 37 v32) 118 11 = _ from ((hk_neq (by decide)).trans ((hk_ot rfl).trans ((hk_ot rfl).trans q_t)))) (show (qm_up (qm_up (qm_up I 141 v29.toInt.toNat 0) 142 v29.toInt.toNat v27) 118 37 v32) 118 13 = _ from ((hk_neq (by decide)).trans ((hk_ot rfl).trans ((hk_ot rfl).trans q_f)))) htb_kv1 (fun fp33 q_fp33 x4_fp33 => ?_) (fun t34 e_t34 x4_t34 => ?_))
          · have ex_fp33 : fp33 = pv2 := (q_fp33.symm.trans (show (qm_up (qm_up (qm_up I 141 v29.toInt.toNat 0) 142 v29.toInt.toNat v27) 118 37 v32) 122 t.toInt.toNat = _ from ((hk_ot rfl).trans ((hk_ot rfl).trans ((hk_ot rfl).trans ((e 122 rfl t.toInt.toNat).trans q_pv2))))))
            have kq35 : tK B n t.toInt.toNat ≠ 37 := rTk_P (P := fun x => x ≠ 6 ∧ x = 2) (Q := fun d => d ≠ 37) ht_kv1 (by decide +kernel) ⟨z4, z6⟩
            have kq36 : tK B n t.toInt.toNat = 25 ∨ (12 ≤ tK B n t.toInt.toNat ∧ tK B n t.toInt.toNat ≤ 24) := rTk_P (P := fun x => x ≠ 6 ∧ x = 2) (Q := fun d => d = 25 ∨ (12 ≤ d ∧ d ≤ 24)) ht_kv1 (by decide +kernel) ⟨z4, z6⟩
            have rf37 : rfin B n 2 fp33 := r2_go hF kq35 (fo_7b ⟨haw, kq36⟩) (by decide) x4_fp33 rfl ((congrArg Int32.toInt ex_fp33).trans hp_kv1)
            refine qm_Rp.go 1 (c' := (93, [.ref 118], [], (h.1, qm_up (qm_up (qm_up (qm_up (qm_up I 141 v29.toInt.toNat 0) 142 v29.toInt.toNat v27) 118 37 v32) 118 13 2) 118 14 fp33, h.2.2.1, h.2.2.2))) rfl ?_
            refine qm_Rp.rt (v := none) (h' := (h.1, qm_up (qm_up (qm_up (qm_up (qm_up I 141 v29.toInt.toNat 0) 142 v29.toInt.toNat v27) 118 37 v32) 118 13 2) 118 14 fp33, h.2.2.1, h.2.2.2)) rfl ?_
            refine qm_Rp.go 1 (c' := (89, [.ref 118, .int 0, l2], [.ref 118], (h.1, qm_up (qm_up (qm_up (qm_up (qm_up I 141 v29.toInt.toNat 0) 142 v29.toInt.toNat v27) 118 37 v32) 118 13 2) 118 14 fp33, h.2.2.1, h.2.2.2))) rfl ?_
            refine hp_geti (v := 2) rfl (hH.1 118 (17, 105) rfl) rfl (show (qm_up (qm_up (qm_up (qm_up (qm_up I 141 v29.toInt.toNat 0) 142 v29.toInt.toNat v27) 118 37 v32) 118 13 2) 118 14 fp33) 118 13 = _ from ((hk_neq (by decide)).trans (hk_same))) ?_
            refine qm_Rp.go 1 (c' := (95, [.ref 118, .int 0, l2], [], (h.1, qm_up (qm_up (qm_up (qm_up (qm_up I 141 v29.toInt.toNat 0) 142 v29.toInt.toNat v27) 118 37 v32) 118 13 2) 118 14 fp33, h.2.2.1, h.2.2.2))) rfl ?_
            refine qm_Rp.rt (v := none) (h' := (h.1, qm_up (qm_up (qm_up (qm_up (qm_up I 141 v29.toInt.toNat 0) 142 v29.toInt.toNat v27) 118 37 v32) 118 13 2) 118 14 fp33, h.2.2.1, h.2.2.2)) rfl ?_
            exact k1 (qm_up (qm_up (qm_up (qm_up (qm_up I 141 v29.toInt.toNat 0) 142 v29.toInt.toNat v27) 118 37 v32) 118 13 2) 118 14 fp33) 2 fp33 op (fun o ho i => ((hk_mod ho rfl).trans ((hk_mod ho rfl).trans ((hk_mod ho rfl).trans ((hk_mod ho rfl).trans ((hk_mod ho rfl).trans ((e o (hk_ms rfl ho) i).trans rfl))))))) (fun i hi => ((hk_neq (fun z => by subst z; cases hi)).trans ((hk_neq (fun z => by subst z; cases hi)).trans ((hk_neq (fun z => by subst z; cases hi)).trans ((hk_ot rfl).trans ((hk_ot rfl).trans ((e8 i (hk_ms rfl hi)).trans rfl))))))) (show (qm_up (qm_up (qm_up (qm_up (qm_up I 141 v29.toInt.toNat 0) 142 v29.toInt.toNat v27) 118 37 v32) 118 13 2) 118 14 fp33) 118 12 = _ from ((hk_neq (by decide)).trans ((hk_neq (by decide)).trans ((hk_neq (by decide)).trans ((hk_ot rfl).trans ((hk_ot rfl).trans q_op)))))) (show (qm_up (qm_up (qm_up (qm_up (qm_up I 141 v29.toInt.toNat 0) 142 v29.toInt.toNat v27) 118 37 v32) 118 13 2) 118 14 fp33) 118 13 = _ from ((hk_neq (by decide)).trans (hk_same))) (show (qm_up (qm_up (qm_up (qm_up (qm_up I 141 v29.toInt.toNat 0) 142 v29.toInt.toNat v27) 118 37 v32) 118 13 2) 118 14 fp33) 118 14 = _ from (hk_same)) rf37
          · have t0_t34 := q_t0 e_t34 ht0
            have kq39 : tK B n t.toInt.toNat = 25 ∨ (12 ≤ tK B n t.toInt.toNat ∧ tK B n t.toInt.toNat ≤ 24) := rTk_P (P := fun x => x ≠ 6 ∧ x = 2) (Q := fun d => d = 25 ∨ (12 ≤ d ∧ d ≤ 24)) ht_kv1 (by decide +kernel) ⟨z4, z6⟩
            have hF38 : fS B n t34.toInt.toNat = some (9, td, dp, rt, nm, lf, lp, b, li, tr, be, lt, pr, pl, T) := q_unit hF haw kq39 ht0 x4_t34 e_t34
            refine qm_Rp.go 1 (c' := (93, [.ref 118], [], (h.1, qm_up (qm_up (qm_up (qm_up I 141 v29.toInt.toNat 0) 142 v29.toInt.toNat v27) 118 37 v32) 118 11 t34, h.2.2.1, h.2.2.2))) rfl ?_
            refine qm_Rp.rt (v := none) (h' := (h.1, qm_up (qm_up (qm_up (qm_up I 141 v29.toInt.toNat 0) 142 v29.toInt.toNat v27) 118 37 v32) 118 11 t34, h.2.2.1, h.2.2.2)) rfl ?_
            refine qm_Rp.go 1 (c' := (89, [.ref 118, .int 0, l2], [.ref 118], (h.1, qm_up (qm_up (qm_up (qm_up I 141 v29.toInt.toNat 0) 142 v29.toInt.toNat v27) 118 37 v32) 118 11 t34, h.2.2.1, h.2.2.2))) rfl ?_
            refine hp_geti (v := 0) rfl (hH.1 118 (17, 105) rfl) rfl (show (qm_up (qm_up (qm_up (qm_up I 141 v29.toInt.toNat 0) 142 v29.toInt.toNat v27) 118 37 v32) 118 11 t34) 118 13 = _ from ((hk_neq (by decide)).trans ((hk_neq (by decide)).trans ((hk_ot rfl).trans ((hk_ot rfl).trans q_f))))) ?_
            refine qm_Rp.go 1 (c' := (96, [.ref 118, .int 0, l2], [], (h.1, qm_up (qm_up (qm_up (qm_up I 141 v29.toInt.toNat 0) 142 v29.toInt.toNat v27) 118 37 v32) 118 11 t34, h.2.2.1, h.2.2.2))) rfl ?_
            exact (ih g hg).2 (qm_up (qm_up (qm_up (qm_up I 141 v29.toInt.toNat 0) 142 v29.toInt.toNat v27) 118 37 v32) 118 11 t34) t34 op 9 dp (fun o ho i => ((hk_mod ho rfl).trans ((hk_mod ho rfl).trans ((hk_mod ho rfl).trans ((hk_mod ho rfl).trans ((e o (hk_ms rfl ho) i).trans rfl)))))) (fun i hi => ((hk_neq (fun z => by subst z; cases hi)).trans ((hk_neq (fun z => by subst z; cases hi)).trans ((hk_ot rfl).trans ((hk_ot rfl).trans ((e8 i (hk_ms rfl hi)).trans rfl)))))) (show (qm_up (qm_up (qm_up (qm_up I 141 v29.toInt.toNat 0) 142 v29.toInt.toNat v27) 118 37 v32) 118 11 t34) 118 11 = _ from (hk_same)) (show (qm_up (qm_up (qm_up (qm_up I 141 v29.toInt.toNat 0) 142 v29.toInt.toNat v27) 118 37 v32) 118 11 t34) 118 12 = _ from ((hk_neq (by decide)).trans ((hk_neq (by decide)).trans ((hk_ot rfl).trans ((hk_ot rfl).trans q_op))))) (show (qm_up (qm_up (qm_up (qm_up I 141 v29.toInt.toNat 0) 142 v29.toInt.toNat v27) 118 37 v32) 118 11 t34) 118 13 = _ from ((hk_neq (by decide)).trans ((hk_neq (by decide)).trans ((hk_ot rfl).trans ((hk_ot rfl).trans q_f))))) t0_t34 hF38 rfl hop _
      · refine qm_Rp.go 2 (c' := (25, [.ref 118, .int 6], [.int 1], (h.1, I, h.2.2.1, h.2.2.2))) rfl ?_
        refine qm_Rp.rt (v := (some (.int 1))) (h' := (h.1, I, h.2.2.1, h.2.2.2)) rfl ?_
        refine qm_Rp.go 2 (c' := (33, [.ref 118, .int 0, l2], [.ref 118], (h.1, I, h.2.2.1, h.2.2.2))) rfl ?_
        refine hp_geti (v := op) rfl (hH.1 118 (17, 105) rfl) rfl q_op ?_
        refine qm_Rp.go 1 (c' := (38, [.ref 118, .int 0, l2], [.int 6, .int op], (h.1, I, h.2.2.1, h.2.2.2))) rfl ?_
        refine hp_cne (ix := op.toInt) (iy := 6) rfl rfl rfl (fun z40 => ?_) (fun z40 => ?_)
        · refine qm_Rp.go 2 (c' := (48, [.ref 118, .int 0, l2], [.ref 118, .ref 118], (h.1, I, h.2.2.1, h.2.2.2))) rfl ?_
          refine hp_geti (v := op) rfl (hH.1 118 (17, 105) rfl) rfl q_op ?_
          refine qm_Rp.go 2 (c' := (53, [.ref 118, .int 0, l2], [.int (op + 1), .ref 118], (h.1, I, h.2.2.1, h.2.2.2))) rfl ?_
          obtain ⟨v41, q_v41, e_v41⟩ := hk_add (x := op) (y := 1) (a := op.toInt) (b := 1) rfl rfl (by omega) (by omega)
          rw [q_v41]
          refine hp_puti rfl (hH.1 118 (17, 105) rfl) rfl ?_
          refine qm_Rp.go 0 (c' := (56, [.ref 118, .int 0, l2], [], (h.1, qm_up I 118 12 v41, h.2.2.1, h.2.2.2))) rfl ?_
          refine qm_Rp.go 1 (c' := (57, [.ref 118, .int 0, l2], [.ref 118], (h.1, qm_up I 118 12 v41, h.2.2.1, h.2.2.2))) rfl ?_
          refine hp_inv (o := 118) (r := []) (as := [.ref 118]) rfl rfl (hH.1 118 (17, 105) rfl) rfl rfl rfl (px_go (h := (h.1, qm_up I 118 12 v41, h.2.2.1, h.2.2.2)) hH (show (qm_up I 118 12 v41) 118 11 = _ from ((hk_neq (by decide)).trans q_t)) (show (qm_up I 118 12 v41) 118 13 = _ from ((hk_neq (by decide)).trans q_f)) htb_kv1 (fun fp42 q_fp42 x4_fp42 => ?_) (fun t43 e_t43 x4_t43 => ?_))
          · have ex_fp42 : fp42 = pv2 := (q_fp42.symm.trans (show (qm_up I 118 12 v41) 122 t.toInt.toNat = _ from ((hk_ot rfl).trans ((e 122 rfl t.toInt.toNat).trans q_pv2))))
            have kq44 : tK B n t.toInt.toNat ≠ 37 := rTk_P (P := fun x => x = 6) (Q := fun d => d ≠ 37) ht_kv1 (by decide +kernel) z4
            have kq45 : tK B n t.toInt.toNat = 35 := rTk_P (P := fun x => x = 6) (Q := fun d => d = 35) ht_kv1 (by decide +kernel) z4
            have rf46 : rfin B n 2 fp42 := r2_go hF kq44 (fo_7c ⟨haw, kq45⟩) (by decide) x4_fp42 rfl ((congrArg Int32.toInt ex_fp42).trans hp_kv1)
            refine qm_Rp.go 1 (c' := (61, [.ref 118, .int 0, l2], [.ref 118], (h.1, qm_up (qm_up (qm_up I 118 12 v41) 118 13 2) 118 14 fp42, h.2.2.1, h.2.2.2))) rfl ?_
            refine hp_getr rfl (hH.1 118 (17, 105) rfl) rfl (hH.2 118 40 (some 143) rfl) ?_
            refine qm_Rp.go 1 (c' := (65, [.ref 118, .int 0, l2], [.ref 118, .ref 143], (h.1, qm_up (qm_up (qm_up I 118 12 v41) 118 13 2) 118 14 fp42, h.2.2.1, h.2.2.2))) rfl ?_
            obtain ⟨v47, q_v47⟩ : ∃ v_, I 118 41 = v_ := ⟨_, rfl⟩
            refine hp_geti (v := v47) rfl (hH.1 118 (17, 105) rfl) rfl (show (qm_up (qm_up (qm_up I 118 12 v41) 118 13 2) 118 14 fp42) 118 41 = _ from ((hk_neq (by decide)).trans ((hk_neq (by decide)).trans ((hk_neq (by decide)).trans q_v47)))) ?_
            refine qm_Rp.go 1 (c' := (70, [.ref 118, .int 0, l2], [.int 6, .int v47, .ref 143], (h.1, qm_up (qm_up (qm_up I 118 12 v41) 118 13 2) 118 14 fp42, h.2.2.1, h.2.2.2))) rfl ?_
            refine hp_ias rfl (hH.1 143 (0, 64) rfl) (fun ia_47 ib_47 => ?_)
            refine qm_Rp.go 2 (c' := (73, [.ref 118, .int 0, l2], [.ref 118, .ref 118], (h.1, qm_up (qm_up (qm_up (qm_up I 118 12 v41) 118 13 2) 118 14 fp42) 143 v47.toInt.toNat 6, h.2.2.1, h.2.2.2))) rfl ?_
            refine hp_geti (v := v47) rfl (hH.1 118 (17, 105) rfl) rfl (show (qm_up (qm_up (qm_up (qm_up I 118 12 v41) 118 13 2) 118 14 fp42) 143 v47.toInt.toNat 6) 118 41 = _ from ((hk_ot rfl).trans ((hk_neq (by decide)).trans ((hk_neq (by decide)).trans ((hk_neq (by decide)).trans q_v47))))) ?_
            refine qm_Rp.go 2 (c' := (78, [.ref 118, .int 0, l2], [.int (v47 + 1), .ref 118], (h.1, qm_up (qm_up (qm_up (qm_up I 118 12 v41) 118 13 2) 118 14 fp42) 143 v47.toInt.toNat 6, h.2.2.1, h.2.2.2))) rfl ?_
            obtain ⟨v49, q_v49, e_v49⟩ := hk_add (x := v47) (y := 1) (a := v47.toInt) (b := 1) rfl rfl (by omega) (by omega)
            rw [q_v49]
            refine hp_puti rfl (hH.1 118 (17, 105) rfl) rfl ?_
            refine qm_Rp.go 1 (c' := (23, [.ref 118, .int 0, l2], [], (h.1, qm_up (qm_up (qm_up (qm_up (qm_up I 118 12 v41) 118 13 2) 118 14 fp42) 143 v47.toInt.toNat 6) 118 41 v49, h.2.2.1, h.2.2.2))) rfl ?_
            refine qm_Rp.go 2 (c' := (26, [.ref 118, .int 0, l2], [.int 6, .ref 118], (h.1, qm_up (qm_up (qm_up (qm_up (qm_up I 118 12 v41) 118 13 2) 118 14 fp42) 143 v47.toInt.toNat 6) 118 41 v49, h.2.2.1, h.2.2.2))) rfl ?_
            refine hp_inv (o := 118) (r := []) (as := [.ref 118, .int 6]) rfl rfl (hH.1 118 (17, 105) rfl) rfl rfl rfl ?_
            refine qm_Rp.go 1 (c' := (1, [.ref 118, .int 6], [.ref 118], (h.1, qm_up (qm_up (qm_up (qm_up (qm_up I 118 12 v41) 118 13 2) 118 14 fp42) 143 v47.toInt.toNat 6) 118 41 v49, h.2.2.1, h.2.2.2))) rfl ?_
            refine hp_geti (v := 2) rfl (hH.1 118 (17, 105) rfl) rfl (show (qm_up (qm_up (qm_up (qm_up (qm_up I 118 12 v41) 118 13 2) 118 14 fp42) 143 v47.toInt.toNat 6) 118 41 v49) 118 13 = _ from ((hk_neq (by decide)).trans ((hk_ot rfl).trans ((hk_neq (by decide)).trans (hk_same))))) ?_
            refine qm_Rp.go 2 (c' := (25, [.ref 118, .int 6], [.int 0], (h.1, qm_up (qm_up (qm_up (qm_up (qm_up I 118 12 v41) 118 13 2) 118 14 fp42) 143 v47.toInt.toNat 6) 118 41 v49, h.2.2.1, h.2.2.2))) rfl ?_
            refine qm_Rp.rt (v := (some (.int 0))) (h' := (h.1, qm_up (qm_up (qm_up (qm_up (qm_up I 118 12 v41) 118 13 2) 118 14 fp42) 143 v47.toInt.toNat 6) 118 41 v49, h.2.2.1, h.2.2.2)) rfl ?_
            refine qm_Rp.go 2 (c' := (85, [.ref 118, .int 0, l2], [.ref 118], (h.1, qm_up (qm_up (qm_up (qm_up (qm_up I 118 12 v41) 118 13 2) 118 14 fp42) 143 v47.toInt.toNat 6) 118 41 v49, h.2.2.1, h.2.2.2))) rfl ?_
            refine hp_inv (o := 118) (r := []) (as := [.ref 118]) rfl rfl (hH.1 118 (17, 105) rfl) rfl rfl rfl ?_
            refine qm_Rp.go 0 (c' := (0, [.ref 118], [], (h.1, qm_up (qm_up (qm_up (qm_up (qm_up I 118 12 v41) 118 13 2) 118 14 fp42) 143 v47.toInt.toNat 6) 118 41 v49, h.2.2.1, h.2.2.2))) rfl ?_
            refine qm_Rp.go 2 (c' := (2, [.ref 118], [.int 2, .ref 118], (h.1, qm_up (qm_up (qm_up (qm_up (qm_up I 118 12 v41) 118 13 2) 118 14 fp42) 143 v47.toInt.toNat 6) 118 41 v49, h.2.2.1, h.2.2.2))) rfl ?_
            refine hp_inv (o := 118) (r := []) (as := [.ref 118, .int 2]) rfl rfl (hH.1 118 (17, 105) rfl) rfl rfl rfl ?_
            refine qm_Rp.go 1 (c' := (1, [.ref 118, .int 2], [.ref 118], (h.1, qm_up (qm_up (qm_up (qm_up (qm_up I 118 12 v41) 118 13 2) 118 14 fp42) 143 v47.toInt.toNat 6) 118 41 v49, h.2.2.1, h.2.2.2))) rfl ?_
            refine hp_geti (v := 2) rfl (hH.1 118 (17, 105) rfl) rfl (show (qm_up (qm_up (qm_up (qm_up (qm_up I 118 12 v41) 118 13 2) 118 14 fp42) 143 v47.toInt.toNat 6) 118 41 v49) 118 13 = _ from ((hk_neq (by decide)).trans ((hk_ot rfl).trans ((hk_neq (by decide)).trans (hk_same))))) ?_
            refine qm_Rp.go 2 (c' := (25, [.ref 118, .int 2], [.int 0], (h.1, qm_up (qm_up (qm_up (qm_up (qm_up I 118 12 v41) 118 13 2) 118 14 fp42) 143 v47.toInt.toNat 6) 118 41 v49, h.2.2.1, h.2.2.2))) rfl ?_
            refine qm_Rp.rt (v := (some (.int 0))) (h' := (h.1, qm_up (qm_up (qm_up (qm_up (qm_up I 118 12 v41) 118 13 2) 118 14 fp42) 143 v47.toInt.toNat 6) 118 41 v49, h.2.2.1, h.2.2.2)) rfl ?_
            refine qm_Rp.go 2 (c' := (30, [.ref 118], [.ref 118], (h.1, qm_up (qm_up (qm_up (qm_up (qm_up I 118 12 v41) 118 13 2) 118 14 fp42) 143 v47.toInt.toNat 6) 118 41 v49, h.2.2.1, h.2.2.2))) rfl ?_
            refine hp_geti (v := 2) rfl (hH.1 118 (17, 105) rfl) rfl (show (qm_up (qm_up (qm_up (qm_up (qm_up I 118 12 v41) 118 13 2) 118 14 fp42) 143 v47.toInt.toNat 6) 118 41 v49) 118 13 = _ from ((hk_neq (by decide)).trans ((hk_ot rfl).trans ((hk_neq (by decide)).trans (hk_same))))) ?_
            refine qm_Rp.go 3 (c' := (90, [.ref 118], [.int 1, .ref 118], (h.1, qm_up (qm_up (qm_up (qm_up (qm_up I 118 12 v41) 118 13 2) 118 14 fp42) 143 v47.toInt.toNat 6) 118 41 v49, h.2.2.1, h.2.2.2))) rfl ?_
            refine hp_inv (o := 118) (r := []) (as := [.ref 118, .int 1]) rfl rfl (hH.1 118 (17, 105) rfl) rfl rfl rfl ?_
            refine qm_Rp.go 1 (c' := (1, [.ref 118, .int 1], [.ref 118], (h.1, qm_up (qm_up (qm_up (qm_up (qm_up I 118 12 v41) 118 13 2) 118 14 fp42) 143 v47.toInt.toNat 6) 118 41 v49, h.2.2.1, h.2.2.2))) rfl ?_
            refine hp_geti (v := 2) rfl (hH.1 118 (17, 105) rfl) rfl (show (qm_up (qm_up (qm_up (qm_up (qm_up I 118 12 v41) 118 13 2) 118 14 fp42) 143 v47.toInt.toNat 6) 118 41 v49) 118 13 = _ from ((hk_neq (by decide)).trans ((hk_ot rfl).trans ((hk_neq (by decide)).trans (hk_same))))) ?_
            refine qm_Rp.go 1 (c' := (7, [.ref 118, .int 1], [], (h.1, qm_up (qm_up (qm_up (qm_up (qm_up I 118 12 v41) 118 13 2) 118 14 fp42) 143 v47.toInt.toNat 6) 118 41 v49, h.2.2.1, h.2.2.2))) rfl ?_
            refine qm_Rp.rt (v := none) (h' := (h.1, qm_up (qm_up (qm_up (qm_up (qm_up I 118 12 v41) 118 13 2) 118 14 fp42) 143 v47.toInt.toNat 6) 118 41 v49, h.2.2.1, h.2.2.2)) rfl ?_
            refine qm_Rp.go 0 (c' := (93, [.ref 118], [], (h.1, qm_up (qm_up (qm_up (qm_up (qm_up I 118 12 v41) 118 13 2) 118 14 fp42) 143 v47.toInt.toNat 6) 118 41 v49, h.2.2.1, h.2.2.2))) rfl ?_
            refine qm_Rp.rt (v := none) (h' := (h.1, qm_up (qm_up (qm_up (qm_up (qm_up I 118 12 v41) 118 13 2) 118 14 fp42) 143 v47.toInt.toNat 6) 118 41 v49, h.2.2.1, h.2.2.2)) rfl ?_
            refine qm_Rp.go 1 (c' := (89, [.ref 118, .int 0, l2], [.ref 118], (h.1, qm_up (qm_up (qm_up (qm_up (qm_up I 118 12 v41) 118 13 2) 118 14 fp42) 143 v47.toInt.toNat 6) 118 41 v49, h.2.2.1, h.2.2.2))) rfl ?_
            refine hp_geti (v := 2) rfl (hH.1 118 (17, 105) rfl) rfl (show (qm_up (qm_up (qm_up (qm_up (qm_up I 118 12 v41) 118 13 2) 118 14 fp42) 143 v47.toInt.toNat 6) 118 41 v49) 118 13 = _ from ((hk_neq (by decide)).trans ((hk_ot rfl).trans ((hk_neq (by decide)).trans (hk_same))))) ?_
            refine qm_Rp.go 1 (c' := (95, [.ref 118, .int 0, l2], [], (h.1, qm_up (qm_up (qm_up (qm_up (qm_up I 118 12 v41) 118 13 2) 118 14 fp42) 143 v47.toInt.toNat 6) 118 41 v49, h.2.2.1, h.2.2.2))) rfl ?_
            refine qm_Rp.rt (v := none) (h' := (h.1, qm_up (qm_up (qm_up (qm_up (qm_up I 118 12 v41) 118 13 2) 118 14 fp42) 143 v47.toInt.toNat 6) 118 41 v49, h.2.2.1, h.2.2.2)) rfl ?_
            exact k1 (qm_up (qm_up (qm_up (qm_up (qm_up I 118 12 v41) 118 13 2) 118 14 fp42) 143 v47.toInt.toNat 6) 118 41 v49) 2 fp42 v41 (fun o ho i => ((hk_mod ho rfl).trans ((hk_mod ho rfl).trans ((hk_mod ho rfl).trans ((hk_mod ho rfl).trans ((hk_mod ho rfl).trans ((e o (hk_ms rfl ho) i).trans rfl))))))) (fun i hi => ((hk_neq (fun z => by subst z; cases hi)).trans ((hk_ot rfl).trans ((hk_neq (fun z => by subst z; cases hi)).trans ((hk_neq (fun z => by subst z; cases hi)).trans ((hk_neq (fun z => by subst z; cases hi)).trans ((e8 i (hk_ms rfl hi)).trans rfl))))))) (show (qm_up (qm_up (qm_up (qm_up (qm_up I 118 12 v41) 118 13 2) 118 14 fp42) 143 v47.toInt.toNat 6) 118 41 v49) 118 12 = _ from ((hk_neq (by decide)).trans ((hk_ot rfl).trans ((hk_neq (by decide)).trans ((hk_neq (by decide)).trans (hk_same)))))) (show (qm_up (qm_up (qm_up (qm_up (qm_up I 118 12 v41) 118 13 2) 118 14 fp42) 143 v47.toInt.toNat 6) 118 41 v49) 118 13 = _ from ((hk_neq (by decide)).trans ((hk_ot rfl).trans ((hk_neq (by decide)).trans (hk_same))))) (show (qm_up (qm_up (qm_up (qm_up (qm_up I 118 12 v41) 118 13 2) 118 14 fp42) 143 v47.toInt.toNat 6) 118 41 v49) 118 14 = _ from ((hk_neq (by decide)).trans ((hk_ot rfl).trans (hk_same)))) rf46
          · have t0_t43 := q_t0 e_t43 ht0
            have kq51 : tK B n t.toInt.toNat = 35 := rTk_P (P := fun x => x = 6) (Q := fun d => d = 35) ht_kv1 (by decide +kernel) z4
            have hF50 : fS B n t43.toInt.toNat = some (8, td, (dp + 1), rt, nm, lf, lp, b, li, tr, be, lt, pr, pl, T) := q_open hF haw kq51 (q_d6n hop z40) ht0 x4_t43 e_t43
            refine qm_Rp.go 1 (c' := (61, [.ref 118, .int 0, l2], [.ref 118], (h.1, qm_up (qm_up I 118 12 v41) 118 11 t43, h.2.2.1, h.2.2.2))) rfl ?_
            refine hp_getr rfl (hH.1 118 (17, 105) rfl) rfl (hH.2 118 40 (some 143) rfl) ?_
            refine qm_Rp.go 1 (c' := (65, [.ref 118, .int 0, l2], [.ref 118, .ref 143], (h.1, qm_up (qm_up I 118 12 v41) 118 11 t43, h.2.2.1, h.2.2.2))) rfl ?_
            obtain ⟨v52, q_v52⟩ : ∃ v_, I 118 41 = v_ := ⟨_, rfl⟩
            refine hp_geti (v := v52) rfl (hH.1 118 (17, 105) rfl) rfl (show (qm_up (qm_up I 118 12 v41) 118 11 t43) 118 41 = _ from ((hk_neq (by decide)).trans ((hk_neq (by decide)).trans q_v52))) ?_
            refine qm_Rp.go 1 (c' := (70, [.ref 118, .int 0, l2], [.int 6, .int v52, .ref 143], (h.1, qm_up (qm_up I 118 12 v41) 118 11 t43, h.2.2.1, h.2.2.2))) rfl ?_
            refine hp_ias rfl (hH.1 143 (0, 64) rfl) (fun ia_52 ib_52 => ?_)
            refine qm_Rp.go 2 (c' := (73, [.ref 118, .int 0, l2], [.ref 118, .ref 118], (h.1, qm_up (qm_up (qm_up I 118 12 v41) 118 11 t43) 143 v52.toInt.toNat 6, h.2.2.1, h.2.2.2))) rfl ?_
            refine hp_geti (v := v52) rfl (hH.1 118 (17, 105) rfl) rfl (show (qm_up (qm_up (qm_up I 118 12 v41) 118 11 t43) 143 v52.toInt.toNat 6) 118 41 = _ from ((hk_ot rfl).trans ((hk_neq (by decide)).trans ((hk_neq (by decide)).trans q_v52)))) ?_
            refine qm_Rp.go 2 (c' := (78, [.ref 118, .int 0, l2], [.int (v52 + 1), .ref 118], (h.1, qm_up (qm_up (qm_up I 118 12 v41) 118 11 t43) 143 v52.toInt.toNat 6, h.2.2.1, h.2.2.2))) rfl ?_
            obtain ⟨v54, q_v54, e_v54⟩ := hk_add (x := v52) (y := 1) (a := v52.toInt) (b := 1) rfl rfl (by omega) (by omega)
            rw [q_v54]
            refine hp_puti rfl (hH.1 118 (17, 105) rfl) rfl ?_
            refine qm_Rp.go 1 (c' := (23, [.ref 118, .int 0, l2], [], (h.1, qm_up (qm_up (qm_up (qm_up I 118 12 v41) 118 11 t43) 143 v52.toInt.toNat 6) 118 41 v54, h.2.2.1, h.2.2.2))) rfl ?_
            exact (ih g hg).1 (qm_up (qm_up (qm_up (qm_up I 118 12 v41) 118 11 t43) 143 v52.toInt.toNat 6) 118 41 v54) t43 v41 8 (dp + 1) (fun o ho i => ((hk_mod ho rfl).trans ((hk_mod ho rfl).trans ((hk_mod ho rfl).trans ((hk_mod ho rfl).trans ((e o (hk_ms rfl ho) i).trans rfl)))))) (fun i hi => ((hk_neq (fun z => by subst z; cases hi)).trans ((hk_ot rfl).trans ((hk_neq (fun z => by subst z; cases hi)).trans ((hk_neq (fun z => by subst z; cases hi)).trans ((e8 i (hk_ms rfl hi)).trans rfl)))))) (show (qm_up (qm_up (qm_up (qm_up I 118 12 v41) 118 11 t43) 143 v52.toInt.toNat 6) 118 41 v54) 118 11 = _ from ((hk_neq (by decide)).trans ((hk_ot rfl).trans (hk_same)))) (show (qm_up (qm_up (qm_up (qm_up I 118 12 v41) 118 11 t43) 143 v52.toInt.toNat 6) 118 41 v54) 118 12 = _ from ((hk_neq (by decide)).trans ((hk_ot rfl).trans ((hk_neq (by decide)).trans (hk_same))))) (show (qm_up (qm_up (qm_up (qm_up I 118 12 v41) 118 11 t43) 143 v52.toInt.toNat 6) 118 41 v54) 118 13 = _ from ((hk_neq (by decide)).trans ((hk_ot rfl).trans ((hk_neq (by decide)).trans ((hk_neq (by decide)).trans q_f))))) t0_t43 hF50 (Or.inr rfl) (q_hop1 e_v41 hop) (fun z => absurd z (by decide)) _
        · refine qm_Rp.go 2 (c' := (43, [.ref 118, .int 0, l2], [.int 2, .ref 118], (h.1, I, h.2.2.1, h.2.2.2))) rfl ?_
          refine hp_inv (o := 118) (r := []) (as := [.ref 118, .int 2]) rfl rfl (hH.1 118 (17, 105) rfl) rfl rfl rfl ?_
          refine qm_Rp.go 1 (c' := (1, [.ref 118, .int 2], [.ref 118], (h.1, I, h.2.2.1, h.2.2.2))) rfl ?_
          refine hp_geti (v := 0) rfl (hH.1 118 (17, 105) rfl) rfl q_f ?_
          refine qm_Rp.go 3 (c' := (10, [.ref 118, .int 2], [.int 2, .ref 118], (h.1, I, h.2.2.1, h.2.2.2))) rfl ?_
          refine hp_puti rfl (hH.1 118 (17, 105) rfl) rfl ?_
          refine qm_Rp.go 2 (c' := (15, [.ref 118, .int 2], [.ref 118, .ref 118], (h.1, qm_up I 118 13 2, h.2.2.1, h.2.2.2))) rfl ?_
          refine hp_getr rfl (hH.1 118 (17, 105) rfl) rfl (hH.2 118 6 (some 122) rfl) ?_
          refine qm_Rp.go 1 (c' := (19, [.ref 118, .int 2], [.ref 118, .ref 122, .ref 118], (h.1, qm_up I 118 13 2, h.2.2.1, h.2.2.2))) rfl ?_
          refine hp_geti (v := t) rfl (hH.1 118 (17, 105) rfl) rfl (show (qm_up I 118 13 2) 118 11 = _ from ((hk_neq (by decide)).trans q_t)) ?_
          refine qm_Rp.go 0 (c' := (22, [.ref 118, .int 2], [.int t, .ref 122, .ref 118], (h.1, qm_up I 118 13 2, h.2.2.1, h.2.2.2))) rfl ?_
          refine hp_ial (v := pv2) rfl (hH.1 122 (0, 403) rfl) (show (qm_up I 118 13 2) 122 t.toInt.toNat = _ from ((hk_ot rfl).trans ((e 122 rfl t.toInt.toNat).trans q_pv2))) (fun ia_54 ib_54 => ?_)
          refine qm_Rp.go 0 (c' := (23, [.ref 118, .int 2], [.int pv2, .ref 118], (h.1, qm_up I 118 13 2, h.2.2.1, h.2.2.2))) rfl ?_
          refine hp_puti rfl (hH.1 118 (17, 105) rfl) rfl ?_
          refine qm_Rp.go 0 (c' := (26, [.ref 118, .int 2], [], (h.1, qm_up (qm_up I 118 13 2) 118 14 pv2, h.2.2.1, h.2.2.2))) rfl ?_
          refine qm_Rp.rt (v := none) (h' := (h.1, qm_up (qm_up I 118 13 2) 118 14 pv2, h.2.2.1, h.2.2.2)) rfl ?_
          refine qm_Rp.go 2 (c' := (48, [.ref 118, .int 0, l2], [.ref 118, .ref 118], (h.1, qm_up (qm_up I 118 13 2) 118 14 pv2, h.2.2.1, h.2.2.2))) rfl ?_
          refine hp_geti (v := op) rfl (hH.1 118 (17, 105) rfl) rfl (show (qm_up (qm_up I 118 13 2) 118 14 pv2) 118 12 = _ from ((hk_neq (by decide)).trans ((hk_neq (by decide)).trans q_op))) ?_
          refine qm_Rp.go 2 (c' := (53, [.ref 118, .int 0, l2], [.int (op + 1), .ref 118], (h.1, qm_up (qm_up I 118 13 2) 118 14 pv2, h.2.2.1, h.2.2.2))) rfl ?_
          obtain ⟨v56, q_v56, e_v56⟩ := hk_add (x := op) (y := 1) (a := op.toInt) (b := 1) rfl rfl (by omega) (by omega)
          rw [q_v56]
          refine hp_puti rfl (hH.1 118 (17, 105) rfl) rfl ?_
          refine qm_Rp.go 0 (c' := (56, [.ref 118, .int 0, l2], [], (h.1, qm_up (qm_up (qm_up I 118 13 2) 118 14 pv2) 118 12 v56, h.2.2.1, h.2.2.2))) rfl ?_
          refine qm_Rp.go 1 (c' := (57, [.ref 118, .int 0, l2], [.ref 118], (h.1, qm_up (qm_up (qm_up I 118 13 2) 118 14 pv2) 118 12 v56, h.2.2.1, h.2.2.2))) rfl ?_
          refine hp_inv (o := 118) (r := []) (as := [.ref 118]) rfl rfl (hH.1 118 (17, 105) rfl) rfl rfl rfl (px_gof (h := (h.1, qm_up (qm_up (qm_up I 118 13 2) 118 14 pv2) 118 12 v56, h.2.2.1, h.2.2.2)) hH (show (qm_up (qm_up (qm_up I 118 13 2) 118 14 pv2) 118 12 v56) 118 13 = _ from ((hk_neq (by decide)).trans ((hk_neq (by decide)).trans (hk_same)))) (by decide) (fun I57 e_I57 e8_I57 => ?_))
          have e_I57 : (∀ o, [118].contains o = false → ∀ i, I57 o i = (qm_up (qm_up (qm_up I 118 13 2) 118 14 pv2) 118 12 v56) o i) := e_I57
          have e8_I57 : (∀ i, [11].contains i = false → I57 118 i = (qm_up (qm_up (qm_up I 118 13 2) 118 14 pv2) 118 12 v56) 118 i) := e8_I57
          refine qm_Rp.go 1 (c' := (61, [.ref 118, .int 0, l2], [.ref 118], (h.1, I57, h.2.2.1, h.2.2.2))) rfl ?_
          refine hp_getr rfl (hH.1 118 (17, 105) rfl) rfl (hH.2 118 40 (some 143) rfl) ?_
          refine qm_Rp.go 1 (c' := (65, [.ref 118, .int 0, l2], [.ref 118, .ref 143], (h.1, I57, h.2.2.1, h.2.2.2))) rfl ?_
          obtain ⟨v58, q_v58⟩ : ∃ v_, I 118 41 = v_ := ⟨_, rfl⟩
          refine hp_geti (v := v58) rfl (hH.1 118 (17, 105) rfl) rfl (show (I57) 118 41 = _ from ((e8_I57 41 rfl).trans ((hk_neq (by decide)).trans ((hk_neq (by decide)).trans ((hk_neq (by decide)).trans q_v58))))) ?_
          refine qm_Rp.go 1 (c' := (70, [.ref 118, .int 0, l2], [.int 6, .int v58, .ref 143], (h.1, I57, h.2.2.1, h.2.2.2))) rfl ?_
          refine hp_ias rfl (hH.1 143 (0, 64) rfl) (fun ia_58 ib_58 => ?_)
          refine qm_Rp.go 2 (c' := (73, [.ref 118, .int 0, l2], [.ref 118, .ref 118], (h.1, qm_up I57 143 v58.toInt.toNat 6, h.2.2.1, h.2.2.2))) rfl ?_
          refine hp_geti (v := v58) rfl (hH.1 118 (17, 105) rfl) rfl (show (qm_up I57 143 v58.toInt.toNat 6) 118 41 = _ from ((hk_ot rfl).trans ((e8_I57 41 rfl).trans ((hk_neq (by decide)).trans ((hk_neq (by decide)).trans ((hk_neq (by decide)).trans q_v58)))))) ?_
          refine qm_Rp.go 2 (c' := (78, [.ref 118, .int 0, l2], [.int (v58 + 1), .ref 118], (h.1, qm_up I57 143 v58.toInt.toNat 6, h.2.2.1, h.2.2.2))) rfl ?_
          obtain ⟨v60, q_v60, e_v60⟩ := hk_add (x := v58) (y := 1) (a := v58.toInt) (b := 1) rfl rfl (by omega) (by omega)
          rw [q_v60]
          refine hp_puti rfl (hH.1 118 (17, 105) rfl) rfl ?_
          refine qm_Rp.go 1 (c' := (23, [.ref 118, .int 0, l2], [], (h.1, qm_up (qm_up I57 143 v58.toInt.toNat 6) 118 41 v60, h.2.2.1, h.2.2.2))) rfl ?_
          refine qm_Rp.go 2 (c' := (26, [.ref 118, .int 0, l2], [.int 6, .ref 118], (h.1, qm_up (qm_up I57 143 v58.toInt.toNat 6) 118 41 v60, h.2.2.1, h.2.2.2))) rfl ?_
          refine hp_inv (o := 118) (r := []) (as := [.ref 118, .int 6]) rfl rfl (hH.1 118 (17, 105) rfl) rfl rfl rfl ?_
          refine qm_Rp.go 1 (c' := (1, [.ref 118, .int 6], [.ref 118], (h.1, qm_up (qm_up I57 143 v58.toInt.toNat 6) 118 41 v60, h.2.2.1, h.2.2.2))) rfl ?_
          refine hp_geti (v := 2) rfl (hH.1 118 (17, 105) rfl) rfl (show (qm_up (qm_up I57 143 v58.toInt.toNat 6) 118 41 v60) 118 13 = _ from ((hk_neq (by decide)).trans ((hk_ot rfl).trans ((e8_I57 13 rfl).trans ((hk_neq (by decide)).trans ((hk_neq (by decide)).trans (hk_same))))))) ?_
          refine qm_Rp.go 2 (c' := (25, [.ref 118, .int 6], [.int 0], (h.1, qm_up (qm_up I57 143 v58.toInt.toNat 6) 118 41 v60, h.2.2.1, h.2.2.2))) rfl ?_
          refine qm_Rp.rt (v := (some (.int 0))) (h' := (h.1, qm_up (qm_up I57 143 v58.toInt.toNat 6) 118 41 v60, h.2.2.1, h.2.2.2)) rfl ?_
          refine qm_Rp.go 2 (c' := (85, [.ref 118, .int 0, l2], [.ref 118], (h.1, qm_up (qm_up I57 143 v58.toInt.toNat 6) 118 41 v60, h.2.2.1, h.2.2.2))) rfl ?_
          refine hp_inv (o := 118) (r := []) (as := [.ref 118]) rfl rfl (hH.1 118 (17, 105) rfl) rfl rfl rfl ?_
          refine qm_Rp.go 0 (c' := (0, [.ref 118], [], (h.1, qm_up (qm_up I57 143 v58.toInt.toNat 6) 118 41 v60, h.2.2.1, h.2.2.2))) rfl ?_
          refine qm_Rp.go 2 (c' := (2, [.ref 118], [.int 2, .ref 118], (h.1, qm_up (qm_up I57 143 v58.toInt.toNat 6) 118 41 v60, h.2.2.1, h.2.2.2))) rfl ?_
          refine hp_inv (o := 118) (r := []) (as := [.ref 118, .int 2]) rfl rfl (hH.1 118 (17, 105) rfl) rfl rfl rfl ?_
          refine qm_Rp.go 1 (c' := (1, [.ref 118, .int 2], [.ref 118], (h.1, qm_up (qm_up I57 143 v58.toInt.toNat 6) 118 41 v60, h.2.2.1, h.2.2.2))) rfl ?_
          refine hp_geti (v := 2) rfl (hH.1 118 (17, 105) rfl) rfl (show (qm_up (qm_up I57 143 v58.toInt.toNat 6) 118 41 v60) 118 13 = _ from ((hk_neq (by decide)).trans ((hk_ot rfl).trans ((e8_I57 13 rfl).trans ((hk_neq (by decide)).trans ((hk_neq (by decide)).trans (hk_same))))))) ?_
          refine qm_Rp.go 2 (c' := (25, [.ref 118, .int 2], [.int 0], (h.1, qm_up (qm_up I57 143 v58.toInt.toNat 6) 118 41 v60, h.2.2.1, h.2.2.2))) rfl ?_
          refine qm_Rp.rt (v := (some (.int 0))) (h' := (h.1, qm_up (qm_up I57 143 v58.toInt.toNat 6) 118 41 v60, h.2.2.1, h.2.2.2)) rfl ?_
          refine qm_Rp.go 2 (c' := (30, [.ref 118], [.ref 118], (h.1, qm_up (qm_up I57 143 v58.toInt.toNat 6) 118 41 v60, h.2.2.1, h.2.2.2))) rfl ?_
          refine hp_geti (v := 2) rfl (hH.1 118 (17, 105) rfl) rfl (show (qm_up (qm_up I57 143 v58.toInt.toNat 6) 118 41 v60) 118 13 = _ from ((hk_neq (by decide)).trans ((hk_ot rfl).trans ((e8_I57 13 rfl).trans ((hk_neq (by decide)).trans ((hk_neq (by decide)).trans (hk_same))))))) ?_
          refine qm_Rp.go 3 (c' := (90, [.ref 118], [.int 1, .ref 118], (h.1, qm_up (qm_up I57 143 v58.toInt.toNat 6) 118 41 v60, h.2.2.1, h.2.2.2))) rfl ?_
          refine hp_inv (o := 118) (r := []) (as := [.ref 118, .int 1]) rfl rfl (hH.1 118 (17, 105) rfl) rfl rfl rfl ?_
          refine qm_Rp.go 1 (c' := (1, [.ref 118, .int 1], [.ref 118], (h.1, qm_up (qm_up I57 143 v58.toInt.toNat 6) 118 41 v60, h.2.2.1, h.2.2.2))) rfl ?_
          refine hp_geti (v := 2) rfl (hH.1 118 (17, 105) rfl) rfl (show (qm_up (qm_up I57 143 v58.toInt.toNat 6) 118 41 v60) 118 13 = _ from ((hk_neq (by decide)).trans ((hk_ot rfl).trans ((e8_I57 13 rfl).trans ((hk_neq (by decide)).trans ((hk_neq (by decide)).trans (hk_same))))))) ?_
          refine qm_Rp.go 1 (c' := (7, [.ref 118, .int 1], [], (h.1, qm_up (qm_up I57 143 v58.toInt.toNat 6) 118 41 v60, h.2.2.1, h.2.2.2))) rfl ?_
          refine qm_Rp.rt (v := none) (h' := (h.1, qm_up (qm_up I57 143 v58.toInt.toNat 6) 118 41 v60, h.2.2.1, h.2.2.2)) rfl ?_
          refine qm_Rp.go 0 (c' := (93, [.ref 118], [], (h.1, qm_up (qm_up I57 143 v58.toInt.toNat 6) 118 41 v60, h.2.2.1, h.2.2.2))) rfl ?_
          refine qm_Rp.rt (v := none) (h' := (h.1, qm_up (qm_up I57 143 v58.toInt.toNat 6) 118 41 v60, h.2.2.1, h.2.2.2)) rfl ?_
          refine qm_Rp.go 1 (c' := (89, [.ref 118, .int 0, l2], [.ref 118], (h.1, qm_up (qm_up I57 143 v58.toInt.toNat 6) 118 41 v60, h.2.2.1, h.2.2.2))) rfl ?_
          refine hp_geti (v := 2) rfl (hH.1 118 (17, 105) rfl) rfl (show (qm_up (qm_up I57 143 v58.toInt.toNat 6) 118 41 v60) 118 13 = _ from ((hk_neq (by decide)).trans ((hk_ot rfl).trans ((e8_I57 13 rfl).trans ((hk_neq (by decide)).trans ((hk_neq (by decide)).trans (hk_same))))))) ?_
          refine qm_Rp.go 1 (c' := (95, [.ref 118, .int 0, l2], [], (h.1, qm_up (qm_up I57 143 v58.toInt.toNat 6) 118 41 v60, h.2.2.1, h.2.2.2))) rfl ?_
          refine qm_Rp.rt (v := none) (h' := (h.1, qm_up (qm_up I57 143 v58.toInt.toNat 6) 118 41 v60, h.2.2.1, h.2.2.2)) rfl ?_
          have kq61 : tK B n t.toInt.toNat = 35 := rTk_P (P := fun x => x = 6) (Q := fun d => d = 35) ht_kv1 (by decide +kernel) z4
          have rf62 : rfin B n 2 pv2 := r2_open6 hF haw kq61 (q_d6 hop z40) rfl hp_kv1
          exact k1 (qm_up (qm_up I57 143 v58.toInt.toNat 6) 118 41 v60) 2 pv2 v56 (fun o ho i => ((hk_mod ho rfl).trans ((hk_mod ho rfl).trans ((e_I57 o (hk_ms rfl ho) i).trans ((hk_mod ho rfl).trans ((hk_mod ho rfl).trans ((hk_mod ho rfl).trans ((e o (hk_ms rfl ho) i).trans rfl)))))))) (fun i hi => ((hk_neq (fun z => by subst z; cases hi)).trans ((hk_ot rfl).trans ((e8_I57 i (hk_ms rfl hi)).trans ((hk_neq (fun z => by subst z; cases hi)).trans ((hk_neq (fun z => by subst z; cases hi)).trans ((hk_neq (fun z => by subst z; cases hi)).trans ((e8 i (hk_ms rfl hi)).trans rfl)))))))) (show (qm_up (qm_up I57 143 v58.toInt.toNat 6) 118 41 v60) 118 12 = _ from ((hk_neq (by decide)).trans ((hk_ot rfl).trans ((e8_I57 12 rfl).trans (hk_same))))) (show (qm_up (qm_up I57 143 v58.toInt.toNat 6) 118 41 v60) 118 13 = _ from ((hk_neq (by decide)).trans ((hk_ot rfl).trans ((e8_I57 13 rfl).trans ((hk_neq (by decide)).trans ((hk_neq (by decide)).trans (hk_same))))))) (show (qm_up (qm_up I57 143 v58.toInt.toNat 6) 118 41 v60) 118 14 = _ from ((hk_neq (by decide)).trans ((hk_ot rfl).trans ((e8_I57 14 rfl).trans ((hk_neq (by decide)).trans (hk_same)))))) rf62
    · intro I t op aw dp e e8 q_t q_op q_f ht0 hF haw hop l2
      have kz0 : (0 : Int32).toInt = 0 := rfl
      have kz1 : (1 : Int32).toInt = 1 := rfl
      have kz2 : (2 : Int32).toInt = 2 := rfl
      have kz3 : (3 : Int32).toInt = 3 := rfl
      have kz4 : (4 : Int32).toInt = 4 := rfl
      have kz5 : (5 : Int32).toInt = 5 := rfl
      have kz6 : (6 : Int32).toInt = 6 := rfl
      have kz7 : (7 : Int32).toInt = 7 := rfl
      have kz8 : (8 : Int32).toInt = 8 := rfl
      have kz9 : (9 : Int32).toInt = 9 := rfl
      have kzm1 : ((-1) : Int32).toInt = (-1) := rfl
      have kzm2 : ((-2) : Int32).toInt = (-2) := rfl
      have kzm3 : ((-3) : Int32).toInt = (-3) := rfl
      obtain ⟨kv1, q_kv1⟩ : ∃ v_, h.2.1 121 t.toInt.toNat = v_ := ⟨_, rfl⟩
      obtain ⟨pv2, q_pv2⟩ : ∃ v_, h.2.1 122 t.toInt.toNat = v_ := ⟨_, rfl⟩
      obtain ⟨ht_kv1, hp_kv1, h4_kv1⟩ := rAll_at hA hF q_kv1 q_pv2
      have hkb_kv1 := rTk_b ht_kv1
      have htb_kv1 := q_le ht0 h4_kv1
      obtain ⟨g0, g1, ⟨g2, g2b, g2c⟩, g3, ⟨g4, g4b, g4c⟩, ⟨g5, g5b, g5c⟩, ⟨g6, g6b⟩, g7, g8, g9⟩ := fS_b _ _ _ _ _ _ _ _ _ _ _ _ _ _ _ _ hF
      have g1 : hid _ := g1
      have g2c : hid _ := g2c
      have g3 : hid _ := g3
      have g4c : hid _ := g4c
      have g5c : hid _ := g5c
      have g6 : hid _ := g6
      have g6b : hid _ := g6b
      have g7 : hid _ := g7
      refine qm_Rp.go1 1 (c' := (99, [.ref 118, .int 0, l2], [.int 7, .ref 118], (h.1, I, h.2.2.1, h.2.2.2))) rfl (fun g hg => ?_)
      refine hp_inv (o := 118) (r := []) (as := [.ref 118, .int 7]) rfl rfl (hH.1 118 (17, 105) rfl) rfl rfl rfl ?_
      refine qm_Rp.go 1 (c' := (1, [.ref 118, .int 7], [.ref 118], (h.1, I, h.2.2.1, h.2.2.2))) rfl ?_
      refine hp_geti (v := 0) rfl (hH.1 118 (17, 105) rfl) rfl q_f ?_
      refine qm_Rp.go 2 (c' := (8, [.ref 118, .int 7], [.ref 118], (h.1, I, h.2.2.1, h.2.2.2))) rfl ?_
      refine hp_getr rfl (hH.1 118 (17, 105) rfl) rfl (hH.2 118 5 (some 121) rfl) ?_
      refine qm_Rp.go 1 (c' := (12, [.ref 118, .int 7], [.ref 118, .ref 121], (h.1, I, h.2.2.1, h.2.2.2))) rfl ?_
      refine hp_geti (v := t) rfl (hH.1 118 (17, 105) rfl) rfl q_t ?_
      refine qm_Rp.go 0 (c' := (15, [.ref 118, .int 7], [.int t, .ref 121], (h.1, I, h.2.2.1, h.2.2.2))) rfl ?_
      refine hp_ial (v := kv1) rfl (hH.1 121 (0, 403) rfl) (show (I) 121 t.toInt.toNat = _ from ((e 121 rfl t.toInt.toNat).trans q_kv1)) (fun ia_2 ib_2 => ?_)
      refine qm_Rp.go 1 (c' := (17, [.ref 118, .int 7], [.int 7, .int kv1], (h.1, I, h.2.2.1, h.2.2.2))) rfl ?_
      refine hp_cne (ix := kv1.toInt) (iy := 7) rfl rfl rfl (fun (z4 : hid (kv1.toInt ≠ 7)) => ?_) (fun z4 => ?_)
      · refine qm_Rp.go 1 (c' := (25, [.ref 118, .int 7], [.int 0], (h.1, I, h.2.2.1, h.2.2.2))) rfl ?_
        refine qm_Rp.rt (v := (some (.int 0))) (h' := (h.1, I, h.2.2.1, h.2.2.2)) rfl ?_
        refine qm_Rp.go 3 (c' := (148, [.ref 118, .int 0, l2], [.int 8, .ref 118], (h.1, I, h.2.2.1, h.2.2.2))) rfl ?_
        refine hp_inv (o := 118) (r := []) (as := [.ref 118, .int 8]) rfl rfl (hH.1 118 (17, 105) rfl) rfl rfl rfl ?_
        refine qm_Rp.go 1 (c' := (1, [.ref 118, .int 8], [.ref 118], (h.1, I, h.2.2.1, h.2.2.2))) rfl ?_
        refine hp_geti (v := 0) rfl (hH.1 118 (17, 105) rfl) rfl q_f ?_
        refine qm_Rp.go 2 (c' := (8, [.ref 118, .int 8], [.ref 118], (h.1, I, h.2.2.1, h.2.2.2))) rfl ?_
        refine hp_getr rfl (hH.1 118 (17, 105) rfl) rfl (hH.2 118 5 (some 121) rfl) ?_
        refine qm_Rp.go 1 (c' := (12, [.ref 118, .int 8], [.ref 118, .ref 121], (h.1, I, h.2.2.1, h.2.2.2))) rfl ?_
        refine hp_geti (v := t) rfl (hH.1 118 (17, 105) rfl) rfl q_t ?_
        refine qm_Rp.go 0 (c' := (15, [.ref 118, .int 8], [.int t, .ref 121], (h.1, I, h.2.2.1, h.2.2.2))) rfl ?_
        refine hp_ial (v := kv1) rfl (hH.1 121 (0, 403) rfl) (show (I) 121 t.toInt.toNat = _ from ((e 121 rfl t.toInt.toNat).trans q_kv1)) (fun ia_4 ib_4 => ?_)
        refine qm_Rp.go 1 (c' := (17, [.ref 118, .int 8], [.int 8, .int kv1], (h.1, I, h.2.2.1, h.2.2.2))) rfl ?_
        refine hp_cne (ix := kv1.toInt) (iy := 8) rfl rfl rfl (fun (z6 : hid (kv1.toInt ≠ 8)) => ?_) (fun z6 => ?_)
        · refine qm_Rp.go 1 (c' := (25, [.ref 118, .int 8], [.int 0], (h.1, I, h.2.2.1, h.2.2.2))) rfl ?_
          refine qm_Rp.rt (v := (some (.int 0))) (h' := (h.1, I, h.2.2.1, h.2.2.2)) rfl ?_
          refine qm_Rp.go 3 (c' := (157, [.ref 118, .int 0, l2], [.int 9, .ref 118], (h.1, I, h.2.2.1, h.2.2.2))) rfl ?_
          refine hp_inv (o := 118) (r := []) (as := [.ref 118, .int 9]) rfl rfl (hH.1 118 (17, 105) rfl) rfl rfl rfl ?_
          refine qm_Rp.go 1 (c' := (1, [.ref 118, .int 9], [.ref 118], (h.1, I, h.2.2.1, h.2.2.2))) rfl ?_
          refine hp_geti (v := 0) rfl (hH.1 118 (17, 105) rfl) rfl q_f ?_
          refine qm_Rp.go 2 (c' := (8, [.ref 118, .int 9], [.ref 118], (h.1, I, h.2.2.1, h.2.2.2))) rfl ?_
          refine hp_getr rfl (hH.1 118 (17, 105) rfl) rfl (hH.2 118 5 (some 121) rfl) ?_
          refine qm_Rp.go 1 (c' := (12, [.ref 118, .int 9], [.ref 118, .ref 121], (h.1, I, h.2.2.1, h.2.2.2))) rfl ?_
          refine hp_geti (v := t) rfl (hH.1 118 (17, 105) rfl) rfl q_t ?_
          refine qm_Rp.go 0 (c' := (15, [.ref 118, .int 9], [.int t, .ref 121], (h.1, I, h.2.2.1, h.2.2.2))) rfl ?_
          refine hp_ial (v := kv1) rfl (hH.1 121 (0, 403) rfl) (show (I) 121 t.toInt.toNat = _ from ((e 121 rfl t.toInt.toNat).trans q_kv1)) (fun ia_6 ib_6 => ?_)
          refine qm_Rp.go 1 (c' := (17, [.ref 118, .int 9], [.int 9, .int kv1], (h.1, I, h.2.2.1, h.2.2.2))) rfl ?_
          refine hp_cne (ix := kv1.toInt) (iy := 9) rfl rfl rfl (fun (z8 : hid (kv1.toInt ≠ 9)) => ?_) (fun z8 => ?_)
          · refine qm_Rp.go 1 (c' := (25, [.ref 118, .int 9], [.int 0], (h.1, I, h.2.2.1, h.2.2.2))) rfl ?_
            refine qm_Rp.rt (v := (some (.int 0))) (h' := (h.1, I, h.2.2.1, h.2.2.2)) rfl ?_
            refine qm_Rp.go 3 (c' := (166, [.ref 118, .int 0, l2], [.int 10, .ref 118], (h.1, I, h.2.2.1, h.2.2.2))) rfl ?_
            refine hp_inv (o := 118) (r := []) (as := [.ref 118, .int 10]) rfl rfl (hH.1 118 (17, 105) rfl) rfl rfl rfl ?_
            refine qm_Rp.go 1 (c' := (1, [.ref 118, .int 10], [.ref 118], (h.1, I, h.2.2.1, h.2.2.2))) rfl ?_
            refine hp_geti (v := 0) rfl (hH.1 118 (17, 105) rfl) rfl q_f ?_
            refine qm_Rp.go 2 (c' := (8, [.ref 118, .int 10], [.ref 118], (h.1, I, h.2.2.1, h.2.2.2))) rfl ?_
            refine hp_getr rfl (hH.1 118 (17, 105) rfl) rfl (hH.2 118 5 (some 121) rfl) ?_
            refine qm_Rp.go 1 (c' := (12, [.ref 118, .int 10], [.ref 118, .ref 121], (h.1, I, h.2.2.1, h.2.2.2))) rfl ?_
            refine hp_geti (v := t) rfl (hH.1 118 (17, 105) rfl) rfl q_t ?_
            refine qm_Rp.go 0 (c' := (15, [.ref 118, .int 10], [.int t, .ref 121], (h.1, I, h.2.2.1, h.2.2.2))) rfl ?_
            refine hp_ial (v := kv1) rfl (hH.1 121 (0, 403) rfl) (show (I) 121 t.toInt.toNat = _ from ((e 121 rfl t.toInt.toNat).trans q_kv1)) (fun ia_8 ib_8 => ?_)
            refine qm_Rp.go 1 (c' := (17, [.ref 118, .int 10], [.int 10, .int kv1], (h.1, I, h.2.2.1, h.2.2.2))) rfl ?_
            refine hp_cne (ix := kv1.toInt) (iy := 10) rfl rfl rfl (fun (z10 : hid (kv1.toInt ≠ 10)) => ?_) (fun z10 => ?_)
            · refine qm_Rp.go 1 (c' := (25, [.ref 118, .int 10], [.int 0], (h.1, I, h.2.2.1, h.2.2.2))) rfl ?_
              refine qm_Rp.rt (v := (some (.int 0))) (h' := (h.1, I, h.2.2.1, h.2.2.2)) rfl ?_
              refine qm_Rp.go 6 (c' := (183, [.ref 118, .int 0, .int 0], [.ref 118], (h.1, I, h.2.2.1, h.2.2.2))) rfl ?_
              refine hp_geti (v := op) rfl (hH.1 118 (17, 105) rfl) rfl q_op ?_
              refine qm_Rp.go 1 (c' := (187, [.ref 118, .int 0, .int 0], [.int 0, .int op], (h.1, I, h.2.2.1, h.2.2.2))) rfl ?_
              refine hp_cle (ix := op.toInt) (iy := 0) rfl rfl rfl (fun z11 => ?_) (fun z11 => ?_)
              · refine qm_Rp.go 2 (c' := (197, [.ref 118, .int 0, .int 0], [.int 0, .ref 118], (h.1, I, h.2.2.1, h.2.2.2))) rfl ?_
                refine hp_inv (o := 118) (r := []) (as := [.ref 118, .int 0]) rfl rfl (hH.1 118 (17, 105) rfl) rfl rfl rfl (px_co (h := (h.1, I, h.2.2.1, h.2.2.2)) hH (fun I12 e_I12 e8_I12 => ?_))
                have e_I12 : (∀ o, [118, 141, 142].contains o = false → ∀ i, I12 o i = (I) o i) := e_I12
                have e8_I12 : (∀ i, [37, 41].contains i = false → I12 118 i = (I) 118 i) := e8_I12
                refine qm_Rp.go 0 (c' := (200, [.ref 118, .int 0, .int 0], [], (h.1, I12, h.2.2.1, h.2.2.2))) rfl ?_
                refine qm_Rp.rt (v := none) (h' := (h.1, I12, h.2.2.1, h.2.2.2)) rfl ?_
                have kq13 : ¬ (28 ≤ tK B n t.toInt.toNat ∧ tK B n t.toInt.toNat ≤ 30) := rTk_P (P := fun x => x ≠ 7 ∧ x ≠ 8 ∧ x ≠ 9 ∧ x ≠ 10) (Q := fun d => ¬ (28 ≤ d ∧ d ≤ 30)) ht_kv1 (by decide +kernel) ⟨z4, z6, z8, z10⟩
                obtain ⟨d1, d0⟩ := q_z hop z11 g2
                obtain rfl := haw
                obtain rfl := d0
                exact k0 (I12) t (fun o ho i => ((e_I12 o (hk_ms rfl ho) i).trans ((e o (hk_ms rfl ho) i).trans rfl))) (fun i hi => ((e8_I12 i (hk_ms rfl hi)).trans ((e8 i (hk_ms rfl hi)).trans rfl))) (show (I12) 118 11 = _ from ((e8_I12 11 rfl).trans q_t)) ((show (I12) 118 12 = _ from ((e8_I12 12 rfl).trans q_op)).trans (hk_eqi.mpr d1)) (show (I12) 118 13 = _ from ((e8_I12 13 rfl).trans q_f)) ht0 hF kq13
              · refine qm_Rp.go 2 (c' := (192, [.ref 118, .int 0, .int 0], [.int 1, .ref 118], (h.1, I, h.2.2.1, h.2.2.2))) rfl ?_
                refine hp_inv (o := 118) (r := []) (as := [.ref 118, .int 1]) rfl rfl (hH.1 118 (17, 105) rfl) rfl rfl rfl ?_
                refine qm_Rp.go 1 (c' := (1, [.ref 118, .int 1], [.ref 118], (h.1, I, h.2.2.1, h.2.2.2))) rfl ?_
                refine hp_geti (v := 0) rfl (hH.1 118 (17, 105) rfl) rfl q_f ?_
                refine qm_Rp.go 3 (c' := (10, [.ref 118, .int 1], [.int 1, .ref 118], (h.1, I, h.2.2.1, h.2.2.2))) rfl ?_
                refine hp_puti rfl (hH.1 118 (17, 105) rfl) rfl ?_
                refine qm_Rp.go 2 (c' := (15, [.ref 118, .int 1], [.ref 118, .ref 118], (h.1, qm_up I 118 13 1, h.2.2.1, h.2.2.2))) rfl ?_
                refine hp_getr rfl (hH.1 118 (17, 105) rfl) rfl (hH.2 118 6 (some 122) rfl) ?_
                refine qm_Rp.go 1 (c' := (19, [.ref 118, .int 1], [.ref 118, .ref 122, .ref 118], (h.1, qm_up I 118 13 1, h.2.2.1, h.2.2.2))) rfl ?_
                refine hp_geti (v := t) rfl (hH.1 118 (17, 105) rfl) rfl (show (qm_up I 118 13 1) 118 11 = _ from ((hk_neq (by decide)).trans q_t)) ?_
                refine qm_Rp.go 0 (c' := (22, [.ref 118, .int 1], [.int t, .ref 122, .ref 118], (h.1, qm_up I 118 13 1, h.2.2.1, h.2.2.2))) rfl ?_
                refine hp_ial (v := pv2) rfl (hH.1 122 (0, 403) rfl) (show (qm_up I 118 13 1) 122 t.toInt.toNat = _ from ((hk_ot rfl).trans ((e 122 rfl t.toInt.toNat).trans q_pv2))) (fun ia_13 ib_13 => ?_)
                refine qm_Rp.go 0 (c' := (23, [.ref 118, .int 1], [.int pv2, .ref 118], (h.1, qm_up I 118 13 1, h.2.2.1, h.2.2.2))) rfl ?_
                refine hp_puti rfl (hH.1 118 (17, 105) rfl) rfl ?_
                refine qm_Rp.go 0 (c' := (26, [.ref 118, .int 1], [], (h.1, qm_up (qm_up I 118 13 1) 118 14 pv2, h.2.2.1, h.2.2.2))) rfl ?_
                refine qm_Rp.rt (v := none) (h' := (h.1, qm_up (qm_up I 118 13 1) 118 14 pv2, h.2.2.1, h.2.2.2)) rfl ?_
                refine qm_Rp.go 2 (c' := (197, [.ref 118, .int 0, .int 0], [.int 0, .ref 118], (h.1, qm_up (qm_up I 118 13 1) 118 14 pv2, h.2.2.1, h.2.2.2))) rfl ?_
                refine hp_inv (o := 118) (r := []) (as := [.ref 118, .int 0]) rfl rfl (hH.1 118 (17, 105) rfl) rfl rfl rfl (px_co (h := (h.1, qm_up (qm_up I 118 13 1) 118 14 pv2, h.2.2.1, h.2.2.2)) hH (fun I15 e_I15 e8_I15 => ?_))
                have e_I15 : (∀ o, [118, 141, 142].contains o = false → ∀ i, I15 o i = (qm_up (qm_up I 118 13 1) 118 14 pv2) o i) := e_I15
                have e8_I15 : (∀ i, [37, 41].contains i = false → I15 118 i = (qm_up (qm_up I 118 13 1) 118 14 pv2) 118 i) := e8_I15
                refine qm_Rp.go 0 (c' := (200, [.ref 118, .int 0, .int 0], [], (h.1, I15, h.2.2.1, h.2.2.2))) rfl ?_
                refine qm_Rp.rt (v := none) (h' := (h.1, I15, h.2.2.1, h.2.2.2)) rfl ?_
                have kq16 : tK B n t.toInt.toNat ≠ 36 ∧ (tK B n t.toInt.toNat < 28 ∨ 30 < tK B n t.toInt.toNat) := rTk_P (P := fun x => x ≠ 7 ∧ x ≠ 8 ∧ x ≠ 9 ∧ x ≠ 10) (Q := fun d => d ≠ 36 ∧ (d < 28 ∨ 30 < d)) ht_kv1 (by decide +kernel) ⟨z4, z6, z8, z10⟩
                have rf17 : rfin B n 1 pv2 := r_close hF haw (q_pos hop z11) kq16 rfl hp_kv1
                exact k1 (I15) 1 pv2 op (fun o ho i => ((e_I15 o (hk_ms rfl ho) i).trans ((hk_mod ho rfl).trans ((hk_mod ho rfl).trans ((e o (hk_ms rfl ho) i).trans rfl))))) (fun i hi => ((e8_I15 i (hk_ms rfl hi)).trans ((hk_neq (fun z => by subst z; cases hi)).trans ((hk_neq (fun z => by subst z; cases hi)).trans ((e8 i (hk_ms rfl hi)).trans rfl))))) (show (I15) 118 12 = _ from ((e8_I15 12 rfl).trans ((hk_neq (by decide)).trans ((hk_neq (by decide)).trans q_op)))) (show (I15) 118 13 = _ from ((e8_I15 13 rfl).trans ((hk_neq (by decide)).trans (hk_same)))) (show (I15) 118 14 = _ from ((e8_I15 14 rfl).trans (hk_same))) rf17
            · refine qm_Rp.go 2 (c' := (25, [.ref 118, .int 10], [.int 1], (h.1, I, h.2.2.1, h.2.2.2))) rfl ?_
              refine qm_Rp.rt (v := (some (.int 1))) (h' := (h.1, I, h.2.2.1, h.2.2.2)) rfl ?_
              refine qm_Rp.go 9 (c' := (205, [.ref 118, .int 0, .int 1], [.int 10, .ref 118, .ref 118], (h.1, I, h.2.2.1, h.2.2.2))) rfl ?_
              refine hp_inv (o := 118) (r := [.ref 118]) (as := [.ref 118, .int 10]) rfl rfl (hH.1 118 (17, 105) rfl) rfl rfl rfl ?_
              refine qm_Rp.go 1 (c' := (1, [.ref 118, .int 10], [.ref 118], (h.1, I, h.2.2.1, h.2.2.2))) rfl ?_
              refine hp_geti (v := 0) rfl (hH.1 118 (17, 105) rfl) rfl q_f ?_
              refine qm_Rp.go 2 (c' := (8, [.ref 118, .int 10], [.ref 118], (h.1, I, h.2.2.1, h.2.2.2))) rfl ?_
              refine hp_getr rfl (hH.1 118 (17, 105) rfl) rfl (hH.2 118 5 (some 121) rfl) ?_
              refine qm_Rp.go 1 (c' := (12, [.ref 118, .int 10], [.ref 118, .ref 121], (h.1, I, h.2.2.1, h.2.2.2))) rfl ?_
              refine hp_geti (v := t) rfl (hH.1 118 (17, 105) rfl) rfl q_t ?_
              refine qm_Rp.go 0 (c' := (15, [.ref 118, .int 10], [.int t, .ref 121], (h.1, I, h.2.2.1, h.2.2.2))) rfl ?_
              refine hp_ial (v := kv1) rfl (hH.1 121 (0, 403) rfl) (show (I) 121 t.toInt.toNat = _ from ((e 121 rfl t.toInt.toNat).trans q_kv1)) (fun ia_17 ib_17 => ?_)
              refine qm_Rp.go 1 (c' := (17, [.ref 118, .int 10], [.int 10, .int kv1], (h.1, I, h.2.2.1, h.2.2.2))) rfl ?_
              refine hp_cne (ix := kv1.toInt) (iy := 10) rfl rfl rfl (fun z19 => by exfalso; omega) (fun z19 => ?_)
              refine qm_Rp.go 2 (c' := (25, [.ref 118, .int 10], [.int 1], (h.1, I, h.2.2.1, h.2.2.2))) rfl ?_
              refine qm_Rp.rt (v := (some (.int 1))) (h' := (h.1, I, h.2.2.1, h.2.2.2)) rfl ?_
              refine qm_Rp.go 0 (c' := (208, [.ref 118, .int 0, .int 1], [.int 1, .ref 118], (h.1, I, h.2.2.1, h.2.2.2))) rfl ?_
              refine hp_inv (o := 118) (r := []) (as := [.ref 118, .int 1]) rfl rfl (hH.1 118 (17, 105) rfl) rfl rfl rfl (px_co (h := (h.1, I, h.2.2.1, h.2.2.2)) hH (fun I20 e_I20 e8_I20 => ?_))
              have e_I20 : (∀ o, [118, 141, 142].contains o = false → ∀ i, I20 o i = (I) o i) := e_I20
              have e8_I20 : (∀ i, [37, 41].contains i = false → I20 118 i = (I) 118 i) := e8_I20
              refine qm_Rp.go 0 (c' := (211, [.ref 118, .int 0, .int 1], [], (h.1, I20, h.2.2.1, h.2.2.2))) rfl ?_
              refine qm_Rp.go 1 (c' := (212, [.ref 118, .int 0, .int 1], [.ref 118], (h.1, I20, h.2.2.1, h.2.2.2))) rfl ?_
              refine hp_getr rfl (hH.1 118 (17, 105) rfl) rfl (hH.2 118 40 (some 143) rfl) ?_
              refine qm_Rp.go 1 (c' := (216, [.ref 118, .int 0, .int 1], [.ref 118, .ref 143], (h.1, I20, h.2.2.1, h.2.2.2))) rfl ?_
              obtain ⟨v21, q_v21⟩ : ∃ v_, I20 118 41 = v_ := ⟨_, rfl⟩
              refine hp_geti (v := v21) rfl (hH.1 118 (17, 105) rfl) rfl q_v21 ?_
              refine qm_Rp.go 1 (c' := (220, [.ref 118, .int 0, .int 1], [.ref 118, .int v21, .ref 143], (h.1, I20, h.2.2.1, h.2.2.2))) rfl ?_
              refine hp_getr rfl (hH.1 118 (17, 105) rfl) rfl (hH.2 118 5 (some 121) rfl) ?_
              refine qm_Rp.go 1 (c' := (224, [.ref 118, .int 0, .int 1], [.ref 118, .ref 121, .int v21, .ref 143], (h.1, I20, h.2.2.1, h.2.2.2))) rfl ?_
              refine hp_geti (v := t) rfl (hH.1 118 (17, 105) rfl) rfl (show (I20) 118 11 = _ from ((e8_I20 11 rfl).trans q_t)) ?_
              refine qm_Rp.go 0 (c' := (227, [.ref 118, .int 0, .int 1], [.int t, .ref 121, .int v21, .ref 143], (h.1, I20, h.2.2.1, h.2.2.2))) rfl ?_
              refine hp_ial (v := kv1) rfl (hH.1 121 (0, 403) rfl) (show (I20) 121 t.toInt.toNat = _ from ((e_I20 121 rfl t.toInt.toNat).trans ((e 121 rfl t.toInt.toNat).trans q_kv1))) (fun ia_21 ib_21 => ?_)
              refine qm_Rp.go 0 (c' := (228, [.ref 118, .int 0, .int 1], [.int kv1, .int v21, .ref 143], (h.1, I20, h.2.2.1, h.2.2.2))) rfl ?_
              refine hp_ias rfl (hH.1 143 (0, 64) rfl) (fun ia_22 ib_22 => ?_)
              refine qm_Rp.go 2 (c' := (231, [.ref 118, .int 0, .int 1], [.ref 118, .ref 118], (h.1, qm_up I20 143 v21.toInt.toNat kv1, h.2.2.1, h.2.2.2))) rfl ?_
              refine hp_geti (v := v21) rfl (hH.1 118 (17, 105) rfl) rfl (show (qm_up I20 143 v21.toInt.toNat kv1) 118 41 = _ from ((hk_ot rfl).trans q_v21)) ?_
              refine qm_Rp.go 2 (c' := (236, [.ref 118, .int 0, .int 1], [.int (v21 + 1), .ref 118], (h.1, qm_up I20 143 v21.toInt.toNat kv1, h.2.2.1, h.2.2.2))) rfl ?_
              obtain ⟨v24, q_v24, e_v24⟩ := hk_add (x := v21) (y := 1) (a := v21.toInt) (b := 1) rfl rfl (by omega) (by omega)
              rw [q_v24]
              refine hp_puti rfl (hH.1 118 (17, 105) rfl) rfl ?_
              refine qm_Rp.go 1 (c' := (240, [.ref 118, .int 0, .int 1], [.ref 118], (h.1, qm_up (qm_up I20 143 v21.toInt.toNat kv1) 118 41 v24, h.2.2.1, h.2.2.2))) rfl ?_
              refine hp_inv (o := 118) (r := []) (as := [.ref 118]) rfl rfl (hH.1 118 (17, 105) rfl) rfl rfl rfl (px_go (h := (h.1, qm_up (qm_up I20 143 v21.toInt.toNat kv1) 118 41 v24, h.2.2.1, h.2.2.2)) hH (show (qm_up (qm_up I20 143 v21.toInt.toNat kv1) 118 41 v24) 118 11 = _ from ((hk_neq (by decide)).trans ((hk_ot rfl).trans ((e8_I20 11 rfl).trans q_t)))) (show (qm_up (qm_up I20 143 v21.toInt.toNat kv1) 118 41 v24) 118 13 = _ from ((hk_neq (by decide)).trans ((hk_ot rfl).trans ((e8_I20 13 rfl).trans q_f)))) htb_kv1 (fun fp25 q_fp25 x4_fp25 => ?_) (fun t26 e_t26 x4_t26 => ?_))
              · have ex_fp25 : fp25 = pv2 := (q_fp25.symm.trans (show (qm_up (qm_up I20 143 v21.toInt.toNat kv1) 118 41 v24) 122 t.toInt.toNat = _ from ((hk_ot rfl).trans ((hk_ot rfl).trans ((e_I20 122 rfl t.toInt.toNat).trans ((e 122 rfl t.toInt.toNat).trans q_pv2))))))
                have kq27 : tK B n t.toInt.toNat ≠ 37 := rTk_P (P := fun x => x ≠ 7 ∧ x ≠ 8 ∧ x ≠ 9 ∧ x = 10 ∧ x = 10) (Q := fun d => d ≠ 37) ht_kv1 (by decide +kernel) ⟨z4, z6, z8, z10, z19⟩
                have kq28 : 28 ≤ tK B n t.toInt.toNat ∧ tK B n t.toInt.toNat ≤ 30 := rTk_P (P := fun x => x ≠ 7 ∧ x ≠ 8 ∧ x ≠ 9 ∧ x = 10 ∧ x = 10) (Q := fun d => 28 ≤ d ∧ d ≤ 30) ht_kv1 (by decide +kernel) ⟨z4, z6, z8, z10, z19⟩
                have rf29 : rfin B n 2 fp25 := r2_go hF kq27 (fo_9a ⟨haw, kq28⟩) (by decide) x4_fp25 rfl ((congrArg Int32.toInt ex_fp25).trans hp_kv1)
                refine qm_Rp.go 4 (c' := (17, [.ref 118, .int 0, .int 1], [.ref 118], (h.1, qm_up (qm_up (qm_up (qm_up I20 143 v21.toInt.toNat kv1) 118 41 v24) 118 13 2) 118 14 fp25, h.2.2.1, h.2.2.2))) rfl ?_
                refine hp_geti (v := 2) rfl (hH.1 118 (17, 105) rfl) rfl (show (qm_up (qm_up (qm_up (qm_up I20 143 v21.toInt.toNat kv1) 118 41 v24) 118 13 2) 118 14 fp25) 118 13 = _ from ((hk_neq (by decide)).trans (hk_same))) ?_
                refine qm_Rp.go 1 (c' := (246, [.ref 118, .int 0, .int 1], [], (h.1, qm_up (qm_up (qm_up (qm_up I20 143 v21.toInt.toNat kv1) 118 41 v24) 118 13 2) 118 14 fp25, h.2.2.1, h.2.2.2))) rfl ?_
                refine qm_Rp.rt (v := none) (h' := (h.1, qm_up (qm_up (qm_up (qm_up I20 143 v21.toInt.toNat kv1) 118 41 v24) 118 13 2) 118 14 fp25, h.2.2.1, h.2.2.2)) rfl ?_
                exact k1 (qm_up (qm_up (qm_up (qm_up I20 143 v21.toInt.toNat kv1) 118 41 v24) 118 13 2) 118 14 fp25) 2 fp25 op (fun o ho i => ((hk_mod ho rfl).trans ((hk_mod ho rfl).trans ((hk_mod ho rfl).trans ((hk_mod ho rfl).trans ((e_I20 o (hk_ms rfl ho) i).trans ((e o (hk_ms rfl ho) i).trans rfl))))))) (fun i hi => ((hk_neq (fun z => by subst z; cases hi)).trans ((hk_neq (fun z => by subst z; cases hi)).trans ((hk_neq (fun z => by subst z; cases hi)).trans ((hk_ot rfl).trans ((e8_I20 i (hk_ms rfl hi)).trans ((e8 i (hk_ms rfl hi)).trans rfl))))))) (show (qm_up (qm_up (qm_up (qm_up I20 143 v21.toInt.toNat kv1) 118 41 v24) 118 13 2) 118 14 fp25) 118 12 = _ from ((hk_neq (by decide)).trans ((hk_neq (by decide)).trans ((hk_neq (by decide)).trans ((hk_ot rfl).trans ((e8_I20 12 rfl).trans q_op)))))) (show (qm_up (qm_up (qm_up (qm_up I20 143 v21.toInt.toNat kv1) 118 41 v24) 118 13 2) 118 14 fp25) 118 13 = _ from ((hk_neq (by decide)).trans (hk_same))) (show (qm_up (qm_up (qm_up (qm_up I20 143 v21.toInt.toNat kv1) 118 41 v24) 118 13 2) 118 14 fp25) 118 14 = _ from (hk_same)) rf29
              · have t0_t26 := q_t0 e_t26 ht0
                have kq31 : 28 ≤ tK B n t.toInt.toNat ∧ tK B n t.toInt.toNat ≤ 30 := rTk_P (P := fun x => x ≠ 7 ∧ x ≠ 8 ∧ x ≠ 9 ∧ x = 10 ∧ x = 10) (Q := fun d => 28 ≤ d ∧ d ≤ 30) ht_kv1 (by decide +kernel) ⟨z4, z6, z8, z10, z19⟩
                have hF30 : fS B n t26.toInt.toNat = some (8, td, dp, rt, nm, lf, lp, b, li, tr, be, lt, pr, pl, T) := q_sign hF haw kq31 ht0 x4_t26 e_t26
                refine qm_Rp.go 4 (c' := (17, [.ref 118, .int 0, .int 1], [.ref 118], (h.1, qm_up (qm_up (qm_up I20 143 v21.toInt.toNat kv1) 118 41 v24) 118 11 t26, h.2.2.1, h.2.2.2))) rfl ?_
                refine hp_geti (v := 0) rfl (hH.1 118 (17, 105) rfl) rfl (show (qm_up (qm_up (qm_up I20 143 v21.toInt.toNat kv1) 118 41 v24) 118 11 t26) 118 13 = _ from ((hk_neq (by decide)).trans ((hk_neq (by decide)).trans ((hk_ot rfl).trans ((e8_I20 13 rfl).trans q_f))))) ?_
                refine qm_Rp.go 1 (c' := (23, [.ref 118, .int 0, .int 1], [], (h.1, qm_up (qm_up (qm_up I20 143 v21.toInt.toNat kv1) 118 41 v24) 118 11 t26, h.2.2.1, h.2.2.2))) rfl ?_
                exact (ih g hg).1 (qm_up (qm_up (qm_up I20 143 v21.toInt.toNat kv1) 118 41 v24) 118 11 t26) t26 op 8 dp (fun o ho i => ((hk_mod ho rfl).trans ((hk_mod ho rfl).trans ((hk_mod ho rfl).trans ((e_I20 o (hk_ms rfl ho) i).trans ((e o (hk_ms rfl ho) i).trans rfl)))))) (fun i hi => ((hk_neq (fun z => by subst z; cases hi)).trans ((hk_neq (fun z => by subst z; cases hi)).trans ((hk_ot rfl).trans ((e8_I20 i (hk_ms rfl hi)).trans ((e8 i (hk_ms rfl hi)).trans rfl)))))) (show (qm_up (qm_up (qm_up I20 143 v21.toInt.toNat kv1) 118 41 v24) 118 11 t26) 118 11 = _ from (hk_same)) (show (qm_up (qm_up (qm_up I20 143 v21.toInt.toNat kv1) 118 41 v24) 118 11 t26) 118 12 = _ from ((hk_neq (by decide)).trans ((hk_neq (by decide)).trans ((hk_ot rfl).trans ((e8_I20 12 rfl).trans q_op))))) (show (qm_up (qm_up (qm_up I20 143 v21.toInt.toNat kv1) 118 41 v24) 118 11 t26) 118 13 = _ from ((hk_neq (by decide)).trans ((hk_neq (by decide)).trans ((hk_ot rfl).trans ((e8_I20 13 rfl).trans q_f))))) t0_t26 hF30 (Or.inr rfl) hop (fun z => absurd z (by decide)) _
          · refine qm_Rp.go 2 (c' := (25, [.ref 118, .int 9], [.int 1], (h.1, I, h.2.2.1, h.2.2.2))) rfl ?_
            refine qm_Rp.rt (v := (some (.int 1))) (h' := (h.1, I, h.2.2.1, h.2.2.2)) rfl ?_
            refine qm_Rp.go 9 (c' := (205, [.ref 118, .int 0, .int 1], [.int 10, .ref 118, .ref 118], (h.1, I, h.2.2.1, h.2.2.2))) rfl ?_
            refine hp_inv (o := 118) (r := [.ref 118]) (as := [.ref 118, .int 10]) rfl rfl (hH.1 118 (17, 105) rfl) rfl rfl rfl ?_
            refine qm_Rp.go 1 (c' := (1, [.ref 118, .int 10], [.ref 118], (h.1, I, h.2.2.1, h.2.2.2))) rfl ?_
            refine hp_geti (v := 0) rfl (hH.1 118 (17, 105) rfl) rfl q_f ?_
            refine qm_Rp.go 2 (c' := (8, [.ref 118, .int 10], [.ref 118], (h.1, I, h.2.2.1, h.2.2.2))) rfl ?_
            refine hp_getr rfl (hH.1 118 (17, 105) rfl) rfl (hH.2 118 5 (some 121) rfl) ?_
            refine qm_Rp.go 1 (c' := (12, [.ref 118, .int 10], [.ref 118, .ref 121], (h.1, I, h.2.2.1, h.2.2.2))) rfl ?_
            refine hp_geti (v := t) rfl (hH.1 118 (17, 105) rfl) rfl q_t ?_
            refine qm_Rp.go 0 (c' := (15, [.ref 118, .int 10], [.int t, .ref 121], (h.1, I, h.2.2.1, h.2.2.2))) rfl ?_
            refine hp_ial (v := kv1) rfl (hH.1 121 (0, 403) rfl) (show (I) 121 t.toInt.toNat = _ from ((e 121 rfl t.toInt.toNat).trans q_kv1)) (fun ia_31 ib_31 => ?_)
            refine qm_Rp.go 1 (c' := (17, [.ref 118, .int 10], [.int 10, .int kv1], (h.1, I, h.2.2.1, h.2.2.2))) rfl ?_
            refine hp_cne (ix := kv1.toInt) (iy := 10) rfl rfl rfl (fun (z33 : hid (kv1.toInt ≠ 10)) => ?_) (fun z33 => by exfalso; omega)
            refine qm_Rp.go 1 (c' := (25, [.ref 118, .int 10], [.int 0], (h.1, I, h.2.2.1, h.2.2.2))) rfl ?_
            refine qm_Rp.rt (v := (some (.int 0))) (h' := (h.1, I, h.2.2.1, h.2.2.2)) rfl ?_
            refine qm_Rp.go 0 (c' := (208, [.ref 118, .int 0, .int 1], [.int 0, .ref 118], (h.1, I, h.2.2.1, h.2.2.2))) rfl ?_
            refine hp_inv (o := 118) (r := []) (as := [.ref 118, .int 0]) rfl rfl (hH.1 118 (17, 105) rfl) rfl rfl rfl (px_co (h := (h.1, I, h.2.2.1, h.2.2.2)) hH (fun I34 e_I34 e8_I34 => ?_))
            have e_I34 : (∀ o, [118, 141, 142].contains o = false → ∀ i, I34 o i = (I) o i) := e_I34
            have e8_I34 : (∀ i, [37, 41].contains i = false → I34 118 i = (I) 118 i) := e8_I34
            refine qm_Rp.go 0 (c' := (211, [.ref 118, .int 0, .int 1], [], (h.1, I34, h.2.2.1, h.2.2.2))) rfl ?_
            refine qm_Rp.go 1 (c' := (212, [.ref 118, .int 0, .int 1], [.ref 118], (h.1, I34, h.2.2.1, h.2.2.2))) rfl ?_
            refine hp_getr rfl (hH.1 118 (17, 105) rfl) rfl (hH.2 118 40 (some 143) rfl) ?_
            refine qm_Rp.go 1 (c' := (216, [.ref 118, .int 0, .int 1], [.ref 118, .ref 143], (h.1, I34, h.2.2.1, h.2.2.2))) rfl ?_
            obtain ⟨v35, q_v35⟩ : ∃ v_, I34 118 41 = v_ := ⟨_, rfl⟩
            refine hp_geti (v := v35) rfl (hH.1 118 (17, 105) rfl) rfl q_v35 ?_
            refine qm_Rp.go 1 (c' := (220, [.ref 118, .int 0, .int 1], [.ref 118, .int v35, .ref 143], (h.1, I34, h.2.2.1, h.2.2.2))) rfl ?_
            refine hp_getr rfl (hH.1 118 (17, 105) rfl) rfl (hH.2 118 5 (some 121) rfl) ?_
            refine qm_Rp.go 1 (c' := (224, [.ref 118, .int 0, .int 1], [.ref 118, .ref 121, .int v35, .ref 143], (h.1, I34, h.2.2.1, h.2.2.2))) rfl ?_
            refine hp_geti (v := t) rfl (hH.1 118 (17, 105) rfl) rfl (show (I34) 118 11 = _ from ((e8_I34 11 rfl).trans q_t)) ?_
            refine qm_Rp.go 0 (c' := (227, [.ref 118, .int 0, .int 1], [.int t, .ref 121, .int v35, .ref 143], (h.1, I34, h.2.2.1, h.2.2.2))) rfl ?_
            refine hp_ial (v := kv1) rfl (hH.1 121 (0, 403) rfl) (show (I34) 121 t.toInt.toNat = _ from ((e_I34 121 rfl t.toInt.toNat).trans ((e 121 rfl t.toInt.toNat).trans q_kv1))) (fun ia_35 ib_35 => ?_)
            refine qm_Rp.go 0 (c' := (228, [.ref 118, .int 0, .int 1], [.int kv1, .int v35, .ref 143], (h.1, I34, h.2.2.1, h.2.2.2))) rfl ?_
            refine hp_ias rfl (hH.1 143 (0, 64) rfl) (fun ia_36 ib_36 => ?_)
            refine qm_Rp.go 2 (c' := (231, [.ref 118, .int 0, .int 1], [.ref 118, .ref 118], (h.1, qm_up I34 143 v35.toInt.toNat kv1, h.2.2.1, h.2.2.2))) rfl ?_
            refine hp_geti (v := v35) rfl (hH.1 118 (17, 105) rfl) rfl (show (qm_up I34 143 v35.toInt.toNat kv1) 118 41 = _ from ((hk_ot rfl).trans q_v35)) ?_
            refine qm_Rp.go 2 (c' := (236, [.ref 118, .int 0, .int 1], [.int (v35 + 1), .ref 118], (h.1, qm_up I34 143 v35.toInt.toNat kv1, h.2.2.1, h.2.2.2))) rfl ?_
            obtain ⟨v38, q_v38, e_v38⟩ := hk_add (x := v35) (y := 1) (a := v35.toInt) (b := 1) rfl rfl (by omega) (by omega)
            rw [q_v38]
            refine hp_puti rfl (hH.1 118 (17, 105) rfl) rfl ?_
            refine qm_Rp.go 1 (c' := (240, [.ref 118, .int 0, .int 1], [.ref 118], (h.1, qm_up (qm_up I34 143 v35.toInt.toNat kv1) 118 41 v38, h.2.2.1, h.2.2.2))) rfl ?_
            refine hp_inv (o := 118) (r := []) (as := [.ref 118]) rfl rfl (hH.1 118 (17, 105) rfl) rfl rfl rfl (px_go (h := (h.1, qm_up (qm_up I34 143 v35.toInt.toNat kv1) 118 41 v38, h.2.2.1, h.2.2.2)) hH (show (qm_up (qm_up I34 143 v35.toInt.toNat kv1) 118 41 v38) 118 11 = _ from ((hk_neq (by decide)).trans ((hk_ot rfl).trans ((e8_I34 11 rfl).trans q_t)))) (show (qm_up (qm_up I34 143 v35.toInt.toNat kv1) 118 41 v38) 118 13 = _ from ((hk_neq (by decide)).trans ((hk_ot rfl).trans ((e8_I34 13 rfl).trans q_f)))) htb_kv1 (fun fp39 q_fp39 x4_fp39 => ?_) (fun t40 e_t40 x4_t40 => ?_))
            · have ex_fp39 : fp39 = pv2 := (q_fp39.symm.trans (show (qm_up (qm_up I34 143 v35.toInt.toNat kv1) 118 41 v38) 122 t.toInt.toNat = _ from ((hk_ot rfl).trans ((hk_ot rfl).trans ((e_I34 122 rfl t.toInt.toNat).trans ((e 122 rfl t.toInt.toNat).trans q_pv2))))))
              have kq41 : tK B n t.toInt.toNat ≠ 37 := rTk_P (P := fun x => x ≠ 7 ∧ x ≠ 8 ∧ x = 9 ∧ x ≠ 10) (Q := fun d => d ≠ 37) ht_kv1 (by decide +kernel) ⟨z4, z6, z8, z33⟩
              have kq42 : 28 ≤ tK B n t.toInt.toNat ∧ tK B n t.toInt.toNat ≤ 30 := rTk_P (P := fun x => x ≠ 7 ∧ x ≠ 8 ∧ x = 9 ∧ x ≠ 10) (Q := fun d => 28 ≤ d ∧ d ≤ 30) ht_kv1 (by decide +kernel) ⟨z4, z6, z8, z33⟩
              have rf43 : rfin B n 2 fp39 := r2_go hF kq41 (fo_9a ⟨haw, kq42⟩) (by decide) x4_fp39 rfl ((congrArg Int32.toInt ex_fp39).trans hp_kv1)
              refine qm_Rp.go 4 (c' := (17, [.ref 118, .int 0, .int 1], [.ref 118], (h.1, qm_up (qm_up (qm_up (qm_up I34 143 v35.toInt.toNat kv1) 118 41 v38) 118 13 2) 118 14 fp39, h.2.2.1, h.2.2.2))) rfl ?_
              refine hp_geti (v := 2) rfl (hH.1 118 (17, 105) rfl) rfl (show (qm_up (qm_up (qm_up (qm_up I34 143 v35.toInt.toNat kv1) 118 41 v38) 118 13 2) 118 14 fp39) 118 13 = _ from ((hk_neq (by decide)).trans (hk_same))) ?_
              refine qm_Rp.go 1 (c' := (246, [.ref 118, .int 0, .int 1], [], (h.1, qm_up (qm_up (qm_up (qm_up I34 143 v35.toInt.toNat kv1) 118 41 v38) 118 13 2) 118 14 fp39, h.2.2.1, h.2.2.2))) rfl ?_
              refine qm_Rp.rt (v := none) (h' := (h.1, qm_up (qm_up (qm_up (qm_up I34 143 v35.toInt.toNat kv1) 118 41 v38) 118 13 2) 118 14 fp39, h.2.2.1, h.2.2.2)) rfl ?_
              exact k1 (qm_up (qm_up (qm_up (qm_up I34 143 v35.toInt.toNat kv1) 118 41 v38) 118 13 2) 118 14 fp39) 2 fp39 op (fun o ho i => ((hk_mod ho rfl).trans ((hk_mod ho rfl).trans ((hk_mod ho rfl).trans ((hk_mod ho rfl).trans ((e_I34 o (hk_ms rfl ho) i).trans ((e o (hk_ms rfl ho) i).trans rfl))))))) (fun i hi => ((hk_neq (fun z => by subst z; cases hi)).trans ((hk_neq (fun z => by subst z; cases hi)).trans ((hk_neq (fun z => by subst z; cases hi)).trans ((hk_ot rfl).trans ((e8_I34 i (hk_ms rfl hi)).trans ((e8 i (hk_ms rfl hi)).trans rfl))))))) (show (qm_up (qm_up (qm_up (qm_up I34 143 v35.toInt.toNat kv1) 118 41 v38) 118 13 2) 118 14 fp39) 118 12 = _ from ((hk_neq (by decide)).trans ((hk_neq (by decide)).trans ((hk_neq (by decide)).trans ((hk_ot rfl).trans ((e8_I34 12 rfl).trans q_op)))))) (show (qm_up (qm_up (qm_up (qm_up I34 143 v35.toInt.toNat kv1) 118 41 v38) 118 13 2) 118 14 fp39) 118 13 = _ from ((hk_neq (by decide)).trans (hk_same))) (show (qm_up (qm_up (qm_up (qm_up I34 143 v35.toInt.toNat kv1) 118 41 v38) 118 13 2) 118 14 fp39) 118 14 = _ from (hk_same)) rf43
            · have t0_t40 := q_t0 e_t40 ht0
              have kq45 : 28 ≤ tK B n t.toInt.toNat ∧ tK B n t.toInt.toNat ≤ 30 := rTk_P (P := fun x => x ≠ 7 ∧ x ≠ 8 ∧ x = 9 ∧ x ≠ 10) (Q := fun d => 28 ≤ d ∧ d ≤ 30) ht_kv1 (by decide +kernel) ⟨z4, z6, z8, z33⟩
              have hF44 : fS B n t40.toInt.toNat = some (8, td, dp, rt, nm, lf, lp, b, li, tr, be, lt, pr, pl, T) := q_sign hF haw kq45 ht0 x4_t40 e_t40
              refine qm_Rp.go 4 (c' := (17, [.ref 118, .int 0, .int 1], [.ref 118], (h.1, qm_up (qm_up (qm_up I34 143 v35.toInt.toNat kv1) 118 41 v38) 118 11 t40, h.2.2.1, h.2.2.2))) rfl ?_
              refine hp_geti (v := 0) rfl (hH.1 118 (17, 105) rfl) rfl (show (qm_up (qm_up (qm_up I34 143 v35.toInt.toNat kv1) 118 41 v38) 118 11 t40) 118 13 = _ from ((hk_neq (by decide)).trans ((hk_neq (by decide)).trans ((hk_ot rfl).trans ((e8_I34 13 rfl).trans q_f))))) ?_
              refine qm_Rp.go 1 (c' := (23, [.ref 118, .int 0, .int 1], [], (h.1, qm_up (qm_up (qm_up I34 143 v35.toInt.toNat kv1) 118 41 v38) 118 11 t40, h.2.2.1, h.2.2.2))) rfl ?_
              exact (ih g hg).1 (qm_up (qm_up (qm_up I34 143 v35.toInt.toNat kv1) 118 41 v38) 118 11 t40) t40 op 8 dp (fun o ho i => ((hk_mod ho rfl).trans ((hk_mod ho rfl).trans ((hk_mod ho rfl).trans ((e_I34 o (hk_ms rfl ho) i).trans ((e o (hk_ms rfl ho) i).trans rfl)))))) (fun i hi => ((hk_neq (fun z => by subst z; cases hi)).trans ((hk_neq (fun z => by subst z; cases hi)).trans ((hk_ot rfl).trans ((e8_I34 i (hk_ms rfl hi)).trans ((e8 i (hk_ms rfl hi)).trans rfl)))))) (show (qm_up (qm_up (qm_up I34 143 v35.toInt.toNat kv1) 118 41 v38) 118 11 t40) 118 11 = _ from (hk_same)) (show (qm_up (qm_up (qm_up I34 143 v35.toInt.toNat kv1) 118 41 v38) 118 11 t40) 118 12 = _ from ((hk_neq (by decide)).trans ((hk_neq (by decide)).trans ((hk_ot rfl).trans ((e8_I34 12 rfl).trans q_op))))) (show (qm_up (qm_up (qm_up I34 143 v35.toInt.toNat kv1) 118 41 v38) 118 11 t40) 118 13 = _ from ((hk_neq (by decide)).trans ((hk_neq (by decide)).trans ((hk_ot rfl).trans ((e8_I34 13 rfl).trans q_f))))) t0_t40 hF44 (Or.inr rfl) hop (fun z => absurd z (by decide)) _
        · refine qm_Rp.go 2 (c' := (25, [.ref 118, .int 8], [.int 1], (h.1, I, h.2.2.1, h.2.2.2))) rfl ?_
          refine qm_Rp.rt (v := (some (.int 1))) (h' := (h.1, I, h.2.2.1, h.2.2.2)) rfl ?_
          refine qm_Rp.go 9 (c' := (205, [.ref 118, .int 0, .int 1], [.int 10, .ref 118, .ref 118], (h.1, I, h.2.2.1, h.2.2.2))) rfl ?_
          refine hp_inv (o := 118) (r := [.ref 118]) (as := [.ref 118, .int 10]) rfl rfl (hH.1 118 (17, 105) rfl) rfl rfl rfl ?_
          refine qm_Rp.go 1 (c' := (1, [.ref 118, .int 10], [.ref 118], (h.1, I, h.2.2.1, h.2.2.2))) rfl ?_
          refine hp_geti (v := 0) rfl (hH.1 118 (17, 105) rfl) rfl q_f ?_
          refine qm_Rp.go 2 (c' := (8, [.ref 118, .int 10], [.ref 118], (h.1, I, h.2.2.1, h.2.2.2))) rfl ?_
          refine hp_getr rfl (hH.1 118 (17, 105) rfl) rfl (hH.2 118 5 (some 121) rfl) ?_
          refine qm_Rp.go 1 (c' := (12, [.ref 118, .int 10], [.ref 118, .ref 121], (h.1, I, h.2.2.1, h.2.2.2))) rfl ?_
          refine hp_geti (v := t) rfl (hH.1 118 (17, 105) rfl) rfl q_t ?_
          refine qm_Rp.go 0 (c' := (15, [.ref 118, .int 10], [.int t, .ref 121], (h.1, I, h.2.2.1, h.2.2.2))) rfl ?_
          refine hp_ial (v := kv1) rfl (hH.1 121 (0, 403) rfl) (show (I) 121 t.toInt.toNat = _ from ((e 121 rfl t.toInt.toNat).trans q_kv1)) (fun ia_45 ib_45 => ?_)
          refine qm_Rp.go 1 (c' := (17, [.ref 118, .int 10], [.int 10, .int kv1], (h.1, I, h.2.2.1, h.2.2.2))) rfl ?_
          refine hp_cne (ix := kv1.toInt) (iy := 10) rfl rfl rfl (fun (z47 : hid (kv1.toInt ≠ 10)) => ?_) (fun z47 => by exfalso; omega)
          refine qm_Rp.go 1 (c' := (25, [.ref 118, .int 10], [.int 0], (h.1, I, h.2.2.1, h.2.2.2))) rfl ?_
          refine qm_Rp.rt (v := (some (.int 0))) (h' := (h.1, I, h.2.2.1, h.2.2.2)) rfl ?_
          refine qm_Rp.go 0 (c' := (208, [.ref 118, .int 0, .int 1], [.int 0, .ref 118], (h.1, I, h.2.2.1, h.2.2.2))) rfl ?_
          refine hp_inv (o := 118) (r := []) (as := [.ref 118, .int 0]) rfl rfl (hH.1 118 (17, 105) rfl) rfl rfl rfl (px_co (h := (h.1, I, h.2.2.1, h.2.2.2)) hH (fun I48 e_I48 e8_I48 => ?_))
          have e_I48 : (∀ o, [118, 141, 142].contains o = false → ∀ i, I48 o i = (I) o i) := e_I48
          have e8_I48 : (∀ i, [37, 41].contains i = false → I48 118 i = (I) 118 i) := e8_I48
          refine qm_Rp.go 0 (c' := (211, [.ref 118, .int 0, .int 1], [], (h.1, I48, h.2.2.1, h.2.2.2))) rfl ?_
          refine qm_Rp.go 1 (c' := (212, [.ref 118, .int 0, .int 1], [.ref 118], (h.1, I48, h.2.2.1, h.2.2.2))) rfl ?_
          refine hp_getr rfl (hH.1 118 (17, 105) rfl) rfl (hH.2 118 40 (some 143) rfl) ?_
          refine qm_Rp.go 1 (c' := (216, [.ref 118, .int 0, .int 1], [.ref 118, .ref 143], (h.1, I48, h.2.2.1, h.2.2.2))) rfl ?_
          obtain ⟨v49, q_v49⟩ : ∃ v_, I48 118 41 = v_ := ⟨_, rfl⟩
          refine hp_geti (v := v49) rfl (hH.1 118 (17, 105) rfl) rfl q_v49 ?_
          refine qm_Rp.go 1 (c' := (220, [.ref 118, .int 0, .int 1], [.ref 118, .int v49, .ref 143], (h.1, I48, h.2.2.1, h.2.2.2))) rfl ?_
          refine hp_getr rfl (hH.1 118 (17, 105) rfl) rfl (hH.2 118 5 (some 121) rfl) ?_
          refine qm_Rp.go 1 (c' := (224, [.ref 118, .int 0, .int 1], [.ref 118, .ref 121, .int v49, .ref 143], (h.1, I48, h.2.2.1, h.2.2.2))) rfl ?_
          refine hp_geti (v := t) rfl (hH.1 118 (17, 105) rfl) rfl (show (I48) 118 11 = _ from ((e8_I48 11 rfl).trans q_t)) ?_
          refine qm_Rp.go 0 (c' := (227, [.ref 118, .int 0, .int 1], [.int t, .ref 121, .int v49, .ref 143], (h.1, I48, h.2.2.1, h.2.2.2))) rfl ?_
          refine hp_ial (v := kv1) rfl (hH.1 121 (0, 403) rfl) (show (I48) 121 t.toInt.toNat = _ from ((e_I48 121 rfl t.toInt.toNat).trans ((e 121 rfl t.toInt.toNat).trans q_kv1))) (fun ia_49 ib_49 => ?_)
          refine qm_Rp.go 0 (c' := (228, [.ref 118, .int 0, .int 1], [.int kv1, .int v49, .ref 143], (h.1, I48, h.2.2.1, h.2.2.2))) rfl ?_
          refine hp_ias rfl (hH.1 143 (0, 64) rfl) (fun ia_50 ib_50 => ?_)
          refine qm_Rp.go 2 (c' := (231, [.ref 118, .int 0, .int 1], [.ref 118, .ref 118], (h.1, qm_up I48 143 v49.toInt.toNat kv1, h.2.2.1, h.2.2.2))) rfl ?_
          refine hp_geti (v := v49) rfl (hH.1 118 (17, 105) rfl) rfl (show (qm_up I48 143 v49.toInt.toNat kv1) 118 41 = _ from ((hk_ot rfl).trans q_v49)) ?_
          refine qm_Rp.go 2 (c' := (236, [.ref 118, .int 0, .int 1], [.int (v49 + 1), .ref 118], (h.1, qm_up I48 143 v49.toInt.toNat kv1, h.2.2.1, h.2.2.2))) rfl ?_
          obtain ⟨v52, q_v52, e_v52⟩ := hk_add (x := v49) (y := 1) (a := v49.toInt) (b := 1) rfl rfl (by omega) (by omega)
          rw [q_v52]
          refine hp_puti rfl (hH.1 118 (17, 105) rfl) rfl ?_
          refine qm_Rp.go 1 (c' := (240, [.ref 118, .int 0, .int 1], [.ref 118], (h.1, qm_up (qm_up I48 143 v49.toInt.toNat kv1) 118 41 v52, h.2.2.1, h.2.2.2))) rfl ?_
          refine hp_inv (o := 118) (r := []) (as := [.ref 118]) rfl rfl (hH.1 118 (17, 105) rfl) rfl rfl rfl (px_go (h := (h.1, qm_up (qm_up I48 143 v49.toInt.toNat kv1) 118 41 v52, h.2.2.1, h.2.2.2)) hH (show (qm_up (qm_up I48 143 v49.toInt.toNat kv1) 118 41 v52) 118 11 = _ from ((hk_neq (by decide)).trans ((hk_ot rfl).trans ((e8_I48 11 rfl).trans q_t)))) (show (qm_up (qm_up I48 143 v49.toInt.toNat kv1) 118 41 v52) 118 13 = _ from ((hk_neq (by decide)).trans ((hk_ot rfl).trans ((e8_I48 13 rfl).trans q_f)))) htb_kv1 (fun fp53 q_fp53 x4_fp53 => ?_) (fun t54 e_t54 x4_t54 => ?_))
          · have ex_fp53 : fp53 = pv2 := (q_fp53.symm.trans (show (qm_up (qm_up I48 143 v49.toInt.toNat kv1) 118 41 v52) 122 t.toInt.toNat = _ from ((hk_ot rfl).trans ((hk_ot rfl).trans ((e_I48 122 rfl t.toInt.toNat).trans ((e 122 rfl t.toInt.toNat).trans q_pv2))))))
            have kq55 : tK B n t.toInt.toNat ≠ 37 := rTk_P (P := fun x => x ≠ 7 ∧ x = 8 ∧ x ≠ 10) (Q := fun d => d ≠ 37) ht_kv1 (by decide +kernel) ⟨z4, z6, z47⟩
            have kq56 : 28 ≤ tK B n t.toInt.toNat ∧ tK B n t.toInt.toNat ≤ 30 := rTk_P (P := fun x => x ≠ 7 ∧ x = 8 ∧ x ≠ 10) (Q := fun d => 28 ≤ d ∧ d ≤ 30) ht_kv1 (by decide +kernel) ⟨z4, z6, z47⟩
            have rf57 : rfin B n 2 fp53 := r2_go hF kq55 (fo_9a ⟨haw, kq56⟩) (by decide) x4_fp53 rfl ((congrArg Int32.toInt ex_fp53).trans hp_kv1)
            refine qm_Rp.go 4 (c' := (17, [.ref 118, .int 0, .int 1], [.ref 118], (h.1, qm_up (qm_up (qm_up (qm_up I48 143 v49.toInt.toNat kv1) 118 41 v52) 118 13 2) 118 14 fp53, h.2.2.1, h.2.2.2))) rfl ?_
            refine hp_geti (v := 2) rfl (hH.1 118 (17, 105) rfl) rfl (show (qm_up (qm_up (qm_up (qm_up I48 143 v49.toInt.toNat kv1) 118 41 v52) 118 13 2) 118 14 fp53) 118 13 = _ from ((hk_neq (by decide)).trans (hk_same))) ?_
            refine qm_Rp.go 1 (c' := (246, [.ref 118, .int 0, .int 1], [], (h.1, qm_up (qm_up (qm_up (qm_up I48 143 v49.toInt.toNat kv1) 118 41 v52) 118 13 2) 118 14 fp53, h.2.2.1, h.2.2.2))) rfl ?_
            refine qm_Rp.rt (v := none) (h' := (h.1, qm_up (qm_up (qm_up (qm_up I48 143 v49.toInt.toNat kv1) 118 41 v52) 118 13 2) 118 14 fp53, h.2.2.1, h.2.2.2)) rfl ?_
            exact k1 (qm_up (qm_up (qm_up (qm_up I48 143 v49.toInt.toNat kv1) 118 41 v52) 118 13 2) 118 14 fp53) 2 fp53 op (fun o ho i => ((hk_mod ho rfl).trans ((hk_mod ho rfl).trans ((hk_mod ho rfl).trans ((hk_mod ho rfl).trans ((e_I48 o (hk_ms rfl ho) i).trans ((e o (hk_ms rfl ho) i).trans rfl))))))) (fun i hi => ((hk_neq (fun z => by subst z; cases hi)).trans ((hk_neq (fun z => by subst z; cases hi)).trans ((hk_neq (fun z => by subst z; cases hi)).trans ((hk_ot rfl).trans ((e8_I48 i (hk_ms rfl hi)).trans ((e8 i (hk_ms rfl hi)).trans rfl))))))) (show (qm_up (qm_up (qm_up (qm_up I48 143 v49.toInt.toNat kv1) 118 41 v52) 118 13 2) 118 14 fp53) 118 12 = _ from ((hk_neq (by decide)).trans ((hk_neq (by decide)).trans ((hk_neq (by decide)).trans ((hk_ot rfl).trans ((e8_I48 12 rfl).trans q_op)))))) (show (qm_up (qm_up (qm_up (qm_up I48 143 v49.toInt.toNat kv1) 118 41 v52) 118 13 2) 118 14 fp53) 118 13 = _ from ((hk_neq (by decide)).trans (hk_same))) (show (qm_up (qm_up (qm_up (qm_up I48 143 v49.toInt.toNat kv1) 118 41 v52) 118 13 2) 118 14 fp53) 118 14 = _ from (hk_same)) rf57
          · have t0_t54 := q_t0 e_t54 ht0
            have kq59 : 28 ≤ tK B n t.toInt.toNat ∧ tK B n t.toInt.toNat ≤ 30 := rTk_P (P := fun x => x ≠ 7 ∧ x = 8 ∧ x ≠ 10) (Q := fun d => 28 ≤ d ∧ d ≤ 30) ht_kv1 (by decide +kernel) ⟨z4, z6, z47⟩
            have hF58 : fS B n t54.toInt.toNat = some (8, td, dp, rt, nm, lf, lp, b, li, tr, be, lt, pr, pl, T) := q_sign hF haw kq59 ht0 x4_t54 e_t54
            refine qm_Rp.go 4 (c' := (17, [.ref 118, .int 0, .int 1], [.ref 118], (h.1, qm_up (qm_up (qm_up I48 143 v49.toInt.toNat kv1) 118 41 v52) 118 11 t54, h.2.2.1, h.2.2.2))) rfl ?_
            refine hp_geti (v := 0) rfl (hH.1 118 (17, 105) rfl) rfl (show (qm_up (qm_up (qm_up I48 143 v49.toInt.toNat kv1) 118 41 v52) 118 11 t54) 118 13 = _ from ((hk_neq (by decide)).trans ((hk_neq (by decide)).trans ((hk_ot rfl).trans ((e8_I48 13 rfl).trans q_f))))) ?_
            refine qm_Rp.go 1 (c' := (23, [.ref 118, .int 0, .int 1], [], (h.1, qm_up (qm_up (qm_up I48 143 v49.toInt.toNat kv1) 118 41 v52) 118 11 t54, h.2.2.1, h.2.2.2))) rfl ?_
            exact (ih g hg).1 (qm_up (qm_up (qm_up I48 143 v49.toInt.toNat kv1) 118 41 v52) 118 11 t54) t54 op 8 dp (fun o ho i => ((hk_mod ho rfl).trans ((hk_mod ho rfl).trans ((hk_mod ho rfl).trans ((e_I48 o (hk_ms rfl ho) i).trans ((e o (hk_ms rfl ho) i).trans rfl)))))) (fun i hi => ((hk_neq (fun z => by subst z; cases hi)).trans ((hk_neq (fun z => by subst z; cases hi)).trans ((hk_ot rfl).trans ((e8_I48 i (hk_ms rfl hi)).trans ((e8 i (hk_ms rfl hi)).trans rfl)))))) (show (qm_up (qm_up (qm_up I48 143 v49.toInt.toNat kv1) 118 41 v52) 118 11 t54) 118 11 = _ from (hk_same)) (show (qm_up (qm_up (qm_up I48 143 v49.toInt.toNat kv1) 118 41 v52) 118 11 t54) 118 12 = _ from ((hk_neq (by decide)).trans ((hk_neq (by decide)).trans ((hk_ot rfl).trans ((e8_I48 12 rfl).trans q_op))))) (show (qm_up (qm_up (qm_up I48 143 v49.toInt.toNat kv1) 118 41 v52) 118 11 t54) 118 13 = _ from ((hk_neq (by decide)).trans ((hk_neq (by decide)).trans ((hk_ot rfl).trans ((e8_I48 13 rfl).trans q_f))))) t0_t54 hF58 (Or.inr rfl) hop (fun z => absurd z (by decide)) _
      · refine qm_Rp.go 2 (c' := (25, [.ref 118, .int 7], [.int 1], (h.1, I, h.2.2.1, h.2.2.2))) rfl ?_
        refine qm_Rp.rt (v := (some (.int 1))) (h' := (h.1, I, h.2.2.1, h.2.2.2)) rfl ?_
        refine qm_Rp.go 2 (c' := (106, [.ref 118, .int 0, l2], [.ref 118], (h.1, I, h.2.2.1, h.2.2.2))) rfl ?_
        refine hp_geti (v := op) rfl (hH.1 118 (17, 105) rfl) rfl q_op ?_
        refine qm_Rp.go 1 (c' := (110, [.ref 118, .int 0, l2], [.int 0, .int op], (h.1, I, h.2.2.1, h.2.2.2))) rfl ?_
        refine hp_cle (ix := op.toInt) (iy := 0) rfl rfl rfl (fun z60 => ?_) (fun z60 => ?_)
        · refine qm_Rp.go 2 (c' := (148, [.ref 118, .int 0, l2], [.int 8, .ref 118], (h.1, I, h.2.2.1, h.2.2.2))) rfl ?_
          refine hp_inv (o := 118) (r := []) (as := [.ref 118, .int 8]) rfl rfl (hH.1 118 (17, 105) rfl) rfl rfl rfl ?_
          refine qm_Rp.go 1 (c' := (1, [.ref 118, .int 8], [.ref 118], (h.1, I, h.2.2.1, h.2.2.2))) rfl ?_
          refine hp_geti (v := 0) rfl (hH.1 118 (17, 105) rfl) rfl q_f ?_
          refine qm_Rp.go 2 (c' := (8, [.ref 118, .int 8], [.ref 118], (h.1, I, h.2.2.1, h.2.2.2))) rfl ?_
          refine hp_getr rfl (hH.1 118 (17, 105) rfl) rfl (hH.2 118 5 (some 121) rfl) ?_
          refine qm_Rp.go 1 (c' := (12, [.ref 118, .int 8], [.ref 118, .ref 121], (h.1, I, h.2.2.1, h.2.2.2))) rfl ?_
          refine hp_geti (v := t) rfl (hH.1 118 (17, 105) rfl) rfl q_t ?_
          refine qm_Rp.go 0 (c' := (15, [.ref 118, .int 8], [.int t, .ref 121], (h.1, I, h.2.2.1, h.2.2.2))) rfl ?_
          refine hp_ial (v := kv1) rfl (hH.1 121 (0, 403) rfl) (show (I) 121 t.toInt.toNat = _ from ((e 121 rfl t.toInt.toNat).trans q_kv1)) (fun ia_60 ib_60 => ?_)
          refine qm_Rp.go 1 (c' := (17, [.ref 118, .int 8], [.int 8, .int kv1], (h.1, I, h.2.2.1, h.2.2.2))) rfl ?_
          refine hp_cne (ix := kv1.toInt) (iy := 8) rfl rfl rfl (fun (z62 : hid (kv1.toInt ≠ 8)) => ?_) (fun z62 => by exfalso; omega)
          refine qm_Rp.go 1 (c' := (25, [.ref 118, .int 8], [.int 0], (h.1, I, h.2.2.1, h.2.2.2))) rfl ?_
          refine qm_Rp.rt (v := (some (.int 0))) (h' := (h.1, I, h.2.2.1, h.2.2.2)) rfl ?_
          refine qm_Rp.go 3 (c' := (157, [.ref 118, .int 0, l2], [.int 9, .ref 118], (h.1, I, h.2.2.1, h.2.2.2))) rfl ?_
          refine hp_inv (o := 118) (r := []) (as := [.ref 118, .int 9]) rfl rfl (hH.1 118 (17, 105) rfl) rfl rfl rfl ?_
          refine qm_Rp.go 1 (c' := (1, [.ref 118, .int 9], [.ref 118], (h.1, I, h.2.2.1, h.2.2.2))) rfl ?_
          refine hp_geti (v := 0) rfl (hH.1 118 (17, 105) rfl) rfl q_f ?_
          refine qm_Rp.go 2 (c' := (8, [.ref 118, .int 9], [.ref 118], (h.1, I, h.2.2.1, h.2.2.2))) rfl ?_
          refine hp_getr rfl (hH.1 118 (17, 105) rfl) rfl (hH.2 118 5 (some 121) rfl) ?_
          refine qm_Rp.go 1 (c' := (12, [.ref 118, .int 9], [.ref 118, .ref 121], (h.1, I, h.2.2.1, h.2.2.2))) rfl ?_
          refine hp_geti (v := t) rfl (hH.1 118 (17, 105) rfl) rfl q_t ?_
          refine qm_Rp.go 0 (c' := (15, [.ref 118, .int 9], [.int t, .ref 121], (h.1, I, h.2.2.1, h.2.2.2))) rfl ?_
          refine hp_ial (v := kv1) rfl (hH.1 121 (0, 403) rfl) (show (I) 121 t.toInt.toNat = _ from ((e 121 rfl t.toInt.toNat).trans q_kv1)) (fun ia_62 ib_62 => ?_)
          refine qm_Rp.go 1 (c' := (17, [.ref 118, .int 9], [.int 9, .int kv1], (h.1, I, h.2.2.1, h.2.2.2))) rfl ?_
          refine hp_cne (ix := kv1.toInt) (iy := 9) rfl rfl rfl (fun (z64 : hid (kv1.toInt ≠ 9)) => ?_) (fun z64 => by exfalso; omega)
          refine qm_Rp.go 1 (c' := (25, [.ref 118, .int 9], [.int 0], (h.1, I, h.2.2.1, h.2.2.2))) rfl ?_
          refine qm_Rp.rt (v := (some (.int 0))) (h' := (h.1, I, h.2.2.1, h.2.2.2)) rfl ?_
          refine qm_Rp.go 3 (c' := (166, [.ref 118, .int 0, l2], [.int 10, .ref 118], (h.1, I, h.2.2.1, h.2.2.2))) rfl ?_
          refine hp_inv (o := 118) (r := []) (as := [.ref 118, .int 10]) rfl rfl (hH.1 118 (17, 105) rfl) rfl rfl rfl ?_
          refine qm_Rp.go 1 (c' := (1, [.ref 118, .int 10], [.ref 118], (h.1, I, h.2.2.1, h.2.2.2))) rfl ?_
          refine hp_geti (v := 0) rfl (hH.1 118 (17, 105) rfl) rfl q_f ?_
          refine qm_Rp.go 2 (c' := (8, [.ref 118, .int 10], [.ref 118], (h.1, I, h.2.2.1, h.2.2.2))) rfl ?_
          refine hp_getr rfl (hH.1 118 (17, 105) rfl) rfl (hH.2 118 5 (some 121) rfl) ?_
          refine qm_Rp.go 1 (c' := (12, [.ref 118, .int 10], [.ref 118, .ref 121], (h.1, I, h.2.2.1, h.2.2.2))) rfl ?_
          refine hp_geti (v := t) rfl (hH.1 118 (17, 105) rfl) rfl q_t ?_
          refine qm_Rp.go 0 (c' := (15, [.ref 118, .int 10], [.int t, .ref 121], (h.1, I, h.2.2.1, h.2.2.2))) rfl ?_
          refine hp_ial (v := kv1) rfl (hH.1 121 (0, 403) rfl) (show (I) 121 t.toInt.toNat = _ from ((e 121 rfl t.toInt.toNat).trans q_kv1)) (fun ia_64 ib_64 => ?_)
          refine qm_Rp.go 1 (c' := (17, [.ref 118, .int 10], [.int 10, .int kv1], (h.1, I, h.2.2.1, h.2.2.2))) rfl ?_
          refine hp_cne (ix := kv1.toInt) (iy := 10) rfl rfl rfl (fun (z66 : hid (kv1.toInt ≠ 10)) => ?_) (fun z66 => by exfalso; omega)
          refine qm_Rp.go 1 (c' := (25, [.ref 118, .int 10], [.int 0], (h.1, I, h.2.2.1, h.2.2.2))) rfl ?_
          refine qm_Rp.rt (v := (some (.int 0))) (h' := (h.1, I, h.2.2.1, h.2.2.2)) rfl ?_
          refine qm_Rp.go 6 (c' := (183, [.ref 118, .int 0, .int 0], [.ref 118], (h.1, I, h.2.2.1, h.2.2.2))) rfl ?_
          refine hp_geti (v := op) rfl (hH.1 118 (17, 105) rfl) rfl q_op ?_
          refine qm_Rp.go 1 (c' := (187, [.ref 118, .int 0, .int 0], [.int 0, .int op], (h.1, I, h.2.2.1, h.2.2.2))) rfl ?_
          refine hp_cle (ix := op.toInt) (iy := 0) rfl rfl rfl (fun z67 => ?_) (fun z67 => by exfalso; omega)
          refine qm_Rp.go 2 (c' := (197, [.ref 118, .int 0, .int 0], [.int 0, .ref 118], (h.1, I, h.2.2.1, h.2.2.2))) rfl ?_
          refine hp_inv (o := 118) (r := []) (as := [.ref 118, .int 0]) rfl rfl (hH.1 118 (17, 105) rfl) rfl rfl rfl (px_co (h := (h.1, I, h.2.2.1, h.2.2.2)) hH (fun I68 e_I68 e8_I68 => ?_))
          have e_I68 : (∀ o, [118, 141, 142].contains o = false → ∀ i, I68 o i = (I) o i) := e_I68
          have e8_I68 : (∀ i, [37, 41].contains i = false → I68 118 i = (I) 118 i) := e8_I68
          refine qm_Rp.go 0 (c' := (200, [.ref 118, .int 0, .int 0], [], (h.1, I68, h.2.2.1, h.2.2.2))) rfl ?_
          refine qm_Rp.rt (v := none) (h' := (h.1, I68, h.2.2.1, h.2.2.2)) rfl ?_
          have kq69 : ¬ (28 ≤ tK B n t.toInt.toNat ∧ tK B n t.toInt.toNat ≤ 30) := rTk_P (P := fun x => x = 7 ∧ x ≠ 8 ∧ x ≠ 9 ∧ x ≠ 10) (Q := fun d => ¬ (28 ≤ d ∧ d ≤ 30)) ht_kv1 (by decide +kernel) ⟨z4, z62, z64, z66⟩
          obtain ⟨d1, d0⟩ := q_z hop z67 g2
          obtain rfl := haw
          obtain rfl := d0
          exact k0 (I68) t (fun o ho i => ((e_I68 o (hk_ms rfl ho) i).trans ((e o (hk_ms rfl ho) i).trans rfl))) (fun i hi => ((e8_I68 i (hk_ms rfl hi)).trans ((e8 i (hk_ms rfl hi)).trans rfl))) (show (I68) 118 11 = _ from ((e8_I68 11 rfl).trans q_t)) ((show (I68) 118 12 = _ from ((e8_I68 12 rfl).trans q_op)).trans (hk_eqi.mpr d1)) (show (I68) 118 13 = _ from ((e8_I68 13 rfl).trans q_f)) ht0 hF kq69
        · refine qm_Rp.go 2 (c' := (115, [.ref 118, .int 0, l2], [.int 0, .ref 118], (h.1, I, h.2.2.1, h.2.2.2))) rfl ?_
          refine hp_inv (o := 118) (r := []) (as := [.ref 118, .int 0]) rfl rfl (hH.1 118 (17, 105) rfl) rfl rfl rfl (px_co (h := (h.1, I, h.2.2.1, h.2.2.2)) hH (fun I70 e_I70 e8_I70 => ?_))
          have e_I70 : (∀ o, [118, 141, 142].contains o = false → ∀ i, I70 o i = (I) o i) := e_I70
          have e8_I70 : (∀ i, [37, 41].contains i = false → I70 118 i = (I) 118 i) := e8_I70
          refine qm_Rp.go 2 (c' := (120, [.ref 118, .int 0, l2], [.ref 118, .ref 118], (h.1, I70, h.2.2.1, h.2.2.2))) rfl ?_
          obtain ⟨v71, q_v71⟩ : ∃ v_, I70 118 41 = v_ := ⟨_, rfl⟩
          refine hp_geti (v := v71) rfl (hH.1 118 (17, 105) rfl) rfl q_v71 ?_
          refine qm_Rp.go 2 (c' := (125, [.ref 118, .int 0, l2], [.int (v71 - 1), .ref 118], (h.1, I70, h.2.2.1, h.2.2.2))) rfl ?_
          obtain ⟨v72, q_v72⟩ : ∃ v_, (v71 - 1) = v_ := ⟨_, rfl⟩
          rw [q_v72]
          refine hp_puti rfl (hH.1 118 (17, 105) rfl) rfl ?_
          refine qm_Rp.go 2 (c' := (130, [.ref 118, .int 0, l2], [.ref 118, .ref 118], (h.1, qm_up I70 118 41 v72, h.2.2.1, h.2.2.2))) rfl ?_
          refine hp_geti (v := op) rfl (hH.1 118 (17, 105) rfl) rfl (show (qm_up I70 118 41 v72) 118 12 = _ from ((hk_neq (by decide)).trans ((e8_I70 12 rfl).trans q_op))) ?_
          refine qm_Rp.go 2 (c' := (135, [.ref 118, .int 0, l2], [.int (op - 1), .ref 118], (h.1, qm_up I70 118 41 v72, h.2.2.1, h.2.2.2))) rfl ?_
          obtain ⟨v73, q_v73, e_v73⟩ := hk_sub (x := op) (y := 1) (a := op.toInt) (b := 1) rfl rfl (by omega) (by omega)
          rw [q_v73]
          refine hp_puti rfl (hH.1 118 (17, 105) rfl) rfl ?_
          refine qm_Rp.go 0 (c' := (138, [.ref 118, .int 0, l2], [], (h.1, qm_up (qm_up I70 118 41 v72) 118 12 v73, h.2.2.1, h.2.2.2))) rfl ?_
          refine qm_Rp.go 1 (c' := (139, [.ref 118, .int 0, l2], [.ref 118], (h.1, qm_up (qm_up I70 118 41 v72) 118 12 v73, h.2.2.1, h.2.2.2))) rfl ?_
          refine hp_inv (o := 118) (r := []) (as := [.ref 118]) rfl rfl (hH.1 118 (17, 105) rfl) rfl rfl rfl (px_go (h := (h.1, qm_up (qm_up I70 118 41 v72) 118 12 v73, h.2.2.1, h.2.2.2)) hH (show (qm_up (qm_up I70 118 41 v72) 118 12 v73) 118 11 = _ from ((hk_neq (by decide)).trans ((hk_neq (by decide)).trans ((e8_I70 11 rfl).trans q_t)))) (show (qm_up (qm_up I70 118 41 v72) 118 12 v73) 118 13 = _ from ((hk_neq (by decide)).trans ((hk_neq (by decide)).trans ((e8_I70 13 rfl).trans q_f)))) htb_kv1 (fun fp74 q_fp74 x4_fp74 => ?_) (fun t75 e_t75 x4_t75 => ?_))
          · have ex_fp74 : fp74 = pv2 := (q_fp74.symm.trans (show (qm_up (qm_up I70 118 41 v72) 118 12 v73) 122 t.toInt.toNat = _ from ((hk_ot rfl).trans ((hk_ot rfl).trans ((e_I70 122 rfl t.toInt.toNat).trans ((e 122 rfl t.toInt.toNat).trans q_pv2))))))
            have kq76 : tK B n t.toInt.toNat ≠ 37 := rTk_P (P := fun x => x = 7) (Q := fun d => d ≠ 37) ht_kv1 (by decide +kernel) z4
            have kq77 : tK B n t.toInt.toNat = 36 := rTk_P (P := fun x => x = 7) (Q := fun d => d = 36) ht_kv1 (by decide +kernel) z4
            have rf78 : rfin B n 2 fp74 := r2_go hF kq76 (fo_9b ⟨haw, q_pos hop z60, kq77⟩) (by decide) x4_fp74 rfl ((congrArg Int32.toInt ex_fp74).trans hp_kv1)
            refine qm_Rp.go 1 (c' := (96, [.ref 118, .int 0, l2], [], (h.1, qm_up (qm_up (qm_up (qm_up I70 118 41 v72) 118 12 v73) 118 13 2) 118 14 fp74, h.2.2.1, h.2.2.2))) rfl ?_
            refine qm_Rp.go 2 (c' := (99, [.ref 118, .int 0, l2], [.int 7, .ref 118], (h.1, qm_up (qm_up (qm_up (qm_up I70 118 41 v72) 118 12 v73) 118 13 2) 118 14 fp74, h.2.2.1, h.2.2.2))) rfl ?_
            refine hp_inv (o := 118) (r := []) (as := [.ref 118, .int 7]) rfl rfl (hH.1 118 (17, 105) rfl) rfl rfl rfl ?_
            refine qm_Rp.go 1 (c' := (1, [.ref 118, .int 7], [.ref 118], (h.1, qm_up (qm_up (qm_up (qm_up I70 118 41 v72) 118 12 v73) 118 13 2) 118 14 fp74, h.2.2.1, h.2.2.2))) rfl ?_
            refine hp_geti (v := 2) rfl (hH.1 118 (17, 105) rfl) rfl (show (qm_up (qm_up (qm_up (qm_up I70 118 41 v72) 118 12 v73) 118 13 2) 118 14 fp74) 118 13 = _ from ((hk_neq (by decide)).trans (hk_same))) ?_
            refine qm_Rp.go 2 (c' := (25, [.ref 118, .int 7], [.int 0], (h.1, qm_up (qm_up (qm_up (qm_up I70 118 41 v72) 118 12 v73) 118 13 2) 118 14 fp74, h.2.2.1, h.2.2.2))) rfl ?_
            refine qm_Rp.rt (v := (some (.int 0))) (h' := (h.1, qm_up (qm_up (qm_up (qm_up I70 118 41 v72) 118 12 v73) 118 13 2) 118 14 fp74, h.2.2.1, h.2.2.2)) rfl ?_
            refine qm_Rp.go 3 (c' := (148, [.ref 118, .int 0, l2], [.int 8, .ref 118], (h.1, qm_up (qm_up (qm_up (qm_up I70 118 41 v72) 118 12 v73) 118 13 2) 118 14 fp74, h.2.2.1, h.2.2.2))) rfl ?_
            refine hp_inv (o := 118) (r := []) (as := [.ref 118, .int 8]) rfl rfl (hH.1 118 (17, 105) rfl) rfl rfl rfl ?_
            refine qm_Rp.go 1 (c' := (1, [.ref 118, .int 8], [.ref 118], (h.1, qm_up (qm_up (qm_up (qm_up I70 118 41 v72) 118 12 v73) 118 13 2) 118 14 fp74, h.2.2.1, h.2.2.2))) rfl ?_
            refine hp_geti (v := 2) rfl (hH.1 118 (17, 105) rfl) rfl (show (qm_up (qm_up (qm_up (qm_up I70 118 41 v72) 118 12 v73) 118 13 2) 118 14 fp74) 118 13 = _ from ((hk_neq (by decide)).trans (hk_same))) ?_
            refine qm_Rp.go 2 (c' := (25, [.ref 118, .int 8], [.int 0], (h.1, qm_up (qm_up (qm_up (qm_up I70 118 41 v72) 118 12 v73) 118 13 2) 118 14 fp74, h.2.2.1, h.2.2.2))) rfl ?_
            refine qm_Rp.rt (v := (some (.int 0))) (h' := (h.1, qm_up (qm_up (qm_up (qm_up I70 118 41 v72) 118 12 v73) 118 13 2) 118 14 fp74, h.2.2.1, h.2.2.2)) rfl ?_
            refine qm_Rp.go 3 (c' := (157, [.ref 118, .int 0, l2], [.int 9, .ref 118], (h.1, qm_up (qm_up (qm_up (qm_up I70 118 41 v72) 118 12 v73) 118 13 2) 118 14 fp74, h.2.2.1, h.2.2.2))) rfl ?_
            refine hp_inv (o := 118) (r := []) (as := [.ref 118, .int 9]) rfl rfl (hH.1 118 (17, 105) rfl) rfl rfl rfl ?_
            refine qm_Rp.go 1 (c' := (1, [.ref 118, .int 9], [.ref 118], (h.1, qm_up (qm_up (qm_up (qm_up I70 118 41 v72) 118 12 v73) 118 13 2) 118 14 fp74, h.2.2.1, h.2.2.2))) rfl ?_
            refine hp_geti (v := 2) rfl (hH.1 118 (17, 105) rfl) rfl (show (qm_up (qm_up (qm_up (qm_up I70 118 41 v72) 118 12 v73) 118 13 2) 118 14 fp74) 118 13 = _ from ((hk_neq (by decide)).trans (hk_same))) ?_
            refine qm_Rp.go 2 (c' := (25, [.ref 118, .int 9], [.int 0], (h.1, qm_up (qm_up (qm_up (qm_up I70 118 41 v72) 118 12 v73) 118 13 2) 118 14 fp74, h.2.2.1, h.2.2.2))) rfl ?_
            refine qm_Rp.rt (v := (some (.int 0))) (h' := (h.1, qm_up (qm_up (qm_up (qm_up I70 118 41 v72) 118 12 v73) 118 13 2) 118 14 fp74, h.2.2.1, h.2.2.2)) rfl ?_
            refine qm_Rp.go 3 (c' := (166, [.ref 118, .int 0, l2], [.int 10, .ref 118], (h.1, qm_up (qm_up (qm_up (qm_up I70 118 41 v72) 118 12 v73) 118 13 2) 118 14 fp74, h.2.2.1, h.2.2.2))) rfl ?_
            refine hp_inv (o := 118) (r := []) (as := [.ref 118, .int 10]) rfl rfl (hH.1 118 (17, 105) rfl) rfl rfl rfl ?_
            refine qm_Rp.go 1 (c' := (1, [.ref 118, .int 10], [.ref 118], (h.1, qm_up (qm_up (qm_up (qm_up I70 118 41 v72) 118 12 v73) 118 13 2) 118 14 fp74, h.2.2.1, h.2.2.2))) rfl ?_
            refine hp_geti (v := 2) rfl (hH.1 118 (17, 105) rfl) rfl (show (qm_up (qm_up (qm_up (qm_up I70 118 41 v72) 118 12 v73) 118 13 2) 118 14 fp74) 118 13 = _ from ((hk_neq (by decide)).trans (hk_same))) ?_
            refine qm_Rp.go 2 (c' := (25, [.ref 118, .int 10], [.int 0], (h.1, qm_up (qm_up (qm_up (qm_up I70 118 41 v72) 118 12 v73) 118 13 2) 118 14 fp74, h.2.2.1, h.2.2.2))) rfl ?_
            refine qm_Rp.rt (v := (some (.int 0))) (h' := (h.1, qm_up (qm_up (qm_up (qm_up I70 118 41 v72) 118 12 v73) 118 13 2) 118 14 fp74, h.2.2.1, h.2.2.2)) rfl ?_
            refine qm_Rp.go 6 (c' := (183, [.ref 118, .int 0, .int 0], [.ref 118], (h.1, qm_up (qm_up (qm_up (qm_up I70 118 41 v72) 118 12 v73) 118 13 2) 118 14 fp74, h.2.2.1, h.2.2.2))) rfl ?_
            refine hp_geti (v := v73) rfl (hH.1 118 (17, 105) rfl) rfl (show (qm_up (qm_up (qm_up (qm_up I70 118 41 v72) 118 12 v73) 118 13 2) 118 14 fp74) 118 12 = _ from ((hk_neq (by decide)).trans ((hk_neq (by decide)).trans (hk_same)))) ?_
            refine qm_Rp.go 1 (c' := (187, [.ref 118, .int 0, .int 0], [.int 0, .int v73], (h.1, qm_up (qm_up (qm_up (qm_up I70 118 41 v72) 118 12 v73) 118 13 2) 118 14 fp74, h.2.2.1, h.2.2.2))) rfl ?_
            refine hp_cle (ix := v73.toInt) (iy := 0) rfl rfl rfl (fun z79 => ?_) (fun z79 => ?_)
            · refine qm_Rp.go 2 (c' := (197, [.ref 118, .int 0, .int 0], [.int 0, .ref 118], (h.1, qm_up (qm_up (qm_up (qm_up I70 118 41 v72) 118 12 v73) 118 13 2) 118 14 fp74, h.2.2.1, h.2.2.2))) rfl ?_
              refine hp_inv (o := 118) (r := []) (as := [.ref 118, .int 0]) rfl rfl (hH.1 118 (17, 105) rfl) rfl rfl rfl (px_co (h := (h.1, qm_up (qm_up (qm_up (qm_up I70 118 41 v72) 118 12 v73) 118 13 2) 118 14 fp74, h.2.2.1, h.2.2.2)) hH (fun I80 e_I80 e8_I80 => ?_))
              have e_I80 : (∀ o, [118, 141, 142].contains o = false → ∀ i, I80 o i = (qm_up (qm_up (qm_up (qm_up I70 118 41 v72) 118 12 v73) 118 13 2) 118 14 fp74) o i) := e_I80
              have e8_I80 : (∀ i, [37, 41].contains i = false → I80 118 i = (qm_up (qm_up (qm_up (qm_up I70 118 41 v72) 118 12 v73) 118 13 2) 118 14 fp74) 118 i) := e8_I80
              refine qm_Rp.go 0 (c' := (200, [.ref 118, .int 0, .int 0], [], (h.1, I80, h.2.2.1, h.2.2.2))) rfl ?_
              refine qm_Rp.rt (v := none) (h' := (h.1, I80, h.2.2.1, h.2.2.2)) rfl ?_
              exact k1 (I80) 2 fp74 v73 (fun o ho i => ((e_I80 o (hk_ms rfl ho) i).trans ((hk_mod ho rfl).trans ((hk_mod ho rfl).trans ((hk_mod ho rfl).trans ((hk_mod ho rfl).trans ((e_I70 o (hk_ms rfl ho) i).trans ((e o (hk_ms rfl ho) i).trans rfl)))))))) (fun i hi => ((e8_I80 i (hk_ms rfl hi)).trans ((hk_neq (fun z => by subst z; cases hi)).trans ((hk_neq (fun z => by subst z; cases hi)).trans ((hk_neq (fun z => by subst z; cases hi)).trans ((hk_neq (fun z => by subst z; cases hi)).trans ((e8_I70 i (hk_ms rfl hi)).trans ((e8 i (hk_ms rfl hi)).trans rfl)))))))) (show (I80) 118 12 = _ from ((e8_I80 12 rfl).trans ((hk_neq (by decide)).trans ((hk_neq (by decide)).trans (hk_same))))) (show (I80) 118 13 = _ from ((e8_I80 13 rfl).trans ((hk_neq (by decide)).trans (hk_same)))) (show (I80) 118 14 = _ from ((e8_I80 14 rfl).trans (hk_same))) rf78
            · refine qm_Rp.go 2 (c' := (192, [.ref 118, .int 0, .int 0], [.int 1, .ref 118], (h.1, qm_up (qm_up (qm_up (qm_up I70 118 41 v72) 118 12 v73) 118 13 2) 118 14 fp74, h.2.2.1, h.2.2.2))) rfl ?_
              refine hp_inv (o := 118) (r := []) (as := [.ref 118, .int 1]) rfl rfl (hH.1 118 (17, 105) rfl) rfl rfl rfl ?_
              refine qm_Rp.go 1 (c' := (1, [.ref 118, .int 1], [.ref 118], (h.1, qm_up (qm_up (qm_up (qm_up I70 118 41 v72) 118 12 v73) 118 13 2) 118 14 fp74, h.2.2.1, h.2.2.2))) rfl ?_
              refine hp_geti (v := 2) rfl (hH.1 118 (17, 105) rfl) rfl (show (qm_up (qm_up (qm_up (qm_up I70 118 41 v72) 118 12 v73) 118 13 2) 118 14 fp74) 118 13 = _ from ((hk_neq (by decide)).trans (hk_same))) ?_
              refine qm_Rp.go 1 (c' := (7, [.ref 118, .int 1], [], (h.1, qm_up (qm_up (qm_up (qm_up I70 118 41 v72) 118 12 v73) 118 13 2) 118 14 fp74, h.2.2.1, h.2.2.2))) rfl ?_
              refine qm_Rp.rt (v := none) (h' := (h.1, qm_up (qm_up (qm_up (qm_up I70 118 41 v72) 118 12 v73) 118 13 2) 118 14 fp74, h.2.2.1, h.2.2.2)) rfl ?_
              refine qm_Rp.go 2 (c' := (197, [.ref 118, .int 0, .int 0], [.int 0, .ref 118], (h.1, qm_up (qm_up (qm_up (qm_up I70 118 41 v72) 118 12 v73) 118 13 2) 118 14 fp74, h.2.2.1, h.2.2.2))) rfl ?_
              refine hp_inv (o := 118) (r := []) (as := [.ref 118, .int 0]) rfl rfl (hH.1 118 (17, 105) rfl) rfl rfl rfl (px_co (h := (h.1, qm_up (qm_up (qm_up (qm_up I70 118 41 v72) 118 12 v73) 118 13 2) 118 14 fp74, h.2.2.1, h.2.2.2)) hH (fun I81 e_I81 e8_I81 => ?_))
              have e_I81 : (∀ o, [118, 141, 142].contains o = false → ∀ i, I81 o i = (qm_up (qm_up (qm_up (qm_up I70 118 41 v72) 118 12 v73) 118 13 2) 118 14 fp74) o i) := e_I81
              have e8_I81 : (∀ i, [37, 41].contains i = false → I81 118 i = (qm_up (qm_up (qm_up (qm_up I70 118 41 v72) 118 12 v73) 118 13 2) 118 14 fp74) 118 i) := e8_I81
              refine qm_Rp.go 0 (c' := (200, [.ref 118, .int 0, .int 0], [], (h.1, I81, h.2.2.1, h.2.2.2))) rfl ?_
              refine qm_Rp.rt (v := none) (h' := (h.1, I81, h.2.2.1, h.2.2.2)) rfl ?_
              exact k1 (I81) 2 fp74 v73 (fun o ho i => ((e_I81 o (hk_ms rfl ho) i).trans ((hk_mod ho rfl).trans ((hk_mod ho rfl).trans ((hk_mod ho rfl).trans ((hk_mod ho rfl).trans ((e_I70 o (hk_ms rfl ho) i).trans ((e o (hk_ms rfl ho) i).trans rfl)))))))) (fun i hi => ((e8_I81 i (hk_ms rfl hi)).trans ((hk_neq (fun z => by subst z; cases hi)).trans ((hk_neq (fun z => by subst z; cases hi)).trans ((hk_neq (fun z => by subst z; cases hi)).trans ((hk_neq (fun z => by subst z; cases hi)).trans ((e8_I70 i (hk_ms rfl hi)).trans ((e8 i (hk_ms rfl hi)).trans rfl)))))))) (show (I81) 118 12 = _ from ((e8_I81 12 rfl).trans ((hk_neq (by decide)).trans ((hk_neq (by decide)).trans (hk_same))))) (show (I81) 118 13 = _ from ((e8_I81 13 rfl).trans ((hk_neq (by decide)).trans (hk_same)))) (show (I81) 118 14 = _ from ((e8_I81 14 rfl).trans (hk_same))) rf78
          · have t0_t75 := q_t0 e_t75 ht0
            have kq83 : tK B n t.toInt.toNat = 36 := rTk_P (P := fun x => x = 7) (Q := fun d => d = 36) ht_kv1 (by decide +kernel) z4
            have hF82 : fS B n t75.toInt.toNat = some (9, td, (dp - 1), rt, nm, lf, lp, b, li, tr, be, lt, pr, pl, T) := q_close hF haw kq83 (q_pos hop z60) ht0 x4_t75 e_t75
            refine qm_Rp.go 1 (c' := (96, [.ref 118, .int 0, l2], [], (h.1, qm_up (qm_up (qm_up I70 118 41 v72) 118 12 v73) 118 11 t75, h.2.2.1, h.2.2.2))) rfl ?_
            exact (ih g hg).2 (qm_up (qm_up (qm_up I70 118 41 v72) 118 12 v73) 118 11 t75) t75 v73 9 (dp - 1) (fun o ho i => ((hk_mod ho rfl).trans ((hk_mod ho rfl).trans ((hk_mod ho rfl).trans ((e_I70 o (hk_ms rfl ho) i).trans ((e o (hk_ms rfl ho) i).trans rfl)))))) (fun i hi => ((hk_neq (fun z => by subst z; cases hi)).trans ((hk_neq (fun z => by subst z; cases hi)).trans ((hk_neq (fun z => by subst z; cases hi)).trans ((e8_I70 i (hk_ms rfl hi)).trans ((e8 i (hk_ms rfl hi)).trans rfl)))))) (show (qm_up (qm_up (qm_up I70 118 41 v72) 118 12 v73) 118 11 t75) 118 11 = _ from (hk_same)) (show (qm_up (qm_up (qm_up I70 118 41 v72) 118 12 v73) 118 11 t75) 118 12 = _ from ((hk_neq (by decide)).trans (hk_same))) (show (qm_up (qm_up (qm_up I70 118 41 v72) 118 12 v73) 118 11 t75) 118 13 = _ from ((hk_neq (by decide)).trans ((hk_neq (by decide)).trans ((hk_neq (by decide)).trans ((e8_I70 13 rfl).trans q_f))))) t0_t75 hF82 rfl (q_hop2 e_v73 hop) _
theorem px_ex {X : Option (Nat × (Nat → Int32))} {Z : Option Value → qm_H → Prop} {h : qm_H} {fu : Nat} (hH : hk_H h) {B : Nat → Int32} {n : Nat} (hA : rAll B n h.2.1 h.2.2.1) {td rt nm lf lp b li tr be lt pr pl : Int} {T : Nat → Int64} (k0 : ∀ (I : Nat → Nat → Int32) (t : Int32), (∀ o, [118, 141, 142, 143].contains o = false → ∀ i, I o i = h.2.1 o i) → (∀ i, [11, 12, 13, 14, 37, 41].contains i = false → I 118 i = h.2.1 118 i) → I 118 11 = t → I 118 12 = 0 → I 118 13 = 0 → 0 ≤ t.toInt → fS B n t.toInt.toNat = some (9, td, 0, rt, nm, lf, lp, b, li, tr, be, lt, pr, pl, T) → ¬ (28 ≤ tK B n t.toInt.toNat ∧ tK B n t.toInt.toNat ≤ 30) → Z none (h.1, I, h.2.2.1, h.2.2.2)) (k1 : ∀ (I : Nat → Nat → Int32) (f fp op : Int32), (∀ o, [118, 141, 142, 143].contains o = false → ∀ i, I o i = h.2.1 o i) → (∀ i, [11, 12, 13, 14, 37, 41].contains i = false → I 118 i = h.2.1 118 i) → I 118 12 = op → I 118 13 = f → I 118 14 = fp → rfin B n f fp → Z none (h.1, I, h.2.2.1, h.2.2.2)) {t : Int32} {aw : Int} (q_t : h.2.1 118 11 = t) (q_op : h.2.1 118 12 = 0) (q_f : h.2.1 118 13 = 0) (ht0 : 0 ≤ t.toInt) (hF : fS B n t.toInt.toNat = some (aw, td, 0, rt, nm, lf, lp, b, li, tr, be, lt, pr, pl, T)) (haw : aw = 7 ∨ aw = 8) (h11 : aw = 7 → tK B n t.toInt.toNat ≠ 11) : qm_Rp fu X cd_264 (qm_ent 3 [.ref 118] h) Z := by
  refine qm_Rp.go 0 (c' := (0, [.ref 118, .float 0, .float 0], [], h)) rfl ?_
  refine qm_Rp.go 2 (c' := (2, [.ref 118, .float 0, .float 0], [.int 0, .ref 118], h)) rfl ?_
  refine hp_puti rfl (hH.1 118 (17, 105) rfl) rfl ?_
  refine qm_Rp.go 1 (c' := (6, [.ref 118, .float 0, .float 0], [.ref 118], (h.1, qm_up h.2.1 118 41 0, h.2.2.1, h.2.2.2))) rfl ?_
  refine hp_geti (v := 0) rfl (hH.1 118 (17, 105) rfl) rfl (show (qm_up h.2.1 118 41 0) 118 12 = _ from ((hk_neq (by decide)).trans q_op)) ?_
  refine qm_Rp.go 6 (c' := (17, [.ref 118, .int 0, .int 1], [.ref 118], (h.1, qm_up h.2.1 118 41 0, h.2.2.1, h.2.2.2))) rfl ?_
  refine hp_geti (v := 0) rfl (hH.1 118 (17, 105) rfl) rfl (show (qm_up h.2.1 118 41 0) 118 13 = _ from ((hk_neq (by decide)).trans q_f)) ?_
  refine qm_Rp.go 1 (c' := (23, [.ref 118, .int 0, .int 1], [], (h.1, qm_up h.2.1 118 41 0, h.2.2.1, h.2.2.2))) rfl ?_
  exact (px_exl hH hA k0 k1 fu).1 (qm_up h.2.1 118 41 0) t 0 aw 0 (fun o ho i => ((hk_mod ho rfl).trans rfl)) (fun i hi => ((hk_neq (fun z => by subst z; cases hi)).trans rfl)) (show (qm_up h.2.1 118 41 0) 118 11 = _ from ((hk_neq (by decide)).trans q_t)) (show (qm_up h.2.1 118 41 0) 118 12 = _ from ((hk_neq (by decide)).trans q_op)) (show (qm_up h.2.1 118 41 0) 118 13 = _ from ((hk_neq (by decide)).trans q_f)) ht0 hF haw rfl h11 _
