/-! one instruction over what is known -/
abbrev qa_C : Type := Nat × List Value × List Value × qa_K
/-- goes on; a branch; an answer; a call; a number must be told apart first, value by value from .. to -/
abbrev qa_S : Type := qa_C ⊕ ((ClassFile.Cond × Value × Value × qa_C × qa_C) ⊕ ((Option Value × qa_K) ⊕ ((Nat × List Value × qa_C) ⊕ (Nat × Int × Int))))
abbrev qa_R : Type := Option qa_S
noncomputable def qa_nx (c : qa_C) : qa_R := some (.inl c)
noncomputable def qa_br (q : ClassFile.Cond) (x y : Value) (c1 c2 : qa_C) : qa_R := some (.inr (.inl (q, x, y, c1, c2)))
noncomputable def qa_rt (v : Option Value) (K : qa_K) : qa_R := some (.inr (.inr (.inl (v, K))))
noncomputable def qa_ca (j : Nat) (as : List Value) (c : qa_C) : qa_R := some (.inr (.inr (.inr (.inl (j, as, c)))))
noncomputable def qa_sp (n : Nat) (lo hi : Int) : qa_R := some (.inr (.inr (.inr (.inr (n, lo, hi)))))
/-- a number as it is, or within bounds -/
noncomputable def qa_pu (np : Nat) (ls r : List Value) (m : Value × qa_K) : qa_R := qa_nx (np, ls, m.1 :: r, m.2)
/-- the number made is x and c more -/
noncomputable def qa_ln (K : qa_K) (x : Value) (c : Int) (m : Value × qa_K) : Value × qa_K := match m.1, x with
  | .retAddr (n + 1), .retAddr (k + 1) => bif Nat.beq n K.1 && (zle (-2147483648) ((qa_bd K x).1 + c) && zle ((qa_bd K x).2 + c) 2147483647) then (m.1, (m.2.1, m.2.2.1, m.2.2.2.1, (n, k, c) :: m.2.2.2.2.1, m.2.2.2.2.2)) else m
  | _, _ => m
noncomputable def qa_ci (a : Value) : Option Int32 := match a with
  | .int c => some c
  | _ => none
noncomputable def qa_kc (a : Value) : Bool := match a with
  | .int _ => true
  | .long _ => true
  | _ => false
/-- a number that its bounds tell -/
noncomputable def qa_rs (K : qa_K) (a : Value) : Value := match a with
  | .retAddr (n + 1) => bif zeq (qa_lk K.2.1 n).1 (qa_lk K.2.1 n).2 then .int (Int32.ofInt (qa_lk K.2.1 n).1) else a
  | w => w
theorem qa_rs_g {p : List Int32} {K : qa_K} {a v : Value} (hs : qa_sat p K) (hg : qa_g p a v) : qa_g p (qa_rs K a) v := by
  unfold qa_rs
  split
  · rename_i n
    rw [zeq_eq]
    cases hb : decide ((qa_lk K.2.1 n).1 = (qa_lk K.2.1 n).2) with
    | false => exact hg
    | true =>
      rw [decide_eq_true_eq] at hb
      obtain ⟨x, h1, h2⟩ := hg
      have := qa_lk_ok h1 hs.2.1
      have e : x.toInt = (qa_lk K.2.1 n).1 := by
        unfold qa_in at this
        omega
      rw [cond_true, ← e, Int32.ofInt_toInt]
      exact h2
  · exact hg
/-- not 0 -/
noncomputable def qa_n0 (q : qa_B) : Bool := zle 1 q.1 || zle q.2 (-1)
theorem qa_n0_d (q : qa_B) : qa_n0 q = (decide (1 ≤ q.1) || decide (q.2 ≤ -1)) := by
  unfold qa_n0
  simp only [zle_eq, zlt_eq, zeq_eq, zmax_eq, zmin_eq]
/-- few numbers: tell them apart before a remainder -/
noncomputable def qa_sm (K : qa_K) (x y : Value) : Option Nat := match x, y with
  | .retAddr (n + 1), .int _ => bif decide ((qa_lk K.2.1 n).1 < (qa_lk K.2.1 n).2) && decide ((qa_lk K.2.1 n).2 ≤ (qa_lk K.2.1 n).1 + 7) then some n else none
  | _, _ => none
/-- within a row of n -/
noncomputable def qa_ri (q : qa_B) (n : Nat) : Bool := zle 0 q.1 && zlt q.2 (n : Int)
theorem qa_ri_d (q : qa_B) (n : Nat) : qa_ri q n = (decide (0 ≤ q.1) && decide (q.2 < (n : Int))) := by
  unfold qa_ri
  simp only [zle_eq, zlt_eq, zeq_eq, zmax_eq, zmin_eq]
/-- the script's place: number 0 and at most 5 more -/
noncomputable def qa_so1 : List (Nat × Nat × Int) → Nat → Option Nat
  | [], _ => none
  | d :: r, n => bif Nat.beq d.1 n && (Nat.beq d.2.1 0 && (decide (0 ≤ d.2.2) && decide (d.2.2 ≤ 5))) then some d.2.2.toNat else qa_so1 r n
noncomputable def qa_so (K : qa_K) (i : Value) : Option Nat := match i with
  | .retAddr (n + 1) => bif Nat.beq n 0 then some 0 else qa_so1 K.2.2.2.1 n
  | _ => none
noncomputable def qa_bin (np : Nat) (ls st : List Value) (K : qa_K) (f : qa_B → qa_B → qa_B) : qa_R := match st with
  | y :: x :: r => bif qa_il x && qa_il y then qa_pu np ls r (qa_mk K (f (qa_bd K x) (qa_bd K y))) else none
  | _ => none
noncomputable def qa_lon (np : Nat) (ls st : List Value) (K : qa_K) : qa_R := match st with
  | y :: x :: r => bif qa_lg x && qa_lg y then qa_nx (np, ls, .double 0 :: r, K) else none
  | _ => none
noncomputable def qa_rdi (P : qa_P) (np : Nat) (ls r : List Value) (K : qa_K) (o n : Nat) (i : Value) : qa_R := bif qa_ri (qa_bd K i) n then (match i with
  | .int c => qa_pu np ls r (qa_rd P K o c.toInt.toNat)
  | .retAddr (k + 1) => qa_pu np ls r (qa_rx P K o k)
  | _ => none) else none
noncomputable def qa_wri (P : qa_P) (np : Nat) (ls r : List Value) (K : qa_K) (o n : Nat) (i x : Value) : qa_R := bif (qa_ri (qa_bd K i) n && !qa_has P.2.2.2.1 o) && qa_il x then (match i with
  | .int c => bif qa_le (qa_bd K x) (qa_bnd P o c.toInt.toNat) then qa_nx (np, ls, r, qa_wr K o c.toInt.toNat x) else none
  | .retAddr (k + 1) => bif qa_les P o (qa_bd K x) then qa_nx (np, ls, r, qa_wx K o k x) else none
  | _ => none) else none
noncomputable def qi_iload (P : qa_P) (pc np a b : Nat) (v : Value) (ls st : List Value) (K : qa_K) : qa_R := match ls[a]? with
    | some w => bif qa_il w then qa_nx (np, ls, w :: st, K) else none
    | none => none
noncomputable def qi_iload_n (P : qa_P) (pc np a b : Nat) (v : Value) (ls st : List Value) (K : qa_K) : qa_R := match ls[a]? with
    | some w => bif qa_il w then qa_nx (np, ls, w :: st, K) else none
    | none => none
noncomputable def qi_lload (P : qa_P) (pc np a b : Nat) (v : Value) (ls st : List Value) (K : qa_K) : qa_R := match ls[a]? with
    | some w => bif qa_lg w then qa_nx (np, ls, w :: st, K) else none
    | none => none
noncomputable def qi_lload_n (P : qa_P) (pc np a b : Nat) (v : Value) (ls st : List Value) (K : qa_K) : qa_R := match ls[a]? with
    | some w => bif qa_lg w then qa_nx (np, ls, w :: st, K) else none
    | none => none
noncomputable def qi_aload (P : qa_P) (pc np a b : Nat) (v : Value) (ls st : List Value) (K : qa_K) : qa_R := match ls[a]? with
    | some (.ref o) => qa_nx (np, ls, .ref o :: st, K)
    | some (.retAddr 0) => qa_nx (np, ls, .retAddr 0 :: st, K)
    | _ => none
noncomputable def qi_aload_n (P : qa_P) (pc np a b : Nat) (v : Value) (ls st : List Value) (K : qa_K) : qa_R := match ls[a]? with
    | some (.ref o) => qa_nx (np, ls, .ref o :: st, K)
    | some (.retAddr 0) => qa_nx (np, ls, .retAddr 0 :: st, K)
    | _ => none
noncomputable def qi_istore (P : qa_P) (pc np a b : Nat) (v : Value) (ls st : List Value) (K : qa_K) : qa_R := match st with
    | w :: r => bif qa_il w then qa_nx (np, qm_s1 ls a w, r, K) else none
    | _ => none
noncomputable def qi_istore_n (P : qa_P) (pc np a b : Nat) (v : Value) (ls st : List Value) (K : qa_K) : qa_R := match st with
    | w :: r => bif qa_il w then qa_nx (np, qm_s1 ls a w, r, K) else none
    | _ => none
noncomputable def qi_lstore (P : qa_P) (pc np a b : Nat) (v : Value) (ls st : List Value) (K : qa_K) : qa_R := match st with
    | w :: r => bif qa_lg w then qa_nx (np, qm_s2 ls a w, r, K) else none
    | _ => none
noncomputable def qi_lstore_n (P : qa_P) (pc np a b : Nat) (v : Value) (ls st : List Value) (K : qa_K) : qa_R := match st with
    | w :: r => bif qa_lg w then qa_nx (np, qm_s2 ls a w, r, K) else none
    | _ => none
noncomputable def qi_astore (P : qa_P) (pc np a b : Nat) (v : Value) (ls st : List Value) (K : qa_K) : qa_R := match st with
    | .ref o :: r => qa_nx (np, qm_s1 ls a (.ref o), r, K)
    | _ => none
noncomputable def qi_astore_n (P : qa_P) (pc np a b : Nat) (v : Value) (ls st : List Value) (K : qa_K) : qa_R := match st with
    | .ref o :: r => qa_nx (np, qm_s1 ls a (.ref o), r, K)
    | _ => none
noncomputable def qi_iinc (P : qa_P) (pc np a b : Nat) (v : Value) (ls st : List Value) (K : qa_K) : qa_R := match ls[a]?, v with
    | some x, .int k => bif qa_il x then qa_nx (np, qm_s1 ls a (qa_ln K x k.toInt (qa_mk K (qa_add (qa_bd K x) (k.toInt, k.toInt)))).1, st, (qa_ln K x k.toInt (qa_mk K (qa_add (qa_bd K x) (k.toInt, k.toInt)))).2) else none
    | _, _ => none
noncomputable def qi_iadd (P : qa_P) (pc np a b : Nat) (v : Value) (ls st : List Value) (K : qa_K) : qa_R := match st with
    | .int k :: x :: r => bif qa_il x then qa_pu np ls r (qa_ln K x k.toInt (qa_mk K (qa_add (qa_bd K x) (k.toInt, k.toInt)))) else none
    | _ => qa_bin np ls st K qa_add
noncomputable def qi_isub (P : qa_P) (pc np a b : Nat) (v : Value) (ls st : List Value) (K : qa_K) : qa_R := match st with
    | .int k :: x :: r => bif qa_il x then qa_pu np ls r (qa_ln K x (-k).toInt (qa_mk K (qa_add (qa_bd K x) ((-k).toInt, (-k).toInt)))) else none
    | y :: x :: r => bif qa_il x && qa_il y then qa_pu np ls r (qa_mk K (qa_sub (qa_lo K x y) (qa_bd K x) (qa_bd K y))) else none
    | _ => none
noncomputable def qi_idiv (P : qa_P) (pc np a b : Nat) (v : Value) (ls st : List Value) (K : qa_K) : qa_R := match st with
    | y :: x :: r => bif (qa_il x && qa_il y) && qa_n0 (qa_bd K y) then qa_pu np ls r (qa_mk K (qa_div (qa_bd K x) (qa_bd K y))) else none
    | _ => none
noncomputable def qi_irem (P : qa_P) (pc np a b : Nat) (v : Value) (ls st : List Value) (K : qa_K) : qa_R := match st with
    | y :: x :: r => bif (qa_il x && qa_il y) && qa_n0 (qa_bd K y) then (match qa_sm K x y with
      | some n => qa_sp n (qa_lk K.2.1 n).1 (qa_lk K.2.1 n).2
      | none => qa_pu np ls r (qa_mk K (qa_rem (qa_bd K x) (qa_bd K y)))) else none
    | _ => none
noncomputable def qi_ineg (P : qa_P) (pc np a b : Nat) (v : Value) (ls st : List Value) (K : qa_K) : qa_R := match st with
    | x :: r => bif qa_il x then qa_pu np ls r (qa_mk K (qa_neg (qa_bd K x))) else none
    | _ => none
noncomputable def qi_i2b (P : qa_P) (pc np a b : Nat) (v : Value) (ls st : List Value) (K : qa_K) : qa_R := match st with
    | x :: r => bif qa_il x then qa_pu np ls r (qa_mk K (-128, 127)) else none
    | _ => none
noncomputable def qi_ldiv (P : qa_P) (pc np a b : Nat) (v : Value) (ls st : List Value) (K : qa_K) : qa_R := match st with
    | .long y :: x :: r => bif qa_lg x && decide (¬ y = 0) then qa_nx (np, ls, .double 0 :: r, K) else none
    | _ => none
noncomputable def qi_lrem (P : qa_P) (pc np a b : Nat) (v : Value) (ls st : List Value) (K : qa_K) : qa_R := match st with
    | .long y :: x :: r => bif qa_lg x && decide (¬ y = 0) then qa_nx (np, ls, .double 0 :: r, K) else none
    | _ => none
noncomputable def qi_lshl (P : qa_P) (pc np a b : Nat) (v : Value) (ls st : List Value) (K : qa_K) : qa_R := match st with
    | y :: x :: r => bif qa_lg x && qa_il y then qa_nx (np, ls, .double 0 :: r, K) else none
    | _ => none
noncomputable def qi_lshr (P : qa_P) (pc np a b : Nat) (v : Value) (ls st : List Value) (K : qa_K) : qa_R := match st with
    | y :: x :: r => bif qa_lg x && qa_il y then qa_nx (np, ls, .double 0 :: r, K) else none
    | _ => none
noncomputable def qi_lcmp (P : qa_P) (pc np a b : Nat) (v : Value) (ls st : List Value) (K : qa_K) : qa_R := match st with
    | y :: x :: r => bif qa_lg x && qa_lg y then qa_pu np ls r (qa_mk K (-1, 1)) else none
    | _ => none
noncomputable def qi_i2l (P : qa_P) (pc np a b : Nat) (v : Value) (ls st : List Value) (K : qa_K) : qa_R := match st with
    | x :: r => bif qa_il x then qa_nx (np, ls, .double 0 :: r, K) else none
    | _ => none
noncomputable def qi_l2i (P : qa_P) (pc np a b : Nat) (v : Value) (ls st : List Value) (K : qa_K) : qa_R := match st with
    | x :: r => bif qa_lg x then qa_pu np ls r (qa_mk K qa_full) else none
    | _ => none
noncomputable def qi_dup (P : qa_P) (pc np a b : Nat) (v : Value) (ls st : List Value) (K : qa_K) : qa_R := match st with
    | w :: r => bif Nat.beq w.category 1 then qa_nx (np, ls, w :: w :: r, K) else none
    | _ => none
noncomputable def qi_pop (P : qa_P) (pc np a b : Nat) (v : Value) (ls st : List Value) (K : qa_K) : qa_R := match st with
    | w :: r => bif Nat.beq w.category 1 then qa_nx (np, ls, r, K) else none
    | _ => none
noncomputable def qi_dup2 (P : qa_P) (pc np a b : Nat) (v : Value) (ls st : List Value) (K : qa_K) : qa_R := match st with
    | y :: w :: r => bif qa_il y && Nat.beq w.category 1 then qa_nx (np, ls, y :: w :: y :: w :: r, K) else bif qa_lg y then qa_nx (np, ls, y :: y :: w :: r, K) else none
    | [y] => bif qa_lg y then qa_nx (np, ls, [y, y], K) else none
    | _ => none
noncomputable def qi_ifCond (P : qa_P) (pc np a b : Nat) (v : Value) (ls st : List Value) (K : qa_K) (q : ClassFile.Cond) : qa_R := match st with
    | x :: r => bif qa_il x then qa_br q x (.int 0) (a, ls, r, K) (np, ls, r, K) else none
    | _ => none
noncomputable def qi_if_icmp (P : qa_P) (pc np a b : Nat) (v : Value) (ls st : List Value) (K : qa_K) (q : ClassFile.Cond) : qa_R := match st with
    | y :: x :: r => bif qa_il x && qa_il y then qa_br q x y (a, ls, r, K) (np, ls, r, K) else none
    | _ => none
noncomputable def qi_ifnull (P : qa_P) (pc np a b : Nat) (v : Value) (ls st : List Value) (K : qa_K) : qa_R := match st with
    | .ref _ :: r => qa_nx (np, ls, r, K)
    | .null :: r => qa_nx (a, ls, r, K)
    | _ => none
noncomputable def qi_ifnonnull (P : qa_P) (pc np a b : Nat) (v : Value) (ls st : List Value) (K : qa_K) : qa_R := match st with
    | .ref _ :: r => qa_nx (a, ls, r, K)
    | .null :: r => qa_nx (np, ls, r, K)
    | _ => none
noncomputable def qi_tableswitch (P : qa_P) (pc np a b : Nat) (v : Value) (ls st : List Value) (K : qa_K) (dflt : Int) (lo : Int) (hi : Int) (offs : Array Int) : qa_R := match st with
    | y :: r => (match qa_rs K y with
      | .int x => bif decide (x.toInt < lo ∨ hi < x.toInt) then qa_nx (qm_tgt pc dflt, ls, r, K) else match offs[(x.toInt - lo).toNat]? with
        | some off => qa_nx (qm_tgt pc off, ls, r, K)
        | none => none
      | .retAddr (n + 1) => bif decide ((qa_lk K.2.1 n).2 < lo) || decide (hi < (qa_lk K.2.1 n).1) then qa_nx (qm_tgt pc dflt, ls, r, K) else qa_sp n lo hi
      | _ => none)
    | _ => none
noncomputable def qi_lookupswitch (P : qa_P) (pc np a b : Nat) (v : Value) (ls st : List Value) (K : qa_K) (dflt : Int) (ps : Array (Int × Int)) : qa_R := match st with
    | y :: r => (match qa_rs K y with
      | .int x => qa_nx (qm_tgt pc (Op.lookupswitch.offset ps.toList dflt x.toInt), ls, r, K)
      | .retAddr (n + 1) => bif ps.toList.all (fun k => decide (k.1 < (qa_lk K.2.1 n).1) || decide ((qa_lk K.2.1 n).2 < k.1)) then qa_nx (qm_tgt pc dflt, ls, r, K) else qa_sp n (qa_lk K.2.1 n).1 (qa_lk K.2.1 n).2
      | _ => none)
    | _ => none
noncomputable def qi_getfield (P : qa_P) (pc np a b : Nat) (v : Value) (ls st : List Value) (K : qa_K) : qa_R := match st with
    | .ref o :: r => match qa_sh P o with
      | some q => bif Nat.beq q.1 (a + 5) then (match v with
        | .int _ => qa_pu np ls r (qa_rd P K o b)
        | .long _ => qa_nx (np, ls, .double 0 :: r, K)
        | .null => (match P.2.2.1 o b with
          | some w => qa_nx (np, ls, qm_rv w :: r, K)
          | none => none)
        | _ => none) else none
      | none => none
    | _ => none
noncomputable def qi_putfield (P : qa_P) (pc np a b : Nat) (v : Value) (ls st : List Value) (K : qa_K) : qa_R := match st with
    | w :: .ref o :: r => match qa_sh P o with
      | some q => bif Nat.beq q.1 (a + 5) then (match v with
        | .int t => bif ((qa_il w && !(qa_has P.2.2.2.1 o || qa_has P.2.2.2.1 (1000000 + 1000 * o + b))) && (decide (t = 0) || qa_le (qa_bd K w) (0, 1))) && qa_le (qa_bd K w) (qa_bnd P o b) then qa_nx (np, ls, r, qa_wr K o b w) else none
        | .long _ => bif qa_lg w then qa_nx (np, ls, r, K) else none
        | _ => none) else none
      | none => none
    | _ => none
noncomputable def qi_iaload (P : qa_P) (pc np a b : Nat) (v : Value) (ls st : List Value) (K : qa_K) : qa_R := match st with
    | i :: .ref o :: r => match qa_sh P o with
      | some (0, n) => qa_rdi P np ls r K o n i
      | _ => none
    | i :: .retAddr 0 :: r => (match qa_so K i with
      | some c => qa_pu np ls r (qa_mk K (P.2.2.2.2.2.getD c qa_full))
      | none => none)
    | _ => none
noncomputable def qi_baload (P : qa_P) (pc np a b : Nat) (v : Value) (ls st : List Value) (K : qa_K) : qa_R := match st with
    | i :: .ref o :: r => match qa_sh P o with
      | some (1, n) => qa_rdi P np ls r K o n i
      | some (2, n) => qa_rdi P np ls r K o n i
      | _ => none
    | _ => none
noncomputable def qi_laload (P : qa_P) (pc np a b : Nat) (v : Value) (ls st : List Value) (K : qa_K) : qa_R := match st with
    | i :: .ref o :: r => match qa_sh P o with
      | some (3, n) => bif qa_il i && qa_ri (qa_bd K i) n then qa_nx (np, ls, .double 0 :: r, K) else none
      | _ => none
    | _ => none
/-- x ^ -1: of a number that may lie in -39 .. -1, case by case -/
noncomputable def qi_ixor (np : Nat) (ls st : List Value) (K : qa_K) : qa_R := match st with
  | .int y :: x :: r => bif decide (y = -1) then (match qa_rs K x with
    | .int i => qa_nx (np, ls, .int (i ^^^ -1) :: r, K)
    | .retAddr (n + 1) => bif decide ((qa_lk K.2.1 n).1 ≤ -1) && decide (-39 ≤ (qa_lk K.2.1 n).2) then qa_sp n (-39) (-1) else qa_pu np ls r (qa_mk K (-1 - (qa_lk K.2.1 n).2, -1 - (qa_lk K.2.1 n).1))
    | _ => none) else qa_bin np ls st K (fun _ _ => qa_full)
  | _ => qa_bin np ls st K (fun _ _ => qa_full)
noncomputable def qi_aaload (P : qa_P) (pc np a b : Nat) (v : Value) (ls st : List Value) (K : qa_K) : qa_R := match st with
    | y :: .ref o :: r => (match qa_rs K y with
      | .int i => (match qa_sh P o with
        | some (4, n) => bif qm_in i n then (match P.2.2.1 o i.toNatClampNeg with
          | some w => qa_nx (np, ls, qm_rv w :: r, K)
          | none => none) else none
        | _ => none)
      | .retAddr (n + 1) => qa_sp n (qa_lk K.2.1 n).1 (qa_lk K.2.1 n).2
      | _ => none)
    | _ => none
noncomputable def qi_iastore (P : qa_P) (pc np a b : Nat) (v : Value) (ls st : List Value) (K : qa_K) : qa_R := match st with
    | x :: i :: .ref o :: r => match qa_sh P o with
      | some (0, n) => qa_wri P np ls r K o n i x
      | _ => none
    | _ => none
noncomputable def qi_bastore (P : qa_P) (pc np a b : Nat) (v : Value) (ls st : List Value) (K : qa_K) : qa_R := match st with
    | x :: i :: .ref o :: r => match qa_sh P o with
      | some (1, n) => bif (((qa_il x && qa_il i) && qa_ri (qa_bd K i) n) && !qa_has P.2.2.2.1 o) && qa_les P o (-128, 127) then qa_nx (np, ls, r, qa_wf K o) else none
      | some (2, n) => bif (((qa_il x && qa_il i) && qa_ri (qa_bd K i) n) && !qa_has P.2.2.2.1 o) && qa_les P o (0, 1) then qa_nx (np, ls, r, qa_wf K o) else none
      | _ => none
    | _ => none
noncomputable def qi_lastore (P : qa_P) (pc np a b : Nat) (v : Value) (ls st : List Value) (K : qa_K) : qa_R := match st with
    | x :: i :: .ref o :: r => match qa_sh P o with
      | some (3, n) => bif ((qa_lg x && qa_il i) && qa_ri (qa_bd K i) n) && !Nat.beq n 25 then qa_nx (np, ls, r, K) else none
      | _ => none
    | _ => none
noncomputable def qi_arraylength (P : qa_P) (pc np a b : Nat) (v : Value) (ls st : List Value) (K : qa_K) : qa_R := match st with
    | .ref o :: r => match qa_sh P o with
      | some q => bif Nat.blt q.1 5 then qa_nx (np, ls, .int (Int32.ofNat q.2) :: r, K) else none
      | none => none
    | _ => none
noncomputable def qi_invokevirtual (P : qa_P) (pc np a b : Nat) (v : Value) (ls st : List Value) (K : qa_K) : qa_R := match st.drop b with
    | .ref o :: r => match qa_sh P o, v with
      | some q, .retAddr ci => bif Nat.beq q.1 (ci + 5) && (Nat.ble (qm_cat r) 8) then qa_ca a (.ref o :: (st.take b).reverse) (np, ls, r, K) else none
      | _, _ => none
    | _ => none
noncomputable def qi_invokestatic (P : qa_P) (pc np a b : Nat) (v : Value) (ls st : List Value) (K : qa_K) : qa_R := match v with
    | .int _ => match a, st with
      | 0, y :: x :: r => bif (qa_il x && qa_il y) && Nat.ble (qm_cat r) 8 then qa_pu np ls r (qa_mk K (qa_max (qa_bd K x) (qa_bd K y))) else none
      | 1, y :: x :: r => bif (qa_il x && qa_il y) && Nat.ble (qm_cat r) 8 then qa_pu np ls r (qa_mk K (qa_min (qa_bd K x) (qa_bd K y))) else none
      | 2, x :: r => bif qa_il x && Nat.ble (qm_cat r) 8 then qa_pu np ls r (qa_mk K (qa_abs (qa_bd K x))) else none
      | 3, y :: x :: r => bif (qa_lg x && qa_lg y) && Nat.ble (qm_cat r) 8 then qa_nx (np, ls, .double 0 :: r, K) else none
      | 4, y :: x :: r => bif (qa_lg x && qa_lg y) && Nat.ble (qm_cat r) 8 then qa_nx (np, ls, .double 0 :: r, K) else none
      | _, _ => none
    | .retAddr _ => bif Nat.ble b st.length && Nat.ble (qm_cat (st.drop b)) 8 then qa_ca a (st.take b).reverse (np, ls, st.drop b, K) else none
    | _ => none
noncomputable def qi_ireturn (P : qa_P) (pc np a b : Nat) (v : Value) (ls st : List Value) (K : qa_K) : qa_R := match st with
    | [x] => bif qa_il x && (Nat.beq a 0 || qa_le (qa_bd K x) (0, 1)) then qa_rt (some x) K else none
    | _ => none
noncomputable def qi_lreturn (P : qa_P) (pc np a b : Nat) (v : Value) (ls st : List Value) (K : qa_K) : qa_R := match st with
    | [x] => bif qa_lg x then qa_rt (some x) K else none
    | _ => none
noncomputable def qa_x (P : qa_P) (it : qm_It) (c : qa_C) : qa_R :=
  let np := it.2.1
  let a := it.2.2.2.1
  let b := it.2.2.2.2.1
  let v := it.2.2.2.2.2
  let ls := c.2.1
  let st := c.2.2.1
  let K := c.2.2.2
  match it.2.2.1 with
  | .iconst _ => bif qa_kc v then qa_nx (np, ls, v :: st, K) else none
  | .bipush _ => bif qa_kc v then qa_nx (np, ls, v :: st, K) else none
  | .sipush _ => bif qa_kc v then qa_nx (np, ls, v :: st, K) else none
  | .ldc _ => bif qa_kc v then qa_nx (np, ls, v :: st, K) else none
  | .ldc_w _ => bif qa_kc v then qa_nx (np, ls, v :: st, K) else none
  | .lconst _ => bif qa_kc v then qa_nx (np, ls, v :: st, K) else none
  | .ldc2_w _ => bif qa_kc v then qa_nx (np, ls, v :: st, K) else none
  | .iload _ => qi_iload P it.1 np a b v ls st K
  | .iload_n _ => qi_iload_n P it.1 np a b v ls st K
  | .lload _ => qi_lload P it.1 np a b v ls st K
  | .lload_n _ => qi_lload_n P it.1 np a b v ls st K
  | .aload _ => qi_aload P it.1 np a b v ls st K
  | .aload_n _ => qi_aload_n P it.1 np a b v ls st K
  | .istore _ => qi_istore P it.1 np a b v ls st K
  | .istore_n _ => qi_istore_n P it.1 np a b v ls st K
  | .lstore _ => qi_lstore P it.1 np a b v ls st K
  | .lstore_n _ => qi_lstore_n P it.1 np a b v ls st K
  | .astore _ => qi_astore P it.1 np a b v ls st K
  | .astore_n _ => qi_astore_n P it.1 np a b v ls st K
  | .iinc _ _ => qi_iinc P it.1 np a b v ls st K
  | .iadd => qi_iadd P it.1 np a b v ls st K
  | .isub => qi_isub P it.1 np a b v ls st K
  | .imul => qa_bin np ls st K qa_mul
  | .iand => qa_bin np ls st K qa_and
  | .ior => qa_bin np ls st K (fun _ _ => qa_full)
  | .ixor => qi_ixor np ls st K
  | .ishl => qa_bin np ls st K (fun _ _ => qa_full)
  | .ishr => qa_bin np ls st K (fun _ _ => qa_full)
  | .iushr => qa_bin np ls st K (fun _ _ => qa_full)
  | .idiv => qi_idiv P it.1 np a b v ls st K
  | .irem => qi_irem P it.1 np a b v ls st K
  | .ineg => qi_ineg P it.1 np a b v ls st K
  | .i2b => qi_i2b P it.1 np a b v ls st K
  | .ladd => qa_lon np ls st K
  | .lsub => qa_lon np ls st K
  | .lmul => qa_lon np ls st K
  | .land => qa_lon np ls st K
  | .lor => qa_lon np ls st K
  | .ldiv => qi_ldiv P it.1 np a b v ls st K
  | .lrem => qi_lrem P it.1 np a b v ls st K
  | .lshl => qi_lshl P it.1 np a b v ls st K
  | .lshr => qi_lshr P it.1 np a b v ls st K
  | .lcmp => qi_lcmp P it.1 np a b v ls st K
  | .i2l => qi_i2l P it.1 np a b v ls st K
  | .l2i => qi_l2i P it.1 np a b v ls st K
  | .dup => qi_dup P it.1 np a b v ls st K
  | .pop => qi_pop P it.1 np a b v ls st K
  | .dup2 => qi_dup2 P it.1 np a b v ls st K
  | .goto _ => qa_nx (a, ls, st, K)
  | .ifCond q _ => qi_ifCond P it.1 np a b v ls st K q
  | .if_icmp q _ => qi_if_icmp P it.1 np a b v ls st K q
  | .ifnull _ => qi_ifnull P it.1 np a b v ls st K
  | .ifnonnull _ => qi_ifnonnull P it.1 np a b v ls st K
  | .tableswitch dflt lo hi offs => qi_tableswitch P it.1 np a b v ls st K dflt lo hi offs
  | .lookupswitch dflt ps => qi_lookupswitch P it.1 np a b v ls st K dflt ps
  | .getfield _ => qi_getfield P it.1 np a b v ls st K
  | .putfield _ => qi_putfield P it.1 np a b v ls st K
  | .iaload => qi_iaload P it.1 np a b v ls st K
  | .baload => qi_baload P it.1 np a b v ls st K
  | .laload => qi_laload P it.1 np a b v ls st K
  | .aaload => qi_aaload P it.1 np a b v ls st K
  | .iastore => qi_iastore P it.1 np a b v ls st K
  | .bastore => qi_bastore P it.1 np a b v ls st K
  | .lastore => qi_lastore P it.1 np a b v ls st K
  | .arraylength => qi_arraylength P it.1 np a b v ls st K
  | .invokevirtual _ => qi_invokevirtual P it.1 np a b v ls st K
  | .invokestatic _ => qi_invokestatic P it.1 np a b v ls st K
  | .ireturn => qi_ireturn P it.1 np a b v ls st K
  | .lreturn => qi_lreturn P it.1 np a b v ls st K
  | .return_ => match st with
    | [] => qa_rt none K
    | _ => none
  | _ => none
