/-! one instruction over what is known -/
abbrev qa_C : Type := Nat × List Value × List Value × qa_K
/-- goes on; a branch; an answer; a call; a number must be told apart first, value by value from .. to -/
abbrev qa_S : Type := qa_C ⊕ ((ClassFile.Cond × Value × Value × qa_C × qa_C) ⊕ ((Option Value × qa_K) ⊕ ((Nat × List Value × qa_C) ⊕ (Nat × Int × Int))))
abbrev qa_R : Type := Option qa_S
def qa_nx (c : qa_C) : qa_R := some (.inl c)
def qa_br (q : ClassFile.Cond) (x y : Value) (c1 c2 : qa_C) : qa_R := some (.inr (.inl (q, x, y, c1, c2)))
def qa_rt (v : Option Value) (K : qa_K) : qa_R := some (.inr (.inr (.inl (v, K))))
def qa_ca (j : Nat) (as : List Value) (c : qa_C) : qa_R := some (.inr (.inr (.inr (.inl (j, as, c)))))
def qa_sp (n : Nat) (lo hi : Int) : qa_R := some (.inr (.inr (.inr (.inr (n, lo, hi)))))
/-- a number as it is, or within bounds -/
def qa_pu (np : Nat) (ls r : List Value) (m : Value × qa_K) : qa_R := qa_nx (np, ls, m.1 :: r, m.2)
/-- the number made is x and c more -/
def qa_ln (K : qa_K) (x : Value) (c : Int) (m : Value × qa_K) : Value × qa_K := match m.1, x with
  | .retAddr (n + 1), .retAddr (k + 1) => bif Nat.beq n K.1 && (decide (-2147483648 ≤ (qa_bd K x).1 + c) && decide ((qa_bd K x).2 + c ≤ 2147483647)) then (m.1, (m.2.1, m.2.2.1, m.2.2.2.1, (n, k, c) :: m.2.2.2.2.1, m.2.2.2.2.2)) else m
  | _, _ => m
def qa_ci (a : Value) : Option Int32 := match a with
  | .int c => some c
  | _ => none
def qa_kc (a : Value) : Bool := match a with
  | .int _ => true
  | .long _ => true
  | _ => false
/-- a number that its bounds tell -/
def qa_rs (K : qa_K) (a : Value) : Value := match a with
  | .retAddr (n + 1) => bif decide ((qa_lk K.2.1 n).1 = (qa_lk K.2.1 n).2) then .int (Int32.ofInt (qa_lk K.2.1 n).1) else a
  | w => w
theorem qa_rs_g {p : List Int32} {K : qa_K} {a v : Value} (hs : qa_sat p K) (hg : qa_g p a v) : qa_g p (qa_rs K a) v := by
  unfold qa_rs
  split
  · rename_i n
    cases hb : decide ((qa_lk K.2.1 n).1 = (qa_lk K.2.1 n).2) with
    | false => exact hg
    | true =>
      rw [decide_eq_true_eq] at hb
      obtain ⟨x, h1, h2⟩ := hg
      have := qa_lk_ok h1 hs.2.1
      have e : x.toInt = (qa_lk K.2.1 n).1 := by
        unfold qa_in at this
        omega
      rw [cond_true, ← e, Int32.ofInt_toInt]
      exact h2
  · exact hg
/-- not 0 -/
def qa_n0 (q : qa_B) : Bool := decide (1 ≤ q.1) || decide (q.2 ≤ -1)
/-- few numbers: tell them apart before a remainder -/
def qa_sm (K : qa_K) (x y : Value) : Option Nat := match x, y with
  | .retAddr (n + 1), .int _ => bif decide ((qa_lk K.2.1 n).1 < (qa_lk K.2.1 n).2) && decide ((qa_lk K.2.1 n).2 ≤ (qa_lk K.2.1 n).1 + 7) then some n else none
  | _, _ => none
/-- within a row of n -/
def qa_ri (q : qa_B) (n : Nat) : Bool := decide (0 ≤ q.1) && decide (q.2 < (n : Int))
/-- the script's place: number 0 and at most 5 more -/
def qa_so1 : List (Nat × Nat × Int) → Nat → Option Nat
  | [], _ => none
  | d :: r, n => bif Nat.beq d.1 n && (Nat.beq d.2.1 0 && (decide (0 ≤ d.2.2) && decide (d.2.2 ≤ 5))) then some d.2.2.toNat else qa_so1 r n
def qa_so (K : qa_K) (i : Value) : Option Nat := match i with
  | .retAddr (n + 1) => bif Nat.beq n 0 then some 0 else qa_so1 K.2.2.2.1 n
  | _ => none
def qa_bin (np : Nat) (ls st : List Value) (K : qa_K) (f : qa_B → qa_B → qa_B) : qa_R := match st with
  | y :: x :: r => bif qa_il x && qa_il y then qa_pu np ls r (qa_mk K (f (qa_bd K x) (qa_bd K y))) else none
  | _ => none
def qa_lon (np : Nat) (ls st : List Value) (K : qa_K) : qa_R := match st with
  | y :: x :: r => bif qa_lg x && qa_lg y then qa_nx (np, ls, .double 0 :: r, K) else none
  | _ => none
def qa_rdi (P : qa_P) (np : Nat) (ls r : List Value) (K : qa_K) (o n : Nat) (i : Value) : qa_R := bif qa_ri (qa_bd K i) n then (match i with
  | .int c => qa_pu np ls r (qa_rd P K o c.toInt.toNat)
  | .retAddr (k + 1) => qa_pu np ls r (qa_rx P K o k)
  | _ => none) else none
def qa_wri (P : qa_P) (np : Nat) (ls r : List Value) (K : qa_K) (o n : Nat) (i x : Value) : qa_R := bif (qa_ri (qa_bd K i) n && !P.2.2.2.1.contains o) && qa_il x then (match i with
  | .int c => bif qa_le (qa_bd K x) (qa_bnd P o c.toInt.toNat) then qa_nx (np, ls, r, qa_wr K o c.toInt.toNat x) else none
  | .retAddr (k + 1) => bif qa_les P o (qa_bd K x) then qa_nx (np, ls, r, qa_wx K o k x) else none
  | _ => none) else none
def qa_x (P : qa_P) (it : qm_It) (c : qa_C) : qa_R :=
  let np := it.2.1
  let a := it.2.2.2.1
  let b := it.2.2.2.2.1
  let v := it.2.2.2.2.2
  let ls := c.2.1
  let st := c.2.2.1
  let K := c.2.2.2
  match it.2.2.1 with
  | .iconst _ => bif qa_kc v then qa_nx (np, ls, v :: st, K) else none
  | .bipush _ => bif qa_kc v then qa_nx (np, ls, v :: st, K) else none
  | .sipush _ => bif qa_kc v then qa_nx (np, ls, v :: st, K) else none
  | .ldc _ => bif qa_kc v then qa_nx (np, ls, v :: st, K) else none
  | .ldc_w _ => bif qa_kc v then qa_nx (np, ls, v :: st, K) else none
  | .lconst _ => bif qa_kc v then qa_nx (np, ls, v :: st, K) else none
  | .ldc2_w _ => bif qa_kc v then qa_nx (np, ls, v :: st, K) else none
  | .iload _ => match ls[a]? with
    | some w => bif qa_il w then qa_nx (np, ls, w :: st, K) else none
    | none => none
  | .iload_n _ => match ls[a]? with
    | some w => bif qa_il w then qa_nx (np, ls, w :: st, K) else none
    | none => none
  | .lload _ => match ls[a]? with
    | some w => bif qa_lg w then qa_nx (np, ls, w :: st, K) else none
    | none => none
  | .lload_n _ => match ls[a]? with
    | some w => bif qa_lg w then qa_nx (np, ls, w :: st, K) else none
    | none => none
  | .aload _ => match ls[a]? with
    | some (.ref o) => qa_nx (np, ls, .ref o :: st, K)
    | some (.retAddr 0) => qa_nx (np, ls, .retAddr 0 :: st, K)
    | _ => none
  | .aload_n _ => match ls[a]? with
    | some (.ref o) => qa_nx (np, ls, .ref o :: st, K)
    | some (.retAddr 0) => qa_nx (np, ls, .retAddr 0 :: st, K)
    | _ => none
  | .istore _ => match st with
    | w :: r => bif qa_il w then qa_nx (np, qm_s1 ls a w, r, K) else none
    | _ => none
  | .istore_n _ => match st with
    | w :: r => bif qa_il w then qa_nx (np, qm_s1 ls a w, r, K) else none
    | _ => none
  | .lstore _ => match st with
    | w :: r => bif qa_lg w then qa_nx (np, qm_s2 ls a w, r, K) else none
    | _ => none
  | .lstore_n _ => match st with
    | w :: r => bif qa_lg w then qa_nx (np, qm_s2 ls a w, r, K) else none
    | _ => none
  | .astore _ => match st with
    | .ref o :: r => qa_nx (np, qm_s1 ls a (.ref o), r, K)
    | _ => none
  | .astore_n _ => match st with
    | .ref o :: r => qa_nx (np, qm_s1 ls a (.ref o), r, K)
    | _ => none
  | .iinc _ _ => match ls[a]?, v with
    | some x, .int k => bif qa_il x then qa_nx (np, qm_s1 ls a (qa_ln K x k.toInt (qa_mk K (qa_add (qa_bd K x) (k.toInt, k.toInt)))).1, st, (qa_ln K x k.toInt (qa_mk K (qa_add (qa_bd K x) (k.toInt, k.toInt)))).2) else none
    | _, _ => none
  | .iadd => match st with
    | .int k :: x :: r => bif qa_il x then qa_pu np ls r (qa_ln K x k.toInt (qa_mk K (qa_add (qa_bd K x) (k.toInt, k.toInt)))) else none
    | _ => qa_bin np ls st K qa_add
  | .isub => match st with
    | y :: x :: r => bif qa_il x && qa_il y then qa_pu np ls r (qa_mk K (qa_sub (qa_lo K x y) (qa_bd K x) (qa_bd K y))) else none
    | _ => none
  | .imul => qa_bin np ls st K qa_mul
  | .iand => qa_bin np ls st K qa_and
  | .ior => qa_bin np ls st K (fun _ _ => qa_full)
  | .ixor => qa_bin np ls st K (fun _ _ => qa_full)
  | .ishl => qa_bin np ls st K (fun _ _ => qa_full)
  | .ishr => qa_bin np ls st K (fun _ _ => qa_full)
  | .iushr => qa_bin np ls st K (fun _ _ => qa_full)
  | .idiv => match st with
    | y :: x :: r => bif (qa_il x && qa_il y) && qa_n0 (qa_bd K y) then qa_pu np ls r (qa_mk K (qa_div (qa_bd K x) (qa_bd K y))) else none
    | _ => none
  | .irem => match st with
    | y :: x :: r => bif (qa_il x && qa_il y) && qa_n0 (qa_bd K y) then (match qa_sm K x y with
      | some n => qa_sp n (qa_lk K.2.1 n).1 (qa_lk K.2.1 n).2
      | none => qa_pu np ls r (qa_mk K (qa_rem (qa_bd K x) (qa_bd K y)))) else none
    | _ => none
  | .ineg => match st with
    | x :: r => bif qa_il x then qa_pu np ls r (qa_mk K (qa_neg (qa_bd K x))) else none
    | _ => none
  | .i2b => match st with
    | x :: r => bif qa_il x then qa_pu np ls r (qa_mk K (-128, 127)) else none
    | _ => none
  | .ladd => qa_lon np ls st K
  | .lsub => qa_lon np ls st K
  | .lmul => qa_lon np ls st K
  | .land => qa_lon np ls st K
  | .lor => qa_lon np ls st K
  | .ldiv => match st with
    | .long y :: x :: r => bif qa_lg x && decide (¬ y = 0) then qa_nx (np, ls, .double 0 :: r, K) else none
    | _ => none
  | .lrem => match st with
    | .long y :: x :: r => bif qa_lg x && decide (¬ y = 0) then qa_nx (np, ls, .double 0 :: r, K) else none
    | _ => none
  | .lshl => match st with
    | y :: x :: r => bif qa_lg x && qa_il y then qa_nx (np, ls, .double 0 :: r, K) else none
    | _ => none
  | .lshr => match st with
    | y :: x :: r => bif qa_lg x && qa_il y then qa_nx (np, ls, .double 0 :: r, K) else none
    | _ => none
  | .lcmp => match st with
    | y :: x :: r => bif qa_lg x && qa_lg y then qa_pu np ls r (qa_mk K (-1, 1)) else none
    | _ => none
  | .i2l => match st with
    | x :: r => bif qa_il x then qa_nx (np, ls, .double 0 :: r, K) else none
    | _ => none
  | .l2i => match st with
    | x :: r => bif qa_lg x then qa_pu np ls r (qa_mk K qa_full) else none
    | _ => none
  | .dup => match st with
    | w :: r => bif Nat.beq w.category 1 then qa_nx (np, ls, w :: w :: r, K) else none
    | _ => none
  | .pop => match st with
    | w :: r => bif Nat.beq w.category 1 then qa_nx (np, ls, r, K) else none
    | _ => none
  | .dup2 => match st with
    | y :: w :: r => bif qa_il y && Nat.beq w.category 1 then qa_nx (np, ls, y :: w :: y :: w :: r, K) else bif qa_lg y then qa_nx (np, ls, y :: y :: w :: r, K) else none
    | [y] => bif qa_lg y then qa_nx (np, ls, [y, y], K) else none
    | _ => none
  | .goto _ => qa_nx (a, ls, st, K)
  | .ifCond q _ => match st with
    | x :: r => bif qa_il x then qa_br q x (.int 0) (a, ls, r, K) (np, ls, r, K) else none
    | _ => none
  | .if_icmp q _ => match st with
    | y :: x :: r => bif qa_il x && qa_il y then qa_br q x y (a, ls, r, K) (np, ls, r, K) else none
    | _ => none
  | .ifnull _ => match st with
    | .ref _ :: r => qa_nx (np, ls, r, K)
    | .null :: r => qa_nx (a, ls, r, K)
    | _ => none
  | .ifnonnull _ => match st with
    | .ref _ :: r => qa_nx (a, ls, r, K)
    | .null :: r => qa_nx (np, ls, r, K)
    | _ => none
  | .tableswitch dflt lo hi offs => match st with
    | y :: r => (match qa_rs K y with
      | .int x => bif decide (x.toInt < lo ∨ hi < x.toInt) then qa_nx (qm_tgt it.1 dflt, ls, r, K) else match offs[(x.toInt - lo).toNat]? with
        | some off => qa_nx (qm_tgt it.1 off, ls, r, K)
        | none => none
      | .retAddr (n + 1) => bif decide ((qa_lk K.2.1 n).2 < lo) || decide (hi < (qa_lk K.2.1 n).1) then qa_nx (qm_tgt it.1 dflt, ls, r, K) else qa_sp n lo hi
      | _ => none)
    | _ => none
  | .lookupswitch dflt ps => match st with
    | y :: r => (match qa_rs K y with
      | .int x => qa_nx (qm_tgt it.1 (Op.lookupswitch.offset ps.toList dflt x.toInt), ls, r, K)
      | .retAddr (n + 1) => bif ps.toList.all (fun k => decide (k.1 < (qa_lk K.2.1 n).1) || decide ((qa_lk K.2.1 n).2 < k.1)) then qa_nx (qm_tgt it.1 dflt, ls, r, K) else qa_sp n (qa_lk K.2.1 n).1 (qa_lk K.2.1 n).2
      | _ => none)
    | _ => none
  | .getfield _ => match st with
    | .ref o :: r => match qa_sh P o with
      | some q => bif Nat.beq q.1 (a + 5) then (match v with
        | .int _ => qa_pu np ls r (qa_rd P K o b)
        | .long _ => qa_nx (np, ls, .double 0 :: r, K)
        | .null => (match qa_lr P.2.2.1 o b with
          | some w => qa_nx (np, ls, qm_rv w :: r, K)
          | none => none)
        | _ => none) else none
      | none => none
    | _ => none
  | .putfield _ => match st with
    | w :: .ref o :: r => match qa_sh P o with
      | some q => bif Nat.beq q.1 (a + 5) then (match v with
        | .int t => bif ((qa_il w && !P.2.2.2.1.contains o) && (decide (t = 0) || qa_le (qa_bd K w) (0, 1))) && qa_le (qa_bd K w) (qa_bnd P o b) then qa_nx (np, ls, r, qa_wr K o b w) else none
        | .long _ => bif qa_lg w then qa_nx (np, ls, r, K) else none
        | _ => none) else none
      | none => none
    | _ => none
  | .iaload => match st with
    | i :: .ref o :: r => match qa_sh P o with
      | some (0, n) => qa_rdi P np ls r K o n i
      | _ => none
    | i :: .retAddr 0 :: r => (match qa_so K i with
      | some c => qa_pu np ls r (qa_mk K (P.2.2.2.2.2.getD c qa_full))
      | none => none)
    | _ => none
  | .baload => match st with
    | i :: .ref o :: r => match qa_sh P o with
      | some (1, n) => qa_rdi P np ls r K o n i
      | some (2, n) => qa_rdi P np ls r K o n i
      | _ => none
    | _ => none
  | .laload => match st with
    | i :: .ref o :: r => match qa_sh P o with
      | some (3, n) => bif qa_il i && qa_ri (qa_bd K i) n then qa_nx (np, ls, .double 0 :: r, K) else none
      | _ => none
    | _ => none
  | .aaload => match st with
    | y :: .ref o :: r => (match qa_rs K y with
      | .int i => (match qa_sh P o with
        | some (4, n) => bif qm_in i n then (match qa_lr P.2.2.1 o i.toNatClampNeg with
          | some w => qa_nx (np, ls, qm_rv w :: r, K)
          | none => none) else none
        | _ => none)
      | .retAddr (n + 1) => qa_sp n (qa_lk K.2.1 n).1 (qa_lk K.2.1 n).2
      | _ => none)
    | _ => none
  | .iastore => match st with
    | x :: i :: .ref o :: r => match qa_sh P o with
      | some (0, n) => qa_wri P np ls r K o n i x
      | _ => none
    | _ => none
  | .bastore => match st with
    | x :: i :: .ref o :: r => match qa_sh P o with
      | some (1, n) => bif (((qa_il x && qa_il i) && qa_ri (qa_bd K i) n) && !P.2.2.2.1.contains o) && qa_les P o (-128, 127) then qa_nx (np, ls, r, qa_wf K o) else none
      | some (2, n) => bif (((qa_il x && qa_il i) && qa_ri (qa_bd K i) n) && !P.2.2.2.1.contains o) && qa_les P o (0, 1) then qa_nx (np, ls, r, qa_wf K o) else none
      | _ => none
    | _ => none
  | .lastore => match st with
    | x :: i :: .ref o :: r => match qa_sh P o with
      | some (3, n) => bif (qa_lg x && qa_il i) && qa_ri (qa_bd K i) n then qa_nx (np, ls, r, K) else none
      | _ => none
    | _ => none
  | .arraylength => match st with
    | .ref o :: r => match qa_sh P o with
      | some q => bif Nat.blt q.1 5 then qa_nx (np, ls, .int (Int32.ofNat q.2) :: r, K) else none
      | none => none
    | _ => none
  | .invokevirtual _ => match st.drop b with
    | .ref o :: r => match qa_sh P o, v with
      | some q, .retAddr ci => bif Nat.beq q.1 (ci + 5) && (Nat.ble (qm_cat r) 8) then qa_ca a (.ref o :: (st.take b).reverse) (np, ls, r, K) else none
      | _, _ => none
    | _ => none
  | .invokestatic _ => match v with
    | .int _ => match a, st with
      | 0, y :: x :: r => bif (qa_il x && qa_il y) && Nat.ble (qm_cat r) 8 then qa_pu np ls r (qa_mk K (qa_max (qa_bd K x) (qa_bd K y))) else none
      | 1, y :: x :: r => bif (qa_il x && qa_il y) && Nat.ble (qm_cat r) 8 then qa_pu np ls r (qa_mk K (qa_min (qa_bd K x) (qa_bd K y))) else none
      | 2, x :: r => bif qa_il x && Nat.ble (qm_cat r) 8 then qa_pu np ls r (qa_mk K (qa_abs (qa_bd K x))) else none
      | 3, y :: x :: r => bif (qa_lg x && qa_lg y) && Nat.ble (qm_cat r) 8 then qa_nx (np, ls, .double 0 :: r, K) else none
      | 4, y :: x :: r => bif (qa_lg x && qa_lg y) && Nat.ble (qm_cat r) 8 then qa_nx (np, ls, .double 0 :: r, K) else none
      | _, _ => none
    | .retAddr _ => bif Nat.ble b st.length && Nat.ble (qm_cat (st.drop b)) 8 then qa_ca a (st.take b).reverse (np, ls, st.drop b, K) else none
    | _ => none
  | .ireturn => match st with
    | [x] => bif qa_il x && (Nat.beq a 0 || qa_le (qa_bd K x) (0, 1)) then qa_rt (some x) K else none
    | _ => none
  | .lreturn => match st with
    | [x] => bif qa_lg x then qa_rt (some x) K else none
    | _ => none
  | .return_ => match st with
    | [] => qa_rt none K
    | _ => none
  | _ => none
