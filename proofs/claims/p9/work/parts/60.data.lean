/-! the small machine over plain data (writes told in lists), for runs that the kernel works out; without the script -/
abbrev qm_HD : Type := List (Nat × Nat) × List (Nat × Nat × Int32) × List (Nat × Nat × Int64) × List (Nat × Nat × Option Nat)
abbrev qm_CD : Type := Nat × List Value × List Value × qm_HD
abbrev qm_RD : Type := Option (qm_CD ⊕ ((Bool × qm_CD × qm_CD) ⊕ ((Option Value × qm_HD) ⊕ (Nat × List Value × qm_CD))))
def qm_nxD (c : qm_CD) : qm_RD := some (.inl c)
def qm_brD (b : Bool) (c1 c2 : qm_CD) : qm_RD := some (.inr (.inl (b, c1, c2)))
def qm_rtD (v : Option Value) (h : qm_HD) : qm_RD := some (.inr (.inr (.inl (v, h))))
def qm_clD (j : Nat) (as : List Value) (c : qm_CD) : qm_RD := some (.inr (.inr (.inr (j, as, c))))
def qm_lu {α : Type} (d : α) : List (Nat × Nat × α) → Nat → Nat → α
  | [], _, _ => d
  | q :: r, k, i => bif Nat.beq k q.1 && Nat.beq i q.2.1 then q.2.2 else qm_lu d r k i
def qm_fn (h : qm_HD) : qm_H := (h.1, qm_lu 0 h.2.1, qm_lu 0 h.2.2.1, qm_lu none h.2.2.2)
def qm_fc (c : qm_CD) : qm_C := (c.1, c.2.1, c.2.2.1, qm_fn c.2.2.2)
def qm_fr (r : qm_CD ⊕ ((Bool × qm_CD × qm_CD) ⊕ ((Option Value × qm_HD) ⊕ (Nat × List Value × qm_CD)))) : qm_C ⊕ ((Bool × qm_C × qm_C) ⊕ ((Option Value × qm_H) ⊕ (Nat × List Value × qm_C))) := match r with
  | .inl c => .inl (qm_fc c)
  | .inr (.inl q) => .inr (.inl (q.1, qm_fc q.2.1, qm_fc q.2.2))
  | .inr (.inr (.inl q)) => .inr (.inr (.inl (q.1, qm_fn q.2)))
  | .inr (.inr (.inr q)) => .inr (.inr (.inr (q.1, q.2.1, qm_fc q.2.2)))
def qm_xD (it : qm_It) (c : qm_CD) : qm_RD :=
  let np := it.2.1
  let a := it.2.2.2.1
  let b := it.2.2.2.2.1
  let v := it.2.2.2.2.2
  let ls := c.2.1
  let h := c.2.2.2
  let g := qm_fn c.2.2.2
  match it.2.2.1 with
  | .iconst _ => qm_nxD (np, ls, v :: c.2.2.1, h)
  | .bipush _ => qm_nxD (np, ls, v :: c.2.2.1, h)
  | .sipush _ => qm_nxD (np, ls, v :: c.2.2.1, h)
  | .lconst _ => qm_nxD (np, ls, v :: c.2.2.1, h)
  | .ldc _ => qm_nxD (np, ls, v :: c.2.2.1, h)
  | .ldc_w _ => qm_nxD (np, ls, v :: c.2.2.1, h)
  | .ldc2_w _ => qm_nxD (np, ls, v :: c.2.2.1, h)
  | .iload _ => match ls[a]? with
    | some (.int x) => qm_nxD (np, ls, .int x :: c.2.2.1, h)
    | _ => none
  | .iload_n _ => match ls[a]? with
    | some (.int x) => qm_nxD (np, ls, .int x :: c.2.2.1, h)
    | _ => none
  | .lload _ => match ls[a]? with
    | some (.long x) => qm_nxD (np, ls, .long x :: c.2.2.1, h)
    | _ => none
  | .lload_n _ => match ls[a]? with
    | some (.long x) => qm_nxD (np, ls, .long x :: c.2.2.1, h)
    | _ => none
  | .aload _ => match ls[a]? with
    | some (.ref x) => qm_nxD (np, ls, .ref x :: c.2.2.1, h)
    | some (.retAddr x) => qm_nxD (np, ls, .retAddr x :: c.2.2.1, h)
    | _ => none
  | .aload_n _ => match ls[a]? with
    | some (.ref x) => qm_nxD (np, ls, .ref x :: c.2.2.1, h)
    | some (.retAddr x) => qm_nxD (np, ls, .retAddr x :: c.2.2.1, h)
    | _ => none
  | .istore _ => match c.2.2.1 with
    | .int x :: r => qm_nxD (np, qm_s1 ls a (.int x), r, h)
    | _ => none
  | .istore_n _ => match c.2.2.1 with
    | .int x :: r => qm_nxD (np, qm_s1 ls a (.int x), r, h)
    | _ => none
  | .lstore _ => match c.2.2.1 with
    | .long x :: r => qm_nxD (np, qm_s2 ls a (.long x), r, h)
    | _ => none
  | .lstore_n _ => match c.2.2.1 with
    | .long x :: r => qm_nxD (np, qm_s2 ls a (.long x), r, h)
    | _ => none
  | .astore _ => match c.2.2.1 with
    | .ref x :: r => qm_nxD (np, qm_s1 ls a (.ref x), r, h)
    | _ => none
  | .astore_n _ => match c.2.2.1 with
    | .ref x :: r => qm_nxD (np, qm_s1 ls a (.ref x), r, h)
    | _ => none
  | .iinc _ _ => match ls[a]?, v with
    | some (.int x), .int y => qm_nxD (np, qm_s1 ls a (.int (x + y)), c.2.2.1, h)
    | _, _ => none
  | .iadd => match c.2.2.1 with
    | .int y :: .int x :: r => qm_nxD (np, ls, .int (x + y) :: r, h)
    | _ => none
  | .isub => match c.2.2.1 with
    | .int y :: .int x :: r => qm_nxD (np, ls, .int (x - y) :: r, h)
    | _ => none
  | .imul => match c.2.2.1 with
    | .int y :: .int x :: r => qm_nxD (np, ls, .int (x * y) :: r, h)
    | _ => none
  | .iand => match c.2.2.1 with
    | .int y :: .int x :: r => qm_nxD (np, ls, .int (x &&& y) :: r, h)
    | _ => none
  | .ior => match c.2.2.1 with
    | .int y :: .int x :: r => qm_nxD (np, ls, .int (x ||| y) :: r, h)
    | _ => none
  | .ixor => match c.2.2.1 with
    | .int y :: .int x :: r => qm_nxD (np, ls, .int (x ^^^ y) :: r, h)
    | _ => none
  | .idiv => match c.2.2.1 with
    | .int y :: .int x :: r => bif decide (y = 0) then none else qm_nxD (np, ls, .int (x / y) :: r, h)
    | _ => none
  | .irem => match c.2.2.1 with
    | .int y :: .int x :: r => bif decide (y = 0) then none else qm_nxD (np, ls, .int (x - x / y * y) :: r, h)
    | _ => none
  | .ineg => match c.2.2.1 with
    | .int x :: r => qm_nxD (np, ls, .int (-x) :: r, h)
    | _ => none
  | .ishl => match c.2.2.1 with
    | .int y :: .int x :: r => qm_nxD (np, ls, .int (x <<< (y &&& 31)) :: r, h)
    | _ => none
  | .ishr => match c.2.2.1 with
    | .int y :: .int x :: r => qm_nxD (np, ls, .int (x >>> (y &&& 31)) :: r, h)
    | _ => none
  | .iushr => match c.2.2.1 with
    | .int y :: .int x :: r => qm_nxD (np, ls, .int ((x.toUInt32 >>> (y.toUInt32 &&& Int32.toUInt32 31)).toInt32) :: r, h)
    | _ => none
  | .ladd => match c.2.2.1 with
    | .long y :: .long x :: r => qm_nxD (np, ls, .long (x + y) :: r, h)
    | _ => none
  | .lsub => match c.2.2.1 with
    | .long y :: .long x :: r => qm_nxD (np, ls, .long (x - y) :: r, h)
    | _ => none
  | .lmul => match c.2.2.1 with
    | .long y :: .long x :: r => qm_nxD (np, ls, .long (x * y) :: r, h)
    | _ => none
  | .land => match c.2.2.1 with
    | .long y :: .long x :: r => qm_nxD (np, ls, .long (x &&& y) :: r, h)
    | _ => none
  | .lor => match c.2.2.1 with
    | .long y :: .long x :: r => qm_nxD (np, ls, .long (x ||| y) :: r, h)
    | _ => none
  | .ldiv => match c.2.2.1 with
    | .long y :: .long x :: r => bif decide (y = 0) then none else qm_nxD (np, ls, .long (x / y) :: r, h)
    | _ => none
  | .lrem => match c.2.2.1 with
    | .long y :: .long x :: r => bif decide (y = 0) then none else qm_nxD (np, ls, .long (x - x / y * y) :: r, h)
    | _ => none
  | .lshl => match c.2.2.1 with
    | .int y :: .long x :: r => qm_nxD (np, ls, .long (x <<< (y.toInt64 &&& 63)) :: r, h)
    | _ => none
  | .lshr => match c.2.2.1 with
    | .int y :: .long x :: r => qm_nxD (np, ls, .long (x >>> (y.toInt64 &&& 63)) :: r, h)
    | _ => none
  | .lcmp => match c.2.2.1 with
    | .long y :: .long x :: r => qm_nxD (np, ls, .int (lg_cmp x y) :: r, h)
    | _ => none
  | .i2l => match c.2.2.1 with
    | .int x :: r => qm_nxD (np, ls, .long x.toInt64 :: r, h)
    | _ => none
  | .l2i => match c.2.2.1 with
    | .long x :: r => qm_nxD (np, ls, .int x.toInt32 :: r, h)
    | _ => none
  | .i2b => match c.2.2.1 with
    | .int x :: r => qm_nxD (np, ls, .int x.toInt8.toInt32 :: r, h)
    | _ => none
  | .dup => match c.2.2.1 with
    | w :: r => bif Nat.beq w.category 1 then qm_nxD (np, ls, w :: w :: r, h) else none
    | _ => none
  | .pop => match c.2.2.1 with
    | w :: r => bif Nat.beq w.category 1 then qm_nxD (np, ls, r, h) else none
    | _ => none
  | .dup2 => match c.2.2.1 with
    | .int y :: w :: r => bif Nat.beq w.category 1 then qm_nxD (np, ls, .int y :: w :: .int y :: w :: r, h) else none
    | .long y :: r => qm_nxD (np, ls, .long y :: .long y :: r, h)
    | _ => none
  | .goto _ => qm_nxD (a, ls, c.2.2.1, h)
  | .ifCond k _ => match c.2.2.1 with
    | .int x :: r => qm_brD (qm_cz k x) (a, ls, r, h) (np, ls, r, h)
    | _ => none
  | .if_icmp k _ => match c.2.2.1 with
    | .int y :: .int x :: r => qm_brD (qm_cc k x y) (a, ls, r, h) (np, ls, r, h)
    | _ => none
  | .ifnull _ => match c.2.2.1 with
    | .ref _ :: r => qm_nxD (np, ls, r, h)
    | .null :: r => qm_nxD (a, ls, r, h)
    | _ => none
  | .ifnonnull _ => match c.2.2.1 with
    | .ref _ :: r => qm_nxD (a, ls, r, h)
    | .null :: r => qm_nxD (np, ls, r, h)
    | _ => none
  | .tableswitch dflt lo hi offs => match c.2.2.1 with
    | .int x :: r => bif decide (x.toInt < lo ∨ hi < x.toInt) then qm_nxD (qm_tgt it.1 dflt, ls, r, h) else match offs[(x.toInt - lo).toNat]? with
      | some off => qm_nxD (qm_tgt it.1 off, ls, r, h)
      | none => none
    | _ => none
  | .lookupswitch dflt ps => match c.2.2.1 with
    | .int x :: r => qm_nxD (qm_tgt it.1 (Op.lookupswitch.offset ps.toList dflt x.toInt), ls, r, h)
    | _ => none
  | .getfield _ => match c.2.2.1 with
    | .ref o :: r => match h.1[o]? with
      | some q => bif Nat.beq q.1 (a + 5) then qm_nxD (np, ls, qm_tv v g o b :: r, h) else none
      | none => none
    | _ => none
  | .putfield _ => match c.2.2.1 with
    | w :: .ref o :: r => match h.1[o]? with
      | some q => bif Nat.beq q.1 (a + 5) then (match v, w with
        | .int t, .int x => bif decide (t = 0) || (decide (x = 0) || decide (x = 1)) then qm_nxD (np, ls, r, (h.1, (o, b, x) :: h.2.1, h.2.2.1, h.2.2.2)) else none
        | .long _, .long x => qm_nxD (np, ls, r, (h.1, h.2.1, (o, b, x) :: h.2.2.1, h.2.2.2))
        | .null, .ref x => qm_nxD (np, ls, r, (h.1, h.2.1, h.2.2.1, (o, b, (some x)) :: h.2.2.2))
        | .null, .null => qm_nxD (np, ls, r, (h.1, h.2.1, h.2.2.1, (o, b, none) :: h.2.2.2))
        | _, _ => none) else none
      | none => none
    | _ => none
  | .iaload => match c.2.2.1 with
    | .int i :: .ref o :: r => match h.1[o]? with
      | some (0, n) => bif qm_in i n then qm_nxD (np, ls, .int (g.2.1 o i.toNatClampNeg) :: r, h) else none
      | _ => none
    | _ => none
  | .baload => match c.2.2.1 with
    | .int i :: .ref o :: r => match h.1[o]? with
      | some (1, n) => bif qm_in i n then qm_nxD (np, ls, .int (g.2.1 o i.toNatClampNeg) :: r, h) else none
      | some (2, n) => bif qm_in i n then qm_nxD (np, ls, .int (g.2.1 o i.toNatClampNeg) :: r, h) else none
      | _ => none
    | _ => none
  | .laload => match c.2.2.1 with
    | .int i :: .ref o :: r => match h.1[o]? with
      | some (3, n) => bif qm_in i n then qm_nxD (np, ls, .long (g.2.2.1 o i.toNatClampNeg) :: r, h) else none
      | _ => none
    | _ => none
  | .aaload => match c.2.2.1 with
    | .int i :: .ref o :: r => match h.1[o]? with
      | some (4, n) => bif qm_in i n then qm_nxD (np, ls, qm_rv (g.2.2.2 o i.toNatClampNeg) :: r, h) else none
      | _ => none
    | _ => none
  | .iastore => match c.2.2.1 with
    | .int x :: .int i :: .ref o :: r => match h.1[o]? with
      | some (0, n) => bif qm_in i n then qm_nxD (np, ls, r, (h.1, (o, i.toNatClampNeg, x) :: h.2.1, h.2.2.1, h.2.2.2)) else none
      | _ => none
    | _ => none
  | .bastore => match c.2.2.1 with
    | .int x :: .int i :: .ref o :: r => match h.1[o]? with
      | some (1, n) => bif qm_in i n then qm_nxD (np, ls, r, (h.1, (o, i.toNatClampNeg, (vp_nar .byte x)) :: h.2.1, h.2.2.1, h.2.2.2)) else none
      | some (2, n) => bif qm_in i n then qm_nxD (np, ls, r, (h.1, (o, i.toNatClampNeg, (vp_nar .boolean x)) :: h.2.1, h.2.2.1, h.2.2.2)) else none
      | _ => none
    | _ => none
  | .lastore => match c.2.2.1 with
    | .long x :: .int i :: .ref o :: r => match h.1[o]? with
      | some (3, n) => bif qm_in i n && qm_w25 n (g.2.2.1 o i.toNatClampNeg) then qm_nxD (np, ls, r, (h.1, h.2.1, (o, i.toNatClampNeg, x) :: h.2.2.1, h.2.2.2)) else none
      | _ => none
    | _ => none
  | .arraylength => match c.2.2.1 with
    | .ref o :: r => match h.1[o]? with
      | some q => bif Nat.blt q.1 5 then qm_nxD (np, ls, .int (Int32.ofNat q.2) :: r, h) else none
      | none => none
    | _ => none
  | .newarray _ => match c.2.2.1 with
    | .int n :: r => bif qm_in n 100000 then qm_nxD (np, ls, .ref h.1.length :: r, (h.1 ++ [(a, n.toNatClampNeg)], h.2)) else none
    | _ => none
  | .new _ => qm_nxD (np, ls, .ref h.1.length :: c.2.2.1, (h.1 ++ [(a + 5, b)], h.2))
  | .multianewarray _ _ => match c.2.2.1 with
    | .int k :: .int n :: r => bif qm_in n 1000 && qm_in k 1000 then qm_nxD (np, ls, .ref h.1.length :: r, (h.1 ++ ((4, n.toNatClampNeg) :: List.replicate n.toNatClampNeg (0, k.toNatClampNeg)), h.2.1, h.2.2.1, (List.range n.toNatClampNeg).map (fun t => (h.1.length, t, some (h.1.length + 1 + t))) ++ h.2.2.2)) else none
    | _ => none
  | .invokevirtual _ => match c.2.2.1.drop b with
    | .ref o :: r => match h.1[o]?, v with
      | some q, .retAddr ci => bif Nat.beq q.1 (ci + 5) && (Nat.ble (qm_cat r) 8) then qm_clD a (.ref o :: (c.2.2.1.take b).reverse) (np, ls, r, h) else none
      | _, _ => none
    | _ => none
  | .invokespecial _ => match c.2.2.1.drop b with
    | .ref o :: r => match v with
      | .null => bif Nat.ble (qm_cat r) 8 then qm_nxD (np, ls, r, h) else none
      | _ => bif Nat.ble (qm_cat r) 8 then qm_clD a (.ref o :: (c.2.2.1.take b).reverse) (np, ls, r, h) else none
    | _ => none
  | .invokestatic _ => match v with
    | .null => match c.2.2.1 with
      | .int n :: .int dp :: .ref d :: .int sp :: .ref o :: r => match h.1[o]?, h.1[d]? with
        | some (0, m), some (0, k) => bif (decide (¬ n < 0) && (decide (¬ sp < 0) && decide (¬ dp < 0))) && ((Nat.ble (sp.toNatClampNeg + n.toNatClampNeg) m && Nat.ble (dp.toNatClampNeg + n.toNatClampNeg) k) && Nat.ble (qm_cat r) 8) then qm_nxD (np, ls, r, (h.1, (List.range n.toNatClampNeg).map (fun t => (d, dp.toNatClampNeg + t, g.2.1 o (sp.toNatClampNeg + t))) ++ h.2.1, h.2.2.1, h.2.2.2)) else none
        | _, _ => none
      | _ => none
    | .int _ => match a, c.2.2.1 with
      | 0, .int y :: .int x :: r => bif Nat.ble (qm_cat r) 8 then qm_nxD (np, ls, .int (if x < y then y else x) :: r, h) else none
      | 1, .int y :: .int x :: r => bif Nat.ble (qm_cat r) 8 then qm_nxD (np, ls, .int (if y < x then y else x) :: r, h) else none
      | 2, .int x :: r => bif Nat.ble (qm_cat r) 8 then qm_nxD (np, ls, .int (if 0 ≤ x then x else 0 - x) :: r, h) else none
      | 3, .long y :: .long x :: r => bif Nat.ble (qm_cat r) 8 then qm_nxD (np, ls, .long (if y < x then x else y) :: r, h) else none
      | 4, .long y :: .long x :: r => bif Nat.ble (qm_cat r) 8 then qm_nxD (np, ls, .long (if y < x then y else x) :: r, h) else none
      | _, _ => none
    | _ => bif Nat.ble b c.2.2.1.length && Nat.ble (qm_cat (c.2.2.1.drop b)) 8 then qm_clD a (c.2.2.1.take b).reverse (np, ls, c.2.2.1.drop b, h) else none
  | .ireturn => match c.2.2.1 with
    | [.int x] => bif Nat.beq a 0 || (decide (x = 0) || decide (x = 1)) then qm_rtD (some (.int x)) h else none
    | _ => none
  | .lreturn => match c.2.2.1 with
    | [.long x] => qm_rtD (some (.long x)) h
    | _ => none
  | .return_ => match c.2.2.1 with
    | [] => qm_rtD none h
    | _ => none
  | _ => none
def qm_stepD (cd : qm_Cd) (c : qm_CD) : qm_RD := match qm_fetch cd c.1 with
  | some it => qm_xD it c
  | none => none
def qm_entD (nL : Nat) (as : List Value) (h : qm_HD) : qm_CD := (0, qm_la as ++ List.replicate (nL - (qm_la as).length) (.float 0), [], h)
def qm_runD (F : Nat → Nat × qm_Cd) : Nat → Nat → qm_Cd → qm_CD → Option (Option Value × qm_HD)
  | 0, _, _, _ => none
  | n + 1, d, cd, c => match qm_stepD cd c with
    | none => none
    | some (.inl c') => qm_runD F n d cd c'
    | some (.inr (.inl q)) => qm_runD F n d cd (bif q.1 then q.2.1 else q.2.2)
    | some (.inr (.inr (.inl q))) => some q
    | some (.inr (.inr (.inr q))) => match d with
      | 0 => none
      | d' + 1 => bif Nat.ble (qm_la q.2.1).length (F q.1).1 then (match qm_runD F n d' (F q.1).2 (qm_entD (F q.1).1 q.2.1 q.2.2.2.2.2) with
        | none => none
        | some r => qm_runD F n (d' + 1) cd (q.2.2.1, q.2.2.2.1, r.1.toList ++ q.2.2.2.2.1, r.2)) else none
theorem qm_lu_up {α : Type} (d : α) (us : List (Nat × Nat × α)) (k i : Nat) (v : α) : qm_up (qm_lu d us) k i v = qm_lu d ((k, i, v) :: us) := funext fun _ => funext fun _ => rfl
theorem qm_lu_map {α : Type} (d : α) (us : List (Nat × Nat × α)) (a dp : Nat) (g : Nat → α) : ∀ (l : List Nat) (k i : Nat), qm_lu d (l.map (fun t => (a, dp + t, g t)) ++ us) k i = if k = a ∧ dp ≤ i ∧ i - dp ∈ l then g (i - dp) else qm_lu d us k i
  | [], k, i => by simp
  | x :: l, k, i => by
    have ih := qm_lu_map d us a dp g l k i
    rw [List.map_cons, List.cons_append]
    show (bif Nat.beq k a && Nat.beq i (dp + x) then g x else qm_lu d (l.map (fun t => (a, dp + t, g t)) ++ us) k i) = _
    rw [ih]
    by_cases hk : k = a
    · subst hk
      by_cases hi : i = dp + x
      · subst hi
        simp
      · have hb : Nat.beq i (dp + x) = false := qm_bne hi
        simp only [hb, Bool.and_false, cond_false, List.mem_cons, true_and]
        by_cases hd : dp ≤ i
        · have hx : ¬ i - dp = x := by omega
          simp [hd, hx]
        · simp [hd]
    · have hb : Nat.beq k a = false := qm_bne hk
      simp [hb, hk]
theorem qm_mr_lu (R : List (Nat × Nat × Option Nat)) (a n : Nat) : qm_mr (qm_lu none R) a n = qm_lu none ((List.range n).map (fun t => (a, t, some (a + 1 + t))) ++ R) := by
  funext k i
  have h := qm_lu_map none R a 0 (fun t => some (a + 1 + t)) (List.range n) k i
  simp only [Nat.zero_add] at h
  rw [h]
  by_cases hk : k = a
  · subst hk
    have hbb : Nat.beq k k = true := Nat.beq_refl _
    by_cases hi : i < n
    · have hbl : Nat.blt i n = true := Nat.ble_eq_true_of_le hi
      simp [qm_mr, hbl, hi]
    · have hbl : Nat.blt i n = false := by
        cases hb9 : Nat.blt i n with
        | false => rfl
        | true => exact absurd (Nat.le_of_ble_eq_true hb9) hi
      simp [qm_mr, hbl, hi]
  · simp [qm_mr, qm_bne hk, hk]
theorem qm_cp_lu (us : List (Nat × Nat × Int32)) (o sp d dp n : Nat) : qm_cp (qm_lu 0 us) o sp d dp n = qm_lu 0 ((List.range n).map (fun t => (d, dp + t, qm_lu 0 us o (sp + t))) ++ us) := by
  funext k i
  rw [qm_lu_map 0 us d dp (fun t => qm_lu 0 us o (sp + t)) (List.range n) k i]
  by_cases hk : k = d
  · subst hk
    by_cases hi : dp ≤ i ∧ i < dp + n
    · have g1 : Nat.ble dp i = true := Nat.ble_eq_true_of_le hi.1
      have g2 : Nat.blt i (dp + n) = true := Nat.ble_eq_true_of_le hi.2
      have g3 : i - dp < n := by omega
      simp [qm_cp, g1, g2, g3, hi.1]
    · have g3 : (Nat.ble dp i && Nat.blt i (dp + n)) = false := by
        cases g1 : Nat.ble dp i with
        | false => rfl
        | true =>
          cases g2 : Nat.blt i (dp + n) with
          | false => rfl
          | true => exact absurd ⟨Nat.le_of_ble_eq_true g1, Nat.le_of_ble_eq_true g2⟩ hi
      have g4 : ¬ (dp ≤ i ∧ i - dp < n) := by omega
      simp only [qm_cp, g3, Bool.and_false, cond_false, List.mem_range, true_and]
      rw [if_neg g4]
  · simp [qm_cp, qm_bne hk, hk]
set_option maxHeartbeats 8000000 in
theorem qm_xD_ok (X : Option (Nat × (Nat → Int32))) (pc np a f : Nat) (ins : Instr) (v : Value) (c : qm_CD) {r : qm_CD ⊕ ((Bool × qm_CD × qm_CD) ⊕ ((Option Value × qm_HD) ⊕ (Nat × List Value × qm_CD)))} (h : qm_xD (pc, np, ins, a, f, v) c = some r) : qm_x X (pc, np, ins, a, f, v) (qm_fc c) = some (qm_fr r) := by
  obtain ⟨pc0, ls, st, sh, I, J, R⟩ := c
  cases ins <;> simp only [qm_xD, qm_nxD, qm_brD, qm_rtD, qm_clD, Bool.cond_eq_ite] at h <;> (repeat' split at h) <;> (try cases h) <;> first
    | rfl
    | (simp_all [qm_x, qm_fc, qm_fn, qm_fr, qm_nx, qm_br, qm_rt, qm_cl, qm_lu_up, qm_mr_lu, qm_cp_lu, Bool.cond_eq_ite]; done)
    | (simp_all [qm_x, qm_fc, qm_fn, qm_fr, qm_nx, qm_br, qm_rt, qm_cl, qm_lu_up, qm_mr_lu, qm_cp_lu, Bool.cond_eq_ite]; intro hz; first | exact absurd hz (Int32.not_lt.mpr (by assumption)) | exact absurd hz (Int64.not_lt.mpr (by assumption)) | exact absurd hz (Int32.not_le.mpr (by assumption)) | (exfalso; omega))
