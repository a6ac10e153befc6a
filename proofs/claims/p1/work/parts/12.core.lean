/-! A small machine of its own over labels: the own cells are numbered 0, 1, .. from the law's entry on; their contents are three functions (ints, longs, references) of label and place. What it does is shown of the real machine once, instruction by instruction (parts 3x); after that a method is walked here. -/
/-- an instruction laid out: pc, the next pc, the instruction, two numbers, a value -/
abbrev qm_It : Type := Nat × Nat × Instr × Nat × Nat × Value
/-- code in blocks: the last pc of a block, its instructions -/
abbrev qm_Cd : Type := List (Nat × List qm_It)
/-- own cells: their kinds and lengths (0 int[], 1 byte[], 2 boolean[], 3 long[], 4 int[][], 5 + k an object of class k), ints, longs, references -/
abbrev qm_H : Type := List (Nat × Nat) × (Nat → Nat → Int32) × (Nat → Nat → Int64) × (Nat → Nat → Option Nat)
/-- pc, locals, stack, cells -/
abbrev qm_C : Type := Nat × List Value × List Value × qm_H
/-- stuck, or: goes on; a branch; an answer; a call -/
abbrev qm_R : Type := Option (qm_C ⊕ ((Bool × qm_C × qm_C) ⊕ ((Option Value × qm_H) ⊕ (Nat × List Value × qm_C))))
def qm_nx (c : qm_C) : qm_R := some (.inl c)
def qm_br (b : Bool) (c1 c2 : qm_C) : qm_R := some (.inr (.inl (b, c1, c2)))
def qm_rt (v : Option Value) (h : qm_H) : qm_R := some (.inr (.inr (.inl (v, h))))
def qm_cl (j : Nat) (as : List Value) (c : qm_C) : qm_R := some (.inr (.inr (.inr (j, as, c))))
def qm_up {α : Type} (f : Nat → Nat → α) (k i : Nat) (v : α) : Nat → Nat → α := fun k' i' => bif Nat.beq k' k && Nat.beq i' i then v else f k' i'
/-- a reference as a value -/
def qm_rv (r : Option Nat) : Value := match r with
  | some a => .ref a
  | none => .null
/-- a place's value, by the tag's kind -/
def qm_tv (v : Value) (h : qm_H) (a k : Nat) : Value := match v with
  | .int _ => .int (h.2.1 a k)
  | .long _ => .long (h.2.2.1 a k)
  | _ => qm_rv (h.2.2.2 a k)
def qm_find : List qm_It → Nat → Option qm_It
  | [], _ => none
  | it :: r, pc => bif Nat.beq it.1 pc then some it else qm_find r pc
def qm_fetch : qm_Cd → Nat → Option qm_It
  | [], _ => none
  | q :: r, pc => bif Nat.ble pc q.1 then qm_find q.2 pc else qm_fetch r pc
/-- a local of one slot is written -/
def qm_s1 (ls : List Value) (i : Nat) (v : Value) : List Value := match i with
  | 0 => ls.set 0 v
  | j + 1 => match ls[j]? with
    | some (.long _) => (ls.set j (.float 0)).set (j + 1) v
    | some (.double _) => (ls.set j (.float 0)).set (j + 1) v
    | _ => ls.set (j + 1) v
def qm_s2 (ls : List Value) (i : Nat) (v : Value) : List Value := (qm_s1 ls i v).set (i + 1) (.float 0)
def qm_cz (c : ClassFile.Cond) (x : Int32) : Bool := match c with
  | .eq => decide (x = 0)
  | .ne => decide (¬ x = 0)
  | .lt => decide (x < 0)
  | .ge => decide (0 ≤ x)
  | .gt => decide (0 < x)
  | .le => decide (x ≤ 0)
def qm_cc (c : ClassFile.Cond) (x y : Int32) : Bool := match c with
  | .eq => decide (x = y)
  | .ne => decide (¬ x = y)
  | .lt => decide (x < y)
  | .ge => decide (y ≤ x)
  | .gt => decide (y < x)
  | .le => decide (x ≤ y)
/-- the row of references of a new int[n][..] -/
def qm_mr (R : Nat → Nat → Option Nat) (a n : Nat) : Nat → Nat → Option Nat := fun k i => bif Nat.beq k a && Nat.blt i n then some (a + 1 + i) else R k i
/-- System.arraycopy of ints -/
def qm_cp (I : Nat → Nat → Int32) (s sp d dp n : Nat) : Nat → Nat → Int32 := fun k i => bif Nat.beq k d && (Nat.ble dp i && Nat.blt i (dp + n)) then I s (sp + (i - dp)) else I k i
def qm_cat (st : List Value) : Nat := (st.map fun v => v.category).sum
/-- is the place within a row of n -/
def qm_in (i : Int32) (n : Nat) : Bool := decide (¬ (i < 0 ∨ n ≤ i.toNatClampNeg))
def qm_tgt (pc : Nat) (off : Int) : Nat := ((pc : Int) + off).toNat
/-- one instruction; X: the script's length and ints -/
def qm_x (X : Nat × (Nat → Int32)) (it : qm_It) (c : qm_C) : qm_R :=
  let np := it.2.1
  let a := it.2.2.2.1
  let b := it.2.2.2.2.1
  let v := it.2.2.2.2.2
  let ls := c.2.1
  let h := c.2.2.2
  match it.2.2.1 with
  | .iconst _ => qm_nx (np, ls, v :: c.2.2.1, h)
  | .bipush _ => qm_nx (np, ls, v :: c.2.2.1, h)
  | .sipush _ => qm_nx (np, ls, v :: c.2.2.1, h)
  | .lconst _ => qm_nx (np, ls, v :: c.2.2.1, h)
  | .ldc _ => qm_nx (np, ls, v :: c.2.2.1, h)
  | .ldc_w _ => qm_nx (np, ls, v :: c.2.2.1, h)
  | .ldc2_w _ => qm_nx (np, ls, v :: c.2.2.1, h)
  | .iload _ => match ls[a]? with
    | some (.int x) => qm_nx (np, ls, .int x :: c.2.2.1, h)
    | _ => none
  | .iload_n _ => match ls[a]? with
    | some (.int x) => qm_nx (np, ls, .int x :: c.2.2.1, h)
    | _ => none
  | .lload _ => match ls[a]? with
    | some (.long x) => qm_nx (np, ls, .long x :: c.2.2.1, h)
    | _ => none
  | .lload_n _ => match ls[a]? with
    | some (.long x) => qm_nx (np, ls, .long x :: c.2.2.1, h)
    | _ => none
  | .aload _ => match ls[a]? with
    | some (.ref x) => qm_nx (np, ls, .ref x :: c.2.2.1, h)
    | some (.retAddr x) => qm_nx (np, ls, .retAddr x :: c.2.2.1, h)
    | _ => none
  | .aload_n _ => match ls[a]? with
    | some (.ref x) => qm_nx (np, ls, .ref x :: c.2.2.1, h)
    | some (.retAddr x) => qm_nx (np, ls, .retAddr x :: c.2.2.1, h)
    | _ => none
  | .istore _ => match c.2.2.1 with
    | .int x :: r => qm_nx (np, qm_s1 ls a (.int x), r, h)
    | _ => none
  | .istore_n _ => match c.2.2.1 with
    | .int x :: r => qm_nx (np, qm_s1 ls a (.int x), r, h)
    | _ => none
  | .lstore _ => match c.2.2.1 with
    | .long x :: r => qm_nx (np, qm_s2 ls a (.long x), r, h)
    | _ => none
  | .lstore_n _ => match c.2.2.1 with
    | .long x :: r => qm_nx (np, qm_s2 ls a (.long x), r, h)
    | _ => none
  | .astore _ => match c.2.2.1 with
    | .ref x :: r => qm_nx (np, qm_s1 ls a (.ref x), r, h)
    | _ => none
  | .astore_n _ => match c.2.2.1 with
    | .ref x :: r => qm_nx (np, qm_s1 ls a (.ref x), r, h)
    | _ => none
  | .iinc _ _ => match ls[a]?, v with
    | some (.int x), .int y => qm_nx (np, qm_s1 ls a (.int (x + y)), c.2.2.1, h)
    | _, _ => none
  | .iadd => match c.2.2.1 with
    | .int y :: .int x :: r => qm_nx (np, ls, .int (x + y) :: r, h)
    | _ => none
  | .isub => match c.2.2.1 with
    | .int y :: .int x :: r => qm_nx (np, ls, .int (x - y) :: r, h)
    | _ => none
  | .imul => match c.2.2.1 with
    | .int y :: .int x :: r => qm_nx (np, ls, .int (x * y) :: r, h)
    | _ => none
  | .iand => match c.2.2.1 with
    | .int y :: .int x :: r => qm_nx (np, ls, .int (x &&& y) :: r, h)
    | _ => none
  | .ior => match c.2.2.1 with
    | .int y :: .int x :: r => qm_nx (np, ls, .int (x ||| y) :: r, h)
    | _ => none
  | .ixor => match c.2.2.1 with
    | .int y :: .int x :: r => qm_nx (np, ls, .int (x ^^^ y) :: r, h)
    | _ => none
  | .idiv => match c.2.2.1 with
    | .int y :: .int x :: r => bif decide (y = 0) then none else qm_nx (np, ls, .int (x / y) :: r, h)
    | _ => none
  | .irem => match c.2.2.1 with
    | .int y :: .int x :: r => bif decide (y = 0) then none else qm_nx (np, ls, .int (x - x / y * y) :: r, h)
    | _ => none
  | .ineg => match c.2.2.1 with
    | .int x :: r => qm_nx (np, ls, .int (-x) :: r, h)
    | _ => none
  | .ishl => match c.2.2.1 with
    | .int y :: .int x :: r => qm_nx (np, ls, .int (x <<< (y &&& 31)) :: r, h)
    | _ => none
  | .ishr => match c.2.2.1 with
    | .int y :: .int x :: r => qm_nx (np, ls, .int (x >>> (y &&& 31)) :: r, h)
    | _ => none
  | .iushr => match c.2.2.1 with
    | .int y :: .int x :: r => qm_nx (np, ls, .int ((x.toUInt32 >>> (y.toUInt32 &&& Int32.toUInt32 31)).toInt32) :: r, h)
    | _ => none
  | .ladd => match c.2.2.1 with
    | .long y :: .long x :: r => qm_nx (np, ls, .long (x + y) :: r, h)
    | _ => none
  | .lsub => match c.2.2.1 with
    | .long y :: .long x :: r => qm_nx (np, ls, .long (x - y) :: r, h)
    | _ => none
  | .lmul => match c.2.2.1 with
    | .long y :: .long x :: r => qm_nx (np, ls, .long (x * y) :: r, h)
    | _ => none
  | .land => match c.2.2.1 with
    | .long y :: .long x :: r => qm_nx (np, ls, .long (x &&& y) :: r, h)
    | _ => none
  | .lor => match c.2.2.1 with
    | .long y :: .long x :: r => qm_nx (np, ls, .long (x ||| y) :: r, h)
    | _ => none
  | .ldiv => match c.2.2.1 with
    | .long y :: .long x :: r => bif decide (y = 0) then none else qm_nx (np, ls, .long (x / y) :: r, h)
    | _ => none
  | .lrem => match c.2.2.1 with
    | .long y :: .long x :: r => bif decide (y = 0) then none else qm_nx (np, ls, .long (x - x / y * y) :: r, h)
    | _ => none
  | .lshl => match c.2.2.1 with
    | .int y :: .long x :: r => qm_nx (np, ls, .long (x <<< (y.toInt64 &&& 63)) :: r, h)
    | _ => none
  | .lshr => match c.2.2.1 with
    | .int y :: .long x :: r => qm_nx (np, ls, .long (x >>> (y.toInt64 &&& 63)) :: r, h)
    | _ => none
  | .lcmp => match c.2.2.1 with
    | .long y :: .long x :: r => qm_nx (np, ls, .int (lg_cmp x y) :: r, h)
    | _ => none
  | .i2l => match c.2.2.1 with
    | .int x :: r => qm_nx (np, ls, .long x.toInt64 :: r, h)
    | _ => none
  | .l2i => match c.2.2.1 with
    | .long x :: r => qm_nx (np, ls, .int x.toInt32 :: r, h)
    | _ => none
  | .i2b => match c.2.2.1 with
    | .int x :: r => qm_nx (np, ls, .int x.toInt8.toInt32 :: r, h)
    | _ => none
  | .dup => match c.2.2.1 with
    | w :: r => bif Nat.beq w.category 1 then qm_nx (np, ls, w :: w :: r, h) else none
    | _ => none
  | .pop => match c.2.2.1 with
    | w :: r => bif Nat.beq w.category 1 then qm_nx (np, ls, r, h) else none
    | _ => none
  | .dup2 => match c.2.2.1 with
    | .int y :: w :: r => bif Nat.beq w.category 1 then qm_nx (np, ls, .int y :: w :: .int y :: w :: r, h) else none
    | .long y :: r => qm_nx (np, ls, .long y :: .long y :: r, h)
    | _ => none
  | .goto _ => qm_nx (a, ls, c.2.2.1, h)
  | .ifCond k _ => match c.2.2.1 with
    | .int x :: r => qm_br (qm_cz k x) (a, ls, r, h) (np, ls, r, h)
    | _ => none
  | .if_icmp k _ => match c.2.2.1 with
    | .int y :: .int x :: r => qm_br (qm_cc k x y) (a, ls, r, h) (np, ls, r, h)
    | _ => none
  | .ifnull _ => match c.2.2.1 with
    | .ref _ :: r => qm_nx (np, ls, r, h)
    | .null :: r => qm_nx (a, ls, r, h)
    | _ => none
  | .ifnonnull _ => match c.2.2.1 with
    | .ref _ :: r => qm_nx (a, ls, r, h)
    | .null :: r => qm_nx (np, ls, r, h)
    | _ => none
  | .tableswitch dflt lo hi offs => match c.2.2.1 with
    | .int x :: r => bif decide (x.toInt < lo ∨ hi < x.toInt) then qm_nx (qm_tgt it.1 dflt, ls, r, h) else match offs[(x.toInt - lo).toNat]? with
      | some off => qm_nx (qm_tgt it.1 off, ls, r, h)
      | none => none
    | _ => none
  | .lookupswitch dflt ps => match c.2.2.1 with
    | .int x :: r => qm_nx (qm_tgt it.1 (Op.lookupswitch.offset ps.toList dflt x.toInt), ls, r, h)
    | _ => none
  | .getfield _ => match c.2.2.1 with
    | .ref o :: r => match h.1[o]? with
      | some q => bif Nat.beq q.1 (a + 5) then qm_nx (np, ls, qm_tv v h o b :: r, h) else none
      | none => none
    | _ => none
  | .putfield _ => match c.2.2.1 with
    | w :: .ref o :: r => match h.1[o]? with
      | some q => bif Nat.beq q.1 (a + 5) then (match v, w with
        | .int t, .int x => bif decide (t = 0) || (decide (x = 0) || decide (x = 1)) then qm_nx (np, ls, r, (h.1, qm_up h.2.1 o b x, h.2.2.1, h.2.2.2)) else none
        | .long _, .long x => qm_nx (np, ls, r, (h.1, h.2.1, qm_up h.2.2.1 o b x, h.2.2.2))
        | .null, .ref x => qm_nx (np, ls, r, (h.1, h.2.1, h.2.2.1, qm_up h.2.2.2 o b (some x)))
        | .null, .null => qm_nx (np, ls, r, (h.1, h.2.1, h.2.2.1, qm_up h.2.2.2 o b none))
        | _, _ => none) else none
      | none => none
    | _ => none
  | .iaload => match c.2.2.1 with
    | .int i :: .ref o :: r => match h.1[o]? with
      | some (0, n) => bif qm_in i n then qm_nx (np, ls, .int (h.2.1 o i.toNatClampNeg) :: r, h) else none
      | _ => none
    | .int i :: .retAddr _ :: r => bif qm_in i X.1 then qm_nx (np, ls, .int (X.2 i.toNatClampNeg) :: r, h) else none
    | _ => none
  | .baload => match c.2.2.1 with
    | .int i :: .ref o :: r => match h.1[o]? with
      | some (1, n) => bif qm_in i n then qm_nx (np, ls, .int (h.2.1 o i.toNatClampNeg) :: r, h) else none
      | some (2, n) => bif qm_in i n then qm_nx (np, ls, .int (h.2.1 o i.toNatClampNeg) :: r, h) else none
      | _ => none
    | _ => none
  | .laload => match c.2.2.1 with
    | .int i :: .ref o :: r => match h.1[o]? with
      | some (3, n) => bif qm_in i n then qm_nx (np, ls, .long (h.2.2.1 o i.toNatClampNeg) :: r, h) else none
      | _ => none
    | _ => none
  | .aaload => match c.2.2.1 with
    | .int i :: .ref o :: r => match h.1[o]? with
      | some (4, n) => bif qm_in i n then qm_nx (np, ls, qm_rv (h.2.2.2 o i.toNatClampNeg) :: r, h) else none
      | _ => none
    | _ => none
  | .iastore => match c.2.2.1 with
    | .int x :: .int i :: .ref o :: r => match h.1[o]? with
      | some (0, n) => bif qm_in i n then qm_nx (np, ls, r, (h.1, qm_up h.2.1 o i.toNatClampNeg x, h.2.2.1, h.2.2.2)) else none
      | _ => none
    | _ => none
  | .bastore => match c.2.2.1 with
    | .int x :: .int i :: .ref o :: r => match h.1[o]? with
      | some (1, n) => bif qm_in i n then qm_nx (np, ls, r, (h.1, qm_up h.2.1 o i.toNatClampNeg (vp_nar .byte x), h.2.2.1, h.2.2.2)) else none
      | some (2, n) => bif qm_in i n then qm_nx (np, ls, r, (h.1, qm_up h.2.1 o i.toNatClampNeg (vp_nar .boolean x), h.2.2.1, h.2.2.2)) else none
      | _ => none
    | _ => none
  | .lastore => match c.2.2.1 with
    | .long x :: .int i :: .ref o :: r => match h.1[o]? with
      | some (3, n) => bif qm_in i n then qm_nx (np, ls, r, (h.1, h.2.1, qm_up h.2.2.1 o i.toNatClampNeg x, h.2.2.2)) else none
      | _ => none
    | _ => none
  | .arraylength => match c.2.2.1 with
    | .ref o :: r => match h.1[o]? with
      | some q => bif Nat.blt q.1 5 then qm_nx (np, ls, .int (Int32.ofNat q.2) :: r, h) else none
      | none => none
    | .retAddr _ :: r => qm_nx (np, ls, .int (Int32.ofNat X.1) :: r, h)
    | _ => none
  | .newarray _ => match c.2.2.1 with
    | .int n :: r => bif qm_in n 100000 then qm_nx (np, ls, .ref h.1.length :: r, (h.1 ++ [(a, n.toNatClampNeg)], h.2)) else none
    | _ => none
  | .new _ => qm_nx (np, ls, .ref h.1.length :: c.2.2.1, (h.1 ++ [(a + 5, b)], h.2))
  | .multianewarray _ _ => match c.2.2.1 with
    | .int k :: .int n :: r => bif qm_in n 1000 && qm_in k 1000 then qm_nx (np, ls, .ref h.1.length :: r, (h.1 ++ ((4, n.toNatClampNeg) :: List.replicate n.toNatClampNeg (0, k.toNatClampNeg)), h.2.1, h.2.2.1, qm_mr h.2.2.2 h.1.length n.toNatClampNeg)) else none
    | _ => none
  | .invokevirtual _ => match c.2.2.1.drop b with
    | .ref o :: r => match h.1[o]?, v with
      | some q, .retAddr ci => bif Nat.beq q.1 (ci + 5) && (Nat.ble (qm_cat r) 8) then qm_cl a (.ref o :: (c.2.2.1.take b).reverse) (np, ls, r, h) else none
      | _, _ => none
    | _ => none
  | .invokespecial _ => match c.2.2.1.drop b with
    | .ref o :: r => match v with
      | .null => bif Nat.ble (qm_cat r) 8 then qm_nx (np, ls, r, h) else none
      | _ => bif Nat.ble (qm_cat r) 8 then qm_cl a (.ref o :: (c.2.2.1.take b).reverse) (np, ls, r, h) else none
    | _ => none
  | .invokestatic _ => match v with
    | .null => match c.2.2.1 with
      | .int n :: .int dp :: .ref d :: .int sp :: .ref o :: r => match h.1[o]?, h.1[d]? with
        | some (0, m), some (0, k) => bif (decide (¬ n < 0) && (decide (¬ sp < 0) && decide (¬ dp < 0))) && ((Nat.ble (sp.toNatClampNeg + n.toNatClampNeg) m && Nat.ble (dp.toNatClampNeg + n.toNatClampNeg) k) && Nat.ble (qm_cat r) 8) then qm_nx (np, ls, r, (h.1, qm_cp h.2.1 o sp.toNatClampNeg d dp.toNatClampNeg n.toNatClampNeg, h.2.2.1, h.2.2.2)) else none
        | _, _ => none
      | _ => none
    | _ => bif Nat.ble b c.2.2.1.length && Nat.ble (qm_cat (c.2.2.1.drop b)) 8 then qm_cl a (c.2.2.1.take b).reverse (np, ls, c.2.2.1.drop b, h) else none
  | .ireturn => match c.2.2.1 with
    | [.int x] => bif Nat.beq a 0 || (decide (x = 0) || decide (x = 1)) then qm_rt (some (.int x)) h else none
    | _ => none
  | .lreturn => match c.2.2.1 with
    | [.long x] => qm_rt (some (.long x)) h
    | _ => none
  | .return_ => match c.2.2.1 with
    | [] => qm_rt none h
    | _ => none
  | _ => none
def qm_step (X : Nat × (Nat → Int32)) (cd : qm_Cd) (c : qm_C) : qm_R := match qm_fetch cd c.1 with
  | some it => qm_x X it c
  | none => none
/-- arguments as locals -/
def qm_la : List Value → List Value
  | [] => []
  | v :: r => bif Nat.beq v.category 2 then v :: .float 0 :: qm_la r else v :: qm_la r
def qm_ent (nL : Nat) (as : List Value) (h : qm_H) : qm_C := (0, qm_la as ++ List.replicate (nL - (qm_la as).length) (.float 0), [], h)
