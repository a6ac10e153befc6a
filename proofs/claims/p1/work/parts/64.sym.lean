/-! the small machine over numbers that are not known: number n is written .float n (n > 0); the machine's unset local is .float 0 -/
abbrev qm_HS : Type := List (Nat × Nat) × List (Nat × Nat × Value) × List (Nat × Nat × Int64) × List (Nat × Nat × Option Nat)
abbrev qm_CS : Type := Nat × List Value × List Value × qm_HS
/-- goes on; a branch; an answer; a call; a number must be known first -/
abbrev qm_SS : Type := qm_CS ⊕ ((ClassFile.Cond × Value × Value × qm_CS × qm_CS) ⊕ ((Option Value × qm_HS) ⊕ ((Nat × List Value × qm_CS) ⊕ Nat)))
abbrev qm_RS : Type := Option qm_SS
/-- bounds of the numbers; what is known of pairs of them (is the one below the other) -/
abbrev qm_En : Type := List (Int × Int) × List (Nat × Nat × Bool)
def qm_bd (E : qm_En) (n : Nat) : Int × Int := E.1.getD n (-2147483648, 2147483647)
/-- a number that its bounds tell -/
def qm_rs (E : qm_En) (v : Value) : Value := match v with
  | .float n => bif decide (n = 0) then v else (bif decide ((qm_bd E n.toNat).1 = (qm_bd E n.toNat).2) then .int (Int32.ofInt (qm_bd E n.toNat).1) else v)
  | w => w
def qm_il (v : Value) : Bool := match v with
  | .int _ => true
  | .float n => decide (¬ n = 0)
  | _ => false
def qm_nxS (c : qm_CS) : qm_RS := some (.inl c)
def qm_brS (q : ClassFile.Cond) (x y : Value) (c1 c2 : qm_CS) : qm_RS := some (.inr (.inl (q, x, y, c1, c2)))
def qm_rtS (v : Option Value) (h : qm_HS) : qm_RS := some (.inr (.inr (.inl (v, h))))
def qm_clS (j : Nat) (as : List Value) (c : qm_CS) : qm_RS := some (.inr (.inr (.inr (.inl (j, as, c)))))
def qm_spS (n : Nat) : qm_RS := some (.inr (.inr (.inr (.inr n))))
/-- two ints are wanted -/
def qm_2S (y x : Value) (k : Int32 → Int32 → qm_RS) : qm_RS := match y, x with
  | .int y, .int x => k y x
  | .float n, _ => qm_spS n.toNat
  | _, .float n => qm_spS n.toNat
  | _, _ => none
def qm_1S (x : Value) (k : Int32 → qm_RS) : qm_RS := match x with
  | .int x => k x
  | .float n => qm_spS n.toNat
  | _ => none
/-- free numbers: an even one from 300 on; the one behind it is one more -/
def qm_ev (v : Value) : Bool := match v with
  | .float n => decide (300 ≤ n.toNat) && (decide (n.toNat < 400) && decide (n.toNat % 2 = 0))
  | _ => false
def qm_su (v : Value) : Value := match v with
  | .float n => .float (UInt32.ofNat (n.toNat + 1))
  | w => w
/-- a number that its bounds hold outside -/
def qm_outS (E : qm_En) (v : Value) (lo hi : Int) : Bool := match v with
  | .float n => decide (¬ n = 0) && (decide ((qm_bd E n.toNat).2 < lo) || decide (hi < (qm_bd E n.toNat).1))
  | _ => false
def qm_xS (E : qm_En) (it : qm_It) (c : qm_CS) : qm_RS :=
  let np := it.2.1
  let a := it.2.2.2.1
  let b := it.2.2.2.2.1
  let v := it.2.2.2.2.2
  let ls := c.2.1
  let h := c.2.2.2
  match it.2.2.1 with
  | .iconst _ => match v with
    | .int x => qm_nxS (np, ls, .int x :: c.2.2.1, h)
    | _ => none
  | .bipush _ => match v with
    | .int x => qm_nxS (np, ls, .int x :: c.2.2.1, h)
    | _ => none
  | .sipush _ => match v with
    | .int x => qm_nxS (np, ls, .int x :: c.2.2.1, h)
    | _ => none
  | .ldc _ => match v with
    | .int x => qm_nxS (np, ls, .int x :: c.2.2.1, h)
    | _ => none
  | .ldc_w _ => match v with
    | .int x => qm_nxS (np, ls, .int x :: c.2.2.1, h)
    | _ => none
  | .lconst _ => match v with
    | .long x => qm_nxS (np, ls, .long x :: c.2.2.1, h)
    | _ => none
  | .iload _ => match ls[a]? with
    | some w => bif qm_il w then qm_nxS (np, ls, w :: c.2.2.1, h) else none
    | none => none
  | .iload_n _ => match ls[a]? with
    | some w => bif qm_il w then qm_nxS (np, ls, w :: c.2.2.1, h) else none
    | none => none
  | .lload _ => match ls[a]? with
    | some (.long x) => qm_nxS (np, ls, .long x :: c.2.2.1, h)
    | _ => none
  | .lload_n _ => match ls[a]? with
    | some (.long x) => qm_nxS (np, ls, .long x :: c.2.2.1, h)
    | _ => none
  | .aload _ => match ls[a]? with
    | some (.ref x) => qm_nxS (np, ls, .ref x :: c.2.2.1, h)
    | some (.retAddr x) => qm_nxS (np, ls, .retAddr x :: c.2.2.1, h)
    | _ => none
  | .aload_n _ => match ls[a]? with
    | some (.ref x) => qm_nxS (np, ls, .ref x :: c.2.2.1, h)
    | some (.retAddr x) => qm_nxS (np, ls, .retAddr x :: c.2.2.1, h)
    | _ => none
  | .istore _ => match c.2.2.1 with
    | w :: r => bif qm_il w then qm_nxS (np, qm_s1 ls a w, r, h) else none
    | _ => none
  | .istore_n _ => match c.2.2.1 with
    | w :: r => bif qm_il w then qm_nxS (np, qm_s1 ls a w, r, h) else none
    | _ => none
  | .lstore_n _ => match c.2.2.1 with
    | .long x :: r => qm_nxS (np, qm_s2 ls a (.long x), r, h)
    | _ => none
  | .astore _ => match c.2.2.1 with
    | .ref x :: r => qm_nxS (np, qm_s1 ls a (.ref x), r, h)
    | _ => none
  | .astore_n _ => match c.2.2.1 with
    | .ref x :: r => qm_nxS (np, qm_s1 ls a (.ref x), r, h)
    | _ => none
  | .iinc _ _ => match ls[a]?, v with
    | some w, .int y => bif qm_ev w && decide (y = 1) then qm_nxS (np, qm_s1 ls a (qm_su w), c.2.2.1, h) else qm_1S (qm_rs E w) (fun x => qm_nxS (np, qm_s1 ls a (.int (x + y)), c.2.2.1, h))
    | _, _ => none
  | .iadd => match c.2.2.1 with
    | y :: x :: r => bif qm_ev x && decide (y = .int 1) then qm_nxS (np, ls, qm_su x :: r, h) else qm_2S (qm_rs E y) (qm_rs E x) (fun y x => qm_nxS (np, ls, .int (x + y) :: r, h))
    | _ => none
  | .isub => match c.2.2.1 with
    | y :: x :: r => qm_2S (qm_rs E y) (qm_rs E x) (fun y x => qm_nxS (np, ls, .int (x - y) :: r, h))
    | _ => none
  | .imul => match c.2.2.1 with
    | y :: x :: r => qm_2S (qm_rs E y) (qm_rs E x) (fun y x => qm_nxS (np, ls, .int (x * y) :: r, h))
    | _ => none
  | .ixor => match c.2.2.1 with
    | y :: x :: r => qm_2S (qm_rs E y) (qm_rs E x) (fun y x => qm_nxS (np, ls, .int (x ^^^ y) :: r, h))
    | _ => none
  | .ishl => match c.2.2.1 with
    | y :: x :: r => qm_2S (qm_rs E y) (qm_rs E x) (fun y x => qm_nxS (np, ls, .int (x <<< (y &&& 31)) :: r, h))
    | _ => none
  | .idiv => match c.2.2.1 with
    | y :: x :: r => qm_2S (qm_rs E y) (qm_rs E x) (fun y x => bif decide (y = 0) then none else qm_nxS (np, ls, .int (x / y) :: r, h))
    | _ => none
  | .irem => match c.2.2.1 with
    | y :: x :: r => qm_2S (qm_rs E y) (qm_rs E x) (fun y x => bif decide (y = 0) then none else qm_nxS (np, ls, .int (x - x / y * y) :: r, h))
    | _ => none
  | .iand => match c.2.2.1 with
    | y :: x :: r => (match y, x with
      | .int y', .float n => bif decide (y' = 63) && decide (n = 1) then qm_nxS (np, ls, .float 7 :: r, h) else qm_2S (qm_rs E y) (qm_rs E x) (fun y x => qm_nxS (np, ls, .int (x &&& y) :: r, h))
      | _, _ => qm_2S (qm_rs E y) (qm_rs E x) (fun y x => qm_nxS (np, ls, .int (x &&& y) :: r, h)))
    | _ => none
  | .ishr => match c.2.2.1 with
    | y :: x :: r => (match qm_rs E y, x with
      | .int y', .float n => bif (decide (1 ≤ n.toNat) && decide (n.toNat ≤ 6)) && (decide (y' = Int32.ofNat (8 * (y'.toNatClampNeg / 8))) && decide (y'.toNatClampNeg / 8 < 4)) then qm_nxS (np, ls, .float (UInt32.ofNat (100 + 4 * n.toNat + y'.toNatClampNeg / 8)) :: r, h) else qm_2S (qm_rs E y) (qm_rs E x) (fun y x => qm_nxS (np, ls, .int (x >>> (y &&& 31)) :: r, h))
      | _, _ => qm_2S (qm_rs E y) (qm_rs E x) (fun y x => qm_nxS (np, ls, .int (x >>> (y &&& 31)) :: r, h)))
    | _ => none
  | .i2b => match c.2.2.1 with
    | .int x :: r => qm_nxS (np, ls, .int x.toInt8.toInt32 :: r, h)
    | .float n :: r => bif decide (100 ≤ n.toNat) && decide (n.toNat < 200) then qm_nxS (np, ls, .float (UInt32.ofNat (n.toNat + 100)) :: r, h) else none
    | _ => none
  | .dup => match c.2.2.1 with
    | w :: r => bif Nat.beq w.category 1 then qm_nxS (np, ls, w :: w :: r, h) else none
    | _ => none
  | .pop => match c.2.2.1 with
    | w :: r => bif Nat.beq w.category 1 then qm_nxS (np, ls, r, h) else none
    | _ => none
  | .dup2 => match c.2.2.1 with
    | .int y :: w :: r => bif Nat.beq w.category 1 then qm_nxS (np, ls, .int y :: w :: .int y :: w :: r, h) else none
    | _ => none
  | .goto _ => qm_nxS (a, ls, c.2.2.1, h)
  | .ifCond q _ => match c.2.2.1 with
    | x :: r => bif qm_il x then qm_brS q (qm_rs E x) (.int 0) (a, ls, r, h) (np, ls, r, h) else none
    | _ => none
  | .if_icmp q _ => match c.2.2.1 with
    | y :: x :: r => bif qm_il x && qm_il y then qm_brS q (qm_rs E x) (qm_rs E y) (a, ls, r, h) (np, ls, r, h) else none
    | _ => none
  | .tableswitch dflt lo hi offs => match c.2.2.1 with
    | x :: r => bif qm_outS E x lo hi then qm_nxS (qm_tgt it.1 dflt, ls, r, h) else qm_1S (qm_rs E x) (fun x => bif decide (x.toInt < lo ∨ hi < x.toInt) then qm_nxS (qm_tgt it.1 dflt, ls, r, h) else match offs[(x.toInt - lo).toNat]? with
      | some off => qm_nxS (qm_tgt it.1 off, ls, r, h)
      | none => none)
    | _ => none
  | .getfield _ => match c.2.2.1 with
    | .ref o :: r => match h.1[o]? with
      | some q => bif Nat.beq q.1 (a + 5) then (match v with
        | .int _ => bif qm_il (qm_lu (.int 0) h.2.1 o b) then qm_nxS (np, ls, qm_lu (.int 0) h.2.1 o b :: r, h) else none
        | .long _ => qm_nxS (np, ls, .long (qm_lu 0 h.2.2.1 o b) :: r, h)
        | .null => qm_nxS (np, ls, qm_rv (qm_lu none h.2.2.2 o b) :: r, h)
        | _ => none) else none
      | none => none
    | _ => none
  | .putfield _ => match c.2.2.1 with
    | w :: .ref o :: r => match h.1[o]? with
      | some q => bif Nat.beq q.1 (a + 5) then (match v with
        | .int t => bif qm_il w && (decide (t = 0) || (decide (w = .int 0) || decide (w = .int 1))) then qm_nxS (np, ls, r, (h.1, (o, b, w) :: h.2.1, h.2.2.1, h.2.2.2)) else none
        | .long _ => (match w with
          | .long x => qm_nxS (np, ls, r, (h.1, h.2.1, (o, b, x) :: h.2.2.1, h.2.2.2))
          | _ => none)
        | .null => (match w with
          | .ref x => qm_nxS (np, ls, r, (h.1, h.2.1, h.2.2.1, (o, b, some x) :: h.2.2.2))
          | .null => qm_nxS (np, ls, r, (h.1, h.2.1, h.2.2.1, (o, b, none) :: h.2.2.2))
          | _ => none)
        | _ => none) else none
      | none => none
    | _ => none
  | .iaload => match c.2.2.1 with
    | i :: .ref o :: r => qm_1S (qm_rs E i) (fun i => match h.1[o]? with
      | some (0, n) => bif qm_in i n && qm_il (qm_lu (.int 0) h.2.1 o i.toNatClampNeg) then qm_nxS (np, ls, qm_lu (.int 0) h.2.1 o i.toNatClampNeg :: r, h) else none
      | _ => none)
    | i :: .retAddr _ :: r => qm_1S (qm_rs E i) (fun i => bif qm_in i 6 then qm_nxS (np, ls, .float (UInt32.ofNat (i.toNatClampNeg + 1)) :: r, h) else none)
    | _ => none
  | .aaload => match c.2.2.1 with
    | i :: .ref o :: r => qm_1S (qm_rs E i) (fun i => match h.1[o]? with
      | some (4, n) => bif qm_in i n then qm_nxS (np, ls, qm_rv (qm_lu none h.2.2.2 o i.toNatClampNeg) :: r, h) else none
      | _ => none)
    | _ => none
  | .iastore => match c.2.2.1 with
    | x :: i :: .ref o :: r => qm_1S (qm_rs E i) (fun i => match h.1[o]? with
      | some (0, n) => bif qm_in i n && qm_il x then qm_nxS (np, ls, r, (h.1, (o, i.toNatClampNeg, x) :: h.2.1, h.2.2.1, h.2.2.2)) else none
      | _ => none)
    | _ => none
  | .bastore => match c.2.2.1 with
    | x :: i :: .ref o :: r => qm_1S (qm_rs E i) (fun i => match h.1[o]?, x with
      | some (1, n), .int x => bif qm_in i n then qm_nxS (np, ls, r, (h.1, (o, i.toNatClampNeg, .int (vp_nar .byte x)) :: h.2.1, h.2.2.1, h.2.2.2)) else none
      | some (1, n), .float m => bif qm_in i n && (decide (200 ≤ m.toNat) && decide (m.toNat < 300)) then qm_nxS (np, ls, r, (h.1, (o, i.toNatClampNeg, .float m) :: h.2.1, h.2.2.1, h.2.2.2)) else none
      | some (2, n), .int x => bif qm_in i n then qm_nxS (np, ls, r, (h.1, (o, i.toNatClampNeg, .int (vp_nar .boolean x)) :: h.2.1, h.2.2.1, h.2.2.2)) else none
      | _, _ => none)
    | _ => none
  | .lastore => match c.2.2.1 with
    | .long x :: i :: .ref o :: r => qm_1S (qm_rs E i) (fun i => match h.1[o]? with
      | some (3, n) => bif qm_in i n then qm_nxS (np, ls, r, (h.1, h.2.1, (o, i.toNatClampNeg, x) :: h.2.2.1, h.2.2.2)) else none
      | _ => none)
    | _ => none
  | .arraylength => match c.2.2.1 with
    | .ref o :: r => match h.1[o]? with
      | some q => bif Nat.blt q.1 5 then qm_nxS (np, ls, .int (Int32.ofNat q.2) :: r, h) else none
      | none => none
    | .retAddr _ :: r => qm_nxS (np, ls, .int (Int32.ofNat 6) :: r, h)
    | _ => none
  | .invokevirtual _ => match c.2.2.1.drop b with
    | .ref o :: r => match h.1[o]?, v with
      | some q, .retAddr ci => bif Nat.beq q.1 (ci + 5) && (Nat.ble (qm_cat r) 8) then qm_clS a (.ref o :: (c.2.2.1.take b).reverse) (np, ls, r, h) else none
      | _, _ => none
    | _ => none
  | .invokestatic _ => match v with
    | .null => match c.2.2.1 with
      | .int n :: .int dp :: .ref d :: .int sp :: .ref o :: r => match h.1[o]?, h.1[d]? with
        | some (0, m), some (0, k) => bif ((decide (¬ n < 0) && (decide (¬ sp < 0) && decide (¬ dp < 0))) && ((Nat.ble (sp.toNatClampNeg + n.toNatClampNeg) m && Nat.ble (dp.toNatClampNeg + n.toNatClampNeg) k) && Nat.ble (qm_cat r) 8)) then qm_nxS (np, ls, r, (h.1, (List.range n.toNatClampNeg).map (fun t => (d, dp.toNatClampNeg + t, qm_lu (.int 0) h.2.1 o (sp.toNatClampNeg + t))) ++ h.2.1, h.2.2.1, h.2.2.2)) else none
        | _, _ => none
      | _ => none
    | .int _ => match a, c.2.2.1 with
      | 0, .int y :: .int x :: r => bif Nat.ble (qm_cat r) 8 then qm_nxS (np, ls, .int (if x < y then y else x) :: r, h) else none
      | 1, .int y :: .int x :: r => bif Nat.ble (qm_cat r) 8 then qm_nxS (np, ls, .int (if y < x then y else x) :: r, h) else none
      | 2, .int x :: r => bif Nat.ble (qm_cat r) 8 then qm_nxS (np, ls, .int (if 0 ≤ x then x else 0 - x) :: r, h) else none
      | _, _ => none
    | .retAddr _ => bif Nat.ble b c.2.2.1.length && Nat.ble (qm_cat (c.2.2.1.drop b)) 8 then qm_clS a (c.2.2.1.take b).reverse (np, ls, c.2.2.1.drop b, h) else none
    | _ => none
  | .ireturn => match c.2.2.1 with
    | [x] => bif qm_il x && (Nat.beq a 0 || (decide (x = .int 0) || decide (x = .int 1))) then qm_rtS (some x) h else none
    | _ => none
  | .lreturn => match c.2.2.1 with
    | [.long x] => qm_rtS (some (.long x)) h
    | _ => none
  | .return_ => match c.2.2.1 with
    | [] => qm_rtS none h
    | _ => none
  | _ => none
/-- what a number is, in a script xs -/
def qm_rho (xs ys : Nat → Int32) (n : Nat) : Int32 :=
  if n ≤ 6 then xs (n - 1) else if n = 7 then xs 0 &&& 63 else if n < 200 then xs ((n - 100) / 4 - 1) >>> (Int32.ofNat (8 * ((n - 100) % 4)) &&& 31) else if n < 300 then (xs ((n - 200) / 4 - 1) >>> (Int32.ofNat (8 * ((n - 200) % 4)) &&& 31)).toInt8.toInt32 else if n % 2 = 0 then ys ((n - 300) / 2) else ys ((n - 300) / 2) + 1
def qm_sv (r : Nat → Int32) (v : Value) : Value := match v with
  | .float n => bif decide (n = 0) then .float 0 else .int (r n.toNat)
  | w => w
def qm_toI (v : Value) : Int32 := match v with
  | .int x => x
  | _ => 0
def qm_hs (r : Nat → Int32) (h : qm_HS) : qm_H := (h.1, fun k i => qm_toI (qm_sv r (qm_lu (.int 0) h.2.1 k i)), qm_lu 0 h.2.2.1, qm_lu none h.2.2.2)
def qm_cs (r : Nat → Int32) (c : qm_CS) : qm_C := (c.1, c.2.1.map (qm_sv r), c.2.2.1.map (qm_sv r), qm_hs r c.2.2.2)
/-- the numbers are within their bounds -/
def qm_sat (r : Nat → Int32) (E : qm_En) : Prop := (∀ n, 0 < n → (qm_bd E n).1 ≤ (r n).toInt ∧ (r n).toInt ≤ (qm_bd E n).2) ∧ ∀ q ∈ E.2, decide (r q.1 < r q.2.1) = q.2.2
