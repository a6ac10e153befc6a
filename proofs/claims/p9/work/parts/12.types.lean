/-! A small machine of its own over labels: the own cells are numbered 0, 1, .. from the law's entry on; their contents are three functions (ints, longs, references) of label and place. What it does is shown of the real machine once, instruction by instruction (parts 3x); after that a method is walked here. -/
/-- an instruction laid out: pc, the next pc, the instruction, two numbers, a value -/
abbrev qm_It : Type := Nat × Nat × Instr × Nat × Nat × Value
/-- code in blocks: the last pc of a block, its instructions -/
abbrev qm_Cd : Type := List (Nat × List qm_It)
theorem qm_bne {a b : Nat} (h : a ≠ b) : Nat.beq a b = false := by
  cases hb : Nat.beq a b with
  | false => rfl
  | true => exact absurd (Nat.eq_of_beq_eq_true hb) h
/-- the kinds of fields that there are -/
def qm_tyok (ty : FieldType) : Bool := match ty with
  | .int => true
  | .boolean => true
  | .long => true
  | .array _ => true
  | .object _ => true
  | _ => false
