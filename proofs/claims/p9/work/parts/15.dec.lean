/-! an instruction's bytes, quickly -/
theorem dq_u1 {code : ByteArray} {p : Nat} {a : UInt8} {t : List UInt8} (h : code.data.toList.drop p = a :: t) : (Reader.u1 : ClassFile.Decoder Nat) code p = .ok (a.toNat, p + 1) ∧ code.data.toList.drop (p + 1) = t := by
  have hl : p < code.data.toList.length := by
    rcases Nat.lt_or_ge p code.data.toList.length with c | c
    · exact c
    · rw [List.drop_eq_nil_of_le c] at h
      cases h
  have hp : p < code.size := by
    have e : code.size = code.data.toList.length := by
      rw [Array.length_toList]
      rfl
    omega
  have hc := List.drop_eq_getElem_cons hl
  rw [h] at hc
  injection hc with h1 h2
  refine ⟨?_, h2.symm⟩
  have e : code[p] = a := by
    rw [h1]
    rfl
  unfold Reader.u1
  show (dite (p < code.size) (fun hq => ((do set (p + 1); pure code[p].toNat) : ClassFile.Decoder Nat)) (fun _ => throw (HasTruncated.truncated p))) code p = _
  rw [dif_pos hp, ← e]
  rfl
theorem dq_bind {α β : Type} {m : ClassFile.Decoder α} {f : α → ClassFile.Decoder β} {code : ByteArray} {p p2 : Nat} {x : α} (h : m code p = .ok (x, p2)) : (m >>= f) code p = f x code p2 := by
  have e : (m >>= f) code p = (m code p >>= fun q => f q.1 code q.2) := rfl
  rw [e, h]
  rfl
theorem dq_map {α β : Type} {m : ClassFile.Decoder α} {f : α → β} {code : ByteArray} {p p2 : Nat} {x : α} (h : m code p = .ok (x, p2)) : (f <$> m : ClassFile.Decoder β) code p = .ok (f x, p2) := by
  have e : (f <$> m : ClassFile.Decoder β) code p = (m code p >>= fun q => pure (f q.1, q.2)) := rfl
  rw [e, h]
  rfl
theorem dq_u2 {code : ByteArray} {p : Nat} {a b : UInt8} {t : List UInt8} (h : code.data.toList.drop p = a :: b :: t) : (Reader.u2 : ClassFile.Decoder Nat) code p = .ok (a.toNat * 256 + b.toNat, p + 2) := by
  obtain ⟨h1, h2⟩ := dq_u1 h
  obtain ⟨h3, -⟩ := dq_u1 h2
  unfold Reader.u2
  rw [dq_bind h1, dq_bind h3]
  rfl
theorem dq_s1 {code : ByteArray} {p : Nat} {a : UInt8} {t : List UInt8} (h : code.data.toList.drop p = a :: t) : (Reader.s1 : ClassFile.Decoder Int) code p = .ok (Reader.signed 8 a.toNat, p + 1) := by
  unfold Reader.s1
  exact dq_map (dq_u1 h).1
theorem dq_s2 {code : ByteArray} {p : Nat} {a b : UInt8} {t : List UInt8} (h : code.data.toList.drop p = a :: b :: t) : (Reader.s2 : ClassFile.Decoder Int) code p = .ok (Reader.signed 16 (a.toNat * 256 + b.toNat), p + 2) := by
  unfold Reader.s2
  exact dq_map (dq_u2 h)
theorem dq_of {code : ByteArray} {pc nx : Nat} {i : Instr} (h : (ClassFile.Decoder.instr pc) code pc = .ok (i, nx)) : decode code pc = .ok (i, nx - pc) := by
  have e : decode code pc = ((ClassFile.Decoder.instr pc) code pc >>= fun q => pure (q.1, q.2 - pc)) := rfl
  rw [e, h]
  rfl

theorem dq_b {code : ByteArray} {p p2 op : Nat} {f : Nat → ClassFile.Decoder Instr} {r : Except ClassFile.DecodeError (Instr × Nat)} (h : (Reader.u1 : ClassFile.Decoder Nat) code p = .ok (op, p2)) (k : f op code p2 = r) : ((Reader.u1 : ClassFile.Decoder Nat) >>= f) code p = r := (dq_bind h).trans k
theorem dq_c {α : Type} {m : ClassFile.Decoder α} {code : ByteArray} {p p2 : Nat} {x : α} {f : α → ClassFile.Decoder Instr} {r : Except ClassFile.DecodeError (Instr × Nat)} (h : m code p = .ok (x, p2)) (k : f x code p2 = r) : (m >>= f) code p = r := (dq_bind h).trans k

theorem dq_46 {code : ByteArray} {pc : Nat} {t : List UInt8} (h : code.data.toList.drop pc = 46 :: t) : decode code pc = .ok (.iaload, 1) := by
  refine (dq_of (nx := pc + 1) ?_).trans (by rw [Nat.add_sub_cancel_left])
  exact dq_b (dq_u1 h).1 rfl
theorem dq_47 {code : ByteArray} {pc : Nat} {t : List UInt8} (h : code.data.toList.drop pc = 47 :: t) : decode code pc = .ok (.laload, 1) := by
  refine (dq_of (nx := pc + 1) ?_).trans (by rw [Nat.add_sub_cancel_left])
  exact dq_b (dq_u1 h).1 rfl
theorem dq_50 {code : ByteArray} {pc : Nat} {t : List UInt8} (h : code.data.toList.drop pc = 50 :: t) : decode code pc = .ok (.aaload, 1) := by
  refine (dq_of (nx := pc + 1) ?_).trans (by rw [Nat.add_sub_cancel_left])
  exact dq_b (dq_u1 h).1 rfl
theorem dq_51 {code : ByteArray} {pc : Nat} {t : List UInt8} (h : code.data.toList.drop pc = 51 :: t) : decode code pc = .ok (.baload, 1) := by
  refine (dq_of (nx := pc + 1) ?_).trans (by rw [Nat.add_sub_cancel_left])
  exact dq_b (dq_u1 h).1 rfl
theorem dq_79 {code : ByteArray} {pc : Nat} {t : List UInt8} (h : code.data.toList.drop pc = 79 :: t) : decode code pc = .ok (.iastore, 1) := by
  refine (dq_of (nx := pc + 1) ?_).trans (by rw [Nat.add_sub_cancel_left])
  exact dq_b (dq_u1 h).1 rfl
theorem dq_80 {code : ByteArray} {pc : Nat} {t : List UInt8} (h : code.data.toList.drop pc = 80 :: t) : decode code pc = .ok (.lastore, 1) := by
  refine (dq_of (nx := pc + 1) ?_).trans (by rw [Nat.add_sub_cancel_left])
  exact dq_b (dq_u1 h).1 rfl
theorem dq_84 {code : ByteArray} {pc : Nat} {t : List UInt8} (h : code.data.toList.drop pc = 84 :: t) : decode code pc = .ok (.bastore, 1) := by
  refine (dq_of (nx := pc + 1) ?_).trans (by rw [Nat.add_sub_cancel_left])
  exact dq_b (dq_u1 h).1 rfl
theorem dq_87 {code : ByteArray} {pc : Nat} {t : List UInt8} (h : code.data.toList.drop pc = 87 :: t) : decode code pc = .ok (.pop, 1) := by
  refine (dq_of (nx := pc + 1) ?_).trans (by rw [Nat.add_sub_cancel_left])
  exact dq_b (dq_u1 h).1 rfl
theorem dq_89 {code : ByteArray} {pc : Nat} {t : List UInt8} (h : code.data.toList.drop pc = 89 :: t) : decode code pc = .ok (.dup, 1) := by
  refine (dq_of (nx := pc + 1) ?_).trans (by rw [Nat.add_sub_cancel_left])
  exact dq_b (dq_u1 h).1 rfl
theorem dq_92 {code : ByteArray} {pc : Nat} {t : List UInt8} (h : code.data.toList.drop pc = 92 :: t) : decode code pc = .ok (.dup2, 1) := by
  refine (dq_of (nx := pc + 1) ?_).trans (by rw [Nat.add_sub_cancel_left])
  exact dq_b (dq_u1 h).1 rfl
theorem dq_96 {code : ByteArray} {pc : Nat} {t : List UInt8} (h : code.data.toList.drop pc = 96 :: t) : decode code pc = .ok (.iadd, 1) := by
  refine (dq_of (nx := pc + 1) ?_).trans (by rw [Nat.add_sub_cancel_left])
  exact dq_b (dq_u1 h).1 rfl
theorem dq_97 {code : ByteArray} {pc : Nat} {t : List UInt8} (h : code.data.toList.drop pc = 97 :: t) : decode code pc = .ok (.ladd, 1) := by
  refine (dq_of (nx := pc + 1) ?_).trans (by rw [Nat.add_sub_cancel_left])
  exact dq_b (dq_u1 h).1 rfl
theorem dq_100 {code : ByteArray} {pc : Nat} {t : List UInt8} (h : code.data.toList.drop pc = 100 :: t) : decode code pc = .ok (.isub, 1) := by
  refine (dq_of (nx := pc + 1) ?_).trans (by rw [Nat.add_sub_cancel_left])
  exact dq_b (dq_u1 h).1 rfl
theorem dq_101 {code : ByteArray} {pc : Nat} {t : List UInt8} (h : code.data.toList.drop pc = 101 :: t) : decode code pc = .ok (.lsub, 1) := by
  refine (dq_of (nx := pc + 1) ?_).trans (by rw [Nat.add_sub_cancel_left])
  exact dq_b (dq_u1 h).1 rfl
theorem dq_104 {code : ByteArray} {pc : Nat} {t : List UInt8} (h : code.data.toList.drop pc = 104 :: t) : decode code pc = .ok (.imul, 1) := by
  refine (dq_of (nx := pc + 1) ?_).trans (by rw [Nat.add_sub_cancel_left])
  exact dq_b (dq_u1 h).1 rfl
theorem dq_105 {code : ByteArray} {pc : Nat} {t : List UInt8} (h : code.data.toList.drop pc = 105 :: t) : decode code pc = .ok (.lmul, 1) := by
  refine (dq_of (nx := pc + 1) ?_).trans (by rw [Nat.add_sub_cancel_left])
  exact dq_b (dq_u1 h).1 rfl
theorem dq_108 {code : ByteArray} {pc : Nat} {t : List UInt8} (h : code.data.toList.drop pc = 108 :: t) : decode code pc = .ok (.idiv, 1) := by
  refine (dq_of (nx := pc + 1) ?_).trans (by rw [Nat.add_sub_cancel_left])
  exact dq_b (dq_u1 h).1 rfl
theorem dq_109 {code : ByteArray} {pc : Nat} {t : List UInt8} (h : code.data.toList.drop pc = 109 :: t) : decode code pc = .ok (.ldiv, 1) := by
  refine (dq_of (nx := pc + 1) ?_).trans (by rw [Nat.add_sub_cancel_left])
  exact dq_b (dq_u1 h).1 rfl
theorem dq_112 {code : ByteArray} {pc : Nat} {t : List UInt8} (h : code.data.toList.drop pc = 112 :: t) : decode code pc = .ok (.irem, 1) := by
  refine (dq_of (nx := pc + 1) ?_).trans (by rw [Nat.add_sub_cancel_left])
  exact dq_b (dq_u1 h).1 rfl
theorem dq_113 {code : ByteArray} {pc : Nat} {t : List UInt8} (h : code.data.toList.drop pc = 113 :: t) : decode code pc = .ok (.lrem, 1) := by
  refine (dq_of (nx := pc + 1) ?_).trans (by rw [Nat.add_sub_cancel_left])
  exact dq_b (dq_u1 h).1 rfl
theorem dq_116 {code : ByteArray} {pc : Nat} {t : List UInt8} (h : code.data.toList.drop pc = 116 :: t) : decode code pc = .ok (.ineg, 1) := by
  refine (dq_of (nx := pc + 1) ?_).trans (by rw [Nat.add_sub_cancel_left])
  exact dq_b (dq_u1 h).1 rfl
theorem dq_120 {code : ByteArray} {pc : Nat} {t : List UInt8} (h : code.data.toList.drop pc = 120 :: t) : decode code pc = .ok (.ishl, 1) := by
  refine (dq_of (nx := pc + 1) ?_).trans (by rw [Nat.add_sub_cancel_left])
  exact dq_b (dq_u1 h).1 rfl
theorem dq_121 {code : ByteArray} {pc : Nat} {t : List UInt8} (h : code.data.toList.drop pc = 121 :: t) : decode code pc = .ok (.lshl, 1) := by
  refine (dq_of (nx := pc + 1) ?_).trans (by rw [Nat.add_sub_cancel_left])
  exact dq_b (dq_u1 h).1 rfl
theorem dq_122 {code : ByteArray} {pc : Nat} {t : List UInt8} (h : code.data.toList.drop pc = 122 :: t) : decode code pc = .ok (.ishr, 1) := by
  refine (dq_of (nx := pc + 1) ?_).trans (by rw [Nat.add_sub_cancel_left])
  exact dq_b (dq_u1 h).1 rfl
theorem dq_123 {code : ByteArray} {pc : Nat} {t : List UInt8} (h : code.data.toList.drop pc = 123 :: t) : decode code pc = .ok (.lshr, 1) := by
  refine (dq_of (nx := pc + 1) ?_).trans (by rw [Nat.add_sub_cancel_left])
  exact dq_b (dq_u1 h).1 rfl
theorem dq_124 {code : ByteArray} {pc : Nat} {t : List UInt8} (h : code.data.toList.drop pc = 124 :: t) : decode code pc = .ok (.iushr, 1) := by
  refine (dq_of (nx := pc + 1) ?_).trans (by rw [Nat.add_sub_cancel_left])
  exact dq_b (dq_u1 h).1 rfl
theorem dq_126 {code : ByteArray} {pc : Nat} {t : List UInt8} (h : code.data.toList.drop pc = 126 :: t) : decode code pc = .ok (.iand, 1) := by
  refine (dq_of (nx := pc + 1) ?_).trans (by rw [Nat.add_sub_cancel_left])
  exact dq_b (dq_u1 h).1 rfl
theorem dq_127 {code : ByteArray} {pc : Nat} {t : List UInt8} (h : code.data.toList.drop pc = 127 :: t) : decode code pc = .ok (.land, 1) := by
  refine (dq_of (nx := pc + 1) ?_).trans (by rw [Nat.add_sub_cancel_left])
  exact dq_b (dq_u1 h).1 rfl
theorem dq_128 {code : ByteArray} {pc : Nat} {t : List UInt8} (h : code.data.toList.drop pc = 128 :: t) : decode code pc = .ok (.ior, 1) := by
  refine (dq_of (nx := pc + 1) ?_).trans (by rw [Nat.add_sub_cancel_left])
  exact dq_b (dq_u1 h).1 rfl
theorem dq_129 {code : ByteArray} {pc : Nat} {t : List UInt8} (h : code.data.toList.drop pc = 129 :: t) : decode code pc = .ok (.lor, 1) := by
  refine (dq_of (nx := pc + 1) ?_).trans (by rw [Nat.add_sub_cancel_left])
  exact dq_b (dq_u1 h).1 rfl
theorem dq_130 {code : ByteArray} {pc : Nat} {t : List UInt8} (h : code.data.toList.drop pc = 130 :: t) : decode code pc = .ok (.ixor, 1) := by
  refine (dq_of (nx := pc + 1) ?_).trans (by rw [Nat.add_sub_cancel_left])
  exact dq_b (dq_u1 h).1 rfl
theorem dq_133 {code : ByteArray} {pc : Nat} {t : List UInt8} (h : code.data.toList.drop pc = 133 :: t) : decode code pc = .ok (.i2l, 1) := by
  refine (dq_of (nx := pc + 1) ?_).trans (by rw [Nat.add_sub_cancel_left])
  exact dq_b (dq_u1 h).1 rfl
theorem dq_136 {code : ByteArray} {pc : Nat} {t : List UInt8} (h : code.data.toList.drop pc = 136 :: t) : decode code pc = .ok (.l2i, 1) := by
  refine (dq_of (nx := pc + 1) ?_).trans (by rw [Nat.add_sub_cancel_left])
  exact dq_b (dq_u1 h).1 rfl
theorem dq_145 {code : ByteArray} {pc : Nat} {t : List UInt8} (h : code.data.toList.drop pc = 145 :: t) : decode code pc = .ok (.i2b, 1) := by
  refine (dq_of (nx := pc + 1) ?_).trans (by rw [Nat.add_sub_cancel_left])
  exact dq_b (dq_u1 h).1 rfl
theorem dq_148 {code : ByteArray} {pc : Nat} {t : List UInt8} (h : code.data.toList.drop pc = 148 :: t) : decode code pc = .ok (.lcmp, 1) := by
  refine (dq_of (nx := pc + 1) ?_).trans (by rw [Nat.add_sub_cancel_left])
  exact dq_b (dq_u1 h).1 rfl
theorem dq_172 {code : ByteArray} {pc : Nat} {t : List UInt8} (h : code.data.toList.drop pc = 172 :: t) : decode code pc = .ok (.ireturn, 1) := by
  refine (dq_of (nx := pc + 1) ?_).trans (by rw [Nat.add_sub_cancel_left])
  exact dq_b (dq_u1 h).1 rfl
theorem dq_173 {code : ByteArray} {pc : Nat} {t : List UInt8} (h : code.data.toList.drop pc = 173 :: t) : decode code pc = .ok (.lreturn, 1) := by
  refine (dq_of (nx := pc + 1) ?_).trans (by rw [Nat.add_sub_cancel_left])
  exact dq_b (dq_u1 h).1 rfl
theorem dq_177 {code : ByteArray} {pc : Nat} {t : List UInt8} (h : code.data.toList.drop pc = 177 :: t) : decode code pc = .ok (.return_, 1) := by
  refine (dq_of (nx := pc + 1) ?_).trans (by rw [Nat.add_sub_cancel_left])
  exact dq_b (dq_u1 h).1 rfl
theorem dq_190 {code : ByteArray} {pc : Nat} {t : List UInt8} (h : code.data.toList.drop pc = 190 :: t) : decode code pc = .ok (.arraylength, 1) := by
  refine (dq_of (nx := pc + 1) ?_).trans (by rw [Nat.add_sub_cancel_left])
  exact dq_b (dq_u1 h).1 rfl
theorem dq_2 {code : ByteArray} {pc : Nat} {t : List UInt8} (h : code.data.toList.drop pc = 2 :: t) : decode code pc = .ok (.iconst (-1), 1) := by
  refine (dq_of (nx := pc + 1) ?_).trans (by rw [Nat.add_sub_cancel_left])
  exact dq_b (dq_u1 h).1 rfl
theorem dq_3 {code : ByteArray} {pc : Nat} {t : List UInt8} (h : code.data.toList.drop pc = 3 :: t) : decode code pc = .ok (.iconst 0, 1) := by
  refine (dq_of (nx := pc + 1) ?_).trans (by rw [Nat.add_sub_cancel_left])
  exact dq_b (dq_u1 h).1 rfl
theorem dq_4 {code : ByteArray} {pc : Nat} {t : List UInt8} (h : code.data.toList.drop pc = 4 :: t) : decode code pc = .ok (.iconst 1, 1) := by
  refine (dq_of (nx := pc + 1) ?_).trans (by rw [Nat.add_sub_cancel_left])
  exact dq_b (dq_u1 h).1 rfl
theorem dq_5 {code : ByteArray} {pc : Nat} {t : List UInt8} (h : code.data.toList.drop pc = 5 :: t) : decode code pc = .ok (.iconst 2, 1) := by
  refine (dq_of (nx := pc + 1) ?_).trans (by rw [Nat.add_sub_cancel_left])
  exact dq_b (dq_u1 h).1 rfl
theorem dq_6 {code : ByteArray} {pc : Nat} {t : List UInt8} (h : code.data.toList.drop pc = 6 :: t) : decode code pc = .ok (.iconst 3, 1) := by
  refine (dq_of (nx := pc + 1) ?_).trans (by rw [Nat.add_sub_cancel_left])
  exact dq_b (dq_u1 h).1 rfl
theorem dq_7 {code : ByteArray} {pc : Nat} {t : List UInt8} (h : code.data.toList.drop pc = 7 :: t) : decode code pc = .ok (.iconst 4, 1) := by
  refine (dq_of (nx := pc + 1) ?_).trans (by rw [Nat.add_sub_cancel_left])
  exact dq_b (dq_u1 h).1 rfl
theorem dq_8 {code : ByteArray} {pc : Nat} {t : List UInt8} (h : code.data.toList.drop pc = 8 :: t) : decode code pc = .ok (.iconst 5, 1) := by
  refine (dq_of (nx := pc + 1) ?_).trans (by rw [Nat.add_sub_cancel_left])
  exact dq_b (dq_u1 h).1 rfl
theorem dq_9 {code : ByteArray} {pc : Nat} {t : List UInt8} (h : code.data.toList.drop pc = 9 :: t) : decode code pc = .ok (.lconst 0, 1) := by
  refine (dq_of (nx := pc + 1) ?_).trans (by rw [Nat.add_sub_cancel_left])
  exact dq_b (dq_u1 h).1 rfl
theorem dq_10 {code : ByteArray} {pc : Nat} {t : List UInt8} (h : code.data.toList.drop pc = 10 :: t) : decode code pc = .ok (.lconst 1, 1) := by
  refine (dq_of (nx := pc + 1) ?_).trans (by rw [Nat.add_sub_cancel_left])
  exact dq_b (dq_u1 h).1 rfl
theorem dq_26 {code : ByteArray} {pc : Nat} {t : List UInt8} (h : code.data.toList.drop pc = 26 :: t) : decode code pc = .ok (.iload_n 0, 1) := by
  refine (dq_of (nx := pc + 1) ?_).trans (by rw [Nat.add_sub_cancel_left])
  exact dq_b (dq_u1 h).1 rfl
theorem dq_27 {code : ByteArray} {pc : Nat} {t : List UInt8} (h : code.data.toList.drop pc = 27 :: t) : decode code pc = .ok (.iload_n 1, 1) := by
  refine (dq_of (nx := pc + 1) ?_).trans (by rw [Nat.add_sub_cancel_left])
  exact dq_b (dq_u1 h).1 rfl
theorem dq_28 {code : ByteArray} {pc : Nat} {t : List UInt8} (h : code.data.toList.drop pc = 28 :: t) : decode code pc = .ok (.iload_n 2, 1) := by
  refine (dq_of (nx := pc + 1) ?_).trans (by rw [Nat.add_sub_cancel_left])
  exact dq_b (dq_u1 h).1 rfl
theorem dq_29 {code : ByteArray} {pc : Nat} {t : List UInt8} (h : code.data.toList.drop pc = 29 :: t) : decode code pc = .ok (.iload_n 3, 1) := by
  refine (dq_of (nx := pc + 1) ?_).trans (by rw [Nat.add_sub_cancel_left])
  exact dq_b (dq_u1 h).1 rfl
theorem dq_30 {code : ByteArray} {pc : Nat} {t : List UInt8} (h : code.data.toList.drop pc = 30 :: t) : decode code pc = .ok (.lload_n 0, 1) := by
  refine (dq_of (nx := pc + 1) ?_).trans (by rw [Nat.add_sub_cancel_left])
  exact dq_b (dq_u1 h).1 rfl
theorem dq_31 {code : ByteArray} {pc : Nat} {t : List UInt8} (h : code.data.toList.drop pc = 31 :: t) : decode code pc = .ok (.lload_n 1, 1) := by
  refine (dq_of (nx := pc + 1) ?_).trans (by rw [Nat.add_sub_cancel_left])
  exact dq_b (dq_u1 h).1 rfl
theorem dq_32 {code : ByteArray} {pc : Nat} {t : List UInt8} (h : code.data.toList.drop pc = 32 :: t) : decode code pc = .ok (.lload_n 2, 1) := by
  refine (dq_of (nx := pc + 1) ?_).trans (by rw [Nat.add_sub_cancel_left])
  exact dq_b (dq_u1 h).1 rfl
theorem dq_33 {code : ByteArray} {pc : Nat} {t : List UInt8} (h : code.data.toList.drop pc = 33 :: t) : decode code pc = .ok (.lload_n 3, 1) := by
  refine (dq_of (nx := pc + 1) ?_).trans (by rw [Nat.add_sub_cancel_left])
  exact dq_b (dq_u1 h).1 rfl
theorem dq_42 {code : ByteArray} {pc : Nat} {t : List UInt8} (h : code.data.toList.drop pc = 42 :: t) : decode code pc = .ok (.aload_n 0, 1) := by
  refine (dq_of (nx := pc + 1) ?_).trans (by rw [Nat.add_sub_cancel_left])
  exact dq_b (dq_u1 h).1 rfl
theorem dq_43 {code : ByteArray} {pc : Nat} {t : List UInt8} (h : code.data.toList.drop pc = 43 :: t) : decode code pc = .ok (.aload_n 1, 1) := by
  refine (dq_of (nx := pc + 1) ?_).trans (by rw [Nat.add_sub_cancel_left])
  exact dq_b (dq_u1 h).1 rfl
theorem dq_44 {code : ByteArray} {pc : Nat} {t : List UInt8} (h : code.data.toList.drop pc = 44 :: t) : decode code pc = .ok (.aload_n 2, 1) := by
  refine (dq_of (nx := pc + 1) ?_).trans (by rw [Nat.add_sub_cancel_left])
  exact dq_b (dq_u1 h).1 rfl
theorem dq_45 {code : ByteArray} {pc : Nat} {t : List UInt8} (h : code.data.toList.drop pc = 45 :: t) : decode code pc = .ok (.aload_n 3, 1) := by
  refine (dq_of (nx := pc + 1) ?_).trans (by rw [Nat.add_sub_cancel_left])
  exact dq_b (dq_u1 h).1 rfl
theorem dq_59 {code : ByteArray} {pc : Nat} {t : List UInt8} (h : code.data.toList.drop pc = 59 :: t) : decode code pc = .ok (.istore_n 0, 1) := by
  refine (dq_of (nx := pc + 1) ?_).trans (by rw [Nat.add_sub_cancel_left])
  exact dq_b (dq_u1 h).1 rfl
theorem dq_60 {code : ByteArray} {pc : Nat} {t : List UInt8} (h : code.data.toList.drop pc = 60 :: t) : decode code pc = .ok (.istore_n 1, 1) := by
  refine (dq_of (nx := pc + 1) ?_).trans (by rw [Nat.add_sub_cancel_left])
  exact dq_b (dq_u1 h).1 rfl
theorem dq_61 {code : ByteArray} {pc : Nat} {t : List UInt8} (h : code.data.toList.drop pc = 61 :: t) : decode code pc = .ok (.istore_n 2, 1) := by
  refine (dq_of (nx := pc + 1) ?_).trans (by rw [Nat.add_sub_cancel_left])
  exact dq_b (dq_u1 h).1 rfl
theorem dq_62 {code : ByteArray} {pc : Nat} {t : List UInt8} (h : code.data.toList.drop pc = 62 :: t) : decode code pc = .ok (.istore_n 3, 1) := by
  refine (dq_of (nx := pc + 1) ?_).trans (by rw [Nat.add_sub_cancel_left])
  exact dq_b (dq_u1 h).1 rfl
theorem dq_63 {code : ByteArray} {pc : Nat} {t : List UInt8} (h : code.data.toList.drop pc = 63 :: t) : decode code pc = .ok (.lstore_n 0, 1) := by
  refine (dq_of (nx := pc + 1) ?_).trans (by rw [Nat.add_sub_cancel_left])
  exact dq_b (dq_u1 h).1 rfl
theorem dq_64 {code : ByteArray} {pc : Nat} {t : List UInt8} (h : code.data.toList.drop pc = 64 :: t) : decode code pc = .ok (.lstore_n 1, 1) := by
  refine (dq_of (nx := pc + 1) ?_).trans (by rw [Nat.add_sub_cancel_left])
  exact dq_b (dq_u1 h).1 rfl
theorem dq_65 {code : ByteArray} {pc : Nat} {t : List UInt8} (h : code.data.toList.drop pc = 65 :: t) : decode code pc = .ok (.lstore_n 2, 1) := by
  refine (dq_of (nx := pc + 1) ?_).trans (by rw [Nat.add_sub_cancel_left])
  exact dq_b (dq_u1 h).1 rfl
theorem dq_66 {code : ByteArray} {pc : Nat} {t : List UInt8} (h : code.data.toList.drop pc = 66 :: t) : decode code pc = .ok (.lstore_n 3, 1) := by
  refine (dq_of (nx := pc + 1) ?_).trans (by rw [Nat.add_sub_cancel_left])
  exact dq_b (dq_u1 h).1 rfl
theorem dq_75 {code : ByteArray} {pc : Nat} {t : List UInt8} (h : code.data.toList.drop pc = 75 :: t) : decode code pc = .ok (.astore_n 0, 1) := by
  refine (dq_of (nx := pc + 1) ?_).trans (by rw [Nat.add_sub_cancel_left])
  exact dq_b (dq_u1 h).1 rfl
theorem dq_76 {code : ByteArray} {pc : Nat} {t : List UInt8} (h : code.data.toList.drop pc = 76 :: t) : decode code pc = .ok (.astore_n 1, 1) := by
  refine (dq_of (nx := pc + 1) ?_).trans (by rw [Nat.add_sub_cancel_left])
  exact dq_b (dq_u1 h).1 rfl
theorem dq_77 {code : ByteArray} {pc : Nat} {t : List UInt8} (h : code.data.toList.drop pc = 77 :: t) : decode code pc = .ok (.astore_n 2, 1) := by
  refine (dq_of (nx := pc + 1) ?_).trans (by rw [Nat.add_sub_cancel_left])
  exact dq_b (dq_u1 h).1 rfl
theorem dq_78 {code : ByteArray} {pc : Nat} {t : List UInt8} (h : code.data.toList.drop pc = 78 :: t) : decode code pc = .ok (.astore_n 3, 1) := by
  refine (dq_of (nx := pc + 1) ?_).trans (by rw [Nat.add_sub_cancel_left])
  exact dq_b (dq_u1 h).1 rfl
theorem dq_16 {code : ByteArray} {pc : Nat} {a : UInt8} {t : List UInt8} (h : code.data.toList.drop pc = 16 :: a :: t) : decode code pc = .ok (.bipush (Reader.signed 8 a.toNat), 2) := by
  refine (dq_of (nx := pc + 2) ?_).trans (by rw [Nat.add_sub_cancel_left])
  refine dq_b (dq_u1 h).1 ?_
  exact dq_c (m := Reader.s1) (dq_s1 (dq_u1 h).2) rfl
theorem dq_17 {code : ByteArray} {pc : Nat} {a b : UInt8} {t : List UInt8} (h : code.data.toList.drop pc = 17 :: a :: b :: t) : decode code pc = .ok (.sipush (Reader.signed 16 (a.toNat * 256 + b.toNat)), 3) := by
  refine (dq_of (nx := pc + 3) ?_).trans (by rw [Nat.add_sub_cancel_left])
  refine dq_b (dq_u1 h).1 ?_
  exact dq_c (m := Reader.s2) (dq_s2 (dq_u1 h).2) rfl
theorem dq_18 {code : ByteArray} {pc : Nat} {a : UInt8} {t : List UInt8} (h : code.data.toList.drop pc = 18 :: a :: t) : decode code pc = .ok (.ldc a.toNat, 2) := by
  refine (dq_of (nx := pc + 2) ?_).trans (by rw [Nat.add_sub_cancel_left])
  refine dq_b (dq_u1 h).1 ?_
  exact dq_c (m := Reader.u1) (dq_u1 (dq_u1 h).2).1 rfl
theorem dq_19 {code : ByteArray} {pc : Nat} {a b : UInt8} {t : List UInt8} (h : code.data.toList.drop pc = 19 :: a :: b :: t) : decode code pc = .ok (.ldc_w (a.toNat * 256 + b.toNat), 3) := by
  refine (dq_of (nx := pc + 3) ?_).trans (by rw [Nat.add_sub_cancel_left])
  refine dq_b (dq_u1 h).1 ?_
  exact dq_c (m := Reader.u2) (dq_u2 (dq_u1 h).2) rfl
theorem dq_20 {code : ByteArray} {pc : Nat} {a b : UInt8} {t : List UInt8} (h : code.data.toList.drop pc = 20 :: a :: b :: t) : decode code pc = .ok (.ldc2_w (a.toNat * 256 + b.toNat), 3) := by
  refine (dq_of (nx := pc + 3) ?_).trans (by rw [Nat.add_sub_cancel_left])
  refine dq_b (dq_u1 h).1 ?_
  exact dq_c (m := Reader.u2) (dq_u2 (dq_u1 h).2) rfl
theorem dq_21 {code : ByteArray} {pc : Nat} {a : UInt8} {t : List UInt8} (h : code.data.toList.drop pc = 21 :: a :: t) : decode code pc = .ok (.iload a.toNat, 2) := by
  refine (dq_of (nx := pc + 2) ?_).trans (by rw [Nat.add_sub_cancel_left])
  refine dq_b (dq_u1 h).1 ?_
  exact dq_c (m := Reader.u1) (dq_u1 (dq_u1 h).2).1 rfl
theorem dq_22 {code : ByteArray} {pc : Nat} {a : UInt8} {t : List UInt8} (h : code.data.toList.drop pc = 22 :: a :: t) : decode code pc = .ok (.lload a.toNat, 2) := by
  refine (dq_of (nx := pc + 2) ?_).trans (by rw [Nat.add_sub_cancel_left])
  refine dq_b (dq_u1 h).1 ?_
  exact dq_c (m := Reader.u1) (dq_u1 (dq_u1 h).2).1 rfl
theorem dq_25 {code : ByteArray} {pc : Nat} {a : UInt8} {t : List UInt8} (h : code.data.toList.drop pc = 25 :: a :: t) : decode code pc = .ok (.aload a.toNat, 2) := by
  refine (dq_of (nx := pc + 2) ?_).trans (by rw [Nat.add_sub_cancel_left])
  refine dq_b (dq_u1 h).1 ?_
  exact dq_c (m := Reader.u1) (dq_u1 (dq_u1 h).2).1 rfl
theorem dq_54 {code : ByteArray} {pc : Nat} {a : UInt8} {t : List UInt8} (h : code.data.toList.drop pc = 54 :: a :: t) : decode code pc = .ok (.istore a.toNat, 2) := by
  refine (dq_of (nx := pc + 2) ?_).trans (by rw [Nat.add_sub_cancel_left])
  refine dq_b (dq_u1 h).1 ?_
  exact dq_c (m := Reader.u1) (dq_u1 (dq_u1 h).2).1 rfl
theorem dq_55 {code : ByteArray} {pc : Nat} {a : UInt8} {t : List UInt8} (h : code.data.toList.drop pc = 55 :: a :: t) : decode code pc = .ok (.lstore a.toNat, 2) := by
  refine (dq_of (nx := pc + 2) ?_).trans (by rw [Nat.add_sub_cancel_left])
  refine dq_b (dq_u1 h).1 ?_
  exact dq_c (m := Reader.u1) (dq_u1 (dq_u1 h).2).1 rfl
theorem dq_58 {code : ByteArray} {pc : Nat} {a : UInt8} {t : List UInt8} (h : code.data.toList.drop pc = 58 :: a :: t) : decode code pc = .ok (.astore a.toNat, 2) := by
  refine (dq_of (nx := pc + 2) ?_).trans (by rw [Nat.add_sub_cancel_left])
  refine dq_b (dq_u1 h).1 ?_
  exact dq_c (m := Reader.u1) (dq_u1 (dq_u1 h).2).1 rfl
theorem dq_153 {code : ByteArray} {pc : Nat} {a b : UInt8} {t : List UInt8} (h : code.data.toList.drop pc = 153 :: a :: b :: t) : decode code pc = .ok (.ifCond .eq (Reader.signed 16 (a.toNat * 256 + b.toNat)), 3) := by
  refine (dq_of (nx := pc + 3) ?_).trans (by rw [Nat.add_sub_cancel_left])
  refine dq_b (dq_u1 h).1 ?_
  exact dq_c (m := Reader.s2) (dq_s2 (dq_u1 h).2) rfl
theorem dq_159 {code : ByteArray} {pc : Nat} {a b : UInt8} {t : List UInt8} (h : code.data.toList.drop pc = 159 :: a :: b :: t) : decode code pc = .ok (.if_icmp .eq (Reader.signed 16 (a.toNat * 256 + b.toNat)), 3) := by
  refine (dq_of (nx := pc + 3) ?_).trans (by rw [Nat.add_sub_cancel_left])
  refine dq_b (dq_u1 h).1 ?_
  exact dq_c (m := Reader.s2) (dq_s2 (dq_u1 h).2) rfl
theorem dq_154 {code : ByteArray} {pc : Nat} {a b : UInt8} {t : List UInt8} (h : code.data.toList.drop pc = 154 :: a :: b :: t) : decode code pc = .ok (.ifCond .ne (Reader.signed 16 (a.toNat * 256 + b.toNat)), 3) := by
  refine (dq_of (nx := pc + 3) ?_).trans (by rw [Nat.add_sub_cancel_left])
  refine dq_b (dq_u1 h).1 ?_
  exact dq_c (m := Reader.s2) (dq_s2 (dq_u1 h).2) rfl
theorem dq_160 {code : ByteArray} {pc : Nat} {a b : UInt8} {t : List UInt8} (h : code.data.toList.drop pc = 160 :: a :: b :: t) : decode code pc = .ok (.if_icmp .ne (Reader.signed 16 (a.toNat * 256 + b.toNat)), 3) := by
  refine (dq_of (nx := pc + 3) ?_).trans (by rw [Nat.add_sub_cancel_left])
  refine dq_b (dq_u1 h).1 ?_
  exact dq_c (m := Reader.s2) (dq_s2 (dq_u1 h).2) rfl
theorem dq_155 {code : ByteArray} {pc : Nat} {a b : UInt8} {t : List UInt8} (h : code.data.toList.drop pc = 155 :: a :: b :: t) : decode code pc = .ok (.ifCond .lt (Reader.signed 16 (a.toNat * 256 + b.toNat)), 3) := by
  refine (dq_of (nx := pc + 3) ?_).trans (by rw [Nat.add_sub_cancel_left])
  refine dq_b (dq_u1 h).1 ?_
  exact dq_c (m := Reader.s2) (dq_s2 (dq_u1 h).2) rfl
theorem dq_161 {code : ByteArray} {pc : Nat} {a b : UInt8} {t : List UInt8} (h : code.data.toList.drop pc = 161 :: a :: b :: t) : decode code pc = .ok (.if_icmp .lt (Reader.signed 16 (a.toNat * 256 + b.toNat)), 3) := by
  refine (dq_of (nx := pc + 3) ?_).trans (by rw [Nat.add_sub_cancel_left])
  refine dq_b (dq_u1 h).1 ?_
  exact dq_c (m := Reader.s2) (dq_s2 (dq_u1 h).2) rfl
theorem dq_156 {code : ByteArray} {pc : Nat} {a b : UInt8} {t : List UInt8} (h : code.data.toList.drop pc = 156 :: a :: b :: t) : decode code pc = .ok (.ifCond .ge (Reader.signed 16 (a.toNat * 256 + b.toNat)), 3) := by
  refine (dq_of (nx := pc + 3) ?_).trans (by rw [Nat.add_sub_cancel_left])
  refine dq_b (dq_u1 h).1 ?_
  exact dq_c (m := Reader.s2) (dq_s2 (dq_u1 h).2) rfl
theorem dq_162 {code : ByteArray} {pc : Nat} {a b : UInt8} {t : List UInt8} (h : code.data.toList.drop pc = 162 :: a :: b :: t) : decode code pc = .ok (.if_icmp .ge (Reader.signed 16 (a.toNat * 256 + b.toNat)), 3) := by
  refine (dq_of (nx := pc + 3) ?_).trans (by rw [Nat.add_sub_cancel_left])
  refine dq_b (dq_u1 h).1 ?_
  exact dq_c (m := Reader.s2) (dq_s2 (dq_u1 h).2) rfl
theorem dq_157 {code : ByteArray} {pc : Nat} {a b : UInt8} {t : List UInt8} (h : code.data.toList.drop pc = 157 :: a :: b :: t) : decode code pc = .ok (.ifCond .gt (Reader.signed 16 (a.toNat * 256 + b.toNat)), 3) := by
  refine (dq_of (nx := pc + 3) ?_).trans (by rw [Nat.add_sub_cancel_left])
  refine dq_b (dq_u1 h).1 ?_
  exact dq_c (m := Reader.s2) (dq_s2 (dq_u1 h).2) rfl
theorem dq_163 {code : ByteArray} {pc : Nat} {a b : UInt8} {t : List UInt8} (h : code.data.toList.drop pc = 163 :: a :: b :: t) : decode code pc = .ok (.if_icmp .gt (Reader.signed 16 (a.toNat * 256 + b.toNat)), 3) := by
  refine (dq_of (nx := pc + 3) ?_).trans (by rw [Nat.add_sub_cancel_left])
  refine dq_b (dq_u1 h).1 ?_
  exact dq_c (m := Reader.s2) (dq_s2 (dq_u1 h).2) rfl
theorem dq_158 {code : ByteArray} {pc : Nat} {a b : UInt8} {t : List UInt8} (h : code.data.toList.drop pc = 158 :: a :: b :: t) : decode code pc = .ok (.ifCond .le (Reader.signed 16 (a.toNat * 256 + b.toNat)), 3) := by
  refine (dq_of (nx := pc + 3) ?_).trans (by rw [Nat.add_sub_cancel_left])
  refine dq_b (dq_u1 h).1 ?_
  exact dq_c (m := Reader.s2) (dq_s2 (dq_u1 h).2) rfl
theorem dq_164 {code : ByteArray} {pc : Nat} {a b : UInt8} {t : List UInt8} (h : code.data.toList.drop pc = 164 :: a :: b :: t) : decode code pc = .ok (.if_icmp .le (Reader.signed 16 (a.toNat * 256 + b.toNat)), 3) := by
  refine (dq_of (nx := pc + 3) ?_).trans (by rw [Nat.add_sub_cancel_left])
  refine dq_b (dq_u1 h).1 ?_
  exact dq_c (m := Reader.s2) (dq_s2 (dq_u1 h).2) rfl
theorem dq_167 {code : ByteArray} {pc : Nat} {a b : UInt8} {t : List UInt8} (h : code.data.toList.drop pc = 167 :: a :: b :: t) : decode code pc = .ok (.goto (Reader.signed 16 (a.toNat * 256 + b.toNat)), 3) := by
  refine (dq_of (nx := pc + 3) ?_).trans (by rw [Nat.add_sub_cancel_left])
  refine dq_b (dq_u1 h).1 ?_
  exact dq_c (m := Reader.s2) (dq_s2 (dq_u1 h).2) rfl
theorem dq_198 {code : ByteArray} {pc : Nat} {a b : UInt8} {t : List UInt8} (h : code.data.toList.drop pc = 198 :: a :: b :: t) : decode code pc = .ok (.ifnull (Reader.signed 16 (a.toNat * 256 + b.toNat)), 3) := by
  refine (dq_of (nx := pc + 3) ?_).trans (by rw [Nat.add_sub_cancel_left])
  refine dq_b (dq_u1 h).1 ?_
  exact dq_c (m := Reader.s2) (dq_s2 (dq_u1 h).2) rfl
theorem dq_199 {code : ByteArray} {pc : Nat} {a b : UInt8} {t : List UInt8} (h : code.data.toList.drop pc = 199 :: a :: b :: t) : decode code pc = .ok (.ifnonnull (Reader.signed 16 (a.toNat * 256 + b.toNat)), 3) := by
  refine (dq_of (nx := pc + 3) ?_).trans (by rw [Nat.add_sub_cancel_left])
  refine dq_b (dq_u1 h).1 ?_
  exact dq_c (m := Reader.s2) (dq_s2 (dq_u1 h).2) rfl
theorem dq_180 {code : ByteArray} {pc : Nat} {a b : UInt8} {t : List UInt8} (h : code.data.toList.drop pc = 180 :: a :: b :: t) : decode code pc = .ok (.getfield (a.toNat * 256 + b.toNat), 3) := by
  refine (dq_of (nx := pc + 3) ?_).trans (by rw [Nat.add_sub_cancel_left])
  refine dq_b (dq_u1 h).1 ?_
  exact dq_c (m := Reader.u2) (dq_u2 (dq_u1 h).2) rfl
theorem dq_181 {code : ByteArray} {pc : Nat} {a b : UInt8} {t : List UInt8} (h : code.data.toList.drop pc = 181 :: a :: b :: t) : decode code pc = .ok (.putfield (a.toNat * 256 + b.toNat), 3) := by
  refine (dq_of (nx := pc + 3) ?_).trans (by rw [Nat.add_sub_cancel_left])
  refine dq_b (dq_u1 h).1 ?_
  exact dq_c (m := Reader.u2) (dq_u2 (dq_u1 h).2) rfl
theorem dq_182 {code : ByteArray} {pc : Nat} {a b : UInt8} {t : List UInt8} (h : code.data.toList.drop pc = 182 :: a :: b :: t) : decode code pc = .ok (.invokevirtual (a.toNat * 256 + b.toNat), 3) := by
  refine (dq_of (nx := pc + 3) ?_).trans (by rw [Nat.add_sub_cancel_left])
  refine dq_b (dq_u1 h).1 ?_
  exact dq_c (m := Reader.u2) (dq_u2 (dq_u1 h).2) rfl
theorem dq_183 {code : ByteArray} {pc : Nat} {a b : UInt8} {t : List UInt8} (h : code.data.toList.drop pc = 183 :: a :: b :: t) : decode code pc = .ok (.invokespecial (a.toNat * 256 + b.toNat), 3) := by
  refine (dq_of (nx := pc + 3) ?_).trans (by rw [Nat.add_sub_cancel_left])
  refine dq_b (dq_u1 h).1 ?_
  exact dq_c (m := Reader.u2) (dq_u2 (dq_u1 h).2) rfl
theorem dq_184 {code : ByteArray} {pc : Nat} {a b : UInt8} {t : List UInt8} (h : code.data.toList.drop pc = 184 :: a :: b :: t) : decode code pc = .ok (.invokestatic (a.toNat * 256 + b.toNat), 3) := by
  refine (dq_of (nx := pc + 3) ?_).trans (by rw [Nat.add_sub_cancel_left])
  refine dq_b (dq_u1 h).1 ?_
  exact dq_c (m := Reader.u2) (dq_u2 (dq_u1 h).2) rfl
theorem dq_187 {code : ByteArray} {pc : Nat} {a b : UInt8} {t : List UInt8} (h : code.data.toList.drop pc = 187 :: a :: b :: t) : decode code pc = .ok (.new (a.toNat * 256 + b.toNat), 3) := by
  refine (dq_of (nx := pc + 3) ?_).trans (by rw [Nat.add_sub_cancel_left])
  refine dq_b (dq_u1 h).1 ?_
  exact dq_c (m := Reader.u2) (dq_u2 (dq_u1 h).2) rfl
theorem dq_132 {code : ByteArray} {pc : Nat} {a b : UInt8} {t : List UInt8} (h : code.data.toList.drop pc = 132 :: a :: b :: t) : decode code pc = .ok (.iinc a.toNat (Reader.signed 8 b.toNat), 3) := by
  refine (dq_of (nx := pc + 3) ?_).trans (by rw [Nat.add_sub_cancel_left])
  refine dq_b (dq_u1 h).1 ?_
  refine dq_c (m := Reader.u1) (dq_u1 (dq_u1 h).2).1 ?_
  exact dq_c (m := Reader.s1) (dq_s1 (dq_u1 (dq_u1 h).2).2) rfl
def dq_l1 (r : List UInt8) (f : UInt8 → Bool) : Bool := match r with
  | a :: _ => f a
  | [] => false
def dq_l2 (r : List UInt8) (f : UInt8 → UInt8 → Bool) : Bool := match r with
  | a :: b :: _ => f a b
  | _ => false
def dq_cd (c : ClassFile.Cond) : Nat := match c with
  | .eq => 0
  | .ne => 1
  | .lt => 2
  | .ge => 3
  | .gt => 4
  | .le => 5
def qm_di (cc : ByteArray) (pc : Nat) (op : UInt8) (r : List UInt8) (ins : Instr) (len : Nat) : Bool := match ins with
  | .iconst n => (decide (0 ≤ n + 3 - 2) && decide (n + 3 ≤ 8)) && (Nat.beq op.toNat (n + 3).toNat && Nat.beq len 1)
  | .lconst n => Nat.beq op.toNat (9 + n.val) && Nat.beq len 1
  | .iload_n n => Nat.beq op.toNat (26 + n.val) && Nat.beq len 1
  | .lload_n n => Nat.beq op.toNat (30 + n.val) && Nat.beq len 1
  | .aload_n n => Nat.beq op.toNat (42 + n.val) && Nat.beq len 1
  | .istore_n n => Nat.beq op.toNat (59 + n.val) && Nat.beq len 1
  | .lstore_n n => Nat.beq op.toNat (63 + n.val) && Nat.beq len 1
  | .astore_n n => Nat.beq op.toNat (75 + n.val) && Nat.beq len 1
  | .iaload => Nat.beq op.toNat 46 && Nat.beq len 1
  | .laload => Nat.beq op.toNat 47 && Nat.beq len 1
  | .aaload => Nat.beq op.toNat 50 && Nat.beq len 1
  | .baload => Nat.beq op.toNat 51 && Nat.beq len 1
  | .iastore => Nat.beq op.toNat 79 && Nat.beq len 1
  | .lastore => Nat.beq op.toNat 80 && Nat.beq len 1
  | .bastore => Nat.beq op.toNat 84 && Nat.beq len 1
  | .pop => Nat.beq op.toNat 87 && Nat.beq len 1
  | .dup => Nat.beq op.toNat 89 && Nat.beq len 1
  | .dup2 => Nat.beq op.toNat 92 && Nat.beq len 1
  | .iadd => Nat.beq op.toNat 96 && Nat.beq len 1
  | .ladd => Nat.beq op.toNat 97 && Nat.beq len 1
  | .isub => Nat.beq op.toNat 100 && Nat.beq len 1
  | .lsub => Nat.beq op.toNat 101 && Nat.beq len 1
  | .imul => Nat.beq op.toNat 104 && Nat.beq len 1
  | .lmul => Nat.beq op.toNat 105 && Nat.beq len 1
  | .idiv => Nat.beq op.toNat 108 && Nat.beq len 1
  | .ldiv => Nat.beq op.toNat 109 && Nat.beq len 1
  | .irem => Nat.beq op.toNat 112 && Nat.beq len 1
  | .lrem => Nat.beq op.toNat 113 && Nat.beq len 1
  | .ineg => Nat.beq op.toNat 116 && Nat.beq len 1
  | .ishl => Nat.beq op.toNat 120 && Nat.beq len 1
  | .lshl => Nat.beq op.toNat 121 && Nat.beq len 1
  | .ishr => Nat.beq op.toNat 122 && Nat.beq len 1
  | .lshr => Nat.beq op.toNat 123 && Nat.beq len 1
  | .iushr => Nat.beq op.toNat 124 && Nat.beq len 1
  | .iand => Nat.beq op.toNat 126 && Nat.beq len 1
  | .land => Nat.beq op.toNat 127 && Nat.beq len 1
  | .ior => Nat.beq op.toNat 128 && Nat.beq len 1
  | .lor => Nat.beq op.toNat 129 && Nat.beq len 1
  | .ixor => Nat.beq op.toNat 130 && Nat.beq len 1
  | .i2l => Nat.beq op.toNat 133 && Nat.beq len 1
  | .l2i => Nat.beq op.toNat 136 && Nat.beq len 1
  | .i2b => Nat.beq op.toNat 145 && Nat.beq len 1
  | .lcmp => Nat.beq op.toNat 148 && Nat.beq len 1
  | .ireturn => Nat.beq op.toNat 172 && Nat.beq len 1
  | .lreturn => Nat.beq op.toNat 173 && Nat.beq len 1
  | .return_ => Nat.beq op.toNat 177 && Nat.beq len 1
  | .arraylength => Nat.beq op.toNat 190 && Nat.beq len 1
  | .bipush n => (Nat.beq op.toNat 16 && Nat.beq len 2) && dq_l1 r (fun a => decide (Reader.signed 8 a.toNat = n))
  | .sipush n => (Nat.beq op.toNat 17 && Nat.beq len 3) && dq_l2 r (fun a b => decide (Reader.signed 16 (a.toNat * 256 + b.toNat) = n))
  | .ldc n => (Nat.beq op.toNat 18 && Nat.beq len 2) && dq_l1 r (fun a => Nat.beq a.toNat n)
  | .ldc_w n => (Nat.beq op.toNat 19 && Nat.beq len 3) && dq_l2 r (fun a b => Nat.beq (a.toNat * 256 + b.toNat) n)
  | .ldc2_w n => (Nat.beq op.toNat 20 && Nat.beq len 3) && dq_l2 r (fun a b => Nat.beq (a.toNat * 256 + b.toNat) n)
  | .getfield n => (Nat.beq op.toNat 180 && Nat.beq len 3) && dq_l2 r (fun a b => Nat.beq (a.toNat * 256 + b.toNat) n)
  | .putfield n => (Nat.beq op.toNat 181 && Nat.beq len 3) && dq_l2 r (fun a b => Nat.beq (a.toNat * 256 + b.toNat) n)
  | .invokevirtual n => (Nat.beq op.toNat 182 && Nat.beq len 3) && dq_l2 r (fun a b => Nat.beq (a.toNat * 256 + b.toNat) n)
  | .invokespecial n => (Nat.beq op.toNat 183 && Nat.beq len 3) && dq_l2 r (fun a b => Nat.beq (a.toNat * 256 + b.toNat) n)
  | .invokestatic n => (Nat.beq op.toNat 184 && Nat.beq len 3) && dq_l2 r (fun a b => Nat.beq (a.toNat * 256 + b.toNat) n)
  | .new n => (Nat.beq op.toNat 187 && Nat.beq len 3) && dq_l2 r (fun a b => Nat.beq (a.toNat * 256 + b.toNat) n)
  | .iload n => (Nat.beq op.toNat 21 && Nat.beq len 2) && dq_l1 r (fun a => Nat.beq a.toNat n)
  | .lload n => (Nat.beq op.toNat 22 && Nat.beq len 2) && dq_l1 r (fun a => Nat.beq a.toNat n)
  | .aload n => (Nat.beq op.toNat 25 && Nat.beq len 2) && dq_l1 r (fun a => Nat.beq a.toNat n)
  | .istore n => (Nat.beq op.toNat 54 && Nat.beq len 2) && dq_l1 r (fun a => Nat.beq a.toNat n)
  | .lstore n => (Nat.beq op.toNat 55 && Nat.beq len 2) && dq_l1 r (fun a => Nat.beq a.toNat n)
  | .astore n => (Nat.beq op.toNat 58 && Nat.beq len 2) && dq_l1 r (fun a => Nat.beq a.toNat n)
  | .goto n => (Nat.beq op.toNat 167 && Nat.beq len 3) && dq_l2 r (fun a b => decide (Reader.signed 16 (a.toNat * 256 + b.toNat) = n))
  | .ifnull n => (Nat.beq op.toNat 198 && Nat.beq len 3) && dq_l2 r (fun a b => decide (Reader.signed 16 (a.toNat * 256 + b.toNat) = n))
  | .ifnonnull n => (Nat.beq op.toNat 199 && Nat.beq len 3) && dq_l2 r (fun a b => decide (Reader.signed 16 (a.toNat * 256 + b.toNat) = n))
  | .ifCond c n => (Nat.beq op.toNat (153 + dq_cd c) && Nat.beq len 3) && dq_l2 r (fun a b => decide (Reader.signed 16 (a.toNat * 256 + b.toNat) = n))
  | .if_icmp c n => (Nat.beq op.toNat (159 + dq_cd c) && Nat.beq len 3) && dq_l2 r (fun a b => decide (Reader.signed 16 (a.toNat * 256 + b.toNat) = n))
  | .iinc i n => (Nat.beq op.toNat 132 && Nat.beq len 3) && dq_l2 r (fun a b => Nat.beq a.toNat i && decide (Reader.signed 8 b.toNat = n))
  | _ => decide (decode cc pc = .ok (ins, len))
def qm_dq (cc : ByteArray) (pc : Nat) (ins : Instr) (len : Nat) : Bool := match cc.data.toList.drop pc with
  | [] => false
  | op :: r => qm_di cc pc op r ins len
theorem dq_n {x : UInt8} {n : Nat} {y : UInt8} (h : Nat.beq x.toNat n = true) (hy : y.toNat = n) : x = y := UInt8.toNat_inj.mp ((Nat.eq_of_beq_eq_true h).trans hy.symm)
theorem dq_h1 {r : List UInt8} {f : UInt8 → Bool} (h : dq_l1 r f = true) : ∃ a t, r = a :: t ∧ f a = true := by
  cases r with
  | nil => cases h
  | cons a t => exact ⟨a, t, rfl, h⟩
theorem dq_h2 {r : List UInt8} {f : UInt8 → UInt8 → Bool} (h : dq_l2 r f = true) : ∃ a b t, r = a :: b :: t ∧ f a b = true := by
  cases r with
  | nil => cases h
  | cons a t =>
    cases t with
    | nil => cases h
    | cons b t => exact ⟨a, b, t, rfl, h⟩
theorem dq_and {a b : Bool} (h : (a && b) = true) : a = true ∧ b = true := by
  rw [Bool.and_eq_true] at h
  exact h
theorem qm_di_ok {cc : ByteArray} {pc : Nat} {op : UInt8} {r : List UInt8} {ins : Instr} {len : Nat} (hd : cc.data.toList.drop pc = op :: r) (h : qm_di cc pc op r ins len = true) : decode cc pc = .ok (ins, len) := by
  unfold qm_di at h
  split at h
  · next n =>
    obtain ⟨hA, hB⟩ := dq_and h
    obtain ⟨hC, hD⟩ := dq_and hA
    obtain ⟨h2, hE⟩ := dq_and hB
    have hC := of_decide_eq_true hC
    have hD := of_decide_eq_true hD
    have hl := Nat.eq_of_beq_eq_true hE
    clear h hA hB hE
    subst hl
    have hn : n = -1 ∨ n = 0 ∨ n = 1 ∨ n = 2 ∨ n = 3 ∨ n = 4 ∨ n = 5 := by omega
    rcases hn with rfl | rfl | rfl | rfl | rfl | rfl | rfl
    · rw [dq_n (y := 2) h2 rfl] at hd
      exact dq_2 hd
    · rw [dq_n (y := 3) h2 rfl] at hd
      exact dq_3 hd
    · rw [dq_n (y := 4) h2 rfl] at hd
      exact dq_4 hd
    · rw [dq_n (y := 5) h2 rfl] at hd
      exact dq_5 hd
    · rw [dq_n (y := 6) h2 rfl] at hd
      exact dq_6 hd
    · rw [dq_n (y := 7) h2 rfl] at hd
      exact dq_7 hd
    · rw [dq_n (y := 8) h2 rfl] at hd
      exact dq_8 hd
  · next n =>
    obtain ⟨h2, h3⟩ := dq_and h
    have hl := Nat.eq_of_beq_eq_true h3
    subst hl
    match n, h2 with
    | 0, h2 =>
      rw [dq_n (y := 9) h2 rfl] at hd
      exact dq_9 hd
    | 1, h2 =>
      rw [dq_n (y := 10) h2 rfl] at hd
      exact dq_10 hd
  · next n =>
    obtain ⟨h2, h3⟩ := dq_and h
    have hl := Nat.eq_of_beq_eq_true h3
    subst hl
    match n, h2 with
    | 0, h2 =>
      rw [dq_n (y := 26) h2 rfl] at hd
      exact dq_26 hd
    | 1, h2 =>
      rw [dq_n (y := 27) h2 rfl] at hd
      exact dq_27 hd
    | 2, h2 =>
      rw [dq_n (y := 28) h2 rfl] at hd
      exact dq_28 hd
    | 3, h2 =>
      rw [dq_n (y := 29) h2 rfl] at hd
      exact dq_29 hd
  · next n =>
    obtain ⟨h2, h3⟩ := dq_and h
    have hl := Nat.eq_of_beq_eq_true h3
    subst hl
    match n, h2 with
    | 0, h2 =>
      rw [dq_n (y := 30) h2 rfl] at hd
      exact dq_30 hd
    | 1, h2 =>
      rw [dq_n (y := 31) h2 rfl] at hd
      exact dq_31 hd
    | 2, h2 =>
      rw [dq_n (y := 32) h2 rfl] at hd
      exact dq_32 hd
    | 3, h2 =>
      rw [dq_n (y := 33) h2 rfl] at hd
      exact dq_33 hd
  · next n =>
    obtain ⟨h2, h3⟩ := dq_and h
    have hl := Nat.eq_of_beq_eq_true h3
    subst hl
    match n, h2 with
    | 0, h2 =>
      rw [dq_n (y := 42) h2 rfl] at hd
      exact dq_42 hd
    | 1, h2 =>
      rw [dq_n (y := 43) h2 rfl] at hd
      exact dq_43 hd
    | 2, h2 =>
      rw [dq_n (y := 44) h2 rfl] at hd
      exact dq_44 hd
    | 3, h2 =>
      rw [dq_n (y := 45) h2 rfl] at hd
      exact dq_45 hd
  · next n =>
    obtain ⟨h2, h3⟩ := dq_and h
    have hl := Nat.eq_of_beq_eq_true h3
    subst hl
    match n, h2 with
    | 0, h2 =>
      rw [dq_n (y := 59) h2 rfl] at hd
      exact dq_59 hd
    | 1, h2 =>
      rw [dq_n (y := 60) h2 rfl] at hd
      exact dq_60 hd
    | 2, h2 =>
      rw [dq_n (y := 61) h2 rfl] at hd
      exact dq_61 hd
    | 3, h2 =>
      rw [dq_n (y := 62) h2 rfl] at hd
      exact dq_62 hd
  · next n =>
    obtain ⟨h2, h3⟩ := dq_and h
    have hl := Nat.eq_of_beq_eq_true h3
    subst hl
    match n, h2 with
    | 0, h2 =>
      rw [dq_n (y := 63) h2 rfl] at hd
      exact dq_63 hd
    | 1, h2 =>
      rw [dq_n (y := 64) h2 rfl] at hd
      exact dq_64 hd
    | 2, h2 =>
      rw [dq_n (y := 65) h2 rfl] at hd
      exact dq_65 hd
    | 3, h2 =>
      rw [dq_n (y := 66) h2 rfl] at hd
      exact dq_66 hd
  · next n =>
    obtain ⟨h2, h3⟩ := dq_and h
    have hl := Nat.eq_of_beq_eq_true h3
    subst hl
    match n, h2 with
    | 0, h2 =>
      rw [dq_n (y := 75) h2 rfl] at hd
      exact dq_75 hd
    | 1, h2 =>
      rw [dq_n (y := 76) h2 rfl] at hd
      exact dq_76 hd
    | 2, h2 =>
      rw [dq_n (y := 77) h2 rfl] at hd
      exact dq_77 hd
    | 3, h2 =>
      rw [dq_n (y := 78) h2 rfl] at hd
      exact dq_78 hd
  · obtain ⟨h2, h3⟩ := dq_and h
    have hl := Nat.eq_of_beq_eq_true h3
    subst hl
    rw [dq_n (y := 46) h2 rfl] at hd
    exact dq_46 hd
  · obtain ⟨h2, h3⟩ := dq_and h
    have hl := Nat.eq_of_beq_eq_true h3
    subst hl
    rw [dq_n (y := 47) h2 rfl] at hd
    exact dq_47 hd
  · obtain ⟨h2, h3⟩ := dq_and h
    have hl := Nat.eq_of_beq_eq_true h3
    subst hl
    rw [dq_n (y := 50) h2 rfl] at hd
    exact dq_50 hd
  · obtain ⟨h2, h3⟩ := dq_and h
    have hl := Nat.eq_of_beq_eq_true h3
    subst hl
    rw [dq_n (y := 51) h2 rfl] at hd
    exact dq_51 hd
  · obtain ⟨h2, h3⟩ := dq_and h
    have hl := Nat.eq_of_beq_eq_true h3
    subst hl
    rw [dq_n (y := 79) h2 rfl] at hd
    exact dq_79 hd
  · obtain ⟨h2, h3⟩ := dq_and h
    have hl := Nat.eq_of_beq_eq_true h3
    subst hl
    rw [dq_n (y := 80) h2 rfl] at hd
    exact dq_80 hd
  · obtain ⟨h2, h3⟩ := dq_and h
    have hl := Nat.eq_of_beq_eq_true h3
    subst hl
    rw [dq_n (y := 84) h2 rfl] at hd
    exact dq_84 hd
  · obtain ⟨h2, h3⟩ := dq_and h
    have hl := Nat.eq_of_beq_eq_true h3
    subst hl
    rw [dq_n (y := 87) h2 rfl] at hd
    exact dq_87 hd
  · obtain ⟨h2, h3⟩ := dq_and h
    have hl := Nat.eq_of_beq_eq_true h3
    subst hl
    rw [dq_n (y := 89) h2 rfl] at hd
    exact dq_89 hd
  · obtain ⟨h2, h3⟩ := dq_and h
    have hl := Nat.eq_of_beq_eq_true h3
    subst hl
    rw [dq_n (y := 92) h2 rfl] at hd
    exact dq_92 hd
  · obtain ⟨h2, h3⟩ := dq_and h
    have hl := Nat.eq_of_beq_eq_true h3
    subst hl
    rw [dq_n (y := 96) h2 rfl] at hd
    exact dq_96 hd
  · obtain ⟨h2, h3⟩ := dq_and h
    have hl := Nat.eq_of_beq_eq_true h3
    subst hl
    rw [dq_n (y := 97) h2 rfl] at hd
    exact dq_97 hd
  · obtain ⟨h2, h3⟩ := dq_and h
    have hl := Nat.eq_of_beq_eq_true h3
    subst hl
    rw [dq_n (y := 100) h2 rfl] at hd
    exact dq_100 hd
  · obtain ⟨h2, h3⟩ := dq_and h
    have hl := Nat.eq_of_beq_eq_true h3
    subst hl
    rw [dq_n (y := 101) h2 rfl] at hd
    exact dq_101 hd
  · obtain ⟨h2, h3⟩ := dq_and h
    have hl := Nat.eq_of_beq_eq_true h3
    subst hl
    rw [dq_n (y := 104) h2 rfl] at hd
    exact dq_104 hd
  · obtain ⟨h2, h3⟩ := dq_and h
    have hl := Nat.eq_of_beq_eq_true h3
    subst hl
    rw [dq_n (y := 105) h2 rfl] at hd
    exact dq_105 hd
  · obtain ⟨h2, h3⟩ := dq_and h
    have hl := Nat.eq_of_beq_eq_true h3
    subst hl
    rw [dq_n (y := 108) h2 rfl] at hd
    exact dq_108 hd
  · obtain ⟨h2, h3⟩ := dq_and h
    have hl := Nat.eq_of_beq_eq_true h3
    subst hl
    rw [dq_n (y := 109) h2 rfl] at hd
    exact dq_109 hd
  · obtain ⟨h2, h3⟩ := dq_and h
    have hl := Nat.eq_of_beq_eq_true h3
    subst hl
    rw [dq_n (y := 112) h2 rfl] at hd
    exact dq_112 hd
  · obtain ⟨h2, h3⟩ := dq_and h
    have hl := Nat.eq_of_beq_eq_true h3
    subst hl
    rw [dq_n (y := 113) h2 rfl] at hd
    exact dq_113 hd
  · obtain ⟨h2, h3⟩ := dq_and h
    have hl := Nat.eq_of_beq_eq_true h3
    subst hl
    rw [dq_n (y := 116) h2 rfl] at hd
    exact dq_116 hd
  · obtain ⟨h2, h3⟩ := dq_and h
    have hl := Nat.eq_of_beq_eq_true h3
    subst hl
    rw [dq_n (y := 120) h2 rfl] at hd
    exact dq_120 hd
  · obtain ⟨h2, h3⟩ := dq_and h
    have hl := Nat.eq_of_beq_eq_true h3
    subst hl
    rw [dq_n (y := 121) h2 rfl] at hd
    exact dq_121 hd
  · obtain ⟨h2, h3⟩ := dq_and h
    have hl := Nat.eq_of_beq_eq_true h3
    subst hl
    rw [dq_n (y := 122) h2 rfl] at hd
    exact dq_122 hd
  · obtain ⟨h2, h3⟩ := dq_and h
    have hl := Nat.eq_of_beq_eq_true h3
    subst hl
    rw [dq_n (y := 123) h2 rfl] at hd
    exact dq_123 hd
  · obtain ⟨h2, h3⟩ := dq_and h
    have hl := Nat.eq_of_beq_eq_true h3
    subst hl
    rw [dq_n (y := 124) h2 rfl] at hd
    exact dq_124 hd
  · obtain ⟨h2, h3⟩ := dq_and h
    have hl := Nat.eq_of_beq_eq_true h3
    subst hl
    rw [dq_n (y := 126) h2 rfl] at hd
    exact dq_126 hd
  · obtain ⟨h2, h3⟩ := dq_and h
    have hl := Nat.eq_of_beq_eq_true h3
    subst hl
    rw [dq_n (y := 127) h2 rfl] at hd
    exact dq_127 hd
  · obtain ⟨h2, h3⟩ := dq_and h
    have hl := Nat.eq_of_beq_eq_true h3
    subst hl
    rw [dq_n (y := 128) h2 rfl] at hd
    exact dq_128 hd
  · obtain ⟨h2, h3⟩ := dq_and h
    have hl := Nat.eq_of_beq_eq_true h3
    subst hl
    rw [dq_n (y := 129) h2 rfl] at hd
    exact dq_129 hd
  · obtain ⟨h2, h3⟩ := dq_and h
    have hl := Nat.eq_of_beq_eq_true h3
    subst hl
    rw [dq_n (y := 130) h2 rfl] at hd
    exact dq_130 hd
  · obtain ⟨h2, h3⟩ := dq_and h
    have hl := Nat.eq_of_beq_eq_true h3
    subst hl
    rw [dq_n (y := 133) h2 rfl] at hd
    exact dq_133 hd
  · obtain ⟨h2, h3⟩ := dq_and h
    have hl := Nat.eq_of_beq_eq_true h3
    subst hl
    rw [dq_n (y := 136) h2 rfl] at hd
    exact dq_136 hd
  · obtain ⟨h2, h3⟩ := dq_and h
    have hl := Nat.eq_of_beq_eq_true h3
    subst hl
    rw [dq_n (y := 145) h2 rfl] at hd
    exact dq_145 hd
  · obtain ⟨h2, h3⟩ := dq_and h
    have hl := Nat.eq_of_beq_eq_true h3
    subst hl
    rw [dq_n (y := 148) h2 rfl] at hd
    exact dq_148 hd
  · obtain ⟨h2, h3⟩ := dq_and h
    have hl := Nat.eq_of_beq_eq_true h3
    subst hl
    rw [dq_n (y := 172) h2 rfl] at hd
    exact dq_172 hd
  · obtain ⟨h2, h3⟩ := dq_and h
    have hl := Nat.eq_of_beq_eq_true h3
    subst hl
    rw [dq_n (y := 173) h2 rfl] at hd
    exact dq_173 hd
  · obtain ⟨h2, h3⟩ := dq_and h
    have hl := Nat.eq_of_beq_eq_true h3
    subst hl
    rw [dq_n (y := 177) h2 rfl] at hd
    exact dq_177 hd
  · obtain ⟨h2, h3⟩ := dq_and h
    have hl := Nat.eq_of_beq_eq_true h3
    subst hl
    rw [dq_n (y := 190) h2 rfl] at hd
    exact dq_190 hd
  · next n =>
    obtain ⟨hA, h3⟩ := dq_and h
    obtain ⟨h2, hE⟩ := dq_and hA
    have hl := Nat.eq_of_beq_eq_true hE
    clear h hA hE
    subst hl
    rw [dq_n (y := 16) h2 rfl] at hd
    obtain ⟨a, t, rfl, h4⟩ := dq_h1 h3
    have h4 := of_decide_eq_true h4
    subst h4
    exact dq_16 hd
  · next n =>
    obtain ⟨hA, h3⟩ := dq_and h
    obtain ⟨h2, hE⟩ := dq_and hA
    have hl := Nat.eq_of_beq_eq_true hE
    clear h hA hE
    subst hl
    rw [dq_n (y := 17) h2 rfl] at hd
    obtain ⟨a, b, t, rfl, h4⟩ := dq_h2 h3
    have h4 := of_decide_eq_true h4
    subst h4
    exact dq_17 hd
  · next n =>
    obtain ⟨hA, h3⟩ := dq_and h
    obtain ⟨h2, hE⟩ := dq_and hA
    have hl := Nat.eq_of_beq_eq_true hE
    clear h hA hE
    subst hl
    rw [dq_n (y := 18) h2 rfl] at hd
    obtain ⟨a, t, rfl, h4⟩ := dq_h1 h3
    have h4 := Nat.eq_of_beq_eq_true h4
    subst h4
    exact dq_18 hd
  · next n =>
    obtain ⟨hA, h3⟩ := dq_and h
    obtain ⟨h2, hE⟩ := dq_and hA
    have hl := Nat.eq_of_beq_eq_true hE
    clear h hA hE
    subst hl
    rw [dq_n (y := 19) h2 rfl] at hd
    obtain ⟨a, b, t, rfl, h4⟩ := dq_h2 h3
    have h4 := Nat.eq_of_beq_eq_true h4
    subst h4
    exact dq_19 hd
  · next n =>
    obtain ⟨hA, h3⟩ := dq_and h
    obtain ⟨h2, hE⟩ := dq_and hA
    have hl := Nat.eq_of_beq_eq_true hE
    clear h hA hE
    subst hl
    rw [dq_n (y := 20) h2 rfl] at hd
    obtain ⟨a, b, t, rfl, h4⟩ := dq_h2 h3
    have h4 := Nat.eq_of_beq_eq_true h4
    subst h4
    exact dq_20 hd
  · next n =>
    obtain ⟨hA, h3⟩ := dq_and h
    obtain ⟨h2, hE⟩ := dq_and hA
    have hl := Nat.eq_of_beq_eq_true hE
    clear h hA hE
    subst hl
    rw [dq_n (y := 180) h2 rfl] at hd
    obtain ⟨a, b, t, rfl, h4⟩ := dq_h2 h3
    have h4 := Nat.eq_of_beq_eq_true h4
    subst h4
    exact dq_180 hd
  · next n =>
    obtain ⟨hA, h3⟩ := dq_and h
    obtain ⟨h2, hE⟩ := dq_and hA
    have hl := Nat.eq_of_beq_eq_true hE
    clear h hA hE
    subst hl
    rw [dq_n (y := 181) h2 rfl] at hd
    obtain ⟨a, b, t, rfl, h4⟩ := dq_h2 h3
    have h4 := Nat.eq_of_beq_eq_true h4
    subst h4
    exact dq_181 hd
  · next n =>
    obtain ⟨hA, h3⟩ := dq_and h
    obtain ⟨h2, hE⟩ := dq_and hA
    have hl := Nat.eq_of_beq_eq_true hE
    clear h hA hE
    subst hl
    rw [dq_n (y := 182) h2 rfl] at hd
    obtain ⟨a, b, t, rfl, h4⟩ := dq_h2 h3
    have h4 := Nat.eq_of_beq_eq_true h4
    subst h4
    exact dq_182 hd
  · next n =>
    obtain ⟨hA, h3⟩ := dq_and h
    obtain ⟨h2, hE⟩ := dq_and hA
    have hl := Nat.eq_of_beq_eq_true hE
    clear h hA hE
    subst hl
    rw [dq_n (y := 183) h2 rfl] at hd
    obtain ⟨a, b, t, rfl, h4⟩ := dq_h2 h3
    have h4 := Nat.eq_of_beq_eq_true h4
    subst h4
    exact dq_183 hd
  · next n =>
    obtain ⟨hA, h3⟩ := dq_and h
    obtain ⟨h2, hE⟩ := dq_and hA
    have hl := Nat.eq_of_beq_eq_true hE
    clear h hA hE
    subst hl
    rw [dq_n (y := 184) h2 rfl] at hd
    obtain ⟨a, b, t, rfl, h4⟩ := dq_h2 h3
    have h4 := Nat.eq_of_beq_eq_true h4
    subst h4
    exact dq_184 hd
  · next n =>
    obtain ⟨hA, h3⟩ := dq_and h
    obtain ⟨h2, hE⟩ := dq_and hA
    have hl := Nat.eq_of_beq_eq_true hE
    clear h hA hE
    subst hl
    rw [dq_n (y := 187) h2 rfl] at hd
    obtain ⟨a, b, t, rfl, h4⟩ := dq_h2 h3
    have h4 := Nat.eq_of_beq_eq_true h4
    subst h4
    exact dq_187 hd
  · next n =>
    obtain ⟨hA, h3⟩ := dq_and h
    obtain ⟨h2, hE⟩ := dq_and hA
    have hl := Nat.eq_of_beq_eq_true hE
    clear h hA hE
    subst hl
    rw [dq_n (y := 21) h2 rfl] at hd
    obtain ⟨a, t, rfl, h4⟩ := dq_h1 h3
    have h4 := Nat.eq_of_beq_eq_true h4
    subst h4
    exact dq_21 hd
  · next n =>
    obtain ⟨hA, h3⟩ := dq_and h
    obtain ⟨h2, hE⟩ := dq_and hA
    have hl := Nat.eq_of_beq_eq_true hE
    clear h hA hE
    subst hl
    rw [dq_n (y := 22) h2 rfl] at hd
    obtain ⟨a, t, rfl, h4⟩ := dq_h1 h3
    have h4 := Nat.eq_of_beq_eq_true h4
    subst h4
    exact dq_22 hd
  · next n =>
    obtain ⟨hA, h3⟩ := dq_and h
    obtain ⟨h2, hE⟩ := dq_and hA
    have hl := Nat.eq_of_beq_eq_true hE
    clear h hA hE
    subst hl
    rw [dq_n (y := 25) h2 rfl] at hd
    obtain ⟨a, t, rfl, h4⟩ := dq_h1 h3
    have h4 := Nat.eq_of_beq_eq_true h4
    subst h4
    exact dq_25 hd
  · next n =>
    obtain ⟨hA, h3⟩ := dq_and h
    obtain ⟨h2, hE⟩ := dq_and hA
    have hl := Nat.eq_of_beq_eq_true hE
    clear h hA hE
    subst hl
    rw [dq_n (y := 54) h2 rfl] at hd
    obtain ⟨a, t, rfl, h4⟩ := dq_h1 h3
    have h4 := Nat.eq_of_beq_eq_true h4
    subst h4
    exact dq_54 hd
  · next n =>
    obtain ⟨hA, h3⟩ := dq_and h
    obtain ⟨h2, hE⟩ := dq_and hA
    have hl := Nat.eq_of_beq_eq_true hE
    clear h hA hE
    subst hl
    rw [dq_n (y := 55) h2 rfl] at hd
    obtain ⟨a, t, rfl, h4⟩ := dq_h1 h3
    have h4 := Nat.eq_of_beq_eq_true h4
    subst h4
    exact dq_55 hd
  · next n =>
    obtain ⟨hA, h3⟩ := dq_and h
    obtain ⟨h2, hE⟩ := dq_and hA
    have hl := Nat.eq_of_beq_eq_true hE
    clear h hA hE
    subst hl
    rw [dq_n (y := 58) h2 rfl] at hd
    obtain ⟨a, t, rfl, h4⟩ := dq_h1 h3
    have h4 := Nat.eq_of_beq_eq_true h4
    subst h4
    exact dq_58 hd
  · next n =>
    obtain ⟨hA, h3⟩ := dq_and h
    obtain ⟨h2, hE⟩ := dq_and hA
    have hl := Nat.eq_of_beq_eq_true hE
    clear h hA hE
    subst hl
    rw [dq_n (y := 167) h2 rfl] at hd
    obtain ⟨a, b, t, rfl, h4⟩ := dq_h2 h3
    have h4 := of_decide_eq_true h4
    subst h4
    exact dq_167 hd
  · next n =>
    obtain ⟨hA, h3⟩ := dq_and h
    obtain ⟨h2, hE⟩ := dq_and hA
    have hl := Nat.eq_of_beq_eq_true hE
    clear h hA hE
    subst hl
    rw [dq_n (y := 198) h2 rfl] at hd
    obtain ⟨a, b, t, rfl, h4⟩ := dq_h2 h3
    have h4 := of_decide_eq_true h4
    subst h4
    exact dq_198 hd
  · next n =>
    obtain ⟨hA, h3⟩ := dq_and h
    obtain ⟨h2, hE⟩ := dq_and hA
    have hl := Nat.eq_of_beq_eq_true hE
    clear h hA hE
    subst hl
    rw [dq_n (y := 199) h2 rfl] at hd
    obtain ⟨a, b, t, rfl, h4⟩ := dq_h2 h3
    have h4 := of_decide_eq_true h4
    subst h4
    exact dq_199 hd
  · next c n =>
    obtain ⟨hA, h3⟩ := dq_and h
    obtain ⟨h2, hE⟩ := dq_and hA
    have hl := Nat.eq_of_beq_eq_true hE
    clear h hA hE
    subst hl
    obtain ⟨a, b, t, rfl, h4⟩ := dq_h2 h3
    have h4 := of_decide_eq_true h4
    subst h4
    cases c with
    | eq =>
      rw [dq_n (y := 153) h2 rfl] at hd
      exact dq_153 hd
    | ne =>
      rw [dq_n (y := 154) h2 rfl] at hd
      exact dq_154 hd
    | lt =>
      rw [dq_n (y := 155) h2 rfl] at hd
      exact dq_155 hd
    | ge =>
      rw [dq_n (y := 156) h2 rfl] at hd
      exact dq_156 hd
    | gt =>
      rw [dq_n (y := 157) h2 rfl] at hd
      exact dq_157 hd
    | le =>
      rw [dq_n (y := 158) h2 rfl] at hd
      exact dq_158 hd
  · next c n =>
    obtain ⟨hA, h3⟩ := dq_and h
    obtain ⟨h2, hE⟩ := dq_and hA
    have hl := Nat.eq_of_beq_eq_true hE
    clear h hA hE
    subst hl
    obtain ⟨a, b, t, rfl, h4⟩ := dq_h2 h3
    have h4 := of_decide_eq_true h4
    subst h4
    cases c with
    | eq =>
      rw [dq_n (y := 159) h2 rfl] at hd
      exact dq_159 hd
    | ne =>
      rw [dq_n (y := 160) h2 rfl] at hd
      exact dq_160 hd
    | lt =>
      rw [dq_n (y := 161) h2 rfl] at hd
      exact dq_161 hd
    | ge =>
      rw [dq_n (y := 162) h2 rfl] at hd
      exact dq_162 hd
    | gt =>
      rw [dq_n (y := 163) h2 rfl] at hd
      exact dq_163 hd
    | le =>
      rw [dq_n (y := 164) h2 rfl] at hd
      exact dq_164 hd
  · next i n =>
    obtain ⟨hA, h3⟩ := dq_and h
    obtain ⟨h2, hE⟩ := dq_and hA
    have hl := Nat.eq_of_beq_eq_true hE
    clear h hA hE
    subst hl
    obtain ⟨a, b, t, rfl, h4⟩ := dq_h2 h3
    obtain ⟨h4, h5⟩ := dq_and h4
    have h4 := Nat.eq_of_beq_eq_true h4
    have h5 := of_decide_eq_true h5
    subst h4
    subst h5
    rw [dq_n (y := 132) h2 rfl] at hd
    exact dq_132 hd
  · exact of_decide_eq_true h
theorem qm_dq_ok {cc : ByteArray} {pc : Nat} {ins : Instr} {len : Nat} (h : qm_dq cc pc ins len = true) : decode cc pc = .ok (ins, len) := by
  unfold qm_dq at h
  split at h
  · cases h
  · next op r hd => exact qm_di_ok hd h
/-- as qm_ok, quickly -/
def qm_okq (hd : List qm_Hd) (o nL : Nat) (ini : Bool) (rt : Nat) (cc : ByteArray) (it : qm_It) : Bool :=
  let pc := it.1
  let np := it.2.1
  let a := it.2.2.2.1
  let b := it.2.2.2.2.1
  let v := it.2.2.2.2.2
  qm_dq cc pc it.2.2.1 (np - pc) && match it.2.2.1 with
  | .iconst n => decide (v = .int (Int32.ofInt n)) && Nat.beq np (pc + 1)
  | .bipush n => decide (v = .int (Int8.ofInt n).toInt32) && Nat.beq np (pc + 2)
  | .sipush n => decide (v = .int (Int16.ofInt n).toInt32) && Nat.beq np (pc + 3)
  | .lconst n => decide (v = .long (Int64.ofNat (n : Nat))) && Nat.beq np (pc + 1)
  | .ldc i => decide (some v = (qm_li qm_ki o i).map Value.int) && Nat.beq np (pc + 2)
  | .ldc_w i => decide (some v = (qm_li qm_ki o i).map Value.int) && Nat.beq np (pc + 3)
  | .ldc2_w i => decide (some v = (qm_lj qm_kj o i).map Value.long) && Nat.beq np (pc + 3)
  | .iload i => Nat.beq a i && Nat.beq np (pc + 2)
  | .lload i => Nat.beq a i && Nat.beq np (pc + 2)
  | .aload i => Nat.beq a i && Nat.beq np (pc + 2)
  | .istore i => (Nat.beq a i && Nat.blt a nL) && Nat.beq np (pc + 2)
  | .lstore i => (Nat.beq a i && Nat.blt (a + 1) nL) && Nat.beq np (pc + 2)
  | .astore i => (Nat.beq a i && Nat.blt a nL) && Nat.beq np (pc + 2)
  | .iload_n i => Nat.beq a i.val && Nat.beq np (pc + 1)
  | .lload_n i => Nat.beq a i.val && Nat.beq np (pc + 1)
  | .aload_n i => Nat.beq a i.val && Nat.beq np (pc + 1)
  | .istore_n i => (Nat.beq a i.val && Nat.blt a nL) && Nat.beq np (pc + 1)
  | .lstore_n i => (Nat.beq a i.val && Nat.blt (a + 1) nL) && Nat.beq np (pc + 1)
  | .astore_n i => (Nat.beq a i.val && Nat.blt a nL) && Nat.beq np (pc + 1)
  | .iinc i n => ((Nat.beq a i && Nat.blt a nL) && decide (v = .int (Int32.ofInt n))) && Nat.beq np (pc + 3)
  | .iadd => Nat.beq np (pc + 1)
  | .isub => Nat.beq np (pc + 1)
  | .imul => Nat.beq np (pc + 1)
  | .iand => Nat.beq np (pc + 1)
  | .ior => Nat.beq np (pc + 1)
  | .ixor => Nat.beq np (pc + 1)
  | .idiv => Nat.beq np (pc + 1)
  | .irem => Nat.beq np (pc + 1)
  | .ineg => Nat.beq np (pc + 1)
  | .ishl => Nat.beq np (pc + 1)
  | .ishr => Nat.beq np (pc + 1)
  | .iushr => Nat.beq np (pc + 1)
  | .ladd => Nat.beq np (pc + 1)
  | .lsub => Nat.beq np (pc + 1)
  | .lmul => Nat.beq np (pc + 1)
  | .land => Nat.beq np (pc + 1)
  | .lor => Nat.beq np (pc + 1)
  | .ldiv => Nat.beq np (pc + 1)
  | .lrem => Nat.beq np (pc + 1)
  | .lshl => Nat.beq np (pc + 1)
  | .lshr => Nat.beq np (pc + 1)
  | .lcmp => Nat.beq np (pc + 1)
  | .i2l => Nat.beq np (pc + 1)
  | .l2i => Nat.beq np (pc + 1)
  | .i2b => Nat.beq np (pc + 1)
  | .dup => Nat.beq np (pc + 1)
  | .pop => Nat.beq np (pc + 1)
  | .dup2 => Nat.beq np (pc + 1)
  | .goto off => decide ((pc : Int) + off = (a : Int)) && Nat.beq np (pc + 3)
  | .ifCond _ off => decide ((pc : Int) + off = (a : Int)) && Nat.beq np (pc + 3)
  | .if_icmp _ off => decide ((pc : Int) + off = (a : Int)) && Nat.beq np (pc + 3)
  | .ifnull off => decide ((pc : Int) + off = (a : Int)) && Nat.beq np (pc + 3)
  | .ifnonnull off => decide ((pc : Int) + off = (a : Int)) && Nat.beq np (pc + 3)
  | .tableswitch d _ _ offs => qm_nn pc d && offs.toList.all (qm_nn pc)
  | .lookupswitch d ps => (qm_nn pc d && ps.toList.all (fun q => qm_nn pc q.2)) && (ps.toList.zip (ps.toList.drop 1)).all (fun (a, next) => a.1 < next.1)
  | .getfield i => (decide (qm_lk qm_fl o i = some (a, b)) && decide (v = qm_tg (qm_ty a b))) && Nat.beq np (pc + 3)
  | .putfield i => ((decide (qm_lk qm_fl o i = some (a, b)) && decide (v = qm_tg (qm_ty a b))) && (!(qm_fin a b) || (ini && Nat.beq o a))) && Nat.beq np (pc + 3)
  | .iaload => Nat.beq np (pc + 1)
  | .baload => Nat.beq np (pc + 1)
  | .laload => Nat.beq np (pc + 1)
  | .aaload => Nat.beq np (pc + 1)
  | .iastore => Nat.beq np (pc + 1)
  | .bastore => Nat.beq np (pc + 1)
  | .lastore => Nat.beq np (pc + 1)
  | .arraylength => Nat.beq np (pc + 1)
  | .newarray t => (Nat.beq a (qm_akind t) && Nat.blt a 4) && Nat.beq np (pc + 2)
  | .new i => (decide ((qm_lk qm_nl o i).map Prod.fst = some a) && Nat.beq b (qm_nf a)) && Nat.beq np (pc + 3)
  | .multianewarray i d => (Nat.beq d 2 && qm_l3 qm_gl o i) && Nat.beq np (pc + 4)
  | .invokevirtual i => (match qm_lk qm_ml o i, hd[a]? with
    | some q, some e => (Nat.beq q.1 a && Nat.beq q.2 0) && ((Nat.beq e.2.2.2.2.2.1 b && !e.2.2.2.2.2.2.1) && (decide (v = .retAddr e.1) && decide (¬ e.2.1.name = "<init>")))
    | _, _ => false) && Nat.beq np (pc + 3)
  | .invokespecial i => (match v with
    | .null => Nat.beq b 0 && qm_l3 qm_ol o i
    | _ => match qm_lk qm_ml o i, hd[a]? with
      | some q, some e => Nat.beq q.1 a && ((Nat.beq e.2.2.2.2.2.1 b && !e.2.2.2.2.2.2.1) && (decide (e.2.1.name = "<init>") && decide (e.2.2.2.2.1 = none)))
      | _, _ => false) && Nat.beq np (pc + 3)
  | .invokestatic i => (match v with
    | .null => qm_l3 qm_ac o i
    | .int _ => decide ((qm_lk qm_mt o i).map Prod.fst = some a)
    | _ => match qm_lk qm_ml o i, hd[a]? with
      | some q, some e => (Nat.beq q.1 a && Nat.beq q.2 0) && (Nat.beq e.2.2.2.2.2.1 b && e.2.2.2.2.2.2.1)
      | _, _ => false) && Nat.beq np (pc + 3)
  | .ireturn => (Nat.beq a rt && Nat.blt rt 2) && Nat.beq np (pc + 1)
  | .lreturn => Nat.beq rt 2 && Nat.beq np (pc + 1)
  | .return_ => Nat.beq rt 3 && Nat.beq np (pc + 1)
  | _ => false
theorem qm_okq_ok {hd : List qm_Hd} {o nL : Nat} {ini : Bool} {rt : Nat} {cc : ByteArray} {it : qm_It} (h : qm_okq hd o nL ini rt cc it = true) : qm_ok hd o nL ini rt cc it = true := by
  have h9 : (qm_dq cc it.1 it.2.2.1 (it.2.1 - it.1) && _) = true := h
  obtain ⟨h1, h2⟩ := dq_and h9
  show (decide (decode cc it.1 = .ok (it.2.2.1, it.2.1 - it.1)) && _) = true
  rw [Bool.and_eq_true]
  exact ⟨decide_eq_true (qm_dq_ok h1), h2⟩
theorem qm_all_ok9 {hd : List qm_Hd} {o nL : Nat} {ini : Bool} {rt : Nat} {cc : ByteArray} {l : List qm_It} (h : l.all (qm_okq hd o nL ini rt cc) = true) : l.all (qm_ok hd o nL ini rt cc) = true := List.all_eq_true.mpr (fun x hx => qm_okq_ok (List.all_eq_true.mp h x hx))
