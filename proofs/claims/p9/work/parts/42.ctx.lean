/-! a frame of the small machine over the real one -/
def qm_tot (q : List (Nat × Nat)) : Nat := (q.map Prod.snd).sum
/-- words that hold on while the machine goes on: the good ones; a nest mate's link, the class int[][] -/
def qm_use (w : Cond) : Bool := goodWord w || (match w with
  | .methodLinkNest _ _ _ _ => true
  | .arrayOver _ => true
  | _ => false)
/-- what a frame rests on -/
def qm_Cx (p : Program) (s : State) (m : MethodId) (args : Array Value) (meth : Method) (c : Code) (cc : ByteArray) (nL o : Nat) (ini : Bool) (D : va_G) (aC : Nat → ClassId) (b B L : Nat) (xs : Nat → Int32) : Prop :=
  p.tables.exec = Jvm.exec ∧ c.code = cc ∧ c.maxLocals = nL ∧ s.vm.findClass (qm_cn o) = some m.cls ∧ (∀ w ∈ lw_tbl, qm_use w = true → w.before args s = true) ∧ va_K D qm_vc (qm_tys aC) s ∧ va_X b L xs s s.heap ∧ b < B ∧ B ≤ s.heap.size ∧ (ini = true → meth.name = "<init>")
/-- from this frame of the small machine the real one comes to Q -/
def qm_Wm (p : Program) (l : Launch) (e : Env) (R : Room) (s : State) (m : MethodId) (args : Array Value) (below : List Frame) (meth : Method) (c : Code) (D : va_G) (aC : Nat → ClassId) (b B n0 t0 nL : Nat) (Q : State → Prop) (f : qm_C) : Prop :=
  ∀ (H : Heap) (locs : List Loc) (ls : Array Slot), qm_HI D aC b B f.2.2.2 H → va_S (qm_A B) s.heap H locs → qm_LR b B nL f.2.1 ls →
    W p l e R s m args below meth c H locs (f.2.2.2.1.length - n0) (qm_tot f.2.2.2.1 - t0) Q (F0 m f.1 ls (f.2.2.1.map (qm_cv b B)))
theorem qm_np {np pc k : Nat} (h : Nat.beq np (pc + k) = true) : np = pc + k := Nat.eq_of_beq_eq_true h
theorem qm_dg {cc : ByteArray} {pc np k : Nat} {ins : Instr} (h : decode cc pc = .ok (ins, np - pc)) (hn : np = pc + k) : decode cc pc = .ok (ins, k) := by
  rw [hn, Nat.add_sub_cancel_left] at h
  exact h
theorem qm_in_iff {i : Int32} {n : Nat} (h : qm_in i n = true) : vp_in i n := of_decide_eq_true (p := ¬ (i < 0 ∨ n ≤ i.toNatClampNeg)) h
