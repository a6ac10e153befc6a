/-! new int[n][k]: the machine's own step, by the state that it comes to -/
def qm_mo (cA : ClassId) (N h0 i : Nat) : Cell := arrV cA N (fun j => va_rf (if j < i then some (h0 + 1 + j) else none))
def qm_mi (cI : ClassId) (K : Nat) : Cell := arrV cI K (fun _ => .int 0)
def qm_mf (s : State) (cA cI : ClassId) (N K : Nat) : Nat → State
  | 0 => s.pushCell (qm_mo cA N s.heap.size 0)
  | i + 1 => ((qm_mf s cA cI N K i).pushCell (qm_mi cI K)).setCell s.heap.size (qm_mo cA N s.heap.size (i + 1))
theorem qm_mo_0 (cA : ClassId) (N h0 : Nat) : ({ cls := cA, slots := Array.replicate N .null, vm := .none } : Cell) = qm_mo cA N h0 0 := by
  rw [arrV_new]
  exact congrArg (arrV cA N) (funext fun j => by simp [va_rf])
theorem qm_mo_s (cA : ClassId) (N h0 i : Nat) : (qm_mo cA N h0 i).setSlot i (.ref (h0 + 1 + i)) = qm_mo cA N h0 (i + 1) := by
  unfold qm_mo
  rw [arrV_store]
  refine congrArg (arrV cA N) (funext fun j => ?_)
  by_cases e : j = i
  · subst e
    simp [updV, va_rf]
  · by_cases hl : j < i
    · simp [updV, e, hl, Nat.lt_succ_of_lt hl]
    · simp [updV, e, hl, show ¬ j < i + 1 by omega]
theorem qm_mf_vm (s : State) (cA cI : ClassId) (N K : Nat) : ∀ i, (qm_mf s cA cI N K i).vm = s.vm
  | 0 => rfl
  | i + 1 => by
    show (qm_mf s cA cI N K i).vm = s.vm
    exact qm_mf_vm s cA cI N K i
theorem qm_mf_size (s : State) (cA cI : ClassId) (N K : Nat) : ∀ i, (qm_mf s cA cI N K i).heap.size = s.heap.size + 1 + i
  | 0 => by simp [qm_mf]
  | i + 1 => by
    have ih := qm_mf_size s cA cI N K i
    simp [qm_mf, State.setCell, ih]
    omega
theorem qm_mf_used (s : State) (cA cI : ClassId) (N K : Nat) : ∀ i, (qm_mf s cA cI N K i).slotsUsed = s.slotsUsed + N + i * K
  | 0 => by simp [qm_mf, qm_mo, arrV_size]
  | i + 1 => by
    have ih := qm_mf_used s cA cI N K i
    simp [qm_mf, ih, qm_mi, arrV_size, Nat.succ_mul]
    omega
theorem qm_mf_out (s : State) (cA cI : ClassId) (N K : Nat) : ∀ i, (qm_mf s cA cI N K i).heap[s.heap.size]? = some (qm_mo cA N s.heap.size i)
  | 0 => by simp [qm_mf]
  | i + 1 => by
    have ih := qm_mf_out s cA cI N K i
    have hlt : s.heap.size < (qm_mf s cA cI N K i).heap.size := by rw [qm_mf_size]; omega
    exact State.heap_setCell_self (c := qm_mo cA N s.heap.size i) (by rw [State.heap_pushCell_of_lt (h := hlt)]; exact ih)
theorem qm_mf_old (s : State) (cA cI : ClassId) (N K : Nat) {a : Nat} (ha : a < s.heap.size) : ∀ i, (qm_mf s cA cI N K i).heap[a]? = s.heap[a]?
  | 0 => State.heap_pushCell_of_lt _ _ ha
  | i + 1 => by
    have hlt : a < (qm_mf s cA cI N K i).heap.size := by rw [qm_mf_size]; omega
    show (((qm_mf s cA cI N K i).pushCell (qm_mi cI K)).setCell s.heap.size _).heap[a]? = _
    rw [State.heap_setCell_other (Nat.ne_of_gt ha), State.heap_pushCell_of_lt (h := hlt)]
    exact qm_mf_old s cA cI N K ha i
theorem qm_mf_in (s : State) (cA cI : ClassId) (N K : Nat) : ∀ i j, j < i → (qm_mf s cA cI N K i).heap[s.heap.size + 1 + j]? = some (qm_mi cI K)
  | 0, _, h => absurd h (Nat.not_lt_zero _)
  | i + 1, j, h => by
    have hz := qm_mf_size s cA cI N K i
    show (((qm_mf s cA cI N K i).pushCell (qm_mi cI K)).setCell s.heap.size _).heap[s.heap.size + 1 + j]? = _
    rw [State.heap_setCell_other (show s.heap.size ≠ s.heap.size + 1 + j by omega)]
    by_cases e : j = i
    · subst e
      rw [← hz]
      exact State.heap_pushCell_size _ _
    · have hlt : s.heap.size + 1 + j < (qm_mf s cA cI N K i).heap.size := by rw [hz]; omega
      rw [State.heap_pushCell_of_lt (h := hlt)]
      exact qm_mf_in s cA cI N K i j (by omega)
theorem qm_mf_top (s : State) (f : JFrame) (cA cI : ClassId) (N K : Nat) : ∀ i, qm_mf (s.setTop f) cA cI N K i = (qm_mf s cA cI N K i).setTop f
  | 0 => rfl
  | i + 1 => by simp only [qm_mf, qm_mf_top s f cA cI N K i, State.heap_setTop, State.pushCell_setTop, State.setCell_setTop]
section QMW
variable {E : CtlPost} {e : Env} {d : Bool} {acts : List Action} {s : State}
theorem qm_wp_arr {c comp : ClassId} {k : Class} {type : FieldType} {len : Nat} {init : Value} (hk : s.vm.classes[c]? = some k) (hkind : k.kind = .array comp type)
    (hlimit : ¬ len > e.platform.arrayLengthLimit) (hheap : ¬ len * componentBytes type > e.platform.maxHeapBytes) (hfit : fits type init = true) (hdef : init.isDefault = true) {Q : Addr → Pre}
    (h1 : s.heap.size < e.platform.maxCells) (h2 : s.slotsUsed + len ≤ e.platform.maxSlots)
    (hq : Q s.heap.size d acts (s.pushCell { cls := c, slots := Array.replicate len init, vm := .none })) : wp (Jvm.newArray c len init) Q E e d acts s := by
  have hfits : ∀ i v, (Array.replicate len init)[i]? = some v → s.fitsSlot c .none i v = true := by
    intro i v hv
    rw [Array.getElem?_replicate] at hv
    by_cases hi : i < len
    · rw [if_pos hi] at hv
      cases hv
      simp [State.fitsSlot, State.slotType?, hk, hkind, hfit]
    · rw [if_neg hi] at hv
      cases hv
  have hacts : allocActs (Array.replicate len init) s.heap.size acts = acts := by
    unfold allocActs
    rw [if_pos]
    rw [Array.all_replicate]
    split <;> simp [hdef]
  simp only [Jvm.newArray, Jvm.arrayFits, wp_bind', W.ask, W.ite, hlimit, if_false, wp_pure', W.theClass, hk, hkind, hheap, W.alloc, W.stop, Option.some.injEq, exists_eq_left', Array.size_replicate, hacts]
  rw [if_neg (by omega)]
  exact ⟨h1, h2, hfits, hq⟩
theorem qm_wp_row {comp cm : ClassId} {kc : Class} {m : Int32} (hkc : s.vm.classes[comp]? = some kc) (hkindc : kc.kind = .array cm .int) (hm : ¬ m < 0)
    (hl2 : ¬ m.toNatClampNeg > e.platform.arrayLengthLimit) (hh2 : ¬ m.toNatClampNeg * componentBytes .int > e.platform.maxHeapBytes) (h1 : s.heap.size < e.platform.maxCells) (h2 : s.slotsUsed + m.toNatClampNeg ≤ e.platform.maxSlots)
    {Q : Addr → Pre} (hq : Q s.heap.size d acts (s.pushCell (qm_mi comp m.toNatClampNeg))) : wp (Op.multianewarray.make comp [m]) Q E e d acts s := by
  rw [Op.multianewarray.make]
  simp only [wp_bind', W.ite, hm, if_false, wp_pure', W.theClass, hkc, hkindc, Option.some.injEq, exists_eq_left']
  refine qm_wp_arr hkc hkindc hl2 hh2 rfl rfl h1 h2 ?_
  rw [arrV_new]
  exact hq
theorem qm_wp_rows {c comp cm : ClassId} {k kc : Class} {n m : Int32} (hk : s.vm.classes[c]? = some k) (hkind : k.kind = .array comp (.array .int)) (hkc : s.vm.classes[comp]? = some kc) (hkindc : kc.kind = .array cm .int) (hn : ¬ n < 0) (hm : ¬ m < 0)
    (hl1 : ¬ n.toNatClampNeg > e.platform.arrayLengthLimit) (hh1 : ¬ n.toNatClampNeg * componentBytes (.array .int) > e.platform.maxHeapBytes) (hl2 : ¬ m.toNatClampNeg > e.platform.arrayLengthLimit) (hh2 : ¬ m.toNatClampNeg * componentBytes .int > e.platform.maxHeapBytes)
    (hc : s.heap.size + 1 + n.toNatClampNeg ≤ e.platform.maxCells) (hs : s.slotsUsed + n.toNatClampNeg + n.toNatClampNeg * m.toNatClampNeg ≤ e.platform.maxSlots)
    {Q : Addr → Pre} (hq : ∀ d' acts', Q s.heap.size d' acts' (qm_mf s c comp n.toNatClampNeg m.toNatClampNeg n.toNatClampNeg)) : wp (Op.multianewarray.make c [n, m]) Q E e d acts s := by
  have hfind : ([m].find? (· < 0)) = none := by simp [hm]
  rw [Op.multianewarray.make]
  simp only [wp_bind', W.ite, hn, if_false, wp_pure', W.theClass, hk, hkind, Option.some.injEq, exists_eq_left']
  generalize hN : n.toNatClampNeg = N at *
  refine qm_wp_arr hk hkind hl1 hh1 rfl rfl (by omega) (by have := Nat.zero_le (N * m.toNatClampNeg); omega) ?_
  simp only [hfind]
  rw [ite_self, wp_bind', Std.Legacy.Range.forIn_eq_forIn_range']
  have hsz : ([:N] : Std.Legacy.Range).size = N := by simp [Std.Legacy.Range.size]
  rw [hsz]
  show wp (forIn (List.range' 0 N 1) PUnit.unit _) _ E e d acts _
  refine wp_forIn_inv (fun rest s' => ∃ i, i + rest.length = N ∧ rest = List.range' i rest.length ∧ s' = qm_mf s c comp N m.toNatClampNeg i) _ _ ⟨0, by simp, by simp, by rw [qm_mo_0 c N s.heap.size]; rfl⟩ ?_ ?_
  · rintro x rest s' d' acts' Q' ⟨i, hi, hl, rfl⟩ hnext
    simp only [List.length_cons] at hi hl
    rw [List.range'_succ] at hl
    obtain ⟨rfl, hrest⟩ := List.cons.inj hl
    have f1 := qm_mf_size s c comp N m.toNatClampNeg x
    have f3 := qm_mf_vm s c comp N m.toNatClampNeg x
    have f4 := qm_mf_used s c comp N m.toNatClampNeg x
    have hmul : x * m.toNatClampNeg + m.toNatClampNeg ≤ N * m.toNatClampNeg := by
      have := Nat.mul_le_mul_right m.toNatClampNeg (show x + 1 ≤ N by omega)
      rw [Nat.succ_mul] at this
      exact this
    simp only [wp_bind']
    refine qm_wp_row (by rw [f3]; exact hkc) hkindc hm hl2 hh2 (by rw [f1]; omega) (by rw [f4]; omega) ?_
    have hlt0 : s.heap.size < (qm_mf s c comp N m.toNatClampNeg x).heap.size := by rw [f1]; omega
    simp only [wp_bind', W.writeLoc, wp_pure']
    refine ⟨qm_mo c N s.heap.size x, by rw [State.heap_pushCell_of_lt (h := hlt0)]; exact qm_mf_out s c comp N m.toNatClampNeg x, (fun q => by cases q), by show x < (arrV _ _ _).slots.size; rw [arrV_size]; omega, ?_, hnext _ _ _ ⟨x + 1, by omega, hrest, ?_⟩⟩
    · show State.fitsSlot _ c .none x _ = true
      simp [State.fitsSlot, State.slotType?, f3, hk, hkind, fits]
    · rw [f1, qm_mo_s]
      rfl
  · rintro s' d' acts' ⟨i, hi, hl, rfl⟩
    simp only [List.length_nil, Nat.add_zero] at hi
    subst hi
    simp only [wp_pure']
    exact hq _ _
end QMW
section QMT
variable {p : Program} {l : Launch} {e : Env} {R : Room} {s : State} {m : MethodId} {args : Array Value} {below : List Frame} {meth : Method} {c : Code} {T : State} {locs : List Loc} {cells slots : Nat}
theorem qm_mf_stand (X : Stand p l e R s m args below meth c T locs cells slots) (cA cI : ClassId) (N K : Nat) : ∀ i, Stand p l e R s m args below meth c (qm_mf T cA cI N K i) (locs ++ (List.range i).map fun j => ⟨T.heap.size, j⟩) (cells + 1 + i) (slots + N + i * K)
  | 0 => by
    have h := X.pushed (qm_mo cA N T.heap.size 0)
    rw [show (qm_mo cA N T.heap.size 0).slots.size = N from arrV_size _ _ _] at h
    simpa [qm_mf] using h
  | i + 1 => by
    have Xi := qm_mf_stand X cA cI N K i
    have hlt0 : T.heap.size < (qm_mf T cA cI N K i).heap.size := by rw [qm_mf_size]; omega
    have hcell : ((qm_mf T cA cI N K i).pushCell (qm_mi cI K)).heap[T.heap.size]? = some (qm_mo cA N T.heap.size i) := by rw [State.heap_pushCell_of_lt (h := hlt0)]; exact qm_mf_out T cA cI N K i
    have h := (Xi.pushed (qm_mi cI K)).stored hcell i (.ref (T.heap.size + 1 + i))
    rw [show (qm_mi cI K).slots.size = K from arrV_size _ _ _, qm_mo_s] at h
    have e2 : (locs ++ (List.range (i + 1)).map fun j => (⟨T.heap.size, j⟩ : Loc)) = (locs ++ (List.range i).map fun j => (⟨T.heap.size, j⟩ : Loc)) ++ [⟨T.heap.size, i⟩] := by simp [List.range_succ, List.append_assoc]
    have e3 : slots + N + (i + 1) * K = slots + N + i * K + K := by rw [Nat.succ_mul]; omega
    rw [e2, e3]
    exact h
/-- what the tables say of int[][] -/
theorem qm_over {args : Array Value} {s : State} (h : (Cond.arrayOver (.array .int)).before args s = true) : ∃ comp c k, s.vm.findClass (FieldType.array .int).toString = some comp ∧ s.vm.classes[c]? = some k ∧ k.kind = .array comp (.array .int) ∧ s.vm.findClass ("[" ++ (FieldType.array .int).toString) = some c := by
  simp only [Cond.before, Cond.holds, Cond.value, beq_iff_eq] at h
  cases hc : s.vm.findClass (FieldType.array .int).toString with
  | none => simp [hc] at h
  | some comp =>
    simp only [hc, Option.bind_some, Option.bind_eq_some_iff, Option.map_eq_some_iff] at h
    obtain ⟨c, hi, k, hk, hb⟩ := h
    obtain ⟨hlt, hp, -⟩ := Array.findIdx?_eq_some_iff_getElem.mp hi
    have hkk : s.vm.classes[c] = k := (Array.getElem?_eq_some_iff.mp hk).2
    rw [hkk] at hp
    cases hkind : k.kind with
    | array component ty =>
      rw [hkind] at hb hp
      simp at hb hp
      exact ⟨comp, c, k, rfl, hk, by rw [hkind, hp, hb.1], hb.2⟩
    | _ => rw [hkind] at hb; simp at hb
theorem qm_multi (X : Stand p l e R s m args below meth c T locs cells slots) (hexec : p.tables.exec = Jvm.exec) {own : String} {index : Nat} (hown : s.vm.findClass own = some m.cls) (hclink : (Cond.classLink own index ("[" ++ (FieldType.array .int).toString)).before args s = true) (hover : (Cond.arrayOver (.array .int)).before args s = true) (harr : (Cond.arrayClass .int).before args s = true)
    {g : JFrame} (hg : g.method = m) (hdg : decode c.code g.pc = .ok (.multianewarray index 2, 4)) {n k : Int32} {rest : List Value} (hstack : g.stack = .int k :: .int n :: rest) (hn : ¬ n < 0) (hk : ¬ k < 0) (hb1 : n.toNatClampNeg ≤ 1000) (hb2 : k.toNatClampNeg ≤ 1000)
    (hcells : cells + (1 + n.toNatClampNeg) ≤ R.cells) (hslots : slots + (n.toNatClampNeg + n.toNatClampNeg * k.toNatClampNeg) ≤ R.slots) :
    ∃ (vm₁ : Vm) (cA comp : ClassId), s.vm.findClass ("[" ++ (FieldType.array .int).toString) = some cA ∧ s.vm.findClass (FieldType.array .int).toString = some comp ∧
      Stand p l e R s m args below meth c (qm_mf (T.setVm vm₁) cA comp n.toNatClampNeg k.toNatClampNeg n.toNatClampNeg) (locs ++ (List.range n.toNatClampNeg).map fun j => ⟨T.heap.size, j⟩) (cells + 1 + n.toNatClampNeg) (slots + n.toNatClampNeg + n.toNatClampNeg * k.toNatClampNeg) ∧
      ∀ target, Steps p.tables e below ((qm_mf (T.setVm vm₁) cA comp n.toNatClampNeg k.toNatClampNeg n.toNatClampNeg).setTop { g with pc := g.pc + 4, stack := .ref T.heap.size :: rest }) target → Steps p.tables e below (T.setTop g) target := by
  subst hg
  have hpl : e.platform.magicAccessors = ({} : Platform).magicAccessors := by rw [X.admits.platform]
  obtain ⟨comp, cA, kA, hcomp, hkA, hkindA, hnameA⟩ := qm_over hover
  obtain ⟨comp', kC, cm, hcomp', hkC, hkindC⟩ := Cond.arrayClass_spec harr
  have ecomp : comp' = comp := Option.some.inj (hcomp'.symm.trans hcomp)
  subst ecomp
  obtain ⟨c0, hfc0, hcl⟩ := Cond.classLink_spec hown hclink e.platform hpl
  cases hnameA.symm.trans hfc0
  obtain ⟨hg₁, hwarm₁, -⟩ := State.classEntry (e := e) X.warmed hcl
  generalize T.vm.noted g.method.cls index (.cls cA) = vm₁ at hg₁ hwarm₁
  obtain ⟨kA₁, hkA₁, heA⟩ := hwarm₁.alike.2.2 _ _ hkA
  obtain ⟨kC₁, hkC₁, heC⟩ := hwarm₁.alike.2.2 _ _ hkC
  have X₁ := X.noted hwarm₁
  obtain ⟨hr1, hr2⟩ := X.roomAbove hcells hslots
  refine ⟨vm₁, cA, comp', hnameA, hcomp, qm_mf_stand X₁ cA comp' _ _ _, fun target hrest => ?_⟩
  have hl1 : ¬ n.toNatClampNeg > e.platform.arrayLengthLimit := by rw [Launch.admits_arrayLengthLimit X.admits]; omega
  have hl2 : ¬ k.toNatClampNeg > e.platform.arrayLengthLimit := by rw [Launch.admits_arrayLengthLimit X.admits]; omega
  have hh1 : ¬ n.toNatClampNeg * componentBytes (.array .int) > e.platform.maxHeapBytes := by
    rw [Launch.admits_maxHeapBytes X.admits]; show ¬ n.toNatClampNeg * 4 > 536870912; omega
  have hh2 : ¬ k.toNatClampNeg * componentBytes .int > e.platform.maxHeapBytes := by
    rw [Launch.admits_maxHeapBytes X.admits]; show ¬ k.toNatClampNeg * 4 > 536870912; omega
  jvm_step X.here [hexec, hdg]
  simp only [Op.multianewarray.sem, wp_bind', W.resolveClassAt_links (State.method?_setTop g X.here.top) hg₁]
  rw [W.popN, if_neg (by decide)]
  refine ⟨g, State.topJava?_setTop' (s := T.setVm vm₁) g X.here.top, [.int n, .int k], rest, rfl, hstack, ?_⟩
  simp only [List.mapM_cons, List.mapM_nil, wp_bind', wp_pure']
  refine qm_wp_rows (k := kA₁) (kc := kC₁) (comp := comp') (cm := cm) hkA₁ (by rw [heA]; exact hkindA) hkC₁ (by rw [heC]; exact hkindC) hn hk hl1 hh1 hl2 hh2 (by show T.heap.size + 1 + _ ≤ _; omega) (by show T.slotsUsed + _ + _ ≤ _; omega) (fun d' acts' => ?_)
  have XF := qm_mf_stand X₁ cA comp' n.toNatClampNeg k.toNatClampNeg n.toNatClampNeg
  have eS : ((T.setTop g).setVm vm₁).setTop { g with stack := rest } = (T.setVm vm₁).setTop { g with stack := rest } := by
    show ((T.setVm vm₁).setTop g).setTop _ = _
    rw [State.setTop_setTop]
  rw [eS, qm_mf_top]
  simp only [wp_bind', W.mark, W.pushRef, State.topJava?_setTop' _ XF.here.top, Option.some.injEq, exists_eq_left', State.setTop_setTop, State.heap_setTop]
  intro acts
  simp [jvm, XF.here.top]
  exact hrest
end QMT
