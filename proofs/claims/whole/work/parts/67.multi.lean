/-! ===== an array of arrays of ints: the machine's own instruction ===== -/
section MULC
variable {p : Program} {l : Launch} {e : Env} {R : Room} {s : State} {m : MethodId} {args : Array Value} {below : List Frame} {meth : Method} {c : Code} {T : State} {locs : List Loc} {cells slots : Nat}
/-- the outer array, its first i places filled -/
def mo_cell (cA : ClassId) (N h i : Nat) : Cell := arrV cA N (fun j => if j < i then .ref (h + 1 + j) else .null)
/-- a row of it -/
def mo_row (cI : ClassId) (M : Nat) : Cell := arrV cI M (fun _ => .int 0)
/-- the state with the outer array and i rows -/
def mo_st (T : State) (cA cI : ClassId) (N M : Nat) : Nat → State
  | 0 => T.pushCell (mo_cell cA N T.heap.size 0)
  | i + 1 => ((mo_st T cA cI N M i).pushCell (mo_row cI M)).setCell T.heap.size (mo_cell cA N T.heap.size (i + 1))
theorem mo_next (cA : ClassId) (N h i : Nat) : (mo_cell cA N h i).setSlot i (.ref (h + 1 + i)) = mo_cell cA N h (i + 1) := by
  unfold mo_cell
  rw [arrV_store]
  congr 1
  funext j
  unfold updV
  by_cases hj : j = i
  · subst hj; simp
  · rw [if_neg hj]
    dsimp only
    by_cases h2 : j < i
    · rw [if_pos h2, if_pos (by omega)]
    · rw [if_neg h2, if_neg (by omega)]
theorem mo_heap (T : State) (cA cI : ClassId) (N M : Nat) : ∀ i, (mo_st T cA cI N M i).heap.size = T.heap.size + 1 + i ∧ (mo_st T cA cI N M i).heap[T.heap.size]? = some (mo_cell cA N T.heap.size i) ∧ (∀ q, q < T.heap.size → (mo_st T cA cI N M i).heap[q]? = T.heap[q]?) ∧ ∀ j, j < i → (mo_st T cA cI N M i).heap[T.heap.size + 1 + j]? = some (mo_row cI M)
  | 0 => by
    show (T.heap.push _).size = _ ∧ (T.heap.push _)[T.heap.size]? = _ ∧ (∀ q, q < T.heap.size → (T.heap.push _)[q]? = _) ∧ _
    refine ⟨by rw [Array.size_push], Array.getElem?_push_size, fun q hq => ?_, fun j hj => by omega⟩
    rw [Array.getElem?_push, if_neg (Nat.ne_of_lt hq)]
  | i + 1 => by
    obtain ⟨h1, h2, h3, h4⟩ := mo_heap T cA cI N M i
    show (((mo_st T cA cI N M i).heap.push _).setIfInBounds _ _).size = _ ∧ (((mo_st T cA cI N M i).heap.push _).setIfInBounds _ _)[T.heap.size]? = _ ∧ (∀ q, q < T.heap.size → (((mo_st T cA cI N M i).heap.push _).setIfInBounds _ _)[q]? = _) ∧ ∀ j, j < i + 1 → (((mo_st T cA cI N M i).heap.push _).setIfInBounds _ _)[T.heap.size + 1 + j]? = _
    generalize (mo_st T cA cI N M i).heap = H at h1 h2 h3 h4
    refine ⟨by rw [Array.size_setIfInBounds, Array.size_push]; omega, ?_, fun q hq => ?_, fun j hj => ?_⟩
    · rw [Array.getElem?_setIfInBounds, if_pos rfl, if_pos (by rw [Array.size_push]; omega)]
    · rw [Array.getElem?_setIfInBounds, if_neg (by omega), Array.getElem?_push, if_neg (by omega)]
      exact h3 q hq
    · rw [Array.getElem?_setIfInBounds, if_neg (by omega), Array.getElem?_push]
      by_cases hc : j = i
      · rw [if_pos (by omega)]
      · rw [if_neg (by omega)]
        exact h4 j (by omega)
theorem mo_vm (T : State) (cA cI : ClassId) (N M : Nat) : ∀ i, (mo_st T cA cI N M i).vm = T.vm
  | 0 => rfl
  | i + 1 => mo_vm T cA cI N M i
theorem mo_top (T : State) (cA cI : ClassId) (N M : Nat) : ∀ i, (mo_st T cA cI N M i).topJava? = T.topJava?
  | 0 => rfl
  | i + 1 => mo_top T cA cI N M i
theorem mo_stand (X : Stand p l e R s m args below meth c T locs cells slots) (cA cI : ClassId) (N M : Nat) : ∀ i, ∃ l2 : List Loc, (∀ x ∈ l2, x.base = T.heap.size) ∧ Stand p l e R s m args below meth c (mo_st T cA cI N M i) (locs ++ l2) (cells + 1 + i) (slots + N + i * M)
  | 0 => by
    refine ⟨[], fun x hx => (by cases hx), ?_⟩
    have X1 := X.pushed (mo_cell cA N T.heap.size 0)
    rw [show (mo_cell cA N T.heap.size 0).slots.size = N from arrV_size _ _ _] at X1
    rw [List.append_nil, Nat.zero_mul]
    exact X1
  | i + 1 => by
    obtain ⟨l2, hl, Xi⟩ := mo_stand X cA cI N M i
    obtain ⟨h1, h2, -, -⟩ := mo_heap T cA cI N M i
    have X1 := Xi.pushed (mo_row cI M)
    rw [show (mo_row cI M).slots.size = M from arrV_size _ _ _] at X1
    have hc : ((mo_st T cA cI N M i).pushCell (mo_row cI M)).heap[T.heap.size]? = some (mo_cell cA N T.heap.size i) := by
      show ((mo_st T cA cI N M i).heap.push _)[T.heap.size]? = _
      rw [Array.getElem?_push, if_neg (by omega)]
      exact h2
    have X2 := X1.stored hc i (.ref (T.heap.size + 1 + i))
    rw [mo_next] at X2
    refine ⟨l2 ++ [⟨T.heap.size, i⟩], fun x hx => ?_, ?_⟩
    · rcases List.mem_append.mp hx with h | h
      · exact hl x h
      · rw [List.mem_singleton.mp h]
    · rw [← List.append_assoc, show cells + 1 + (i + 1) = cells + 1 + i + 1 from rfl, show slots + N + (i + 1) * M = slots + N + i * M + M by rw [Nat.succ_mul]; omega]
      exact X2
end MULC
section MULW
variable {E : CtlPost} {e : Env} {d : Bool} {acts : List Action} {s : State} {f : JFrame} {cA cI cc : ClassId} {kA kI : Class}
theorem mo_newArr {Q : Addr → Pre} {len : Nat} {init : Value} {ty : FieldType} (hk : s.vm.classes[cI]? = some kI) (hkind : kI.kind = .array cc ty) (hlim : ¬ len > e.platform.arrayLengthLimit) (hheap : ¬ len * componentBytes ty > e.platform.maxHeapBytes) (hty : fits ty init = true) (h1 : s.heap.size < e.platform.maxCells) (h2 : s.slotsUsed + len ≤ e.platform.maxSlots) (hQ : ∀ acts', Q s.heap.size d acts' (s.pushCell (arrV cI len (fun _ => init)))) : wp (Jvm.newArray cI len init) Q E e d acts s := by
  have hfit : ∀ i v, (Array.replicate len init)[i]? = some v → s.fitsSlot cI .none i v = true := by
    intro i v hv
    rw [Array.getElem?_replicate] at hv
    split at hv
    · cases hv; simp [State.fitsSlot, State.slotType?, hk, hkind, hty]
    · cases hv
  have h3 : ¬ len > e.platform.maxSlots := by omega
  simp only [Jvm.newArray, Jvm.arrayFits, wp_bind', W.ask, W.ite, hlim, if_false, W.theClass, hk, Option.some.injEq, exists_eq_left', hkind, hheap, h3, wp_pure', W.alloc]
  refine ⟨h1, by rw [Array.size_replicate]; exact h2, hfit, ?_⟩
  rw [arrV_new]
  exact hQ _
theorem mo_make1 {Q : Addr → Pre} {k : Int32} (hk : s.vm.classes[cI]? = some kI) (hkind : kI.kind = .array cc .int) (hm : ¬ k < 0) (hlim : ¬ k.toNatClampNeg > e.platform.arrayLengthLimit) (hheap : ¬ k.toNatClampNeg * 4 > e.platform.maxHeapBytes) (h1 : s.heap.size < e.platform.maxCells) (h2 : s.slotsUsed + k.toNatClampNeg ≤ e.platform.maxSlots) (hQ : ∀ acts', Q s.heap.size d acts' (s.pushCell (mo_row cI k.toNatClampNeg))) : wp (Jvm.Op.multianewarray.make cI [k]) Q E e d acts s := by
  simp only [Jvm.Op.multianewarray.make, wp_bind', W.ite, hm, if_false, wp_pure', W.theClass]
  refine ⟨kI, hk, ?_⟩
  rw [hkind]
  exact mo_newArr hk hkind hlim hheap rfl h1 h2 hQ
theorem mo_make2 {Q : Addr → Pre} {n k : Int32} (hkA : s.vm.classes[cA]? = some kA) (hkindA : kA.kind = .array cI (.array .int)) (hk : s.vm.classes[cI]? = some kI) (hkind : kI.kind = .array cc .int) (hn : ¬ n < 0) (hm : ¬ k < 0) (hlimN : ¬ n.toNatClampNeg > e.platform.arrayLengthLimit) (hheapN : ¬ n.toNatClampNeg * 4 > e.platform.maxHeapBytes) (hlim : ¬ k.toNatClampNeg > e.platform.arrayLengthLimit) (hheap : ¬ k.toNatClampNeg * 4 > e.platform.maxHeapBytes) (h1 : s.heap.size < e.platform.maxCells) (h2 : s.slotsUsed + n.toNatClampNeg ≤ e.platform.maxSlots) (hR : ∀ i, i < n.toNatClampNeg → (mo_st s cA cI n.toNatClampNeg k.toNatClampNeg i).heap.size < e.platform.maxCells ∧ (mo_st s cA cI n.toNatClampNeg k.toNatClampNeg i).slotsUsed + k.toNatClampNeg ≤ e.platform.maxSlots) (hQ : ∀ d' acts', Q s.heap.size d' acts' (mo_st s cA cI n.toNatClampNeg k.toNatClampNeg n.toNatClampNeg)) : wp (Jvm.Op.multianewarray.make cA [n, k]) Q E e d acts s := by
  rw [Jvm.Op.multianewarray.make]
  simp only [wp_bind', W.ite, hn, if_false, wp_pure', W.theClass]
  refine ⟨kA, hkA, ?_⟩
  rw [hkindA]
  simp only [wp_bind']
  refine mo_newArr hkA hkindA hlimN hheapN rfl h1 h2 fun acts' => ?_
  have hf : List.find? (fun x : Int32 => decide (x < 0)) [k] = none := by simp [hm]
  rw [hf]
  simp only [ite_self, wp_bind', Std.Legacy.Range.forIn_eq_forIn_range']
  have hz : ∀ N : Nat, ([:N] : Std.Legacy.Range).size = N := fun N => by simp [Std.Legacy.Range.size]
  rw [hz]
  refine wp_forIn_inv (fun rest s' => ∃ i, i ≤ n.toNatClampNeg ∧ rest = List.range' i (n.toNatClampNeg - i) ∧ s' = mo_st s cA cI n.toNatClampNeg k.toNatClampNeg i) _ _ ⟨0, by omega, rfl, ?_⟩ ?_ ?_
  · show s.pushCell _ = s.pushCell (mo_cell cA n.toNatClampNeg s.heap.size 0)
    unfold mo_cell
    simp
  · rintro x rest s' d' acts1 Q' ⟨i, hi, hr, rfl⟩ hq
    have hlt : i < n.toNatClampNeg := by
      refine Nat.lt_of_le_of_ne hi fun h => ?_
      rw [← h, Nat.sub_self] at hr
      cases hr
    rw [show n.toNatClampNeg - i = (n.toNatClampNeg - (i + 1)) + 1 by omega, List.range'_succ] at hr
    obtain ⟨rfl, rfl⟩ := List.cons.inj hr
    obtain ⟨b1, b2, -, -⟩ := mo_heap s cA cI n.toNatClampNeg k.toNatClampNeg x
    have hvm := mo_vm s cA cI n.toNatClampNeg k.toNatClampNeg x
    simp only [wp_bind']
    refine mo_make1 (by rw [hvm]; exact hk) hkind hm hlim hheap (hR x hlt).1 (hR x hlt).2 fun acts2 => ?_
    simp only [wp_bind', W.writeLoc, wp_pure']
    refine ⟨mo_cell cA n.toNatClampNeg s.heap.size x, ?_, fun h => (by cases h), ?_, ?_, ?_⟩
    · show ((mo_st s cA cI n.toNatClampNeg k.toNatClampNeg x).heap.push _)[s.heap.size]? = _
      rw [Array.getElem?_push, if_neg (by omega)]
      exact b2
    · show x < (arrV _ _ _).slots.size
      rw [arrV_size]
      exact hlt
    · have hkA' : (mo_st s cA cI n.toNatClampNeg k.toNatClampNeg x).vm.classes[cA]? = some kA := by rw [hvm]; exact hkA
      show State.fitsSlot _ cA .none x _ = true
      simp [State.fitsSlot, State.slotType?, hkA', hkindA, fits]
    · rw [b1, mo_next]
      exact hq _ _ _ ⟨x + 1, hlt, rfl, rfl⟩
  · rintro s' d' acts1 ⟨i, hi, hr, rfl⟩
    have he : i = n.toNatClampNeg := by
      have := congrArg List.length hr
      simp at this
      omega
    subst he
    exact hQ _ _
theorem mo_sem {Q : Unit → Pre} {idx : Nat} {n k : Int32} {rest : List Value} (hs : s.topJava?.isSome) (hr : s.vm.classReady f.method.cls idx cA) (hkA : s.vm.classes[cA]? = some kA) (hkindA : kA.kind = .array cI (.array .int)) (hk : s.vm.classes[cI]? = some kI) (hkind : kI.kind = .array cc .int) (hstack : f.stack = .int k :: .int n :: rest) (hn : ¬ n < 0) (hm : ¬ k < 0) (hlimN : ¬ n.toNatClampNeg > e.platform.arrayLengthLimit) (hheapN : ¬ n.toNatClampNeg * 4 > e.platform.maxHeapBytes) (hlim : ¬ k.toNatClampNeg > e.platform.arrayLengthLimit) (hheap : ¬ k.toNatClampNeg * 4 > e.platform.maxHeapBytes) (h1 : s.heap.size < e.platform.maxCells) (h2 : s.slotsUsed + n.toNatClampNeg ≤ e.platform.maxSlots) (hR : ∀ i, i < n.toNatClampNeg → (mo_st s cA cI n.toNatClampNeg k.toNatClampNeg i).heap.size < e.platform.maxCells ∧ (mo_st s cA cI n.toNatClampNeg k.toNatClampNeg i).slotsUsed + k.toNatClampNeg ≤ e.platform.maxSlots) (hQ : ∀ d' acts', Q () d' acts' ((mo_st s cA cI n.toNatClampNeg k.toNatClampNeg n.toNatClampNeg).setTop { f with stack := .ref s.heap.size :: rest })) : wp (Jvm.Op.multianewarray.sem idx 2) Q E e d acts (s.setTop f) := by
  have ht : ∀ (g : JFrame) (i : Nat), mo_st (s.setTop g) cA cI n.toNatClampNeg k.toNatClampNeg i = (mo_st s cA cI n.toNatClampNeg k.toNatClampNeg i).setTop g := by
    intro g i
    induction i with
    | zero => rfl
    | succ i ih =>
      show ((mo_st (s.setTop g) cA cI n.toNatClampNeg k.toNatClampNeg i).pushCell _).setCell _ _ = _
      rw [ih]
      rfl
  have hp : wp (Jvm.popN 2) = wp (Jvm.popN [Value.int n, Value.int k].length) := rfl
  simp only [Jvm.Op.multianewarray.sem, wp_bind', W.resolveClassAt_ready (State.method?_setTop f hs) hr]
  rw [hp, popN_top hs (args := [.int n, .int k]) (rest := rest) (by rw [hstack]; rfl)]
  simp only [List.mapM_cons, List.mapM_nil, wp_bind', wp_pure']
  refine mo_make2 (kA := kA) (kI := kI) (cc := cc) (cI := cI) hkA hkindA hk hkind hn hm hlimN hheapN hlim hheap h1 h2 (fun i hi => ?_) fun d' acts' => ?_
  · rw [ht]
    exact hR i hi
  · rw [ht]
    have hs2 : (mo_st s cA cI n.toNatClampNeg k.toNatClampNeg n.toNatClampNeg).topJava?.isSome := by rw [mo_top]; exact hs
    simp only [wp_bind', W.mark, W.pushRef, State.topJava?_setTop' _ hs2, Option.some.injEq, exists_eq_left', State.setTop_setTop]
    exact hQ _ _
end MULW
section MULS
variable {p : Program} {l : Launch} {e : Env} {R : Room} {s : State} {m : MethodId} {args : Array Value} {below : List Frame} {meth : Method} {c : Code} {T : State} {locs : List Loc} {cells slots : Nat}
/-- the tables' word on the arrays of arrays of ints -/
theorem mo_over {args : Array Value} {s : State} (h : (Cond.arrayOver (.array .int)).before args s = true) : ∃ (comp cA : ClassId) (kA : Class), s.vm.findClass (FieldType.array .int).toString = some comp ∧ s.vm.classes[cA]? = some kA ∧ kA.kind = .array comp (.array .int) ∧ s.vm.findClass ("[" ++ (FieldType.array .int).toString) = some cA := by
  unfold Cond.before Cond.holds Cond.value at h
  rw [beq_iff_eq] at h
  dsimp only at h
  rw [Option.bind_eq_some_iff] at h
  obtain ⟨comp, q1, h⟩ := h
  rw [Option.bind_eq_some_iff] at h
  obtain ⟨cA, q2, h⟩ := h
  rw [Option.map_eq_some_iff] at h
  obtain ⟨kA, q3, h⟩ := h
  obtain ⟨lt, q4, -⟩ := Array.findIdx?_eq_some_iff_getElem.mp q2
  rw [(Array.getElem?_eq_some_iff.mp q3).2] at q4
  refine ⟨comp, cA, kA, q1, q3, ?_⟩
  cases hk : kA.kind with
  | array co ty =>
    rw [hk] at h q4
    dsimp only at h q4
    rw [Bool.and_eq_true, decide_eq_true_eq, decide_eq_true_eq] at h
    rw [beq_iff_eq] at q4
    exact ⟨by rw [q4, h.1], h.2⟩
  | _ => rw [hk] at h; cases h
theorem mo_cold {Q : Unit → Pre} {E : CtlPost} {d : Bool} {acts : List Action} {f : JFrame} {idx dim cA : Nat} {vm' : Vm} (hs : s.topJava?.isSome) (hg : (Jvm.resolveClass f.method.cls idx).Gives e.toSetting s.vm (.ok cA) vm') (hr : vm'.classReady f.method.cls idx cA) (hsz : vm'.classes.size ≤ s.vm.classes.size) : wp (Jvm.Op.multianewarray.sem idx dim) Q E e d acts (s.setTop f) ↔ wp (Jvm.Op.multianewarray.sem idx dim) Q E e d acts ((s.setVm vm').setTop f) := by
  simp only [Jvm.Op.multianewarray.sem, wp_bind']
  exact W.resolveClassAt_transfer (s := s.setTop f) (State.method?_setTop f hs) hg hr hsz
theorem mo_steps (X : Stand p l e R s m args below meth c T locs cells slots) (hexec : p.tables.exec = Jvm.exec) {own : String} {idx : Nat} (hown : s.vm.findClass own = some m.cls) (hclink : (Cond.classLink own idx ("[" ++ (FieldType.array .int).toString)).before args s = true) (hover : (Cond.arrayOver (.array .int)).before args s = true) (hac : (Cond.arrayClass .int).before args s = true)
    {g : JFrame} (hg : g.method = m) (hdg : decode c.code g.pc = .ok (.multianewarray idx 2, 4)) {n k : Int32} {rest : List Value} (hstack : g.stack = .int k :: .int n :: rest) (hn : ¬ n < 0) (hm : ¬ k < 0) (hbN : n.toNatClampNeg * 4 ≤ 536870912) (hbM : k.toNatClampNeg * 4 ≤ 536870912) (hcells : cells + (1 + n.toNatClampNeg) ≤ R.cells) (hslots : slots + (n.toNatClampNeg + n.toNatClampNeg * k.toNatClampNeg) ≤ R.slots) :
    ∃ (vm₁ : Vm) (cA cI : ClassId), s.WarmedH vm₁ ∧ s.vm.findClass ("[" ++ (FieldType.array .int).toString) = some cA ∧ s.vm.findClass ("[" ++ FieldType.int.toString) = some cI ∧
      ∀ target, Steps p.tables e below ((mo_st (T.setVm vm₁) cA cI n.toNatClampNeg k.toNatClampNeg n.toNatClampNeg).setTop { g with pc := g.pc + 4, stack := .ref T.heap.size :: rest }) target → Steps p.tables e below (T.setTop g) target := by
  subst hg
  have hpl : e.platform.magicAccessors = ({} : Platform).magicAccessors := by rw [X.admits.platform]
  obtain ⟨comp, cA, kA, f1, f2, f3, f4⟩ := mo_over hover
  obtain ⟨cI, kI, cc, i1, i2, i3⟩ := Cond.arrayClass_spec hac
  have hc : comp = cI := Option.some.inj (f1.symm.trans i1)
  subst hc
  obtain ⟨cB, hB, hcl⟩ := Cond.classLink_spec hown hclink e.platform hpl
  have hc2 : cB = cA := Option.some.inj (hB.symm.trans f4)
  subst hc2
  obtain ⟨hg1, hw1, hr1⟩ := State.classEntry (e := e) X.warmed hcl
  have hz : (T.vm.noted g.method.cls idx (.cls cB)).classes.size ≤ T.vm.classes.size := by rw [Vm.size_noted]; exact Nat.le_refl _
  generalize T.vm.noted g.method.cls idx (.cls cB) = vm₁ at hg1 hw1 hr1 hz
  obtain ⟨kA1, a1, a2⟩ := hw1.alike.2.2 _ _ f2
  obtain ⟨kI1, b1, b2⟩ := hw1.alike.2.2 _ _ i2
  have X1 := X.noted hw1
  have lim := Launch.admits_arrayLengthLimit X.admits
  have hea := Launch.admits_maxHeapBytes X.admits
  refine ⟨vm₁, cB, comp, hw1, f4, i1, fun target hrest => ?_⟩
  refine Steps.instr (c := c) X.here ?_
  rw [hdg]
  dsimp only
  rw [hexec]
  show wp (Jvm.Op.multianewarray.sem idx 2) _ _ e false [] (T.setTop g)
  rw [mo_cold X.here.top hg1 hr1 hz]
  obtain ⟨r1, r2⟩ := X1.roomAbove (a := 1) (b := n.toNatClampNeg) (by omega) (by omega)
  refine mo_sem (s := T.setVm vm₁) (kA := kA1) (kI := kI1) (cc := cc) X1.here.top hr1 a1 (by rw [a2]; exact f3) b1 (by rw [b2]; exact i3) hstack hn hm (by omega) (by omega) (by omega) (by omega) (by omega) r2 (fun i hi => ?_) fun d' acts' acts2 => ?_
  · obtain ⟨l2, -, Xi⟩ := mo_stand X1 cB comp n.toNatClampNeg k.toNatClampNeg i
    have hmul : (i + 1) * k.toNatClampNeg ≤ n.toNatClampNeg * k.toNatClampNeg := Nat.mul_le_mul_right _ hi
    rw [Nat.succ_mul] at hmul
    obtain ⟨u1, u2⟩ := Xi.roomAbove (a := 1) (b := k.toNatClampNeg) (by omega) (by omega)
    exact ⟨u1, u2⟩
  · rw [afterInstr_ok]
    exact hrest
end MULS
section VMUL
variable {g : GG} {R : Room} {mi : MI} {Z : List Frame → Array Value → State → State → Prop} {E : Array Value → State → Prop} {pc nx : Nat} {lv : List (Nat × Value)} {st : List Value} {φ : Nat → ce} {n ca sl : Nat}
def mw (g : GG) (φ : Nat → ce) (n N M : Nat) : Nat → ce := fun k => if k < n then φ k else if k = n then .inl (6, N, .inr (.inr (.inr (.inr (fun j => some (g.2.1 + (n + 1 + j))))))) else .inl (0, M, .inl (fun _ => 0))
theorem v_mnew {x y : Int} {N M idx : Nat} (hd : decode mi.2.1 pc = .ok (.multianewarray idx 2, 4)) (hn : pc + 4 = nx) (hcl : Cond.classLink mi.1.cls idx ("[" ++ (FieldType.array .int).toString) ∈ wU) (hal : Cond.arrayClass .int ∈ wU) (hN : (N : Int) = x) (hM : (M : Int) = y) (hb4 : N ≤ 100000 ∧ M ≤ 100000) (hca : ca + (1 + N) ≤ R.cells ∧ sl + (N + N * M) ≤ R.slots)
    (kk : V g R mi Z E nx lv (rf g n :: st) (mw g φ n N M) (n + 1 + N) (ca + 1 + N) (sl + N + N * M)) : V g R mi Z E pc lv (vi y :: vi x :: st) φ n ca sl := by
  subst hn
  subst hN
  subst hM
  intro p' e s m args below meth c H locs ls ev hw hh
  obtain ⟨hex, hb, hr, hml, hown, hts, hlk, hnm, hK, hbs, hE, hX⟩ := id ev
  intro T hT X
  have zN : (Int32.ofInt (N : Int)).toNatClampNeg = N := by rw [I_cl ⟨by omega, by omega⟩ (by omega)]; rfl
  have zM : (Int32.ofInt (M : Int)).toNatClampNeg = M := by rw [I_cl ⟨by omega, by omega⟩ (by omega)]; rfl
  have lN : ¬ Int32.ofInt (N : Int) < 0 := fun q => by
    have := (I_lt (x := (N : Int)) (y := 0) ⟨by omega, by omega⟩ inR_0).mp q
    omega
  have lM : ¬ Int32.ofInt (M : Int) < 0 := fun q => by
    have := (I_lt (x := (M : Int)) (y := 0) ⟨by omega, by omega⟩ inR_0).mp q
    omega
  obtain ⟨vm₁, cA, cI, hW, hfA, hfI, step⟩ := mo_steps X hex hown (hts _ hcl) (show (Cond.arrayOver (.array .int)).before args s = true from hX.1.2.2.2.2) (hts _ hal) (g := F0 m pc ls (vi M :: vi N :: st)) rfl (by rw [hb]; exact hd) (n := Int32.ofInt (N : Int)) (k := Int32.ofInt (M : Int)) (rest := st) rfl lN lM (by rw [zN]; omega) (by rw [zM]; omega) (by rw [zN]; exact hca.1) (by rw [zN, zM]; exact hca.2)
  rw [zN, zM] at step
  have hHs : T.heap.size = g.2.1 + n := by rw [hT]; exact hw.1.1
  have hcA : cA = g.2.2.2 6 := Option.some.inj (hfA.symm.trans (hK.2 6 _ rfl).2)
  have hcI : cI = g.2.2.2 0 := Option.some.inj (hfI.symm.trans (hK.2 0 _ rfl).2)
  subst hcA
  subst hcI
  obtain ⟨l2, hl2, X1⟩ := mo_stand (X.noted hW) (g.2.2.2 6) (g.2.2.2 0) N M N
  obtain ⟨F1, F2, F3, F4⟩ := mo_heap (T.setVm vm₁) (g.2.2.2 6) (g.2.2.2 0) N M N
  have hh0 : (T.setVm vm₁).heap = T.heap := rfl
  rw [hh0, hHs] at F1 F2 F3 F4 hl2
  rw [hHs] at step
  generalize mo_st (T.setVm vm₁) (g.2.2.2 6) (g.2.2.2 0) N M N = U at X1 step F1 F2 F3 F4
  have hold : ∀ q : Nat, q < g.2.1 + n → U.heap[q]? = H[q]? := fun q hq => by rw [F3 q hq, hT]
  have hp : Hp g (mw g φ n N M) (n + 1 + N) U.heap := by
    refine ⟨by rw [F1]; omega, fun k hk => ?_⟩
    unfold mw
    by_cases c1 : k < n
    · rw [if_pos c1]
      exact (hw.1.2 k c1).kept (hold _ (by show g.2.1 + k < _; omega))
    · rw [if_neg c1]
      by_cases c2 : k = n
      · rw [if_pos c2, c2]
        show U.heap[g.2.1 + n]? = some (vp_cell _ _)
        rw [F2, vp_cell_q]
        unfold mo_cell
        rw [arrV_cong (fun j hj => ?_)]
        rw [if_pos hj]
        have hj2 : g.2.1 + n + 1 + j = g.2.1 + (n + 1 + j) := by omega
        rw [hj2]
        rfl
      · rw [if_neg c2]
        show U.heap[g.2.1 + k]? = some (vp_cell _ _)
        have := F4 (k - n - 1) (by omega)
        rw [show g.2.1 + n + 1 + (k - n - 1) = g.2.1 + k by omega] at this
        rw [this, vp_cell_i]
        rfl
  have hS : va_S (fun q => g.2.1 ≤ q) s.heap U.heap (locs ++ l2) := by
    obtain ⟨s1, s2, s3⟩ := vaS_push hw.2 (H1 := U.heap) (by rw [F1, hw.1.1]; omega) (fun q hq => hold q (by rw [← hw.1.1]; exact hq))
    refine ⟨s1, s2, fun x hx => ?_⟩
    rcases List.mem_append.mp hx with h | h
    · exact s3 x h
    · show g.2.1 ≤ x.base
      rw [hl2 x h]
      omega
  obtain ⟨t, a1, b1⟩ := kk p' e s m args below meth c U.heap (locs ++ l2) ls ev ⟨hp, hS⟩ hh U rfl X1
  exact ⟨t, step t a1, b1⟩
end VMUL
