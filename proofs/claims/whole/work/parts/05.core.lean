/-! ===== the wrapper V: a frame of one of our methods, over a world of numbered cells that begin at an address b ===== -/
abbrev GG : Type := Launch × Nat × va_G × (Nat → ClassId)
abbrev MI : Type := MethodName × ByteArray × Nat × Option FieldType
abbrev ce : Type := (Nat × vp_A) ⊕ (Nat × List Value)
def vi (x : Int) : Value := .int (Int32.ofInt x)
def rf (g : GG) (k : Nat) : Value := .ref (g.2.1 + k)
abbrev inR (x : Int) : Prop := -2147483648 ≤ x ∧ x ≤ 2147483647
def toE (g : GG) (c : ce) : va_E := match c with
  | .inl q => .inl (g.2.2.2 q.1, q.2)
  | .inr o => .inr o
def Hp (g : GG) (φ : Nat → ce) (n : Nat) (H : Heap) : Prop := H.size = g.2.1 + n ∧ ∀ k, k < n → va_at g.2.2.1 vwCl (g.2.1 + k, toE g (φ k)) H
def wU : List Cond := lw_tbl.filter goodWord
theorem wU_in {w : Cond} (h : w ∈ wU) : w ∈ lw_tbl := (List.mem_filter.mp h).1
theorem wU_good {w : Cond} (h : w ∈ wU) : goodWord w = true := (List.mem_filter.mp h).2
theorem wU_of {w : Cond} (h : w ∈ lw_tbl) (h2 : goodWord w = true) : w ∈ wU := List.mem_filter.mpr ⟨h, h2⟩
theorem wU_at (i : Nat) {w : Cond} (h : lw_tbl[i]? = some w) (h2 : goodWord w = true) : w ∈ wU := wU_of (List.mem_of_getElem? h) h2
def tysG (g : GG) : List (ClassId × FieldType) := [(g.2.2.2 0, .int), (g.2.2.2 1, .boolean), (g.2.2.2 2, .object RX4), (g.2.2.2 3, .object RX1), (g.2.2.2 4, .object RX2), (g.2.2.2 5, .object RX0), (g.2.2.2 6, .array .int)]
def KU (g : GG) (U : State) : Prop := va_K g.2.2.1 vwCl (tysG g) U
/-- the words that only constructors need, and that do not ride with the others -/
def KX (U : State) : Prop := (va_AO RX4 U ∧ va_AO RX1 U ∧ va_AO RX2 U ∧ va_AO RX0 U ∧ va_Nw (.arrayOver (.array .int)) U) ∧ va_Nw (.methodLinkNest RX3 35 yX4_init RX6) U ∧ va_Nw (.methodLinkNest RX3 36 yX1_init RX6) U ∧ va_Nw (.methodLinkNest RX3 37 yX2_init RX6) U ∧ va_Nw (.methodLinkNest RX3 38 yX0_init RX6) U ∧ va_Nw (.methodLinkNest RX6 18 yX5_init RX6) U
def Ev (g : GG) (mi : MI) (E : Array Value → State → Prop) (p : Program) (s : State) (m : MethodId) (args : Array Value) (meth : Method) (c : Code) : Prop :=
  p.tables.exec = Jvm.exec ∧ c.code = mi.2.1 ∧ meth.sig.returnType = mi.2.2.2 ∧ c.maxLocals = mi.2.2.1 ∧ s.vm.findClass mi.1.cls = some m.cls ∧ (∀ w ∈ wU, w.before args s = true) ∧ meth.locks = false ∧ (mi.1.name = "<init>" → meth.name = "<init>") ∧ KU g s ∧ g.2.1 ≤ s.heap.size ∧ E args s ∧ KX s
def Hw (g : GG) (s : State) (φ : Nat → ce) (n : Nat) (H : Heap) (locs : List Loc) : Prop := Hp g φ n H ∧ va_S (fun q => g.2.1 ≤ q) s.heap H locs
/-- at pc, with these locals, this stack and this world, the method comes to its end Z -/
def V (g : GG) (R : Room) (mi : MI) (Z : List Frame → Array Value → State → State → Prop) (E : Array Value → State → Prop) (pc : Nat) (lv : List (Nat × Value)) (st : List Value) (φ : Nat → ce) (n ca sl : Nat) : Prop :=
  ∀ (p : Program) (e : Env) (s : State) (m : MethodId) (args : Array Value) (below : List Frame) (meth : Method) (c : Code) (H : Heap) (locs : List Loc) (ls : Array Slot), Ev g mi E p s m args meth c → Hw g s φ n H locs → lv_has ls mi.2.2.1 lv → W p g.1 e R s m args below meth c H locs ca sl (Z below args s) (F0 m pc ls st)
/-- locals, kept in the order of their numbers -/
def lset : List (Nat × Value) → Nat → Value → List (Nat × Value)
  | [], i, v => [(i, v)]
  | (j, w) :: r, i, v => if j = i then (i, v) :: r else if i < j then (i, v) :: (j, w) :: r else (j, w) :: lset r i v
theorem lset_mem {q : Nat × Value} {i : Nat} {v : Value} : ∀ {l : List (Nat × Value)}, (l.Pairwise (fun a b => a.1 < b.1)) → q ∈ lset l i v → q = (i, v) ∨ (q ∈ l ∧ q.1 ≠ i)
  | [], _, h => by
    rcases List.mem_cons.mp h with h | h
    · exact Or.inl h
    · cases h
  | (j, w) :: r, hs, h => by
    obtain ⟨h1, h2⟩ := List.pairwise_cons.mp hs
    unfold lset at h
    split at h
    · rename_i e
      rcases List.mem_cons.mp h with h | h
      · exact Or.inl h
      · exact Or.inr ⟨List.mem_cons_of_mem _ h, fun z => by have := h1 q h; simp only at this; omega⟩
    · split at h
      · rename_i ne lt
        rcases List.mem_cons.mp h with h | h
        · exact Or.inl h
        · refine Or.inr ⟨h, fun z => ?_⟩
          rcases List.mem_cons.mp h with h | h
          · subst h; simp only at z; omega
          · have := h1 q h; simp only at this; omega
      · rename_i ne lt
        rcases List.mem_cons.mp h with h | h
        · exact Or.inr ⟨by rw [h]; exact List.mem_cons_self, by rw [h]; exact ne⟩
        · rcases lset_mem h2 h with h | ⟨h, h3⟩
          · exact Or.inl h
          · exact Or.inr ⟨List.mem_cons_of_mem _ h, h3⟩
/-- the locals are in order, and none is wide -/
def lvS : List (Nat × Value) → Bool
  | [] => true
  | [q] => q.2.category == 1
  | q :: q2 :: r => decide (q.1 < q2.1) && (q.2.category == 1) && lvS (q2 :: r)
theorem lvS_cat : ∀ {l : List (Nat × Value)}, lvS l = true → ∀ q ∈ l, q.2.category = 1
  | [], _, q, h => by cases h
  | [a], hs, q, h => by
    rw [List.mem_singleton.mp h]
    simpa [lvS] using hs
  | a :: b :: r, hs, q, h => by
    simp only [lvS, Bool.and_eq_true, decide_eq_true_eq, beq_iff_eq] at hs
    rcases List.mem_cons.mp h with h | h
    · rw [h]; exact hs.1.2
    · exact lvS_cat hs.2 q h
theorem lvS_pw : ∀ {l : List (Nat × Value)}, lvS l = true → l.Pairwise (fun a b => a.1 < b.1)
  | [], _ => List.Pairwise.nil
  | [a], _ => List.pairwise_singleton _ _
  | a :: b :: r, hs => by
    simp only [lvS, Bool.and_eq_true, decide_eq_true_eq, beq_iff_eq] at hs
    have ih := lvS_pw hs.2
    refine List.pairwise_cons.mpr ⟨fun q hq => ?_, ih⟩
    rcases List.mem_cons.mp hq with h | h
    · rw [h]; exact hs.1.1
    · exact Nat.lt_trans hs.1.1 ((List.pairwise_cons.mp ih).1 q h)
theorem lset_has {ls : Array Slot} {nL i : Nat} {v : Value} {lv : List (Nat × Value)} (hs : lvS lv = true) (h : lv_has ls nL ((i, v) :: lv.filter (fun q => !(q.1 == i) && !(q.1 + 1 == i && q.2.category == 2)))) : lv_has ls nL (lset lv i v) := by
  refine ⟨h.1, h.2.1, fun q hq => h.2.2 q ?_⟩
  rcases lset_mem (lvS_pw hs) hq with e | ⟨h1, h2⟩
  · rw [e]; exact List.mem_cons_self
  · refine List.mem_cons_of_mem _ (List.mem_filter.mpr ⟨h1, ?_⟩)
    simp [h2, lvS_cat hs q h1]
theorem I_toInt {x : Int} (h : inR x) : (Int32.ofInt x).toInt = x := by
  rw [Int32.toInt_ofInt]
  obtain ⟨h1, h2⟩ := h
  show x.bmod (2 ^ 32) = x
  rw [Int.bmod_eq_of_le (by omega) (by omega)]
theorem I_eq {x y : Int} (hx : inR x) (hy : inR y) : Int32.ofInt x = Int32.ofInt y ↔ x = y := by
  rw [← Int32.toInt_inj, I_toInt hx, I_toInt hy]
theorem I_lt {x y : Int} (hx : inR x) (hy : inR y) : Int32.ofInt x < Int32.ofInt y ↔ x < y := by
  rw [Int32.lt_iff_toInt_lt, I_toInt hx, I_toInt hy]
theorem I_le {x y : Int} (hx : inR x) (hy : inR y) : Int32.ofInt x ≤ Int32.ofInt y ↔ x ≤ y := by
  rw [Int32.le_iff_toInt_le, I_toInt hx, I_toInt hy]
theorem I_0 : (0 : Int32) = Int32.ofInt 0 := rfl
theorem inR_0 : inR 0 := ⟨by decide, by decide⟩
theorem I_cl {x : Int} (hx : inR x) (h0 : 0 ≤ x) : (Int32.ofInt x).toNatClampNeg = x.toNat := by
  show (Int32.ofInt x).toInt.toNat = _
  rw [I_toInt hx]
theorem I_in {x : Int} {N : Nat} (h0 : 0 ≤ x) (h1 : x < N) (hN : N < 2147483648) : vp_in (Int32.ofInt x) N := by
  rw [vp_in_iff, I_toInt ⟨by omega, by omega⟩]
  exact ⟨h0, h1⟩
theorem vi_cat (x : Int) : (vi x).category = 1 := rfl
theorem rf_cat (g : GG) (k : Nat) : (rf g k).category = 1 := rfl
section VROWS
variable {g : GG} {R : Room} {mi : MI} {Z : List Frame → Array Value → State → State → Prop} {E : Array Value → State → Prop} {pc nx : Nat} {lv : List (Nat × Value)} {st : List Value} {φ : Nat → ce} {n ca sl : Nat}
theorem v_iload_n {k : Fin 4} {x : Int} (j : Nat) (hd : decode mi.2.1 pc = .ok (.iload_n k, 1)) (hn : pc + 1 = nx) (hl : lv[j]? = some (k.val, vi x)) (kk : V g R mi Z E nx lv (vi x :: st) φ n ca sl) : V g R mi Z E pc lv st φ n ca sl := by
  subst hn
  intro p e s m args below meth c H locs ls ev hw hh
  exact lv_iload_n ev.1 ev.2.1 hd rfl (lv_at hh j hl) (kk p e s m args below meth c H locs ls ev hw hh)
theorem v_iload {i : Nat} {x : Int} (j : Nat) (hd : decode mi.2.1 pc = .ok (.iload i, 2)) (hn : pc + 2 = nx) (hl : lv[j]? = some (i, vi x)) (kk : V g R mi Z E nx lv (vi x :: st) φ n ca sl) : V g R mi Z E pc lv st φ n ca sl := by
  subst hn
  intro p e s m args below meth c H locs ls ev hw hh
  exact lv_iload ev.1 ev.2.1 hd (lv_at hh j hl) (kk p e s m args below meth c H locs ls ev hw hh)
theorem v_aload_n {k : Fin 4} {x : Nat} (j : Nat) (hd : decode mi.2.1 pc = .ok (.aload_n k, 1)) (hn : pc + 1 = nx) (hl : lv[j]? = some (k.val, rf g x)) (kk : V g R mi Z E nx lv (rf g x :: st) φ n ca sl) : V g R mi Z E pc lv st φ n ca sl := by
  subst hn
  intro p e s m args below meth c H locs ls ev hw hh
  exact lv_aload_n ev.1 ev.2.1 hd rfl (lv_at hh j hl) (kk p e s m args below meth c H locs ls ev hw hh)
theorem v_aload {i : Nat} {x : Nat} (j : Nat) (hd : decode mi.2.1 pc = .ok (.aload i, 2)) (hn : pc + 2 = nx) (hl : lv[j]? = some (i, rf g x)) (kk : V g R mi Z E nx lv (rf g x :: st) φ n ca sl) : V g R mi Z E pc lv st φ n ca sl := by
  subst hn
  intro p e s m args below meth c H locs ls ev hw hh
  exact lv_aload ev.1 ev.2.1 hd (lv_at hh j hl) (kk p e s m args below meth c H locs ls ev hw hh)
theorem v_iconst {x : Int} (hd : decode mi.2.1 pc = .ok (.iconst x, 1)) (hn : pc + 1 = nx) (kk : V g R mi Z E nx lv (vi x :: st) φ n ca sl) : V g R mi Z E pc lv st φ n ca sl := by
  subst hn
  intro p e s m args below meth c H locs ls ev hw hh
  exact lv_iconst ev.1 ev.2.1 hd rfl (kk p e s m args below meth c H locs ls ev hw hh)
theorem v_bipush {x : Int} (hd : decode mi.2.1 pc = .ok (.bipush x, 2)) (hn : pc + 2 = nx) (hx : (Int8.ofInt x).toInt32 = Int32.ofInt x) (kk : V g R mi Z E nx lv (vi x :: st) φ n ca sl) : V g R mi Z E pc lv st φ n ca sl := by
  subst hn
  intro p e s m args below meth c H locs ls ev hw hh
  exact lv_bipush ev.1 ev.2.1 hd hx (kk p e s m args below meth c H locs ls ev hw hh)
theorem v_sipush {x : Int} (hd : decode mi.2.1 pc = .ok (.sipush x, 3)) (hn : pc + 3 = nx) (hx : (Int16.ofInt x).toInt32 = Int32.ofInt x) (kk : V g R mi Z E nx lv (vi x :: st) φ n ca sl) : V g R mi Z E pc lv st φ n ca sl := by
  subst hn
  intro p e s m args below meth c H locs ls ev hw hh
  exact lv_sipush ev.1 ev.2.1 hd hx (kk p e s m args below meth c H locs ls ev hw hh)
theorem v_iadd {x y : Int} (hd : decode mi.2.1 pc = .ok (.iadd, 1)) (hn : pc + 1 = nx) (kk : V g R mi Z E nx lv (vi (x + y) :: st) φ n ca sl) : V g R mi Z E pc lv (vi y :: vi x :: st) φ n ca sl := by
  subst hn
  intro p e s m args below meth c H locs ls ev hw hh
  refine lv_iadd ev.1 ev.2.1 hd ?_
  have h := kk p e s m args below meth c H locs ls ev hw hh
  unfold vi at h
  rwa [Int32.ofInt_add] at h
theorem v_isub {x y : Int} (hd : decode mi.2.1 pc = .ok (.isub, 1)) (hn : pc + 1 = nx) (kk : V g R mi Z E nx lv (vi (x - y) :: st) φ n ca sl) : V g R mi Z E pc lv (vi y :: vi x :: st) φ n ca sl := by
  subst hn
  intro p e s m args below meth c H locs ls ev hw hh
  refine lv_isub ev.1 ev.2.1 hd ?_
  have h := kk p e s m args below meth c H locs ls ev hw hh
  unfold vi at h
  rwa [Int32.ofInt_sub] at h
theorem v_imul {x y : Int} (hd : decode mi.2.1 pc = .ok (.imul, 1)) (hn : pc + 1 = nx) (kk : V g R mi Z E nx lv (vi (x * y) :: st) φ n ca sl) : V g R mi Z E pc lv (vi y :: vi x :: st) φ n ca sl := by
  subst hn
  intro p e s m args below meth c H locs ls ev hw hh
  refine lv_imul ev.1 ev.2.1 hd ?_
  have h := kk p e s m args below meth c H locs ls ev hw hh
  unfold vi at h
  rwa [Int32.ofInt_mul] at h
theorem v_dup {v : Value} (hd : decode mi.2.1 pc = .ok (.dup, 1)) (hn : pc + 1 = nx) (hv : v.category = 1) (kk : V g R mi Z E nx lv (v :: v :: st) φ n ca sl) : V g R mi Z E pc lv (v :: st) φ n ca sl := by
  subst hn
  intro p e s m args below meth c H locs ls ev hw hh
  exact lv_dup ev.1 ev.2.1 hd hv (kk p e s m args below meth c H locs ls ev hw hh)
theorem v_dup2 {v w : Value} (hd : decode mi.2.1 pc = .ok (.dup2, 1)) (hn : pc + 1 = nx) (hv : v.category = 1) (hw1 : w.category = 1) (kk : V g R mi Z E nx lv (v :: w :: v :: w :: st) φ n ca sl) : V g R mi Z E pc lv (v :: w :: st) φ n ca sl := by
  subst hn
  intro p e s m args below meth c H locs ls ev hw hh
  exact lv_dup2_11 ev.1 ev.2.1 hd hv hw1 (kk p e s m args below meth c H locs ls ev hw hh)
theorem v_istore_n {k : Fin 4} {x : Int} (hd : decode mi.2.1 pc = .ok (.istore_n k, 1)) (hn : pc + 1 = nx) (hs : lvS lv = true) (hk : k.val < mi.2.2.1) (kk : V g R mi Z E nx (lset lv k.val (vi x)) st φ n ca sl) : V g R mi Z E pc lv (vi x :: st) φ n ca sl := by
  subst hn
  intro p e s m args below meth c H locs ls ev hw hh
  exact lv_istore_n ev.1 ev.2.1 hd rfl hh hk rfl (fun ls' h' => kk p e s m args below meth c H locs ls' ev hw (lset_has hs h'))
theorem v_istore {i : Nat} {x : Int} (hd : decode mi.2.1 pc = .ok (.istore i, 2)) (hn : pc + 2 = nx) (hs : lvS lv = true) (hk : i < mi.2.2.1) (kk : V g R mi Z E nx (lset lv i (vi x)) st φ n ca sl) : V g R mi Z E pc lv (vi x :: st) φ n ca sl := by
  subst hn
  intro p e s m args below meth c H locs ls ev hw hh
  exact lv_istore ev.1 ev.2.1 hd hh hk rfl (fun ls' h' => kk p e s m args below meth c H locs ls' ev hw (lset_has hs h'))
theorem v_astore_n {k : Fin 4} {x : Nat} (hd : decode mi.2.1 pc = .ok (.astore_n k, 1)) (hn : pc + 1 = nx) (hs : lvS lv = true) (hk : k.val < mi.2.2.1) (kk : V g R mi Z E nx (lset lv k.val (rf g x)) st φ n ca sl) : V g R mi Z E pc lv (rf g x :: st) φ n ca sl := by
  subst hn
  intro p e s m args below meth c H locs ls ev hw hh
  exact lv_astore_n ev.1 ev.2.1 hd rfl hh hk rfl (fun ls' h' => kk p e s m args below meth c H locs ls' ev hw (lset_has hs h'))
theorem v_astore {i : Nat} {x : Nat} (hd : decode mi.2.1 pc = .ok (.astore i, 2)) (hn : pc + 2 = nx) (hs : lvS lv = true) (hk : i < mi.2.2.1) (kk : V g R mi Z E nx (lset lv i (rf g x)) st φ n ca sl) : V g R mi Z E pc lv (rf g x :: st) φ n ca sl := by
  subst hn
  intro p e s m args below meth c H locs ls ev hw hh
  exact lv_astore ev.1 ev.2.1 hd hh hk rfl (fun ls' h' => kk p e s m args below meth c H locs ls' ev hw (lset_has hs h'))
theorem v_iinc {i : Nat} {z x : Int} (j : Nat) (hd : decode mi.2.1 pc = .ok (.iinc i z, 3)) (hn : pc + 3 = nx) (hl : lv[j]? = some (i, vi x)) (hs : lvS lv = true) (hk : i < mi.2.2.1) (kk : V g R mi Z E nx (lset lv i (vi (x + z))) st φ n ca sl) : V g R mi Z E pc lv st φ n ca sl := by
  subst hn
  intro p e s m args below meth c H locs ls ev hw hh
  exact lv_iinc (v := Int32.ofInt (x + z)) ev.1 ev.2.1 hd hh hl (by rw [Int32.ofInt_add]) hk rfl (fun ls' h' => kk p e s m args below meth c H locs ls' ev hw (lset_has hs h'))
theorem v_goto {off : Int} {tgt : Nat} (hd : decode mi.2.1 pc = .ok (.goto off, 3)) (ht : (pc : Int) + off = (tgt : Int)) (kk : V g R mi Z E tgt lv st φ n ca sl) : V g R mi Z E pc lv st φ n ca sl := by
  intro p e s m args below meth c H locs ls ev hw hh
  exact lv_goto ev.1 ev.2.1 hd ht (kk p e s m args below meth c H locs ls ev hw hh)
theorem v_icmp_eq {x y off : Int} {tgt : Nat} (hd : decode mi.2.1 pc = .ok (.if_icmp .eq off, 3)) (ht : (pc : Int) + off = (tgt : Int)) (hn : pc + 3 = nx) (hx : inR x) (hy : inR y) (k1 : x = y → V g R mi Z E tgt lv st φ n ca sl) (k2 : ¬ x = y → V g R mi Z E nx lv st φ n ca sl) : V g R mi Z E pc lv (vi y :: vi x :: st) φ n ca sl := by
  subst hn
  intro p e s m args below meth c H locs ls ev hw hh
  exact lv_icmp_eq ev.1 ev.2.1 hd ht (fun h => k1 ((I_eq hx hy).mp h) p e s m args below meth c H locs ls ev hw hh) (fun h => k2 (fun z => h ((I_eq hx hy).mpr z)) p e s m args below meth c H locs ls ev hw hh)
theorem v_icmp_ne {x y off : Int} {tgt : Nat} (hd : decode mi.2.1 pc = .ok (.if_icmp .ne off, 3)) (ht : (pc : Int) + off = (tgt : Int)) (hn : pc + 3 = nx) (hx : inR x) (hy : inR y) (k1 : ¬ x = y → V g R mi Z E tgt lv st φ n ca sl) (k2 : x = y → V g R mi Z E nx lv st φ n ca sl) : V g R mi Z E pc lv (vi y :: vi x :: st) φ n ca sl := by
  subst hn
  intro p e s m args below meth c H locs ls ev hw hh
  exact lv_icmp_ne ev.1 ev.2.1 hd ht (fun h => k1 (fun z => h ((I_eq hx hy).mpr z)) p e s m args below meth c H locs ls ev hw hh) (fun h => k2 ((I_eq hx hy).mp h) p e s m args below meth c H locs ls ev hw hh)
theorem v_icmp_lt {x y off : Int} {tgt : Nat} (hd : decode mi.2.1 pc = .ok (.if_icmp .lt off, 3)) (ht : (pc : Int) + off = (tgt : Int)) (hn : pc + 3 = nx) (hx : inR x) (hy : inR y) (k1 : x < y → V g R mi Z E tgt lv st φ n ca sl) (k2 : ¬ x < y → V g R mi Z E nx lv st φ n ca sl) : V g R mi Z E pc lv (vi y :: vi x :: st) φ n ca sl := by
  subst hn
  intro p e s m args below meth c H locs ls ev hw hh
  exact lv_icmp_lt ev.1 ev.2.1 hd ht (fun h => k1 ((I_lt hx hy).mp h) p e s m args below meth c H locs ls ev hw hh) (fun h => k2 (fun z => h ((I_lt hx hy).mpr z)) p e s m args below meth c H locs ls ev hw hh)
theorem v_icmp_ge {x y off : Int} {tgt : Nat} (hd : decode mi.2.1 pc = .ok (.if_icmp .ge off, 3)) (ht : (pc : Int) + off = (tgt : Int)) (hn : pc + 3 = nx) (hx : inR x) (hy : inR y) (k1 : y ≤ x → V g R mi Z E tgt lv st φ n ca sl) (k2 : ¬ y ≤ x → V g R mi Z E nx lv st φ n ca sl) : V g R mi Z E pc lv (vi y :: vi x :: st) φ n ca sl := by
  subst hn
  intro p e s m args below meth c H locs ls ev hw hh
  exact lv_icmp_ge ev.1 ev.2.1 hd ht (fun h => k1 ((I_le hy hx).mp h) p e s m args below meth c H locs ls ev hw hh) (fun h => k2 (fun z => h ((I_le hy hx).mpr z)) p e s m args below meth c H locs ls ev hw hh)
theorem v_icmp_gt {x y off : Int} {tgt : Nat} (hd : decode mi.2.1 pc = .ok (.if_icmp .gt off, 3)) (ht : (pc : Int) + off = (tgt : Int)) (hn : pc + 3 = nx) (hx : inR x) (hy : inR y) (k1 : y < x → V g R mi Z E tgt lv st φ n ca sl) (k2 : ¬ y < x → V g R mi Z E nx lv st φ n ca sl) : V g R mi Z E pc lv (vi y :: vi x :: st) φ n ca sl := by
  subst hn
  intro p e s m args below meth c H locs ls ev hw hh
  exact lv_icmp_gt ev.1 ev.2.1 hd ht (fun h => k1 ((I_lt hy hx).mp h) p e s m args below meth c H locs ls ev hw hh) (fun h => k2 (fun z => h ((I_lt hy hx).mpr z)) p e s m args below meth c H locs ls ev hw hh)
theorem v_icmp_le {x y off : Int} {tgt : Nat} (hd : decode mi.2.1 pc = .ok (.if_icmp .le off, 3)) (ht : (pc : Int) + off = (tgt : Int)) (hn : pc + 3 = nx) (hx : inR x) (hy : inR y) (k1 : x ≤ y → V g R mi Z E tgt lv st φ n ca sl) (k2 : ¬ x ≤ y → V g R mi Z E nx lv st φ n ca sl) : V g R mi Z E pc lv (vi y :: vi x :: st) φ n ca sl := by
  subst hn
  intro p e s m args below meth c H locs ls ev hw hh
  exact lv_icmp_le ev.1 ev.2.1 hd ht (fun h => k1 ((I_le hx hy).mp h) p e s m args below meth c H locs ls ev hw hh) (fun h => k2 (fun z => h ((I_le hx hy).mpr z)) p e s m args below meth c H locs ls ev hw hh)
theorem v_if_eq {x off : Int} {tgt : Nat} (hd : decode mi.2.1 pc = .ok (.ifCond .eq off, 3)) (ht : (pc : Int) + off = (tgt : Int)) (hn : pc + 3 = nx) (hx : inR x) (k1 : x = 0 → V g R mi Z E tgt lv st φ n ca sl) (k2 : ¬ x = 0 → V g R mi Z E nx lv st φ n ca sl) : V g R mi Z E pc lv (vi x :: st) φ n ca sl := by
  subst hn
  intro p e s m args below meth c H locs ls ev hw hh
  exact lv_if_eq ev.1 ev.2.1 hd ht (fun h => k1 ((I_eq hx inR_0).mp h) p e s m args below meth c H locs ls ev hw hh) (fun h => k2 (fun z => h ((I_eq hx inR_0).mpr z)) p e s m args below meth c H locs ls ev hw hh)
theorem v_if_ne {x off : Int} {tgt : Nat} (hd : decode mi.2.1 pc = .ok (.ifCond .ne off, 3)) (ht : (pc : Int) + off = (tgt : Int)) (hn : pc + 3 = nx) (hx : inR x) (k1 : ¬ x = 0 → V g R mi Z E tgt lv st φ n ca sl) (k2 : x = 0 → V g R mi Z E nx lv st φ n ca sl) : V g R mi Z E pc lv (vi x :: st) φ n ca sl := by
  subst hn
  intro p e s m args below meth c H locs ls ev hw hh
  exact lv_if_ne ev.1 ev.2.1 hd ht (fun h => k1 (fun z => h ((I_eq hx inR_0).mpr z)) p e s m args below meth c H locs ls ev hw hh) (fun h => k2 ((I_eq hx inR_0).mp h) p e s m args below meth c H locs ls ev hw hh)
theorem v_if_lt {x off : Int} {tgt : Nat} (hd : decode mi.2.1 pc = .ok (.ifCond .lt off, 3)) (ht : (pc : Int) + off = (tgt : Int)) (hn : pc + 3 = nx) (hx : inR x) (k1 : x < 0 → V g R mi Z E tgt lv st φ n ca sl) (k2 : ¬ x < 0 → V g R mi Z E nx lv st φ n ca sl) : V g R mi Z E pc lv (vi x :: st) φ n ca sl := by
  subst hn
  intro p e s m args below meth c H locs ls ev hw hh
  exact lv_if_lt ev.1 ev.2.1 hd ht (fun h => k1 ((I_lt hx inR_0).mp h) p e s m args below meth c H locs ls ev hw hh) (fun h => k2 (fun z => h ((I_lt hx inR_0).mpr z)) p e s m args below meth c H locs ls ev hw hh)
theorem v_if_ge {x off : Int} {tgt : Nat} (hd : decode mi.2.1 pc = .ok (.ifCond .ge off, 3)) (ht : (pc : Int) + off = (tgt : Int)) (hn : pc + 3 = nx) (hx : inR x) (k1 : 0 ≤ x → V g R mi Z E tgt lv st φ n ca sl) (k2 : ¬ 0 ≤ x → V g R mi Z E nx lv st φ n ca sl) : V g R mi Z E pc lv (vi x :: st) φ n ca sl := by
  subst hn
  intro p e s m args below meth c H locs ls ev hw hh
  exact lv_if_ge ev.1 ev.2.1 hd ht (fun h => k1 ((I_le inR_0 hx).mp h) p e s m args below meth c H locs ls ev hw hh) (fun h => k2 (fun z => h ((I_le inR_0 hx).mpr z)) p e s m args below meth c H locs ls ev hw hh)
theorem v_if_gt {x off : Int} {tgt : Nat} (hd : decode mi.2.1 pc = .ok (.ifCond .gt off, 3)) (ht : (pc : Int) + off = (tgt : Int)) (hn : pc + 3 = nx) (hx : inR x) (k1 : 0 < x → V g R mi Z E tgt lv st φ n ca sl) (k2 : ¬ 0 < x → V g R mi Z E nx lv st φ n ca sl) : V g R mi Z E pc lv (vi x :: st) φ n ca sl := by
  subst hn
  intro p e s m args below meth c H locs ls ev hw hh
  exact lv_if_gt ev.1 ev.2.1 hd ht (fun h => k1 ((I_lt inR_0 hx).mp h) p e s m args below meth c H locs ls ev hw hh) (fun h => k2 (fun z => h ((I_lt inR_0 hx).mpr z)) p e s m args below meth c H locs ls ev hw hh)
theorem v_if_le {x off : Int} {tgt : Nat} (hd : decode mi.2.1 pc = .ok (.ifCond .le off, 3)) (ht : (pc : Int) + off = (tgt : Int)) (hn : pc + 3 = nx) (hx : inR x) (k1 : x ≤ 0 → V g R mi Z E tgt lv st φ n ca sl) (k2 : ¬ x ≤ 0 → V g R mi Z E nx lv st φ n ca sl) : V g R mi Z E pc lv (vi x :: st) φ n ca sl := by
  subst hn
  intro p e s m args below meth c H locs ls ev hw hh
  exact lv_if_le ev.1 ev.2.1 hd ht (fun h => k1 ((I_le hx inR_0).mp h) p e s m args below meth c H locs ls ev hw hh) (fun h => k2 (fun z => h ((I_le hx inR_0).mpr z)) p e s m args below meth c H locs ls ev hw hh)
end VROWS
