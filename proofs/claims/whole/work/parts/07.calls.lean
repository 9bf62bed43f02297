/-! ===== contracts over the world, calls, ends ===== -/
theorem AOA_moved {u U : State} (hvm : u.vm.Alike U.vm) (h : va_Nw (.arrayOver (.array .int)) u) : va_Nw (.arrayOver (.array .int)) U := by
  obtain ⟨comp, c, k, h1, h2, h3, h4, h5⟩ := arrayOverA_spec h
  obtain ⟨k', hk', he⟩ := hvm.2.2 _ _ h3
  have hi : (U.vm.classes.findIdx? fun (x : Class) => match x.kind with | .array component _ => component == comp | _ => false) = some c := by
    have e1 := (va_idx_bare U.vm comp).symm
    have e2 := va_idx_bare u.vm comp
    have e3 : u.vm.bare = U.vm.bare := by first | exact hvm.bare_eq | exact hvm.bare_eq.symm
    rw [e3] at e2
    exact e1.trans (e2.trans h2)
  have hkind : k'.kind = .array comp (.array .int) := by rw [he]; exact h4
  have f1 : U.vm.findClass (FieldType.array .int).toString = some comp := by rw [hvm.findClass]; exact h1
  have f2 : U.vm.findClass ("[" ++ (FieldType.array .int).toString) = some c := by rw [hvm.findClass]; exact h5
  unfold va_Nw Cond.before Cond.holds
  simp only [Cond.value]
  rw [f1, Option.bind_some]
  refine (congrArg (fun o : Option Nat => (o.bind (fun c => (U.vm.classes[c]?).map fun (k : Class) => match k.kind with | .array _ ty => decide (ty = FieldType.array .int) && decide (U.vm.findClass ("[" ++ (FieldType.array .int).toString) = some c) | _ => false) == some true)) hi).trans ?_
  simp [hk', hkind, f2]
theorem KX.warm {s U : State} (hW : s.WarmedH U.vm) (h : KX s) : KX U := by
  obtain ⟨⟨a1, a2, a3, a4, a5⟩, b1, b2, b3, b4, b5⟩ := h
  exact ⟨⟨a1.moved hW.alike, a2.moved hW.alike, a3.moved hW.alike, a4.moved hW.alike, AOA_moved hW.alike a5⟩, b1.warmM hW, b2.warmM hW, b3.warmM hW, b4.warmM hW, b5.warmM hW⟩
theorem KX.same {u U : State} (hv : u.vm = U.vm) (h : KX u) : KX U := by
  obtain ⟨⟨a1, a2, a3, a4, a5⟩, b1, b2, b3, b4, b5⟩ := h
  have ha : u.vm.Alike U.vm := by rw [hv]; exact Vm.Alike.refl _
  exact ⟨⟨a1.moved ha, a2.moved ha, a3.moved ha, a4.moved ha, AOA_moved ha a5⟩, va_Nw.same rfl hv b1, va_Nw.same rfl hv b2, va_Nw.same rfl hv b3, va_Nw.same rfl hv b4, va_Nw.same rfl hv b5⟩
def QQ (g : GG) (Q : Option Value → (Nat → ce) → Nat → Prop) : Array Value → State → Outcome → State → Prop := fun _ st oc t => ∃ (r : Option Value) (φ : Nat → ce) (n : Nat), oc = .returned r ∧ Q r φ n ∧ Hp g φ n t.heap ∧ va_F (fun q => g.2.1 ≤ q) st t
def rmD (d mc ms : Nat) : Room := { frames := d, cells := mc, slots := ms, locals := 34 * d }
/-- the method mi with the arguments As in the world φ of n cells comes to Q; at most d frames, mc cells of ms slots -/
def CT (g : GG) (d mc ms : Nat) (mi : MI) (As : List Value) (φ : Nat → ce) (n : Nat) (Q : Option Value → (Nat → ce) → Nat → Prop) : Prop :=
  Met g.1 mi.1 (.code mi.1 mi.2.1 mi.2.2.1 mi.2.2.2 :: wU) (rmD d mc ms) (va_Pc As (fun U => Hp g φ n U.heap ∧ KU g U ∧ KX U)) (QQ g Q) mc ms (fun a => g.2.1 ≤ a)
def ZM (g : GG) (mc ms : Nat) (Q : Option Value → (Nat → ce) → Nat → Prop) : List Frame → Array Value → State → State → Prop := fun below args s => MQ below (QQ g Q) args s mc ms (fun a => g.2.1 ≤ a)
def E0 : Array Value → State → Prop := fun _ _ => True
theorem CT.of {g : GG} {d mc ms : Nat} {mi : MI} {As : List Value} {φ : Nat → ce} {n : Nat} {Q : Option Value → (Nat → ce) → Nat → Prop} {lv : List (Nat × Value)} (hy : plainName mi.1.cls = true) (hl : (lg_sl As).length ≤ mi.2.2.1) (hlv : lv_args 0 As = lv)
    (h : V g (rmD d mc ms) mi (ZM g mc ms Q) E0 0 lv [] φ n 0 0) : CT g d mc ms mi As φ n Q := by
  subst hlv
  refine Met.ofW (cc := mi.2.1) (maxL := mi.2.2.1) (ret := mi.2.2.2) hy rfl ?_
  intro p e s m args below meth c s₁ B hml hv
  obtain ⟨rfl, hHp, hK, hX⟩ := hv
  have hts := atoms_spec (ws := Cond.code mi.1 mi.2.1 mi.2.2.1 mi.2.2.2 :: wU) B.pre
  have hown : s.vm.findClass mi.1.cls = some m.cls := findClass_of_methodNamed B.named
  rw [lg_entry_eq]
  exact h p e s m As.toArray below meth c s.heap [] _ ⟨B.exec, B.bytes, B.returns, hml, hown, fun w hw => hts w (List.mem_cons_of_mem _ hw), B.notSynchronized, fun hi => (name_of_methodNamed B.named B.method).1.trans hi, hK, by rw [hHp.1]; exact Nat.le_add_right _ _, trivial, hX⟩ ⟨hHp, va_S.rf⟩ (lv_entry As hl)
theorem CT.mono {g : GG} {d mc ms : Nat} {mi : MI} {As : List Value} {φ : Nat → ce} {n : Nat} {Q Q' : Option Value → (Nat → ce) → Nat → Prop} (hQ : ∀ r φ' n', Q r φ' n' → Q' r φ' n') (h : CT g d mc ms mi As φ n Q) : CT g d mc ms mi As φ n Q' := by
  intro p e ha hc hk s m args below h1 h2 h3 h4
  obtain ⟨k, o, a1, a2, a3, ⟨r, φ', n', b1, b2, b3, b4⟩, b5⟩ := h p e ha hc hk s m args below h1 h2 h3 h4
  exact ⟨k, o, a1, a2, a3, ⟨r, φ', n', b1, hQ _ _ _ b2, b3, b4⟩, b5⟩
/-- what a call wants of a method of ours: an instance's, a static one, a constructor -/
def mokB (mi : MI) (k : Nat) : Prop := Cond.code mi.1 mi.2.1 mi.2.2.1 mi.2.2.2 ∈ wU ∧ Cond.initialized mi.1.cls ∈ wU ∧ (mi.1.cls ≠ "java/lang/invoke/MethodHandle" ∧ mi.1.cls ≠ "java/lang/invoke/VarHandle" ∧ (parseMethodDescriptor mi.1.desc).map (fun d => d.parameters.length) = some k)
def mokV (mi : MI) (k : Nat) : Prop := mokB mi k ∧ Cond.instanceMethod mi.1 ∈ wU ∧ Cond.selects mi.1.cls mi.1 mi.1 ∈ wU
def mokS (mi : MI) (k : Nat) : Prop := mokB mi k ∧ Cond.static mi.1 ∈ wU
def mokI (mi : MI) (k : Nat) : Prop := mokB mi k ∧ Cond.instanceMethod mi.1 ∈ wU ∧ mi.1.name = "<init>" ∧ mi.2.2.2 = none
theorem wU_GoodIn {w : Cond} (h : w ∈ wU) : GoodIn wU (w :: wU) := fun x hx => by
  have hx' : x ∈ wU := by
    rcases List.mem_cons.mp hx with e | e
    · rw [e]; exact h
    · exact e
  exact ⟨hx', good_of_word (wU_good hx')⟩
section VCALL
variable {g : GG} {R : Room} {mi : MI} {Z : List Frame → Array Value → State → State → Prop} {E : Array Value → State → Prop} {pc nx : Nat} {lv : List (Nat × Value)} {st : List Value} {φ : Nat → ce} {n ca sl : Nat}
theorem W_run {p : Program} {e : Env} {s : State} {m : MethodId} {args : Array Value} {below : List Frame} {meth : Method} {c : Code} {H : Heap} {locs : List Loc} {ls : Array Slot} {st0 rest : List Value} {mc ms : Nat} {Q' : Option Value → (Nat → ce) → Nat → Prop} {a : Array Value} {Q : State → Prop}
    (hr : va_Run p g.1 e R s m args below meth c H locs ca sl mc ms (F0 m pc ls st0) rest (QQ g Q' a) (fun a => g.2.1 ≤ a)) (hw : Hw g s φ n H locs)
    (kk : ∀ (r : Option Value) (φ' : Nat → ce) (n' : Nat) (H1 : Heap) (locs1 : List Loc), Q' r φ' n' → Hw g s φ' n' H1 locs1 → W p g.1 e R s m args below meth c H1 locs1 (ca + mc) (sl + ms) Q (F0 m (pc + 3) ls (r.toList ++ rest))) : W p g.1 e R s m args below meth c H locs ca sl Q (F0 m pc ls st0) := by
  intro T hT X
  obtain ⟨v, st₀, t, T', L, h0, X', hL, e1, e2, ⟨r, φ', n', hv, hq, hp, hz, hk⟩, st⟩ := hr T hT X
  cases hv
  rw [h0] at hz hk
  obtain ⟨t2, a1, b1⟩ := kk v φ' n' T'.heap (locs ++ L) hq ⟨by rw [e1]; exact hp, Nat.le_trans hw.2.1 (by rw [e1]; exact hz), fun q h1 h2 => by rw [e1, hk q (Nat.lt_of_lt_of_le h1 hw.2.1) h2]; exact hw.2.2.1 q h1 h2, fun q hq => by
      rcases List.mem_append.mp hq with h | h
      · exact hw.2.2.2 q h
      · exact hL q h⟩ T' rfl X'
  exact ⟨t2, st t2 a1, b1⟩
theorem blindP {As : List Value} : FrameBlind (va_Pc As (fun U => Hp g φ n U.heap ∧ KU g U ∧ KX U)) := by
  intro a U f mk h
  obtain ⟨h1, h2, h3, h4⟩ := h
  exact ⟨h1, h2, va_K.moved (u := U) (U := U.calling f mk a) (Vm.Alike.refl U.vm) h3, KX.same (u := U) (U := U.calling f mk a) rfl h4⟩
theorem v_callV {d mc ms idx k ci N x : Nat} {T : u_T} {fs : List Value} {mi' : MI} {As' st0 : List Value} {Q' : Option Value → (Nat → ce) → Nat → Prop} (hM : CT g d mc ms mi' (rf g k :: As') φ n Q') (hd : decode mi.2.1 pc = .ok (.invokevirtual idx, 3)) (hn : pc + 3 = nx) (hm : mokV mi' x) (hl : Cond.methodLink mi.1.cls idx mi'.1 ∈ wU)
    (hk : k < n) (hφ : φ k = .inr (ci, fs)) (hc : vwCl[ci]? = some (mi'.1.cls, T, N)) (hst : st0 = As'.reverse ++ rf g k :: st) (hx : As'.length = x) (hcat : (st.map fun v => v.category).sum ≤ 8) (hR : d + 1 ≤ R.frames ∧ 8 + (mi'.2.2.1 + 11) + 34 * d ≤ R.locals) (hca : ca + mc ≤ R.cells ∧ sl + ms ≤ R.slots) (hnl : lv = lv)
    (kk : ∀ (r : Option Value) (φ' : Nat → ce) (n' : Nat), Q' r φ' n' → V g R mi Z E nx lv (r.toList ++ st) φ' n' (ca + mc) (sl + ms)) : V g R mi Z E pc lv st0 φ n ca sl := by
  subst hn
  subst hst
  intro p' e s m args below meth c H locs ls ev hw hh
  obtain ⟨hex, hb, hr, hml, hown, hts, hlk, hnm, hK, hbs, hE, hX⟩ := id ev
  obtain ⟨⟨m1, m2, m3⟩, m4, m5⟩ := hm
  have hat := hw.1.at hk hφ
  refine W_run (va_runV (As := As') (rest := st) (C := mi'.1.cls) (b := g.2.1 + k) ⟨hex, hb, hml, hown, hts⟩ hM ⟨callB_of (rm := rmD d mc ms) x hts (wU_GoodIn m1) rfl rfl rfl (hts _ m2) (hts _ hl) m3 hR, hts _ m4, hts _ m5⟩ ⟨blindP, ?_, fun U hU hW => ⟨rfl, by rw [hU]; exact hw.1, va_K.moved hW.alike hK, hX.warm hW⟩⟩ rfl hx hh.1 rfl (lv_room hcat) hd hca) hw (fun r φ' n' H1 locs1 hq hw1 => kk r φ' n' hq p' e s m args below meth c H1 locs1 ls ev hw1 hh)
  obtain ⟨r', h1, cell, q1, q2, q3, q4⟩ := hat
  have hr' : r' = (mi'.1.cls, T, N) := Option.some.inj (h1.symm.trans hc)
  subst hr'
  exact ⟨cell, q1, by rw [q3]; rfl, by rw [q2]; exact (hK.1 ci _ hc).2.1⟩
theorem v_callS {d mc ms idx x : Nat} {mi' : MI} {As' st0 : List Value} {Q' : Option Value → (Nat → ce) → Nat → Prop} (hM : CT g d mc ms mi' As' φ n Q') (hd : decode mi.2.1 pc = .ok (.invokestatic idx, 3)) (hn : pc + 3 = nx) (hm : mokS mi' x) (hl : Cond.methodLink mi.1.cls idx mi'.1 ∈ wU)
    (hst : st0 = As'.reverse ++ st) (hx : As'.length = x) (hcat : (st.map fun v => v.category).sum ≤ 8) (hR : d + 1 ≤ R.frames ∧ 8 + (mi'.2.2.1 + 11) + 34 * d ≤ R.locals) (hca : ca + mc ≤ R.cells ∧ sl + ms ≤ R.slots)
    (kk : ∀ (r : Option Value) (φ' : Nat → ce) (n' : Nat), Q' r φ' n' → V g R mi Z E nx lv (r.toList ++ st) φ' n' (ca + mc) (sl + ms)) : V g R mi Z E pc lv st0 φ n ca sl := by
  subst hn
  subst hst
  intro p' e s m args below meth c H locs ls ev hw hh
  obtain ⟨hex, hb, hr, hml, hown, hts, hlk, hnm, hK, hbs, hE, hX⟩ := id ev
  obtain ⟨⟨m1, m2, m3⟩, m4⟩ := hm
  exact W_run (va_runS (As := As') (rest := st) ⟨hex, hb, hml, hown, hts⟩ hM ⟨callB_of (rm := rmD d mc ms) x hts (wU_GoodIn m1) rfl rfl rfl (hts _ m2) (hts _ hl) m3 hR, hts _ m4⟩ ⟨blindP, fun U hU hW => ⟨rfl, by rw [hU]; exact hw.1, va_K.moved hW.alike hK, hX.warm hW⟩⟩ rfl hx hh.1 rfl (lv_room hcat) hd hca) hw (fun r φ' n' H1 locs1 hq hw1 => kk r φ' n' hq p' e s m args below meth c H1 locs1 ls ev hw1 hh)
theorem v_callI {d mc ms idx k x : Nat} {mi' : MI} {As' st0 : List Value} {Q' : Option Value → (Nat → ce) → Nat → Prop} (hM : CT g d mc ms mi' (rf g k :: As') φ n Q') (hd : decode mi.2.1 pc = .ok (.invokespecial idx, 3)) (hn : pc + 3 = nx) (hm : mokI mi' x) (hl : Cond.methodLink mi.1.cls idx mi'.1 ∈ wU)
    (hst : st0 = As'.reverse ++ rf g k :: st) (hx : As'.length = x) (hcat : (st.map fun v => v.category).sum ≤ 8) (hR : d + 1 ≤ R.frames ∧ 8 + (mi'.2.2.1 + 11) + 34 * d ≤ R.locals) (hca : ca + mc ≤ R.cells ∧ sl + ms ≤ R.slots)
    (kk : ∀ (r : Option Value) (φ' : Nat → ce) (n' : Nat), Q' r φ' n' → V g R mi Z E nx lv (r.toList ++ st) φ' n' (ca + mc) (sl + ms)) : V g R mi Z E pc lv st0 φ n ca sl := by
  subst hn
  subst hst
  intro p' e s m args below meth c H locs ls ev hw hh
  obtain ⟨hex, hb, hr, hml, hown, hts, hlk, hnm, hK, hbs, hE, hX⟩ := id ev
  obtain ⟨⟨m1, m2, m3⟩, m4, m5, m6⟩ := hm
  exact W_run (va_runI (As := As') (rest := st) (b := g.2.1 + k) ⟨hex, hb, hml, hown, hts⟩ hM ⟨callB_of (rm := rmD d mc ms) (ret := none) x hts (wU_GoodIn m1) (by rw [m6]) rfl rfl (hts _ m2) (hts _ hl) m3 hR, m5, hts _ m4⟩ ⟨blindP, fun U hU hW => ⟨rfl, by rw [hU]; exact hw.1, va_K.moved hW.alike hK, hX.warm hW⟩⟩ rfl hx hh.1 rfl (lv_room hcat) hd hca) hw (fun r φ' n' H1 locs1 hq hw1 => kk r φ' n' hq p' e s m args below meth c H1 locs1 ls ev hw1 hh)
/-- a private constructor of a nest mate -/
theorem v_callIN {d mc ms idx k x : Nat} {host : String} {mi' : MI} {As' st0 : List Value} {Q' : Option Value → (Nat → ce) → Nat → Prop} (hM : CT g d mc ms mi' (rf g k :: As') φ n Q') (hd : decode mi.2.1 pc = .ok (.invokespecial idx, 3)) (hn : pc + 3 = nx) (hm : mokI mi' x) (hl : ∀ U : State, KX U → va_Nw (.methodLinkNest mi.1.cls idx mi'.1 host) U)
    (hst : st0 = As'.reverse ++ rf g k :: st) (hx : As'.length = x) (hcat : (st.map fun v => v.category).sum ≤ 8) (hR : d + 1 ≤ R.frames ∧ 8 + (mi'.2.2.1 + 11) + 34 * d ≤ R.locals) (hca : ca + mc ≤ R.cells ∧ sl + ms ≤ R.slots)
    (kk : ∀ (r : Option Value) (φ' : Nat → ce) (n' : Nat), Q' r φ' n' → V g R mi Z E nx lv (r.toList ++ st) φ' n' (ca + mc) (sl + ms)) : V g R mi Z E pc lv st0 φ n ca sl := by
  subst hn
  subst hst
  intro p' e s m args below meth c H locs ls ev hw hh
  obtain ⟨hex, hb, hr, hml, hown, hts, hlk, hnm, hK, hbs, hE, hX⟩ := id ev
  obtain ⟨⟨m1, m2, m3⟩, m4, m5, m6⟩ := hm
  exact W_run (va_runIN (As := As') (rest := st) (b := g.2.1 + k) ⟨hex, hb, hml, hown, hts⟩ hM ⟨va_cnB (rm := rmD d mc ms) (ret := none) x hts (wU_GoodIn m1) (by rw [m6]) rfl rfl (hl s hX) (hts _ m2) m3 hR, m5, hts _ m4⟩ ⟨blindP, fun U hU hW => ⟨rfl, by rw [hU]; exact hw.1, va_K.moved hW.alike hK, hX.warm hW⟩⟩ rfl hx hh.1 rfl (lv_room hcat) hd hca) hw (fun r φ' n' H1 locs1 hq hw1 => kk r φ' n' hq p' e s m args below meth c H1 locs1 ls ev hw1 hh)
/-- Object's constructor -/
theorem v_objInit {idx k : Nat} (hd : decode mi.2.1 pc = .ok (.invokespecial idx, 3)) (hn : pc + 3 = nx) (hl : Cond.methodLink mi.1.cls idx Lib.objectInit ∈ wU) (hi : Cond.instanceMethod Lib.objectInit ∈ wU) (hc : Cond.code Lib.objectInit ⟨#[0xb1]⟩ 1 none ∈ wU) (hR : 1 ≤ R.frames ∧ 20 ≤ R.locals) (hcat : (st.map fun v => v.category).sum ≤ 8) (kk : V g R mi Z E nx lv st φ n ca sl) : V g R mi Z E pc lv (rf g k :: st) φ n ca sl := by
  subst hn
  intro p' e s m args below meth c H locs ls ev hw hh
  obtain ⟨hex, hb, hr, hml, hown, hts, hlk, hnm, hK, hbs, hE, hX⟩ := id ev
  exact W.objInit hex hb hown (hts _ hl) (hts _ hi) (hts _ hc) rfl (by rw [hml]; exact hh.1) rfl hd hR.1 (by show 2 * 0 + _ + 12 ≤ _; omega) (kk p' e s m args below meth c H locs ls ev hw hh)
/-- ends -/
theorem v_iret {x : Int} {Q : Option Value → (Nat → ce) → Nat → Prop} (hd : decode mi.2.1 pc = .ok (.ireturn, 1)) (hr : mi.2.2.2 = some .int) (hQ : Q (some (vi x)) φ n) : V g R mi (ZM g ca sl Q) E pc lv [vi x] φ n ca sl := by
  intro p' e s m args below meth c H locs ls ev hw hh
  obtain ⟨hex, hb, hr', hml, hown, hts, hlk, hnm, hK, hbs, hE, hX⟩ := id ev
  exact W.iret (v := Int32.ofInt x) hex hb (hr'.trans hr) (fun t ht hW => ⟨_, φ, n, rfl, hQ, by rw [ht]; exact hw.1, hw.2.F ht⟩) hw.2.2.2 hd
theorem v_zret {x : Int} {Q : Option Value → (Nat → ce) → Nat → Prop} (hd : decode mi.2.1 pc = .ok (.ireturn, 1)) (hr : mi.2.2.2 = some .boolean) (hx : x = 0 ∨ x = 1) (hQ : Q (some (vi x)) φ n) : V g R mi (ZM g ca sl Q) E pc lv [vi x] φ n ca sl := by
  intro p' e s m args below meth c H locs ls ev hw hh
  obtain ⟨hex, hb, hr', hml, hown, hts, hlk, hnm, hK, hbs, hE, hX⟩ := id ev
  exact W.zret (v := Int32.ofInt x) (ty := .boolean) hex hb (hr'.trans hr) (by rcases hx with rfl | rfl <;> rfl) (fun t ht hW => ⟨_, φ, n, rfl, hQ, by rw [ht]; exact hw.1, hw.2.F ht⟩) hw.2.2.2 hd
theorem v_ret {Q : Option Value → (Nat → ce) → Nat → Prop} (hd : decode mi.2.1 pc = .ok (.return_, 1)) (hr : mi.2.2.2 = none) (hQ : Q none φ n) : V g R mi (ZM g ca sl Q) E pc lv [] φ n ca sl := by
  intro p' e s m args below meth c H locs ls ev hw hh
  obtain ⟨hex, hb, hr', hml, hown, hts, hlk, hnm, hK, hbs, hE, hX⟩ := id ev
  exact W.vret hex hb (hr'.trans hr) (fun t ht hW => ⟨_, φ, n, rfl, hQ, by rw [ht]; exact hw.1, hw.2.F ht⟩) hw.2.2.2 hd
end VCALL
