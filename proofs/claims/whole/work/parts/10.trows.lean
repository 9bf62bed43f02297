/-! ===== contracts over the typed world ===== -/
abbrev TC (g : GG) (kp : Bool) (d : Nat) (mi : MI) (As : List Value) (σ : SS) (Q : Option Value → SS → Prop) : Prop := CT g d 0 0 mi As (vw g kp σ) (sz kp) (fun r φ n => ∃ τ : SS, φ = vw g kp τ ∧ n = sz kp ∧ Q r τ)
/-- answer and state, exactly -/
abbrev XC (g : GG) (kp : Bool) (d : Nat) (mi : MI) (As : List Value) (σ : SS) (r : Option Value) (τ : SS) : Prop := TC g kp d mi As σ (fun r' τ' => r' = r ∧ τ' = τ)
abbrev ZT (g : GG) (kp : Bool) (Q : Option Value → SS → Prop) : List Frame → Array Value → State → State → Prop := ZM g 0 0 (fun r φ n => ∃ τ : SS, φ = vw g kp τ ∧ n = sz kp ∧ Q r τ)
/-- a value of a condition -/
def bI (p : Prop) (h : Decidable p) : Int := match h with
  | isTrue _ => 1
  | isFalse _ => 0
theorem bI_t {p : Prop} {h : Decidable p} (hp : p) : bI p h = 1 := by
  cases h with
  | isTrue _ => rfl
  | isFalse hn => exact absurd hp hn
theorem bI_f {p : Prop} {h : Decidable p} (hp : ¬ p) : bI p h = 0 := by
  cases h with
  | isTrue ht => exact absurd ht hp
  | isFalse _ => rfl
theorem ok_a {kp : Bool} {a : Nat} {i : Int} (h : 0 ≤ i ∧ i < lenK a) : ok kp a 0 i := ⟨h.1, h.2, Or.inl rfl⟩
theorem ok_m {kp : Bool} (a : Nat) (h : (decide (0 < lenK a)) = true) : ok kp a 0 0 := ⟨Int.le_refl 0, of_decide_eq_true h, Or.inl rfl⟩
theorem ok_0 {kp : Bool} {i : Int} (h : 0 ≤ i ∧ i < 12) : ok kp 0 0 i := ok_a h
theorem ok_1 {kp : Bool} {i : Int} (h : 0 ≤ i ∧ i < 12) : ok kp 1 0 i := ok_a h
theorem ok_2 {kp : Bool} {i : Int} (h : 0 ≤ i ∧ i < 16) : ok kp 2 0 i := ok_a h
theorem ok_3 {kp : Bool} {i : Int} (h : 0 ≤ i ∧ i < 16) : ok kp 3 0 i := ok_a h
theorem ok_4 {kp : Bool} {i : Int} (h : 0 ≤ i ∧ i < 8) : ok kp 4 0 i := ok_a h
theorem ok_5 {kp : Bool} {i : Int} (h : 0 ≤ i ∧ i < 60) : ok kp 5 0 i := ok_a h
theorem ok_6 {kp : Bool} {i : Int} (h : 0 ≤ i ∧ i < 60) : ok kp 6 0 i := ok_a h
theorem ok_8 {kp : Bool} {i : Int} (h : 0 ≤ i ∧ i < 12) : ok kp 8 0 i := ok_a h
def isB (a : Nat) (j : Int) : Prop := (a = 2 ∧ (j = 4 ∨ j = 5)) ∨ (a = 5 ∧ j = 1)
/-- all ints of the world are ints, and its booleans are 0 or 1 -/
def RG (σ : SS) : Prop := (∀ (a : Nat) (t i j : Int), inR (σ a t i j)) ∧ ∀ (a : Nat) (t i j : Int), isB a j → σ a t i j = 0 ∨ σ a t i j = 1
theorem RG_up {σ : SS} {a : Nat} {t i j v : Int} (h : RG σ) (hv : inR v) (hb : isB a j → v = 0 ∨ v = 1 := by (intro q; unfold isB at q; omega)) : RG (up σ a t i j v) := by
  refine ⟨fun a' t' i' j' => ?_, fun a' t' i' j' q => ?_⟩
  · unfold up
    split
    · exact hv
    · exact h.1 _ _ _ _
  · unfold up
    split
    · next z => exact hb (by rw [← z.1, ← z.2.2.2]; exact q)
    · exact h.2 _ _ _ _ q
section TCALL
variable {g : GG} {R : Room} {mi : MI} {Z : List Frame → Array Value → State → State → Prop} {E : Array Value → State → Prop} {pc nx : Nat} {lv : List (Nat × Value)} {st : List Value} {kp : Bool} {σ : SS} {ca sl : Nat}
theorem TC.of {d : Nat} {As : List Value} {Q : Option Value → SS → Prop} {lv : List (Nat × Value)} (hy : plainName mi.1.cls = true) (hl : (lg_sl As).length ≤ mi.2.2.1) (hlv : lv_args 0 As = lv)
    (h : V g (rmD d 0 0) mi (ZT g kp Q) E0 0 lv [] (vw g kp σ) (sz kp) 0 0) : TC g kp d mi As σ Q := CT.of hy hl hlv h
theorem TC.mono {d : Nat} {As : List Value} {Q Q' : Option Value → SS → Prop} (hQ : ∀ r τ, Q r τ → Q' r τ) (h : TC g kp d mi As σ Q) : TC g kp d mi As σ Q' :=
  CT.mono (fun r φ n ⟨τ, h1, h2, h3⟩ => ⟨τ, h1, h2, hQ r τ h3⟩) h
theorem t_iret {x : Int} {Q : Option Value → SS → Prop} (hd : decode mi.2.1 pc = .ok (.ireturn, 1)) (hr : mi.2.2.2 = some .int) (hQ : Q (some (vi x)) σ) : V g R mi (ZT g kp Q) E pc lv [vi x] (vw g kp σ) (sz kp) 0 0 := v_iret hd hr ⟨σ, rfl, rfl, hQ⟩
theorem t_zret {x : Int} {Q : Option Value → SS → Prop} (hd : decode mi.2.1 pc = .ok (.ireturn, 1)) (hr : mi.2.2.2 = some .boolean) (hx : x = 0 ∨ x = 1) (hQ : Q (some (vi x)) σ) : V g R mi (ZT g kp Q) E pc lv [vi x] (vw g kp σ) (sz kp) 0 0 := v_zret hd hr hx ⟨σ, rfl, rfl, hQ⟩
theorem t_ret {Q : Option Value → SS → Prop} (hd : decode mi.2.1 pc = .ok (.return_, 1)) (hr : mi.2.2.2 = none) (hQ : Q none σ) : V g R mi (ZT g kp Q) E pc lv [] (vw g kp σ) (sz kp) 0 0 := v_ret hd hr ⟨σ, rfl, rfl, hQ⟩
/-- calls: an instance's method on the cell (a, t, i) -/
theorem t_callV {d idx x ci N a : Nat} {t i : Int} {T : u_T} {fs : List Value} {mi' : MI} {As' st0 : List Value} {Q' : Option Value → SS → Prop} (hM : TC g kp d mi' (rf g (ad a t i) :: As') σ Q') (hd : decode mi.2.1 pc = .ok (.invokevirtual idx, 3)) (hn : pc + 3 = nx) (hm : mokV mi' x) (hl : Cond.methodLink mi.1.cls idx mi'.1 ∈ wU)
    (ha : a < 21) (h : ok kp a t i) (hb : bld g kp a t i (σ a t i) = .inr (ci, fs)) (hc : vwCl[ci]? = some (mi'.1.cls, T, N)) (hst : st0 = As'.reverse ++ rf g (ad a t i) :: st) (hx : As'.length = x) (hcat : (st.map fun v => v.category).sum ≤ 8) (hR : d + 1 ≤ R.frames ∧ 8 + (mi'.2.2.1 + 11) + 34 * d ≤ R.locals) (hca : ca ≤ R.cells ∧ sl ≤ R.slots)
    (kk : ∀ (r : Option Value) (τ : SS), Q' r τ → V g R mi Z E nx lv (r.toList ++ st) (vw g kp τ) (sz kp) ca sl) : V g R mi Z E pc lv st0 (vw g kp σ) (sz kp) ca sl :=
  v_callV hM hd hn hm hl (ky_ad ha h).2 ((vw_at ha h).trans hb) hc hst hx hcat hR hca rfl (fun r φ' n' ⟨τ, h1, h2, h3⟩ => by subst h1; subst h2; exact kk r τ h3)
theorem t_callVi {d idx x ci N a : Nat} {t i z : Int} {τ : SS} {T : u_T} {fs : List Value} {mi' : MI} {As' st0 : List Value} (hM : XC g kp d mi' (rf g (ad a t i) :: As') σ (some (vi z)) τ) (hd : decode mi.2.1 pc = .ok (.invokevirtual idx, 3)) (hn : pc + 3 = nx) (hm : mokV mi' x) (hl : Cond.methodLink mi.1.cls idx mi'.1 ∈ wU)
    (ha : a < 21) (h : ok kp a t i) (hb : bld g kp a t i (σ a t i) = .inr (ci, fs)) (hc : vwCl[ci]? = some (mi'.1.cls, T, N)) (hst : st0 = As'.reverse ++ rf g (ad a t i) :: st) (hx : As'.length = x) (hcat : (st.map fun v => v.category).sum ≤ 8) (hR : d + 1 ≤ R.frames ∧ 8 + (mi'.2.2.1 + 11) + 34 * d ≤ R.locals) (hca : ca ≤ R.cells ∧ sl ≤ R.slots)
    (kk : V g R mi Z E nx lv (vi z :: st) (vw g kp τ) (sz kp) ca sl) : V g R mi Z E pc lv st0 (vw g kp σ) (sz kp) ca sl :=
  t_callV hM hd hn hm hl ha h hb hc hst hx hcat hR hca (fun r τ' ⟨h1, h2⟩ => by subst h1; subst h2; exact kk)
theorem t_callVv {d idx x ci N a : Nat} {t i : Int} {τ : SS} {T : u_T} {fs : List Value} {mi' : MI} {As' st0 : List Value} (hM : XC g kp d mi' (rf g (ad a t i) :: As') σ none τ) (hd : decode mi.2.1 pc = .ok (.invokevirtual idx, 3)) (hn : pc + 3 = nx) (hm : mokV mi' x) (hl : Cond.methodLink mi.1.cls idx mi'.1 ∈ wU)
    (ha : a < 21) (h : ok kp a t i) (hb : bld g kp a t i (σ a t i) = .inr (ci, fs)) (hc : vwCl[ci]? = some (mi'.1.cls, T, N)) (hst : st0 = As'.reverse ++ rf g (ad a t i) :: st) (hx : As'.length = x) (hcat : (st.map fun v => v.category).sum ≤ 8) (hR : d + 1 ≤ R.frames ∧ 8 + (mi'.2.2.1 + 11) + 34 * d ≤ R.locals) (hca : ca ≤ R.cells ∧ sl ≤ R.slots)
    (kk : V g R mi Z E nx lv st (vw g kp τ) (sz kp) ca sl) : V g R mi Z E pc lv st0 (vw g kp σ) (sz kp) ca sl :=
  t_callV hM hd hn hm hl ha h hb hc hst hx hcat hR hca (fun r τ' ⟨h1, h2⟩ => by subst h1; subst h2; exact kk)
theorem t_callSi {d idx x : Nat} {z : Int} {τ : SS} {mi' : MI} {As' st0 : List Value} (hM : XC g kp d mi' As' σ (some (vi z)) τ) (hd : decode mi.2.1 pc = .ok (.invokestatic idx, 3)) (hn : pc + 3 = nx) (hm : mokS mi' x) (hl : Cond.methodLink mi.1.cls idx mi'.1 ∈ wU)
    (hst : st0 = As'.reverse ++ st) (hx : As'.length = x) (hcat : (st.map fun v => v.category).sum ≤ 8) (hR : d + 1 ≤ R.frames ∧ 8 + (mi'.2.2.1 + 11) + 34 * d ≤ R.locals) (hca : ca ≤ R.cells ∧ sl ≤ R.slots)
    (kk : V g R mi Z E nx lv (vi z :: st) (vw g kp τ) (sz kp) ca sl) : V g R mi Z E pc lv st0 (vw g kp σ) (sz kp) ca sl :=
  v_callS hM hd hn hm hl hst hx hcat hR hca (fun r φ' n' ⟨τ', h1, h2, h3, h4⟩ => by subst h1; subst h2; subst h3; subst h4; exact kk)
end TCALL
