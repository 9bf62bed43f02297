theorem mn_s : Cond.static Lib.Math.min.name ∈ wU := by decide +kernel
theorem mn_i : Cond.initialized "java/lang/Math" ∈ wU := by decide +kernel
theorem mn_c : Cond.code Lib.Math.min.name Lib.Math.min.code 2 (some .int) ∈ wU := by decide +kernel
theorem ac_n : Cond.native arraycopyName ∈ wU := by decide +kernel
theorem ac_s : Cond.static arraycopyName ∈ wU := by decide +kernel
theorem ac_i : Cond.initialized "java/lang/System" ∈ wU := by decide +kernel
section TR3
variable {g : GG} {R : Room} {mi : MI} {Z : List Frame → Array Value → State → State → Prop} {E : Array Value → State → Prop} {pc nx : Nat} {lv : List (Nat × Value)} {st : List Value} {φ : Nat → ce} {n : Nat} {kp : Bool} {σ : SS} {ca sl : Nat}
/-- a branch on a condition's own value -/
theorem v_ifB_eq {p : Prop} [hdec : Decidable p] {off : Int} {tgt : Nat} (hd : decode mi.2.1 pc = .ok (.ifCond .eq off, 3)) (ht : (pc : Int) + off = (tgt : Int)) (hn : pc + 3 = nx) (k1 : ¬ p → V g R mi Z E tgt lv st φ n ca sl) (k2 : p → V g R mi Z E nx lv st φ n ca sl) : V g R mi Z E pc lv (vi (if p then 1 else 0) :: st) φ n ca sl :=
  v_if_eq hd ht hn if01R (fun h => k1 (if1.mp h)) (fun h => k2 (Classical.byContradiction fun q => h (if1.mpr q)))
theorem v_ifB_ne {p : Prop} [hdec : Decidable p] {off : Int} {tgt : Nat} (hd : decode mi.2.1 pc = .ok (.ifCond .ne off, 3)) (ht : (pc : Int) + off = (tgt : Int)) (hn : pc + 3 = nx) (k1 : p → V g R mi Z E tgt lv st φ n ca sl) (k2 : ¬ p → V g R mi Z E nx lv st φ n ca sl) : V g R mi Z E pc lv (vi (if p then 1 else 0) :: st) φ n ca sl :=
  v_if_ne hd ht hn if01R (fun h => k1 (Classical.byContradiction fun q => h (if1.mpr q))) (fun h => k2 (if1.mp h))
theorem t_min {idx : Nat} {x y : Int} (hd : decode mi.2.1 pc = .ok (.invokestatic idx, 3)) (hn : pc + 3 = nx) (hl : Cond.methodLink mi.1.cls idx Lib.Math.min.name ∈ wU) (hR : 1 ≤ R.frames ∧ 34 ≤ R.locals) (hx : inR x) (hy : inR y) (hcat : (st.map fun v => v.category).sum ≤ 8) (hca : ca ≤ R.cells ∧ sl ≤ R.slots) (kk : V g R mi Z E nx lv (vi (if y < x then y else x) :: st) φ n ca sl) : V g R mi Z E pc lv (vi y :: vi x :: st) φ n ca sl := by
  subst hn
  intro p' e s m args below meth c H locs ls ev hw hh
  obtain ⟨hex, hb, hr, hml, hown, hts, hlk, hnm, hK, hbs, hE, hX⟩ := id ev
  refine va_mmin hex hb (by rw [hml]; exact hh.1.symm) hown (hts _ hl) (hts _ mn_s) (hts _ mn_i) (hts _ mn_c) hR.1 (by omega) hca.1 hca.2 hd ?_
  have h := kk p' e s m args below meth c H locs ls ev hw hh
  have e1 : (if Int32.ofInt y < Int32.ofInt x then Int32.ofInt y else Int32.ofInt x) = Int32.ofInt (if y < x then y else x) := by
    by_cases q : y < x
    · rw [if_pos q, if_pos ((I_lt hy hx).mpr q)]
    · rw [if_neg q, if_neg (fun z => q ((I_lt hy hx).mp z))]
  rw [e1]
  exact h
end TR3
