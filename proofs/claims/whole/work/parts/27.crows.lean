/-! ===== rows for the class: quotients, or, writes of stretches ===== -/
section CR
variable {g : GG} {R : Room} {mi : MI} {Z : List Frame → Array Value → State → State → Prop} {E : Array Value → State → Prop} {pc nx : Nat} {lv : List (Nat × Value)} {st : List Value} {φ : Nat → ce} {n : Nat} {kp : Bool} {σ : SS} {ca sl : Nat}
theorem I_div {x y : Int} (hx : 0 ≤ x ∧ x ≤ 2147483647) (hy : 0 < y ∧ y ≤ 2147483647) : Int32.ofInt x / Int32.ofInt y = Int32.ofInt (x / y) := by
  apply Int32.toInt_inj.1
  have h1 : 0 ≤ x / y := Int.ediv_nonneg hx.1 (by omega)
  have h2 : x / y ≤ x := Int.ediv_le_self y hx.1
  rw [Int32.toInt_div, I_toInt ⟨by omega, by omega⟩, I_toInt ⟨by omega, by omega⟩, I_toInt ⟨by omega, by omega⟩, Int.tdiv_eq_ediv_of_nonneg hx.1]
  show (x / y).bmod (2 ^ 32) = x / y
  rw [Int.bmod_eq_of_le (by omega) (by omega)]
theorem v_idiv {x y : Int} (hd : decode mi.2.1 pc = .ok (.idiv, 1)) (hn : pc + 1 = nx) (hx : 0 ≤ x ∧ x ≤ 2147483647 ∧ 0 < y ∧ y ≤ 2147483647) (kk : V g R mi Z E nx lv (vi (x / y) :: st) φ n ca sl) : V g R mi Z E pc lv (vi y :: vi x :: st) φ n ca sl := by
  subst hn
  intro p e s m args below meth c H locs ls ev hw hh
  refine lv_idiv ev.1 ev.2.1 hd (fun q => ?_) ?_
  · have := (I_eq (x := y) (y := 0) ⟨by omega, by omega⟩ inR_0).mp q
    omega
  · rw [I_div ⟨hx.1, hx.2.1⟩ hx.2.2]
    exact kk p e s m args below meth c H locs ls ev hw hh
theorem v_irem {x y : Int} (hd : decode mi.2.1 pc = .ok (.irem, 1)) (hn : pc + 1 = nx) (hx : 0 ≤ x ∧ x ≤ 2147483647 ∧ 0 < y ∧ y ≤ 2147483647) (kk : V g R mi Z E nx lv (vi (x % y) :: st) φ n ca sl) : V g R mi Z E pc lv (vi y :: vi x :: st) φ n ca sl := by
  subst hn
  intro p e s m args below meth c H locs ls ev hw hh
  refine lv_irem ev.1 ev.2.1 hd (fun q => ?_) ?_
  · have := (I_eq (x := y) (y := 0) ⟨by omega, by omega⟩ inR_0).mp q
    omega
  · rw [I_div ⟨hx.1, hx.2.1⟩ hx.2.2, ← Int32.ofInt_mul, ← Int32.ofInt_sub, show x - x / y * y = x % y from by rw [Int.emod_def, Int.mul_comm]]
    exact kk p e s m args below meth c H locs ls ev hw hh
theorem v_ior {x y : Int} (hd : decode mi.2.1 pc = .ok (.ior, 1)) (hn : pc + 1 = nx) (hx : (x = 0 ∨ x = 1) ∧ (y = 0 ∨ y = 1)) (kk : V g R mi Z E nx lv (vi (if x = 1 ∨ y = 1 then 1 else 0) :: st) φ n ca sl) : V g R mi Z E pc lv (vi y :: vi x :: st) φ n ca sl := by
  subst hn
  intro p e s m args below meth c H locs ls ev hw hh
  refine lv_ior ev.1 ev.2.1 hd ?_
  have h := kk p e s m args below meth c H locs ls ev hw hh
  obtain ⟨rfl | rfl, rfl | rfl⟩ := hx <;> exact h
end CR
/-- one cell's ints as a whole -/
def sK (σ : SS) (a : Nat) (i : Int) (C : NN) : SS := fun a' t' i' j' => if a' = a ∧ t' = 0 ∧ i' = i then C j' else σ a' t' i' j'
theorem sK_id {σ : SS} {a : Nat} {i : Int} : sK σ a i (σ a 0 i) = σ := by
  funext a' t' i' j'
  unfold sK
  by_cases h : a' = a ∧ t' = 0 ∧ i' = i
  · rw [if_pos h]; obtain ⟨rfl, rfl, rfl⟩ := h; rfl
  · rw [if_neg h]
theorem sK_up {σ : SS} {a : Nat} {i j v : Int} {C : NN} : up (sK σ a i C) a 0 i j v = sK σ a i (uI C j v) := by
  funext a' t' i' j'
  unfold up sK uI
  by_cases h : a' = a ∧ t' = 0 ∧ i' = i
  · obtain ⟨rfl, rfl, rfl⟩ := h
    by_cases e : j' = j
    · rw [if_pos ⟨rfl, rfl, rfl, e⟩, if_pos ⟨rfl, rfl, rfl⟩, if_pos e]
    · rw [if_neg (fun q => e q.2.2.2), if_pos ⟨rfl, rfl, rfl⟩, if_pos ⟨rfl, rfl, rfl⟩, if_neg e]
  · rw [if_neg (fun q => h ⟨q.1, q.2.1, q.2.2.1⟩), if_neg h, if_neg h]
theorem up_sK {σ : SS} {a : Nat} {i j v : Int} : up σ a 0 i j v = sK σ a i (uI (σ a 0 i) j v) := by
  rw [← sK_up, sK_id]
theorem sK_s {σ : SS} {a : Nat} {i : Int} {C : NN} : sK σ a i C a 0 i = C := by
  funext j
  exact if_pos ⟨rfl, rfl, rfl⟩
theorem sK_n {σ : SS} {a a' : Nat} {i t' i' : Int} {C : NN} (h : a' ≠ a ∨ t' ≠ 0 ∨ i' ≠ i) : sK σ a i C a' t' i' = σ a' t' i' := by
  funext j
  unfold sK
  rw [if_neg]
  rintro ⟨h1, h2, h3⟩
  rcases h with h | h | h
  · exact h h1
  · exact h h2
  · exact h h3
theorem sK_sK {σ : SS} {a : Nat} {i : Int} {C D : NN} : sK (sK σ a i C) a i D = sK σ a i D := by
  funext a' t' i' j'
  unfold sK
  by_cases h : a' = a ∧ t' = 0 ∧ i' = i
  · rw [if_pos h, if_pos h]
  · rw [if_neg h, if_neg h, if_neg h]
