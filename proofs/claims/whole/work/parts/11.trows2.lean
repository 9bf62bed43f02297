section TR2
variable {g : GG} {R : Room} {mi : MI} {Z : List Frame → Array Value → State → State → Prop} {E : Array Value → State → Prop} {pc nx : Nat} {lv : List (Nat × Value)} {st : List Value} {kp : Bool} {σ : SS} {ca sl : Nat}
theorem t_aldL {a : Nat} {t i x : Int} {L : Int} (hd : decode mi.2.1 pc = .ok (.iaload, 1)) (hn : pc + 1 = nx) (hA : isA a = true) (h : ok kp a t i) (hL : (lenA a : Int) = L) (h0 : 0 ≤ x ∧ x < L) (kk : V g R mi Z E nx lv (vi (σ a t i x) :: st) (vw g kp σ) (sz kp) ca sl) : V g R mi Z E pc lv (vi x :: rf g (ad a t i) :: st) (vw g kp σ) (sz kp) ca sl :=
  t_ald hd hn hA h (by rw [hL]; exact h0) kk
theorem t_astL {a : Nat} {t i x z : Int} {L : Int} (hd : decode mi.2.1 pc = .ok (.iastore, 1)) (hn : pc + 1 = nx) (hA : isA a = true) (h : ok kp a t i) (hL : (lenA a : Int) = L) (h0 : 0 ≤ x ∧ x < L) (kk : V g R mi Z E nx lv st (vw g kp (up σ a t i x z)) (sz kp) ca sl) : V g R mi Z E pc lv (vi z :: vi x :: rf g (ad a t i) :: st) (vw g kp σ) (sz kp) ca sl :=
  t_ast hd hn hA h (by rw [hL]; exact h0) kk
theorem t_lenL {a : Nat} {t i : Int} {L : Int} (hd : decode mi.2.1 pc = .ok (.arraylength, 1)) (hn : pc + 1 = nx) (hA : isA a = true) (h : ok kp a t i) (hL : (lenA a : Int) = L) (kk : V g R mi Z E nx lv (vi L :: st) (vw g kp σ) (sz kp) ca sl) : V g R mi Z E pc lv (rf g (ad a t i) :: st) (vw g kp σ) (sz kp) ca sl := by
  subst hL
  exact t_len hd hn hA h kk
end TR2
theorem if_iff {p q : Prop} [Decidable p] [Decidable q] (h : p ↔ q) (a b : Int) : (if p then a else b) = if q then a else b := by
  by_cases hp : p
  · rw [if_pos hp, if_pos (h.mp hp)]
  · rw [if_neg hp, if_neg (fun z => hp (h.mpr z))]
theorem if01 {p : Prop} [Decidable p] : (if p then (1 : Int) else 0) = 0 ∨ (if p then (1 : Int) else 0) = 1 := by
  by_cases hp : p
  · exact Or.inr (if_pos hp)
  · exact Or.inl (if_neg hp)
theorem if1 {p : Prop} [Decidable p] : (if p then (1 : Int) else 0) = 0 ↔ ¬ p := by
  by_cases hp : p
  · rw [if_pos hp]; exact ⟨fun h => absurd h (by decide), fun h => absurd hp h⟩
  · rw [if_neg hp]; exact ⟨fun _ => hp, fun _ => rfl⟩
theorem if01R {p : Prop} [Decidable p] : inR (if p then (1 : Int) else 0) := by
  rcases if01 (p := p) with h | h <;> rw [h] <;> exact ⟨by decide, by decide⟩
