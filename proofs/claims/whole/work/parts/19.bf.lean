/-! ===== FAR: rounds of looking at all belts come to rest within twelve ===== -/
/-- what the array must be for FAR -/
def okF (N : NN) (ch : Int) : Prop := (0 ≤ N 1 ∧ N 1 ≤ 16) ∧ (0 ≤ ch ∧ ch < 12) ∧ ∀ b, 0 ≤ b → b < N 1 → (0 ≤ N (68 + b) ∧ N (68 + b) < 12) ∧ (0 ≤ N (84 + b) ∧ N (84 + b) < 12) ∧ (1 ≤ N (100 + b) ∧ N (100 + b) ≤ 12)
/-- a belt that may be gone -/
def usB (N : NN) (ch b : Int) : Prop := ¬ N (116 + b) = 1 ∧ (N (84 + b) = ch ∨ (N (8 + N (84 + b)) ≠ 0 ∧ N (8 + N (84 + b)) ≠ 5))
/-- F lies below F' -/
def leF (F F' : NN) : Prop := ∀ p, 0 ≤ F' p → 0 ≤ F p ∧ F p ≤ F' p
theorem leF_rf (F : NN) : leF F F := fun _ h => ⟨h, Int.le_refl _⟩
theorem leF_tr {A B C : NN} (h1 : leF A B) (h2 : leF B C) : leF A C := fun p h => ⟨(h1 p (h2 p h).1).1, Int.le_trans (h1 p (h2 p h).1).2 (h2 p h).2⟩
/-- -1 or not below 0 -/
def sgF (F : NN) : Prop := ∀ p, F p = -1 ∨ 0 ≤ F p
/-- only the twelve points have a way -/
def rgF (F : NN) : Prop := ∀ p, ¬ (0 ≤ p ∧ p < 12) → F p = -1
/-- each way goes by a belt -/
def byF (N : NN) (ch : Int) (F : NN) : Prop := F ch = 0 ∧ ∀ p, p ≠ ch → 0 ≤ F p → ∃ b, 0 ≤ b ∧ b < N 1 ∧ usB N ch b ∧ N (68 + b) = p ∧ 0 ≤ F (N (84 + b)) ∧ N (100 + b) + F (N (84 + b)) ≤ F p
theorem rlx_cases (N : NN) (ch : Int) (F : NN) (b : Int) : rlx N ch F b = F ∨ (usB N ch b ∧ 0 ≤ F (N (84 + b)) ∧ (F (N (68 + b)) < 0 ∨ N (100 + b) + F (N (84 + b)) < F (N (68 + b))) ∧ rlx N ch F b = uI F (N (68 + b)) (N (100 + b) + F (N (84 + b)))) := by
  unfold rlx
  split
  · exact Or.inl rfl
  · rename_i h
    split
    · rename_i h2
      refine Or.inr ⟨⟨fun q => h (Or.inl q), ?_⟩, ?_, h2, rfl⟩
      · exact Classical.byContradiction fun q => h (Or.inr (Or.inl q))
      · exact Classical.byContradiction fun q => h (Or.inr (Or.inr (by omega)))
    · exact Or.inl rfl
theorem rlx_le {N : NN} {ch : Int} {F : NN} {b : Int} (ho : okF N ch) (h0 : 0 ≤ b) (h1 : b < N 1) : leF (rlx N ch F b) F := by
  obtain ⟨-, -, hb⟩ := ho
  have hb := hb b h0 h1
  rcases rlx_cases N ch F b with e | ⟨h2, h3, h4, e⟩
  · rw [e]; exact leF_rf F
  · rw [e]
    intro p hp
    by_cases q : p = N (68 + b)
    · subst q
      rw [uI_s]
      omega
    · rw [uI_n q]
      exact ⟨hp, Int.le_refl _⟩
theorem rlx_sg {N : NN} {ch : Int} {F : NN} {b : Int} (ho : okF N ch) (h0 : 0 ≤ b) (h1 : b < N 1) (hs : sgF F) : sgF (rlx N ch F b) := by
  obtain ⟨-, -, hb⟩ := ho
  have hb := hb b h0 h1
  rcases rlx_cases N ch F b with e | ⟨h2, h3, h4, e⟩
  · rw [e]; exact hs
  · rw [e]
    intro p
    by_cases q : p = N (68 + b)
    · subst q
      rw [uI_s]
      omega
    · rw [uI_n q]
      exact hs p
theorem rlx_rg {N : NN} {ch : Int} {F : NN} {b : Int} (ho : okF N ch) (h0 : 0 ≤ b) (h1 : b < N 1) (hs : rgF F) : rgF (rlx N ch F b) := by
  obtain ⟨-, -, hb⟩ := ho
  have hb := hb b h0 h1
  rcases rlx_cases N ch F b with e | ⟨h2, h3, h4, e⟩
  · rw [e]; exact hs
  · rw [e]
    intro p hp
    rw [uI_n (by omega)]
    exact hs p hp
theorem rlx_by {N : NN} {ch : Int} {F : NN} {b : Int} (ho : okF N ch) (h0 : 0 ≤ b) (h1 : b < N 1) (hs : byF N ch F) : byF N ch (rlx N ch F b) := by
  have hle := rlx_le (F := F) ho h0 h1
  obtain ⟨-, -, hb⟩ := ho
  have hb := hb b h0 h1
  rcases rlx_cases N ch F b with e | ⟨h2, h3, h4, e⟩
  · rw [e]; exact hs
  · rw [e] at hle ⊢
    obtain ⟨s1, s2⟩ := hs
    have hne : N (68 + b) ≠ ch := fun q => by rw [q, s1] at h4; omega
    have hft : N (84 + b) ≠ N (68 + b) := fun q => by rw [q] at h3 h4; omega
    refine ⟨by rw [uI_n (Ne.symm hne)]; exact s1, fun p hp hp0 => ?_⟩
    by_cases q : p = N (68 + b)
    · subst q
      refine ⟨b, h0, h1, h2, rfl, ?_, ?_⟩
      · rw [uI_n hft]; exact h3
      · rw [uI_n hft, uI_s]; exact Int.le_refl _
    · rw [uI_n q] at hp0 ⊢
      obtain ⟨c, c0, c1, c2, c3, c4, c5⟩ := s2 p hp hp0
      have := hle _ c4
      exact ⟨c, c0, c1, c2, c3, this.1, by omega⟩
theorem rnd_all {N : NN} {ch : Int} {F : NN} (P : NN → Prop) (h : P F) (hs : ∀ (F' : NN) (b : Int), 0 ≤ b → b < N 1 → P F' → P (rlx N ch F' b)) : ∀ n : Nat, (n : Int) ≤ N 1 → P (rnd N ch F n)
  | 0, _ => h
  | n + 1, hn => hs _ _ (by omega) (by omega) (rnd_all P h hs n (by omega))
theorem rnd_le {N : NN} {ch : Int} {F : NN} (ho : okF N ch) (n : Nat) (hn : (n : Int) ≤ N 1) : leF (rnd N ch F n) F :=
  rnd_all (fun A => leF A F) (leF_rf F) (fun A b h0 h1 h => leF_tr (rlx_le ho h0 h1) h) n hn
theorem N1_nat {N : NN} {ch : Int} (ho : okF N ch) : (((N 1).toNat : Nat) : Int) ≤ N 1 := by
  have := ho.1
  omega
theorem farI_all {N : NN} {ch : Int} (ho : okF N ch) (P : NN → Prop) (h : P (far0 ch)) (hs : ∀ (F' : NN) (b : Int), 0 ≤ b → b < N 1 → P F' → P (rlx N ch F' b)) : ∀ m : Nat, P (farI N ch m)
  | 0 => h
  | m + 1 => rnd_all P (farI_all ho P h hs m) hs _ (N1_nat ho)
theorem farI_sg {N : NN} {ch : Int} (ho : okF N ch) (m : Nat) : sgF (farI N ch m) := farI_all ho sgF (fun p => by unfold far0; split <;> omega) (fun _ _ h0 h1 h => rlx_sg ho h0 h1 h) m
theorem farI_rg {N : NN} {ch : Int} (ho : okF N ch) (m : Nat) : rgF (farI N ch m) := farI_all ho rgF (fun p hp => by have := ho.2.1; unfold far0; rw [if_neg (by omega)]) (fun _ _ h0 h1 h => rlx_rg ho h0 h1 h) m
theorem farI_by {N : NN} {ch : Int} (ho : okF N ch) (m : Nat) : byF N ch (farI N ch m) := farI_all ho (byF N ch) ⟨if_pos rfl, fun p hp h => by unfold far0 at h; rw [if_neg hp] at h; omega⟩ (fun _ _ h0 h1 h => rlx_by ho h0 h1 h) m
theorem farI_s {N : NN} {ch : Int} (ho : okF N ch) (m : Nat) : leF (farI N ch (m + 1)) (farI N ch m) := rnd_le ho _ (N1_nat ho)
theorem farI_le {N : NN} {ch : Int} (ho : okF N ch) (m : Nat) : ∀ n : Nat, leF (farI N ch (m + n)) (farI N ch m)
  | 0 => leF_rf _
  | n + 1 => leF_tr (farI_s ho (m + n)) (farI_le ho m n)
/-- at rest: no belt makes it shorter -/
def stF (N : NN) (ch : Int) (F : NN) : Prop := ∀ b, 0 ≤ b → b < N 1 → rlx N ch F b = F
theorem st_rnd {N : NN} {ch : Int} {F : NN} (h : stF N ch F) : ∀ n : Nat, (n : Int) ≤ N 1 → rnd N ch F n = F
  | 0, _ => rfl
  | n + 1, hn => by
    show rlx N ch (rnd N ch F n) n = F
    rw [st_rnd h n (by omega)]
    exact h n (by omega) (by omega)
/-- the sum of the twelve ways, none counted as a large one -/
def mu (F : NN) : Nat → Nat
  | 0 => 0
  | n + 1 => mu F n + (if F n < 0 then 1000000 else (F n).toNat)
theorem mu_le {A B : NN} (h : leF A B) (hb : ∀ p, A p ≤ 1000000) : ∀ n : Nat, mu A n ≤ mu B n
  | 0 => Nat.le_refl _
  | n + 1 => by
    have ih := mu_le h hb n
    have h1 := h n
    have h2 := hb n
    show mu A n + (if A n < 0 then 1000000 else (A n).toNat) ≤ mu B n + (if B n < 0 then 1000000 else (B n).toNat)
    by_cases e : B n < 0
    · rw [if_pos e]
      by_cases e2 : A n < 0
      · rw [if_pos e2]; omega
      · rw [if_neg e2]; omega
    · have := h1 (by omega)
      rw [if_neg e, if_neg (by omega)]
      omega
theorem mu_lt {A B : NN} (h : leF A B) (hb : ∀ p, A p < 1000000) {q : Int} : ∀ n : Nat, 0 ≤ q → q < n → 0 ≤ A q → (B q < 0 ∨ A q < B q) → mu A n < mu B n
  | 0, h0, h1, _, _ => by omega
  | n + 1, h0, h1, ha, hq => by
    show mu A n + (if A n < 0 then 1000000 else (A n).toNat) < mu B n + (if B n < 0 then 1000000 else (B n).toNat)
    have h2 := hb n
    by_cases e : q = n
    · subst e
      have ih := mu_le h (fun p => Int.le_of_lt (hb p)) n
      rw [if_neg (by omega)]
      by_cases e : B n < 0
      · rw [if_pos e]; omega
      · rw [if_neg e]; omega
    · have ih := mu_lt h hb n h0 (by omega) ha hq
      have h1 := h n
      by_cases e : B n < 0
      · rw [if_pos e]
        by_cases e2 : A n < 0
        · rw [if_pos e2]; omega
        · rw [if_neg e2]; omega
      · have := h1 (by omega)
        rw [if_neg e, if_neg (by omega)]
        omega
