theorem cnt_cong {P Q : Int → Bool} : ∀ n : Nat, (∀ x : Int, 0 ≤ x → x < n → P x = Q x) → cnt P n = cnt Q n
  | 0, _ => rfl
  | n + 1, h => by
    show cnt P n + _ = cnt Q n + _
    rw [cnt_cong n (fun x h0 h1 => h x h0 (by omega)), h n (by omega) (by omega)]
theorem cnt_up {P Q : Int → Bool} {q : Int} : ∀ n : Nat, 0 ≤ q → q < n → P q = false → Q q = true → (∀ x, x ≠ q → P x = Q x) → cnt Q n = cnt P n + 1
  | 0, h0, h1, _, _, _ => by omega
  | n + 1, h0, h1, hp, hq, h => by
    show cnt Q n + _ = cnt P n + _ + 1
    by_cases e : q = n
    · subst e
      rw [cnt_cong (P := Q) (Q := P) n (fun x h0 h1 => (h x (by omega)).symm), if_pos hq, if_neg (by rw [hp]; decide)]
      omega
    · rw [cnt_up n h0 (by omega) hp hq h, h n (by omega)]
      omega
theorem cnt_sub {P Q : Int → Bool} : ∀ n : Nat, (∀ x : Int, 0 ≤ x → x < n → P x = true → Q x = true) → cnt P n ≤ cnt Q n
  | 0, _ => Int.le_refl _
  | n + 1, h => by
    have ih := cnt_sub n (fun x h0 h1 => h x h0 (by omega))
    have h2 := h n (by omega) (by omega)
    show cnt P n + _ ≤ cnt Q n + _
    by_cases e : P n = true
    · rw [if_pos e, if_pos (h2 e)]; omega
    · rw [if_neg e]
      split <;> omega
theorem cnt_lt {P Q : Int → Bool} {q : Int} : ∀ n : Nat, 0 ≤ q → q < n → P q = false → Q q = true → (∀ x : Int, 0 ≤ x → x < n → P x = true → Q x = true) → cnt P n < cnt Q n
  | 0, h0, h1, _, _, _ => by omega
  | n + 1, h0, h1, hp, hq, h => by
    show cnt P n + _ < cnt Q n + _
    by_cases e : q = n
    · subst e
      have := cnt_sub n (fun x h0 h1 => h x h0 (by omega))
      rw [if_pos hq, if_neg (by rw [hp]; decide)]
      omega
    · have ih := cnt_lt n h0 (by omega) hp hq (fun x h0 h1 => h x h0 (by omega))
      have h2 := h n (by omega) (by omega)
      by_cases e : P n = true
      · rw [if_pos e, if_pos (h2 e)]; omega
      · rw [if_neg e]
        split <;> omega
def finF (F : NN) : Int := cnt (fun p => decide (0 ≤ F p)) 12
def bdF (F : NN) : Prop := ∀ p, F p ≤ 12 * (finF F - 1)
theorem rlx_bd {N : NN} {ch : Int} {F : NN} {b : Int} (ho : okF N ch) (h0 : 0 ≤ b) (h1 : b < N 1) (hs : bdF F) : bdF (rlx N ch F b) := by
  obtain ⟨-, -, hb⟩ := ho
  have hb := hb b h0 h1
  rcases rlx_cases N ch F b with e | ⟨h2, h3, h4, e⟩
  · rw [e]; exact hs
  · rw [e]
    have hv := hs (N (84 + b))
    by_cases c : F (N (68 + b)) < 0
    · have hf : finF (uI F (N (68 + b)) (N (100 + b) + F (N (84 + b)))) = finF F + 1 := by
        unfold finF
        refine cnt_up 12 hb.1.1 hb.1.2 (decide_eq_false (by omega)) ?_ ?_
        · rw [uI_s]; exact decide_eq_true (by omega)
        · intro x hx
          rw [uI_n hx]
      intro p
      rw [hf]
      have hp := hs p
      by_cases q : p = N (68 + b)
      · rw [q, uI_s]; omega
      · rw [uI_n q]; omega
    · have hf : finF (uI F (N (68 + b)) (N (100 + b) + F (N (84 + b)))) = finF F := by
        unfold finF
        refine cnt_cong 12 (fun x hx0 hx1 => ?_)
        by_cases q : x = N (68 + b)
        · rw [q, uI_s, decide_eq_true (show 0 ≤ F (N (68 + b)) by omega), decide_eq_true (by omega)]
        · rw [uI_n q]
      intro p
      rw [hf]
      have hp := hs p
      by_cases q : p = N (68 + b)
      · rw [q, uI_s]
        have := hs (N (68 + b))
        omega
      · rw [uI_n q]; omega
theorem farI_bd {N : NN} {ch : Int} (ho : okF N ch) (m : Nat) : bdF (farI N ch m) := farI_all ho bdF (fun p => by
    have hc : finF (far0 ch) = 1 := by
      have h0 : cnt (fun _ => false) 12 = 0 := by decide
      have := cnt_up (P := fun _ => false) (Q := fun p => decide (0 ≤ far0 ch p)) (q := ch) 12 ho.2.1.1 ho.2.1.2 rfl (by unfold far0; rw [if_pos rfl]; rfl) (fun x hx => by unfold far0; rw [if_neg hx]; rfl)
      unfold finF
      rw [this, h0]
      rfl
    rw [hc]
    unfold far0
    split <;> omega) (fun _ _ h0 h1 h => rlx_bd ho h0 h1 h) m
theorem bdF_132 {F : NN} (h : bdF F) (p : Int) : F p ≤ 132 := by
  have h1 := h p
  have h2 := cnt_b (fun p => decide (0 ≤ F p)) 12
  unfold finF at h1
  omega
theorem rnd_bd {N : NN} {ch : Int} {F : NN} (ho : okF N ch) (hs : bdF F) (n : Nat) (hn : (n : Int) ≤ N 1) : bdF (rnd N ch F n) := rnd_all bdF hs (fun _ _ h0 h1 h => rlx_bd ho h0 h1 h) n hn
theorem rnd_sg {N : NN} {ch : Int} {F : NN} (ho : okF N ch) (hs : sgF F) (n : Nat) (hn : (n : Int) ≤ N 1) : sgF (rnd N ch F n) := rnd_all sgF hs (fun _ _ h0 h1 h => rlx_sg ho h0 h1 h) n hn
/-- a way that became shorter in a round -/
def shF (A F : NN) : Prop := ∃ q, 0 ≤ q ∧ q < 12 ∧ 0 ≤ A q ∧ (F q < 0 ∨ A q < F q)
theorem shF_le {A B F : NN} (h : shF A F) (hl : leF B A) : shF B F := by
  obtain ⟨q, h0, h1, h2, h3⟩ := h
  have := hl q h2
  exact ⟨q, h0, h1, this.1, by omega⟩
theorem rnd_sh {N : NN} {ch : Int} {F : NN} (ho : okF N ch) : ∀ n : Nat, (n : Int) ≤ N 1 → rnd N ch F n = F ∨ shF (rnd N ch F n) F
  | 0, _ => Or.inl rfl
  | n + 1, hn => by
    have hb := ho.2.2 n (by omega) (by omega)
    show rlx N ch (rnd N ch F n) n = F ∨ shF (rlx N ch (rnd N ch F n) n) F
    rcases rnd_sh ho n (by omega) with e | e
    · rw [e]
      rcases rlx_cases N ch F n with e | ⟨h2, h3, h4, e⟩
      · exact Or.inl e
      · refine Or.inr ⟨N (68 + (n : Int)), hb.1.1, hb.1.2, ?_, ?_⟩
        · rw [e, uI_s]; omega
        · rw [e, uI_s]; exact h4
    · exact Or.inr (shF_le e (rlx_le ho (by omega) (by omega)))
theorem shF_ne {A F : NN} (h : shF A F) : A ≠ F := by
  obtain ⟨q, h0, h1, h2, h3⟩ := h
  intro e
  rw [e] at h2 h3
  omega
theorem rnd_le2 {N : NN} {ch : Int} {F : NN} (ho : okF N ch) (n : Nat) : ∀ k : Nat, ((n + k : Nat) : Int) ≤ N 1 → leF (rnd N ch F (n + k)) (rnd N ch F n)
  | 0, _ => leF_rf _
  | k + 1, h => leF_tr (rlx_le (b := ((n + k : Nat) : Int)) ho (by omega) (by omega)) (rnd_le2 ho n k (by omega))
theorem rnd_fix {N : NN} {ch : Int} {F : NN} (ho : okF N ch) (h : rnd N ch F (N 1).toNat = F) : stF N ch F := by
  have h1 := ho.1
  have all : ∀ n : Nat, (n : Int) ≤ N 1 → rnd N ch F n = F := by
    intro n hn
    rcases rnd_sh (F := F) ho n hn with e | e
    · exact e
    · have := rnd_le2 (F := F) ho n ((N 1).toNat - n) (by omega)
      rw [show n + ((N 1).toNat - n) = (N 1).toNat by omega, h] at this
      exact absurd rfl (shF_ne (shF_le e this))
  intro b h0 hb
  have e1 := all b.toNat (by omega)
  have e2 : rlx N ch (rnd N ch F b.toNat) (b.toNat : Int) = F := all (b.toNat + 1) (by omega)
  rw [e1, Int.toNat_of_nonneg h0] at e2
  exact e2
theorem far_rest {N : NN} {ch : Int} (ho : okF N ch) : ∀ k m : Nat, mu (farI N ch m) 12 ≤ k → ∃ m' : Nat, stF N ch (farI N ch m')
  | k, m, h => by
    by_cases e : rnd N ch (farI N ch m) (N 1).toNat = farI N ch m
    · exact ⟨m, rnd_fix ho e⟩
    · rcases rnd_sh (F := farI N ch m) ho (N 1).toNat (N1_nat ho) with e2 | ⟨q, h0, h1, h2, h3⟩
      · exact absurd e2 e
      · have hl : mu (farI N ch (m + 1)) 12 < mu (farI N ch m) 12 := mu_lt (farI_s ho m) (fun p => by have := bdF_132 (farI_bd ho (m + 1)) p; omega) 12 h0 h1 h2 h3
        match k, h with
        | 0, h => omega
        | k + 1, h => exact far_rest ho k (m + 1) (by omega)
/-- twelve rounds are enough -/
theorem far12 {N : NN} {ch : Int} (ho : okF N ch) : stF N ch (farI N ch 12) := by
  obtain ⟨m0, hD⟩ := far_rest ho (mu (farI N ch 0) 12) 0 (Nat.le_refl _)
  generalize hDe : farI N ch m0 = D at hD
  have hby := farI_by ho m0
  have hsg := farI_sg ho m0
  have hrg := farI_rg ho m0
  rw [hDe] at hby hsg hrg
  have hstay : ∀ n : Nat, farI N ch (m0 + n) = D := by
    intro n
    induction n with
    | zero => exact hDe
    | succ n ih =>
      show rnd N ch (farI N ch (m0 + n)) (N 1).toNat = D
      rw [ih]
      exact st_rnd hD _ (N1_nat ho)
  have hbelow : ∀ m : Nat, leF D (farI N ch m) := by
    intro m
    have := farI_le ho m m0
    rw [show m + m0 = m0 + m by omega, hstay] at this
    exact this
  -- what the rest says of a belt
  have hedge : ∀ b, 0 ≤ b → b < N 1 → usB N ch b → 0 ≤ D (N (84 + b)) → 0 ≤ D (N (68 + b)) ∧ D (N (68 + b)) ≤ N (100 + b) + D (N (84 + b)) := by
    intro b h0 h1 hu hp
    have hb := ho.2.2 b h0 h1
    have e := hD b h0 h1
    by_cases c : D (N (68 + b)) < 0 ∨ N (100 + b) + D (N (84 + b)) < D (N (68 + b))
    · exfalso
      unfold rlx at e
      rw [if_neg (by intro q; rcases q with q | q | q; exact hu.1 q; exact q hu.2; omega), if_pos c] at e
      have e2 := congrFun e (N (68 + b))
      rw [uI_s] at e2
      omega
    · omega
  have key : ∀ (r : Nat) (p : Int), 0 ≤ p → p < 12 → 0 ≤ D p → cnt (fun q => decide (0 ≤ D q ∧ D q < D p)) 12 ≤ r → farI N ch r p = D p := by
    intro r
    induction r with
    | zero =>
      intro p h0 h1 hp hr
      by_cases e : p = ch
      · subst e
        rw [hby.1]
        exact if_pos rfl
      · exfalso
        obtain ⟨b, b0, b1, b2, b3, b4, b5⟩ := hby.2 p e hp
        have hb := ho.2.2 b b0 b1
        have hz : cnt (fun _ => false) 12 = 0 := by decide
        have := cnt_lt (P := fun _ => false) (Q := fun q => decide (0 ≤ D q ∧ D q < D p)) (q := N (84 + b)) 12 hb.2.1.1 hb.2.1.2 rfl (decide_eq_true (by omega)) (fun x _ _ q => by cases q)
        omega
    | succ r ih =>
      intro p h0 h1 hp hr
      have hlow := hbelow (r + 1) p
      by_cases e : p = ch
      · subst e
        have := (farI_by ho (r + 1)).1
        rw [this, hby.1]
      · obtain ⟨b, b0, b1, b2, b3, b4, b5⟩ := hby.2 p e hp
        have hb := ho.2.2 b b0 b1
        have hq : farI N ch r (N (84 + b)) = D (N (84 + b)) := by
          refine ih _ hb.2.1.1 hb.2.1.2 b4 ?_
          have := cnt_lt (P := fun q => decide (0 ≤ D q ∧ D q < D (N (84 + b)))) (Q := fun q => decide (0 ≤ D q ∧ D q < D p)) (q := N (84 + b)) 12 hb.2.1.1 hb.2.1.2 (decide_eq_false (by omega)) (decide_eq_true (by omega)) (fun x _ _ q => decide_eq_true (by have := of_decide_eq_true q; omega))
          omega
        -- at belt b of the round
        have h1n := ho.1
        have hA := rnd_le (F := farI N ch r) ho b.toNat (by omega)
        have hB := rnd_le2 (F := farI N ch r) ho (b.toNat + 1) ((N 1).toNat - (b.toNat + 1)) (by omega)
        rw [show b.toNat + 1 + ((N 1).toNat - (b.toNat + 1)) = (N 1).toNat by omega] at hB
        have hAq := hA (N (84 + b)) (by rw [hq]; exact b4)
        rw [hq] at hAq
        have hC : 0 ≤ rlx N ch (rnd N ch (farI N ch r) b.toNat) b p ∧ rlx N ch (rnd N ch (farI N ch r) b.toNat) b p ≤ N (100 + b) + rnd N ch (farI N ch r) b.toNat (N (84 + b)) := by
          generalize rnd N ch (farI N ch r) b.toNat = A at hAq ⊢
          unfold rlx
          rw [if_neg (by intro q; rcases q with q | q | q; exact b2.1 q; exact q b2.2; omega)]
          by_cases c : A (N (68 + b)) < 0 ∨ N (100 + b) + A (N (84 + b)) < A (N (68 + b))
          · rw [if_pos c, b3, uI_s]; omega
          · rw [if_neg c, ← b3]; omega
        have hC2 : rnd N ch (farI N ch r) (b.toNat + 1) p = rlx N ch (rnd N ch (farI N ch r) b.toNat) b p := by
          show rlx N ch (rnd N ch (farI N ch r) b.toNat) (b.toNat : Int) p = _
          rw [Int.toNat_of_nonneg b0]
        have hF := hB p (by rw [hC2]; exact hC.1)
        rw [hC2] at hF
        have hfe : farI N ch (r + 1) p = rnd N ch (farI N ch r) (N 1).toNat p := rfl
        rw [← hfe] at hF
        have := hlow hF.1
        omega
  have h11 : farI N ch 11 = D := by
    funext p
    by_cases hp : 0 ≤ p ∧ p < 12
    · rcases hsg p with e | e
      · rw [e]
        rcases farI_sg ho 11 p with e2 | e2
        · exact e2
        · have := (hbelow 11 p e2).1
          omega
      · refine key 11 p hp.1 hp.2 e ?_
        have h12 := cnt_lt (P := fun q => decide (0 ≤ D q ∧ D q < D p)) (Q := fun _ => true) (q := p) 12 hp.1 hp.2 (decide_eq_false (by omega)) rfl (fun _ _ _ _ => rfl)
        have hz : cnt (fun _ => true) 12 = 12 := by decide
        omega
    · rw [hrg p hp, farI_rg ho 11 p hp]
  have h12 : farI N ch 12 = D := by
    show rnd N ch (farI N ch 11) (N 1).toNat = D
    rw [h11]
    exact st_rnd hD _ (N1_nat ho)
  rw [h12]
  exact hD
theorem far_more {N : NN} {ch : Int} (ho : okF N ch) {m : Nat} (h : stF N ch (farI N ch m)) (hm : m ≤ 12) : farI N ch m = farI N ch 12 := by
  have hstay : ∀ n : Nat, farI N ch (m + n) = farI N ch m := by
    intro n
    induction n with
    | zero => rfl
    | succ n ih =>
      show rnd N ch (farI N ch (m + n)) (N 1).toNat = _
      rw [ih]
      exact st_rnd h _ (N1_nat ho)
  have := hstay (12 - m)
  rw [show m + (12 - m) = 12 by omega] at this
  exact this.symm
