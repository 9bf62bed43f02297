/-! ===== the class's hall t stands for the array N ===== -/
def RHn (σ : SS) (t : Int) (N : NN) : Prop := σ 7 t 0 0 = N 0 ∧ σ 7 t 0 1 = N 1 ∧ σ 7 t 0 2 = N 2 ∧ σ 7 t 0 3 = N 3 ∧ σ 7 t 0 4 = N 4
def RHp (σ : SS) (t : Int) (N : NN) : Prop := ∀ i, 0 ≤ i → i < N 0 → σ 0 t i 0 = N (8 + i) ∧ σ 0 t i 1 = N (20 + i) ∧ (N (8 + i) = 1 → σ 0 t i 2 = N (44 + i) - 1 ∧ σ 0 t i 3 = N (56 + i))
def RHb (σ : SS) (t : Int) (N : NN) : Prop := ∀ b, 0 ≤ b → b < N 1 → σ 2 t b 0 = N (68 + b) ∧ σ 2 t b 1 = N (84 + b) ∧ σ 2 t b 2 = N (100 + b) ∧ σ 2 t b 3 = N (132 + b) ∧ σ 2 t b 4 = N (116 + b)
def RHc (σ : SS) (t : Int) (N : NN) : Prop := ∀ b c, 0 ≤ b → b < N 1 → 0 ≤ c → c < 12 → σ 3 t b c = N (148 + 12 * b + c) - 1
def RHf (σ : SS) (t : Int) (N : NN) : Prop := ∀ f, 0 ≤ f → f < N 2 → σ 4 t f 0 = N (340 + f) ∧ σ 4 t f 1 = N (348 + f) ∧ σ 4 t f 2 = N (356 + f)
def RHg (σ : SS) (t : Int) (N : NN) : Prop := ∀ x, 0 ≤ x → x < N 3 → σ 5 t x 0 = N (364 + x) ∧ σ 5 t x 1 = N (424 + x) ∧ σ 5 t x 2 = N (484 + x) ∧ σ 5 t x 3 = N (544 + x) ∧ (2 ≤ N (484 + x) → N (484 + x) ≠ 4 → σ 5 t x 4 = N (604 + x)) ∧ σ 5 t x 5 = N (664 + x)
def RHw (σ : SS) (t : Int) (N : NN) : Prop := ∀ x i, 0 ≤ x → x < N 3 → 0 ≤ i → i < N (664 + x) → i < 30 → σ 6 t x i = N (2524 + 30 * x + i) * 12 + N (724 + 30 * x + i)
/-- where() of the bags that a point of a kind has -/
def wcK (k : Int) : Int := if k = 0 then 0 else if k = 4 then 3 else 2
/-- a point's row: its bags by coming -/
def RHr1 (σ : SS) (t : Int) (N : NN) (i : Int) : Prop := (0 ≤ σ 0 t i 4 ∧ σ 0 t i 4 ≤ 60) ∧ (N (8 + i) = 5 → σ 0 t i 4 = 0) ∧ (∀ j, 0 ≤ j → j < σ 0 t i 4 → (0 ≤ σ 1 t i j ∧ σ 1 t i j < N 3) ∧ N (484 + σ 1 t i j) = wcK (N (8 + i)) ∧ N (544 + σ 1 t i j) = i) ∧ (∀ j l, 0 ≤ j → j < l → l < σ 0 t i 4 → N (604 + σ 1 t i j) < N (604 + σ 1 t i l)) ∧ (N (8 + i) ≠ 5 → ∀ x, 0 ≤ x → x < N 3 → N (484 + x) = wcK (N (8 + i)) → N (544 + x) = i → ∃ j, 0 ≤ j ∧ j < σ 0 t i 4 ∧ σ 1 t i j = x)
def RHr (σ : SS) (t : Int) (N : NN) : Prop := ∀ i, 0 ≤ i → i < N 0 → RHr1 σ t N i
def RH (σ : SS) (t : Int) (N : NN) : Prop := RHn σ t N ∧ RHp σ t N ∧ RHb σ t N ∧ RHc σ t N ∧ RHf σ t N ∧ RHg σ t N ∧ RHw σ t N ∧ RHr σ t N
/-- the steps that are kept -/
def WI (N : NN) : Prop := ∀ x i, 0 ≤ x → x < N 3 → 0 ≤ i → i < N (664 + x) → i < 30 → (0 ≤ N (724 + 30 * x + i) ∧ N (724 + 30 * x + i) < 12) ∧ (0 ≤ N (2524 + 30 * x + i) ∧ N (2524 + 30 * x + i) ≤ 1000000)
/-- the table of ways is FAR -/
def SM (σ : SS) (N : NN) : Prop := ∀ ch, 0 ≤ ch → ch < N 0 → N (8 + ch) = 5 → ∀ p, 0 ≤ p → p < 12 → σ 8 0 ch p = farS N ch p
theorem RH.n {σ : SS} {t : Int} {N : NN} (h : RH σ t N) : RHn σ t N := h.1
theorem RH.p {σ : SS} {t : Int} {N : NN} (h : RH σ t N) : RHp σ t N := h.2.1
theorem RH.b {σ : SS} {t : Int} {N : NN} (h : RH σ t N) : RHb σ t N := h.2.2.1
theorem RH.c {σ : SS} {t : Int} {N : NN} (h : RH σ t N) : RHc σ t N := h.2.2.2.1
theorem RH.f {σ : SS} {t : Int} {N : NN} (h : RH σ t N) : RHf σ t N := h.2.2.2.2.1
theorem RH.g {σ : SS} {t : Int} {N : NN} (h : RH σ t N) : RHg σ t N := h.2.2.2.2.2.1
theorem RH.w {σ : SS} {t : Int} {N : NN} (h : RH σ t N) : RHw σ t N := h.2.2.2.2.2.2.1
theorem RH.r {σ : SS} {t : Int} {N : NN} (h : RH σ t N) : RHr σ t N := h.2.2.2.2.2.2.2
/-- the rest of FAR: as many rounds as points are enough -/
theorem far_key {N : NN} {ch : Int} (ho : okF N ch) : ∀ (r : Nat) (p : Int), 0 ≤ p → p < 12 → 0 ≤ farI N ch 12 p → cnt (fun q => decide (0 ≤ farI N ch 12 q ∧ farI N ch 12 q < farI N ch 12 p)) 12 ≤ r → farI N ch r p = farI N ch 12 p := by
  have hD := far12 ho
  have hby := farI_by ho 12
  have hstay : ∀ n : Nat, farI N ch (12 + n) = farI N ch 12 := by
    intro n
    induction n with
    | zero => rfl
    | succ n ih =>
      show rnd N ch (farI N ch (12 + n)) (N 1).toNat = _
      rw [ih]
      exact st_rnd hD _ (N1_nat ho)
  have hbelow : ∀ m : Nat, leF (farI N ch 12) (farI N ch m) := by
    intro m
    have := farI_le ho m 12
    rw [show m + 12 = 12 + m by omega, hstay] at this
    exact this
  generalize farI N ch 12 = D at hD hby hbelow
  intro r
  induction r with
  | zero =>
    intro p h0 h1 hp hr
    by_cases e : p = ch
    · subst e
      rw [hby.1]
      exact if_pos rfl
    · exfalso
      obtain ⟨b, b0, b1, b2, b3, b4, b5⟩ := hby.2 p e hp
      have hb := ho.2.2 b b0 b1
      have hz : cnt (fun _ => false) 12 = 0 := by decide
      have := cnt_lt (P := fun _ => false) (Q := fun q => decide (0 ≤ D q ∧ D q < D p)) (q := N (84 + b)) 12 hb.2.1.1 hb.2.1.2 rfl (decide_eq_true (by omega)) (fun x _ _ q => by cases q)
      omega
  | succ r ih =>
    intro p h0 h1 hp hr
    have hlow := hbelow (r + 1) p
    by_cases e : p = ch
    · subst e
      have := (farI_by ho (r + 1)).1
      rw [this, hby.1]
    · obtain ⟨b, b0, b1, b2, b3, b4, b5⟩ := hby.2 p e hp
      have hb := ho.2.2 b b0 b1
      have hq : farI N ch r (N (84 + b)) = D (N (84 + b)) := by
        refine ih _ hb.2.1.1 hb.2.1.2 b4 ?_
        have := cnt_lt (P := fun q => decide (0 ≤ D q ∧ D q < D (N (84 + b)))) (Q := fun q => decide (0 ≤ D q ∧ D q < D p)) (q := N (84 + b)) 12 hb.2.1.1 hb.2.1.2 (decide_eq_false (by omega)) (decide_eq_true (by omega)) (fun x _ _ q => decide_eq_true (by have := of_decide_eq_true q; omega))
        omega
      have h1n := ho.1
      have hA := rnd_le (F := farI N ch r) ho b.toNat (by omega)
      have hB := rnd_le2 (F := farI N ch r) ho (b.toNat + 1) ((N 1).toNat - (b.toNat + 1)) (by omega)
      rw [show b.toNat + 1 + ((N 1).toNat - (b.toNat + 1)) = (N 1).toNat by omega] at hB
      have hAq := hA (N (84 + b)) (by rw [hq]; exact b4)
      rw [hq] at hAq
      have hC : 0 ≤ rlx N ch (rnd N ch (farI N ch r) b.toNat) b p ∧ rlx N ch (rnd N ch (farI N ch r) b.toNat) b p ≤ N (100 + b) + rnd N ch (farI N ch r) b.toNat (N (84 + b)) := by
        generalize rnd N ch (farI N ch r) b.toNat = A at hAq ⊢
        unfold rlx
        rw [if_neg (by intro q; rcases q with q | q | q; exact b2.1 q; exact q b2.2; omega)]
        by_cases c : A (N (68 + b)) < 0 ∨ N (100 + b) + A (N (84 + b)) < A (N (68 + b))
        · rw [if_pos c, b3, uI_s]; omega
        · rw [if_neg c, ← b3]; omega
      have hC2 : rnd N ch (farI N ch r) (b.toNat + 1) p = rlx N ch (rnd N ch (farI N ch r) b.toNat) b p := by
        show rlx N ch (rnd N ch (farI N ch r) b.toNat) (b.toNat : Int) p = _
        rw [Int.toNat_of_nonneg b0]
      have hF := hB p (by rw [hC2]; exact hC.1)
      rw [hC2] at hF
      have hfe : farI N ch (r + 1) p = rnd N ch (farI N ch r) (N 1).toNat p := rfl
      rw [← hfe] at hF
      have := hlow hF.1
      omega
/-- points behind the last have no way -/
theorem farI_out {N : NN} {ch : Int} {k : Int} (hI : IV N k) (hc : 0 ≤ ch ∧ ch < N 0) (m : Nat) : ∀ p, N 0 ≤ p → farI N ch m p = -1 := by
  have ho := hI.okF hc.1 hc.2
  refine farI_all ho (fun F => ∀ p, N 0 ≤ p → F p = -1) (fun p hp => by unfold far0; rw [if_neg (by omega)]) (fun F b h0 h1 h p hp => ?_) m
  have hb := hI.b h0 h1
  rcases rlx_cases N ch F b with e | ⟨-, -, -, e⟩
  · rw [e]; exact h p hp
  · rw [e, uI_n (by have := hb.1; omega)]; exact h p hp
/-- other chutes have no way -/
theorem rnd_ch {N : NN} {ch : Int} {k : Int} (hI : IV N k) (hc : 0 ≤ ch ∧ ch < N 0) (m n : Nat) (hn : (n : Int) ≤ N 1) : ∀ p, N (8 + p) = 5 → p ≠ ch → rnd N ch (farI N ch m) n p = -1 := by
  have ho := hI.okF hc.1 hc.2
  have step : ∀ (F' : NN) (b : Int), 0 ≤ b → b < N 1 → (∀ p, N (8 + p) = 5 → p ≠ ch → F' p = -1) → ∀ p, N (8 + p) = 5 → p ≠ ch → rlx N ch F' b p = -1 := by
    intro F b h0 h1 h p hp hne
    have hb := hI.b h0 h1
    rcases rlx_cases N ch F b with e | ⟨-, -, -, e⟩
    · rw [e]; exact h p hp hne
    · rw [e, uI_n (fun q => by rw [q] at hp; exact hb.2.2.2.2.2.1 hp)]; exact h p hp hne
  exact rnd_all (fun F => ∀ p, N (8 + p) = 5 → p ≠ ch → F p = -1) (farI_all ho (fun F => ∀ p, N (8 + p) = 5 → p ≠ ch → F p = -1) (fun p _ hne => by unfold far0; rw [if_neg hne]) step m) step n hn
theorem cnt_range {n0 : Int} (h : 0 ≤ n0) : ∀ n : Nat, n0 ≤ n → cnt (fun q => decide (q < n0)) n = n0
  | 0, hn => by
    have : n0 = 0 := by omega
    rw [this]; rfl
  | n + 1, hn => by
    show cnt _ n + _ = n0
    by_cases e : n0 ≤ n
    · rw [cnt_range h n e, if_neg (by simp; omega)]; omega
    · have e2 : n0 = n + 1 := by omega
      have := cnt_cong (P := fun q => decide (q < n0)) (Q := fun q => decide (q < (n : Int))) n (fun x x0 x1 => by rw [decide_eq_true (show x < n0 by omega), decide_eq_true (show x < (n : Int) by omega)])
      rw [this, cnt_range (by omega) n (Int.le_refl _), if_pos (by simp; omega)]
      omega
theorem far_n {N : NN} {ch : Int} {k : Int} (hI : IV N k) (hc : 0 ≤ ch ∧ ch < N 0) : farI N ch (N 0).toNat = farI N ch 12 := by
  have ho := hI.okF hc.1 hc.2
  obtain ⟨b0, -⟩ := hI.n
  have hbelow : leF (farI N ch 12) (farI N ch (N 0).toNat) := by
    have := farI_le ho (N 0).toNat (12 - (N 0).toNat)
    rw [show (N 0).toNat + (12 - (N 0).toNat) = 12 by omega] at this
    exact this
  funext p
  by_cases hp : 0 ≤ p ∧ p < 12
  · rcases farI_sg ho 12 p with e | e
    · rw [e]
      rcases farI_sg ho (N 0).toNat p with e2 | e2
      · exact e2
      · have := (hbelow p e2).1
        omega
    · have hpn : p < N 0 := by
        rcases Int.lt_or_le p (N 0) with q | q
        · exact q
        · have := farI_out hI hc 12 p q
          omega
      refine far_key ho (N 0).toNat p hp.1 hp.2 e ?_
      have h12 := cnt_lt (P := fun q => decide (0 ≤ farI N ch 12 q ∧ farI N ch 12 q < farI N ch 12 p)) (Q := fun q => decide (q < N 0)) (q := p) 12 hp.1 hp.2 (decide_eq_false (by omega)) (decide_eq_true hpn) (fun x _ _ q => decide_eq_true (by
        have := of_decide_eq_true q
        rcases Int.lt_or_le x (N 0) with w | w
        · exact w
        · have := farI_out hI hc 12 x w
          omega))
      rw [cnt_range b0.1 12 (by omega)] at h12
      omega
  · rw [farI_rg ho 12 p hp, farI_rg ho (N 0).toNat p hp]
