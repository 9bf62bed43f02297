/-! ===== a row sorted by coming: counts, places, the first ===== -/
theorem cnt_one {P Q : Int → Bool} {a : Int} (h0 : 0 ≤ a) (hP : P a = false) (hQ : Q a = true) : ∀ n : Nat, a < n → (∀ x : Int, 0 ≤ x → x < n → x ≠ a → P x = Q x) → cnt Q n = cnt P n + 1
  | 0, h, _ => by omega
  | n + 1, h, hx => by
    show cnt Q n + (if Q n then 1 else 0) = cnt P n + (if P n then 1 else 0) + 1
    by_cases e : a = n
    · subst e
      rw [cnt_cong (P := Q) (Q := P) n (fun x x0 x1 => (hx x x0 (by omega) (by omega)).symm), if_pos hQ, if_neg (by rw [hP]; decide)]
      omega
    · rw [cnt_one h0 hP hQ n (by omega) (fun x x0 x1 x2 => hx x x0 (by omega) x2), hx n (by omega) (by omega) (by omega)]
      omega
theorem cnt_none {P : Int → Bool} : ∀ n : Nat, (∀ x : Int, 0 ≤ x → x < n → P x = false) → cnt P n = 0
  | 0, _ => rfl
  | n + 1, h => by
    show cnt P n + (if P n then 1 else 0) = 0
    rw [cnt_none n (fun x x0 x1 => h x x0 (by omega)), h n (by omega) (by omega)]
    rfl
/-- row holds just those of 0 .. n-1 with P, by rising keys -/
def Srt (P : Int → Bool) (key row : NN) (s n : Int) : Prop := (0 ≤ s ∧ 0 ≤ n) ∧ (∀ j, 0 ≤ j → j < s → (0 ≤ row j ∧ row j < n) ∧ P (row j) = true) ∧ (∀ j l, 0 ≤ j → j < l → l < s → key (row j) < key (row l)) ∧ ∀ x, 0 ≤ x → x < n → P x = true → ∃ j, 0 ≤ j ∧ j < s ∧ row j = x
theorem Srt.lt {P : Int → Bool} {key row : NN} {s n : Int} (h : Srt P key row s n) {j l : Int} (j0 : 0 ≤ j) (j1 : j < s) (l0 : 0 ≤ l) (l1 : l < s) : key (row j) < key (row l) ↔ j < l := by
  obtain ⟨-, -, h2, -⟩ := h
  constructor
  · intro q
    rcases Int.lt_trichotomy j l with e | e | e
    · exact e
    · subst e; omega
    · have := h2 l j l0 e j1; omega
  · intro q
    exact h2 j l j0 q l1
theorem Srt.inj {P : Int → Bool} {key row : NN} {s n : Int} (h : Srt P key row s n) {j l : Int} (j0 : 0 ≤ j) (j1 : j < s) (l0 : 0 ≤ l) (l1 : l < s) (e : row j = row l) : j = l := by
  have h1 := h.lt j0 j1 l0 l1
  have h2 := h.lt l0 l1 j0 j1
  rw [e] at h1 h2
  omega
theorem Srt.at {P : Int → Bool} {key row : NN} {s n : Int} (h : Srt P key row s n) : ∀ j : Nat, (j : Int) < s → cntI (fun x => P x && decide (key x < key (row j))) n = j := by
  have hh := h
  obtain ⟨h0, h1, h2, h3⟩ := hh
  intro j
  unfold cntI
  have hn : ((n.toNat : Nat) : Int) = n := by omega
  induction j with
  | zero =>
    intro hj
    rw [cnt_none _ (fun x x0 x1 => ?_)]; rfl
    show (P x && decide (key x < key (row 0))) = false
    cases e : P x with
    | false => rfl
    | true =>
      obtain ⟨l, l0, l1, rfl⟩ := h3 x x0 (by omega) e
      rw [Bool.true_and]
      exact decide_eq_false (fun q => by have := (h.lt l0 l1 (by omega) (by omega)).1 q; omega)
  | succ j ih =>
    intro hj
    have ih := ih (by omega)
    have hr := h1 j (by omega) (by omega)
    rw [cnt_one (P := fun x => P x && decide (key x < key (row (j : Int)))) (a := row j) hr.1.1 ?_ ?_ n.toNat (by omega) ?_, ih]
    · omega
    · show (P (row (j : Int)) && decide (key (row (j : Int)) < key (row (j : Int)))) = false
      rw [Bool.and_eq_false_iff]
      exact Or.inr (decide_eq_false (by omega))
    · show (P (row (j : Int)) && decide (key (row (j : Int)) < key (row ((j + 1 : Nat) : Int)))) = true
      rw [hr.2, Bool.true_and]
      exact decide_eq_true (h2 _ _ (by omega) (by omega) (by omega))
    · intro x x0 x1 xn
      show (P x && decide (key x < key (row (j : Int)))) = (P x && decide (key x < key (row ((j + 1 : Nat) : Int))))
      cases e : P x with
      | false => rfl
      | true =>
        obtain ⟨l, l0, l1, rfl⟩ := h3 x x0 (by omega) e
        rw [Bool.true_and, Bool.true_and]
        have a1 := h.lt l0 l1 (l := (j : Int)) (by omega) (by omega)
        have a2 := h.lt l0 l1 (l := ((j + 1 : Nat) : Int)) (by omega) (by omega)
        have a3 : l ≠ (j : Int) := fun q => xn (by rw [q])
        by_cases q : l < (j : Int)
        · rw [decide_eq_true (a1.2 q), decide_eq_true (a2.2 (by omega))]
        · rw [decide_eq_false (fun w => q (a1.1 w)), decide_eq_false (fun w => by have := a2.1 w; omega)]
theorem Srt.at' {P : Int → Bool} {key row : NN} {s n : Int} (h : Srt P key row s n) {j : Int} (j0 : 0 ≤ j) (j1 : j < s) : cntI (fun x => P x && decide (key x < key (row j))) n = j := by
  have := h.at j.toNat (by omega)
  rw [show ((j.toNat : Nat) : Int) = j by omega] at this
  exact this
theorem Srt.all {P : Int → Bool} {key row : NN} {s n : Int} (h : Srt P key row s n) : cntI P n = s := by
  have hh := h
  obtain ⟨h0, h1, h2, h3⟩ := hh
  by_cases e : s = 0
  · unfold cntI
    rw [cnt_none _ (fun x x0 x1 => ?_)]; omega
    cases q : P x with
    | false => rfl
    | true => obtain ⟨l, l0, l1, -⟩ := h3 x x0 (by omega) q; omega
  · have ha := h.at' (j := s - 1) (by omega) (by omega)
    have hr := h1 (s - 1) (by omega) (by omega)
    unfold cntI at ha ⊢
    rw [cnt_one (P := fun x => P x && decide (key x < key (row (s - 1)))) (a := row (s - 1)) hr.1.1 ?_ hr.2 n.toNat (by omega) ?_, ha]
    · omega
    · show (P (row (s - 1)) && decide (key (row (s - 1)) < key (row (s - 1)))) = false
      rw [Bool.and_eq_false_iff]
      exact Or.inr (decide_eq_false (by omega))
    · intro x x0 x1 xn
      show (P x && decide (key x < key (row (s - 1)))) = P x
      cases q : P x with
      | false => rfl
      | true =>
        obtain ⟨l, l0, l1, rfl⟩ := h3 x x0 (by omega) q
        rw [Bool.true_and]
        have a3 : l ≠ s - 1 := fun w => xn (by rw [w])
        exact decide_eq_true ((h.lt l0 l1 (by omega) (by omega)).2 (by omega))
/-- the least -/
theorem mn_eq {Q : Int → Bool} {key : NN} {r : Int} (hr : Q r = true) (h0 : 0 ≤ r) : ∀ n : Nat, (∀ x : Int, 0 ≤ x → x < n → x ≠ r → Q x = true → key r < key x) → (n ≤ r → mn Q key n = -1 ∨ Q (mn Q key n) = true ∧ key r < key (mn Q key n)) ∧ (r < n → mn Q key n = r)
  | 0, h => ⟨fun _ => Or.inl rfl, fun q => by omega⟩
  | n + 1, h => by
    have ih := mn_eq hr h0 n (fun x x0 x1 x2 x3 => h x x0 (by omega) x2 x3)
    have hb := mn_b Q key n
    unfold mn
    refine ⟨fun q => ?_, fun q => ?_⟩
    · have ih1 := ih.1 (by omega)
      split
      · rename_i c
        exact Or.inr ⟨c.1, h n (by omega) (by omega) (by omega) c.1⟩
      · exact ih1
    · by_cases e : r = n
      · subst e
        rw [if_pos]
        refine ⟨hr, ?_⟩
        rcases ih.1 (by omega) with w | w
        · left; omega
        · exact Or.inr w.2
      · rw [ih.2 (by omega), if_neg]
        rintro ⟨c1, c2⟩
        have := h n (by omega) (by omega) (fun w => e w.symm) c1
        omega
theorem mnI_eq {Q : Int → Bool} {key : NN} {r n : Int} (hr : Q r = true) (h0 : 0 ≤ r) (h1 : r < n) (h : ∀ x, 0 ≤ x → x < n → x ≠ r → Q x = true → key r < key x) : mnI Q key n = r :=
  (mn_eq hr h0 n.toNat (fun x x0 x1 => h x x0 (by omega))).2 (by omega)
theorem mn_none {Q : Int → Bool} {key : NN} : ∀ n : Nat, (∀ x : Int, 0 ≤ x → x < n → Q x = false) → mn Q key n = -1
  | 0, _ => rfl
  | n + 1, h => by
    unfold mn
    rw [if_neg (fun q => by have := h n (by omega) (by omega); rw [q.1] at this; cases this)]
    exact mn_none n (fun x x0 x1 => h x x0 (by omega))
theorem mnI_none {Q : Int → Bool} {key : NN} {n : Int} (h : ∀ x, 0 ≤ x → x < n → Q x = false) : mnI Q key n = -1 := mn_none n.toNat (fun x x0 x1 => h x x0 (by omega))
/-- the first of the row with Q is the least with P and Q -/
theorem Srt.first {P Q : Int → Bool} {key row : NN} {s n j : Int} (h : Srt P key row s n) (j0 : 0 ≤ j) (j1 : j < s) (hj : Q (row j) = true) (hb : ∀ l, 0 ≤ l → l < j → Q (row l) = false) : mnI (fun x => P x && Q x) key n = row j := by
  have hh := h
  obtain ⟨h0, h1, h2, h3⟩ := hh
  have hr := h1 j j0 j1
  refine mnI_eq (by show (P (row j) && Q (row j)) = true; rw [hr.2, hj]; rfl) hr.1.1 hr.1.2 (fun x x0 x1 xn xq => ?_)
  have xq : (P x && Q x) = true := xq
  rw [Bool.and_eq_true] at xq
  obtain ⟨l, l0, l1, rfl⟩ := h3 x x0 x1 xq.1
  refine h2 j l j0 ?_ l1
  rcases Int.lt_trichotomy j l with e | e | e
  · exact e
  · exact absurd (by rw [e]) xn
  · have := hb l l0 e; rw [xq.2] at this; cases this
theorem Srt.nofirst {P Q : Int → Bool} {key row : NN} {s n : Int} (h : Srt P key row s n) (hb : ∀ l, 0 ≤ l → l < s → Q (row l) = false) : mnI (fun x => P x && Q x) key n = -1 := by
  refine mnI_none (fun x x0 x1 => ?_)
  show (P x && Q x) = false
  cases q : P x with
  | false => rfl
  | true =>
    obtain ⟨l, l0, l1, rfl⟩ := h.2.2.2 x x0 x1 q
    exact hb l l0 l1
/-! what a hall's row is -/
theorem RHr1.srt {σ : SS} {t : Int} {N : NN} {i : Int} (h : RHr1 σ t N i) (h5 : N (8 + i) ≠ 5) (h3 : 0 ≤ N 3) : Srt (wP N (wcK (N (8 + i))) i) (fun x => N (604 + x)) (σ 1 t i) (σ 0 t i 4) (N 3) := by
  obtain ⟨a0, a1, a2, a3, a4⟩ := h
  refine ⟨⟨a0.1, h3⟩, fun j j0 j1 => ?_, a3, fun x x0 x1 x2 => ?_⟩
  · obtain ⟨q1, q2, q3⟩ := a2 j j0 j1
    exact ⟨q1, decide_eq_true ⟨q2, q3⟩⟩
  · have q := of_decide_eq_true x2
    exact a4 h5 x x0 x1 q.1 q.2
theorem wcK0 {k : Int} (h : k = 0) : wcK k = 0 := if_pos h
theorem wcK4 {k : Int} (h : k = 4) : wcK k = 3 := by unfold wcK; rw [if_neg (by omega), if_pos h]
theorem wcK2 {k : Int} (h : 1 ≤ k) (h2 : k ≤ 3) : wcK k = 2 := by unfold wcK; rw [if_neg (by omega), if_neg (by omega)]
/-- a point that holds one bag -/
theorem hold_row {σ : SS} {N : NN} {k p : Int} (hI : IV N k) (hr : RHr1 σ 0 N p) (hp : 0 ≤ p ∧ p < N 0) (hk : 1 ≤ N (8 + p) ∧ N (8 + p) ≤ 3) : (N (32 + p) = 0 ∧ σ 0 0 p 4 = 0) ∨ (1 ≤ N (32 + p) ∧ N (32 + p) ≤ N 3 ∧ σ 0 0 p 4 = 1 ∧ σ 1 0 p 0 = N (32 + p) - 1) := by
  obtain ⟨a0, a1, a2, a3, a4⟩ := hr
  rw [wcK2 hk.1 hk.2] at a2 a4
  obtain ⟨-, -, -, q, -⟩ := hI.p hp.1 hp.2
  have hw : ∀ j, 0 ≤ j → j < σ 0 0 p 4 → N (32 + p) = σ 1 0 p j + 1 := by
    intro j j0 j1
    obtain ⟨q1, q2, q3⟩ := a2 j j0 j1
    obtain ⟨-, -, -, w⟩ := hI.g q1.1 q1.2
    rw [q2] at w
    unfold wI at w
    rw [q3] at w
    rcases w with w | w | w | w | w | w
    · omega
    · omega
    · exact w.2.2.2.1
    · omega
    · omega
    · omega
  by_cases e : 0 < σ 0 0 p 4
  · have h0 := hw 0 (by omega) e
    have h00 := a2 0 (by omega) e
    refine Or.inr ⟨by omega, by omega, ?_, by omega⟩
    by_cases e2 : 1 < σ 0 0 p 4
    · have h1 := hw 1 (by omega) e2
      have := a3 0 1 (by omega) (by omega) e2
      rw [show σ 1 0 p 0 = σ 1 0 p 1 by omega] at this
      omega
    · omega
  · refine Or.inl ⟨?_, by omega⟩
    rcases q with q | ⟨q1, q2, q3⟩
    · exact q
    · obtain ⟨j, j0, j1, -⟩ := a4 (by omega) _ (by omega) (by omega) q2 q3
      omega
/-- a bag on a belt lies in its cell alone -/
theorem cell_of {σ : SS} {N : NN} {k g : Int} (hI : IV N k) (hc : RHc σ 0 N) (hb : RHb σ 0 N) (hg : 0 ≤ g ∧ g < N 3) (hw : N (484 + g) = 1) : fstI (fun j => decide (σ 3 0 (N (544 + g)) j = g)) 0 (σ 2 0 (N (544 + g)) 2) = N (604 + g) := by
  obtain ⟨-, -, -, w⟩ := hI.g hg.1 hg.2
  unfold wI at w
  have w2 : (0 ≤ N (544 + g) ∧ N (544 + g) < N 1) ∧ (0 ≤ N (604 + g) ∧ N (604 + g) < N (100 + N (544 + g))) ∧ N (148 + 12 * N (544 + g) + N (604 + g)) = g + 1 := by
    rcases w with w | w | w | w | w | w
    · omega
    · exact w.2
    · omega
    · omega
    · omega
    · omega
  obtain ⟨w3, w4, w5⟩ := w2
  obtain ⟨-, -, l1, -⟩ := hI.b w3.1 w3.2
  obtain ⟨-, -, l2, -⟩ := hb _ w3.1 w3.2
  refine (fstI_eq (by omega) (by omega) (Or.inr ⟨w4.1, by omega, decide_eq_true ?_, fun j j0 j1 => decide_eq_false (fun q => ?_)⟩)).symm
  · rw [hc _ _ w3.1 w3.2 w4.1 (by omega), w5]; omega
  · rw [hc _ _ w3.1 w3.2 j0 (by omega)] at q
    rcases hI.c w3.1 w3.2 j0 (show j < 12 by omega) with c | ⟨-, -, -, c⟩
    · omega
    · rw [q] at c; omega
