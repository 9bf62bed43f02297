/-! ===== the invariant between calls, over ticks ===== -/
def JI (N : NN) : Prop := IV N 0 ∧ WI N ∧ SI N 0
theorem JI.start {N : NN} (h : JI N) : TI N N g0 0 0 := ⟨h.1, h.2.1, ⟨fun _ => Or.inl rfl, fun _ _ => rfl, fun _ _ _ q => absurd rfl q⟩, FrT.refl, h.2.2⟩
theorem IV.tick {M : NN} {k : Int} (hI : IV M k) (h4 : M 4 < 1000000) : IV (uI M 4 (M 4 + 1)) 0 := by
  have hk := hI.k
  obtain ⟨b0, b1, b2, b3, b4, b5⟩ := hI.n
  obtain ⟨-, i1, i2, i3, i4, i5, i6, i7, -⟩ := hI
  have e : ∀ j, j ≠ 4 → uI M 4 (M 4 + 1) j = M j := fun j h => uI_n h
  have v : uI M 4 (M 4 + 1) 4 = M 4 + 1 := uI_s
  have hr : ∀ j, inR (uI M 4 (M 4 + 1) j) := inR_uI i7 ⟨by omega, by omega⟩
  generalize uI M 4 (M 4 + 1) = A at e v hr
  have m0 := e 0 (by omega)
  have m1 := e 1 (by omega)
  have m2 := e 2 (by omega)
  have m3 := e 3 (by omega)
  have m5 := e 5 (by omega)
  refine ⟨by unfold nI4; rw [m0, m1, m2, m3, m5, v]; exact ⟨b0, b1, b2, b3, ⟨by omega, by omega⟩, b5⟩, ?_, ?_, ?_, ?_, ?_, ?_, hr, ⟨by omega, by omega⟩⟩
  · intro q c0 c1
    rw [m0] at c1
    obtain ⟨q1, q2, q3, q4, q5, q6, q7⟩ := i1 q c0 c1
    unfold pI
    rw [e (8 + q) (by omega), e (20 + q) (by omega), e (32 + q) (by omega), e (44 + q) (by omega), e (56 + q) (by omega), m1, m3]
    refine ⟨q1, q2, q3, ?_, q5, q6, fun hk => ?_⟩
    · rcases q4 with h | ⟨z1, z2, z3⟩
      · exact Or.inl h
      · rw [e _ (by omega), e _ (by omega)]
        exact Or.inr ⟨z1, z2, z3⟩
    · rcases q7 hk with ⟨h1, h2⟩ | ⟨h1, h2⟩
      · exact Or.inl ⟨h1, fun b c0 c1 => by rw [e _ (by omega)]; exact h2 b c0 c1⟩
      · refine Or.inr ⟨h1, ?_⟩
        rw [e _ (by omega)]
        exact h2
  · intro b c0 c1
    rw [m1] at c1
    obtain ⟨q1, q2, q3, q4, q5, q6, q7⟩ := i2 b c0 c1
    unfold bI2
    rw [e (68 + b) (by omega), e (84 + b) (by omega), e (100 + b) (by omega), e (116 + b) (by omega), e (132 + b) (by omega), m0, e (8 + M (68 + b)) (by omega), e (8 + M (84 + b)) (by omega)]
    exact ⟨q1, q2, q3, q4, q5, q6, q7⟩
  · intro x c0 c1
    rw [m2] at c1
    obtain ⟨q1, q2, q3, q4⟩ := i3 x c0 c1
    unfold fI
    rw [e (340 + x) (by omega), e (348 + x) (by omega), e (356 + x) (by omega), m0, e (8 + M (340 + x)) (by omega)]
    exact ⟨q1, q2, q3, q4⟩
  · intro x c0 c1
    rw [m3] at c1
    obtain ⟨q1, q2, q3, q4⟩ := i4 x c0 c1
    unfold gI wI
    rw [e (364 + x) (by omega), e (424 + x) (by omega), e (484 + x) (by omega), e (544 + x) (by omega), e (604 + x) (by omega), e (664 + x) (by omega), m2, v, m0, m1, m5]
    refine ⟨q1, q2, by omega, ?_⟩
    rcases q4 with ⟨w, h1, h2, h3⟩ | ⟨w, h1, h2, h3⟩ | ⟨w, h1, h2, h3, h4⟩ | ⟨w, h1, h2, h3⟩ | ⟨w, h1⟩ | ⟨w, h1, h2, h3⟩
    · exact Or.inl ⟨w, h1, by rw [e _ (by omega)]; exact h2, h3⟩
    · obtain ⟨-, -, l, -⟩ := i2 _ h1.1 h1.2
      refine Or.inr (Or.inl ⟨w, h1, ?_, ?_⟩)
      · rw [e _ (by omega)]; exact h2
      · rw [e _ (by omega)]; exact h3
    · refine Or.inr (Or.inr (Or.inl ⟨w, h1, ?_, ?_, h4.1, by omega⟩))
      · rw [e _ (by omega)]; exact h2
      · rw [e _ (by omega)]; exact h3
    · exact Or.inr (Or.inr (Or.inr (Or.inl ⟨w, h1, by rw [e _ (by omega)]; exact h2, h3.1, by omega⟩)))
    · exact Or.inr (Or.inr (Or.inr (Or.inr (Or.inl ⟨w, h1⟩))))
    · exact Or.inr (Or.inr (Or.inr (Or.inr (Or.inr ⟨w, h1, by rw [e _ (by omega)]; exact h2, h3.1, by omega⟩))))
  · intro b c c0 c1 c2 c3
    rw [m1] at c1
    have hc := i5 b c c0 c1 c2 c3
    unfold cI at hc ⊢
    rw [e (148 + 12 * b + c) (by omega), m3]
    rcases hc with h | ⟨h1, h2, h3, h4⟩
    · exact Or.inl h
    · rw [e _ (by omega), e _ (by omega), e _ (by omega)]
      exact Or.inr ⟨h1, h2, h3, h4⟩
  · intro x y x0 x1 y0 y1
    rw [m3] at x1 y1
    have hd := i6 x y x0 x1 y0 y1
    unfold dI at hd ⊢
    rw [e (484 + x) (by omega), e (484 + y) (by omega), e (544 + x) (by omega), e (544 + y) (by omega), e (604 + x) (by omega), e (604 + y) (by omega)]
    exact hd
theorem JI.tick {N : NN} (h : JI N) (h4 : N 4 < 1000000) : TKOK N ∧ JI (tick1 N) ∧ tick1 N 4 = N 4 + 1 ∧ ∀ j, j < 32 → j ≠ 4 → tick1 N j = N j := by
  have hT := h.start
  obtain ⟨b0, b1, b2, b3, b4, b5⟩ := h.1.n
  have g1 := fun n hn => gvs_ok hT n hn
  have g2 := g1 (N 0).toNat (by omega)
  have hz : (((N 0).toNat : Nat) : Int) = N 0 := by omega
  rw [hz] at g2
  have a1 := fun n hn => mvA_ok g2 n hn
  have a2 := a1 (N 1).toNat (by omega)
  have t1 := fun n hn => tks_ok a2 (by omega) n hn
  have t2 := t1 (N 0).toNat (by omega)
  refine ⟨⟨⟨b0, b1, b4.1, h4⟩, fun x x0 x1 => ?_, fun x x0 x1 => ?_, fun x x0 x1 => ?_⟩, ?_, ?_, ?_⟩
  · have q := g1 x.toNat (by omega)
    exact ⟨_, q.1, q.2.2.1, q.2.2.2.1.1 0 (by omega), q.2.2.2.1.1 1 (by omega)⟩
  · have q := a1 x.toNat (by omega)
    exact ⟨_, q.1, q.2.2.2.1.1 0 (by omega), q.2.2.2.1.1 1 (by omega)⟩
  · have q := t1 x.toNat (by omega)
    refine ⟨_, q.1, q.2.2.2.1.1 0 (by omega), q.2.2.2.1.1 4 (by omega), fun xl h5 y y0 y1 => ?_⟩
    have e0 := q.2.2.2.1.1 0 (by omega)
    have e1 := q.2.2.2.1.1 1 (by omega)
    rw [show ((x.toNat : Nat) : Int) = x by omega] at q
    generalize tks (mvA (gvs N g0 (N 0).toNat).1 (gvs N g0 (N 0).toNat).2 (N 1).toNat) (gvs N g0 (N 0).toNat).2 x.toNat = A at q e0 e1 h5 y1 ⊢
    have c := chs_ok (q.later (q' := x + 1) (Int.le_refl _) (by omega) (by omega)) (p := x) ⟨x0, by omega⟩ h5 (by omega) y.toNat (by omega)
    exact ⟨_, c.1.1, c.2.1 1 (by omega)⟩
  · unfold tick1
    have e4 := t2.2.2.2.1.1 4 (by omega)
    have i1 := t2.1.tick (by omega)
    rw [e4] at i1
    generalize tks (mvA (gvs N g0 (N 0).toNat).1 (gvs N g0 (N 0).toNat).2 (N 1).toNat) (gvs N g0 (N 0).toNat).2 (N 0).toNat = A at t2 e4 i1 ⊢
    have e3 : uI A 4 (N 4 + 1) 3 = A 3 := uI_n (by omega)
    refine ⟨i1, t2.2.1.same e3 (fun j hj => uI_n (by omega)), fun x x0 x1 h1 h2 => ?_⟩
    rw [e3] at x1
    rw [uI_n (by omega)] at h1
    rw [uI_n (by omega), uI_s]
    obtain ⟨-, -, -, w⟩ := t2.1.g x0 x1
    unfold wI at w
    omega
  · exact uI_s
  · intro j j0 j1
    unfold tick1
    rw [uI_n j1]
    exact t2.2.2.2.1.1 j j0
theorem JI.tickn {N : NN} (h : JI N) : ∀ n : Nat, N 4 + n ≤ 1000000 → JI (ticks N n) ∧ ticks N n 4 = N 4 + n ∧ (∀ j, j < 32 → j ≠ 4 → ticks N n j = N j)
  | 0, _ => ⟨h, by show N 4 = _; omega, fun _ _ _ => rfl⟩
  | n + 1, hn => by
    obtain ⟨i1, i2, i3⟩ := JI.tickn h n (by omega)
    obtain ⟨-, j1, j2, j3⟩ := i1.tick (by omega)
    refine ⟨j1, ?_, fun j q0 q1 => ?_⟩
    · show tick1 (ticks N n) 4 = _
      rw [j2]; omega
    · show tick1 (ticks N n) j = _
      rw [j3 j q0 q1]; exact i3 j q0 q1
