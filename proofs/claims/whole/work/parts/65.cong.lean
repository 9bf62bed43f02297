theorem IV.cong {M A : NN} {k : Int} (hI : IV M k) (e : ∀ j, 0 ≤ j → j < 4324 → A j = M j) (hr : ∀ j, inR (A j)) : IV A k := by
  have hk := hI.k
  obtain ⟨b0, b1, b2, b3, b4, b5⟩ := hI.n
  obtain ⟨-, i1, i2, i3, i4, i5, i6, i7, -⟩ := hI
  have m0 := e 0 (by omega) (by omega)
  have m1 := e 1 (by omega) (by omega)
  have m2 := e 2 (by omega) (by omega)
  have m3 := e 3 (by omega) (by omega)
  have v := e 4 (by omega) (by omega)
  have m5 := e 5 (by omega) (by omega)
  refine ⟨by unfold nI4; rw [m0, m1, m2, m3, m5, v]; exact ⟨b0, b1, b2, b3, b4, b5⟩, ?_, ?_, ?_, ?_, ?_, ?_, hr, hk⟩
  · intro q c0 c1
    rw [m0] at c1
    obtain ⟨q1, q2, q3, q4, q5, q6, q7⟩ := i1 q c0 c1
    unfold pI
    rw [e (8 + q) (by omega) (by omega), e (20 + q) (by omega) (by omega), e (32 + q) (by omega) (by omega), e (44 + q) (by omega) (by omega), e (56 + q) (by omega) (by omega), m1, m3]
    refine ⟨q1, q2, q3, ?_, q5, q6, fun hk => ?_⟩
    · rcases q4 with h | ⟨z1, z2, z3⟩
      · exact Or.inl h
      · rw [e _ (by omega) (by omega), e _ (by omega) (by omega)]
        exact Or.inr ⟨z1, z2, z3⟩
    · rcases q7 hk with ⟨h1, h2⟩ | ⟨h1, h2⟩
      · exact Or.inl ⟨h1, fun b c0 c1 => by rw [e _ (by omega) (by omega)]; exact h2 b c0 c1⟩
      · refine Or.inr ⟨h1, ?_⟩
        rw [e _ (by omega) (by omega)]
        exact h2
  · intro b c0 c1
    rw [m1] at c1
    obtain ⟨q1, q2, q3, q4, q5, q6, q7⟩ := i2 b c0 c1
    unfold bI2
    rw [e (68 + b) (by omega) (by omega), e (84 + b) (by omega) (by omega), e (100 + b) (by omega) (by omega), e (116 + b) (by omega) (by omega), e (132 + b) (by omega) (by omega), m0, e (8 + M (68 + b)) (by omega) (by omega), e (8 + M (84 + b)) (by omega) (by omega)]
    exact ⟨q1, q2, q3, q4, q5, q6, q7⟩
  · intro x c0 c1
    rw [m2] at c1
    obtain ⟨q1, q2, q3, q4⟩ := i3 x c0 c1
    unfold fI
    rw [e (340 + x) (by omega) (by omega), e (348 + x) (by omega) (by omega), e (356 + x) (by omega) (by omega), m0, e (8 + M (340 + x)) (by omega) (by omega)]
    exact ⟨q1, q2, q3, q4⟩
  · intro x c0 c1
    rw [m3] at c1
    obtain ⟨q1, q2, q3, q4⟩ := i4 x c0 c1
    unfold gI wI
    rw [e (364 + x) (by omega) (by omega), e (424 + x) (by omega) (by omega), e (484 + x) (by omega) (by omega), e (544 + x) (by omega) (by omega), e (604 + x) (by omega) (by omega), e (664 + x) (by omega) (by omega), m2, v, m0, m1, m5]
    refine ⟨q1, q2, q3, ?_⟩
    rcases q4 with ⟨w, h1, h2, h3⟩ | ⟨w, h1, h2, h3⟩ | ⟨w, h1, h2, h3, h4⟩ | ⟨w, h1, h2, h3⟩ | ⟨w, h1⟩ | ⟨w, h1, h2, h3⟩
    · exact Or.inl ⟨w, h1, by rw [e _ (by omega) (by omega)]; exact h2, h3⟩
    · obtain ⟨-, -, l, -⟩ := i2 _ h1.1 h1.2
      refine Or.inr (Or.inl ⟨w, h1, ?_, ?_⟩)
      · rw [e _ (by omega) (by omega)]; exact h2
      · rw [e _ (by omega) (by omega)]; exact h3
    · refine Or.inr (Or.inr (Or.inl ⟨w, h1, ?_, ?_, h4⟩))
      · rw [e _ (by omega) (by omega)]; exact h2
      · rw [e _ (by omega) (by omega)]; exact h3
    · exact Or.inr (Or.inr (Or.inr (Or.inl ⟨w, h1, by rw [e _ (by omega) (by omega)]; exact h2, h3⟩)))
    · exact Or.inr (Or.inr (Or.inr (Or.inr (Or.inl ⟨w, h1⟩))))
    · exact Or.inr (Or.inr (Or.inr (Or.inr (Or.inr ⟨w, h1, by rw [e _ (by omega) (by omega)]; exact h2, h3⟩))))
  · intro b c c0 c1 c2 c3
    rw [m1] at c1
    have hc := i5 b c c0 c1 c2 c3
    unfold cI at hc ⊢
    rw [e (148 + 12 * b + c) (by omega) (by omega), m3]
    rcases hc with h | ⟨h1, h2, h3, h4⟩
    · exact Or.inl h
    · rw [e _ (by omega) (by omega), e _ (by omega) (by omega), e _ (by omega) (by omega)]
      exact Or.inr ⟨h1, h2, h3, h4⟩
  · intro x y x0 x1 y0 y1
    rw [m3] at x1 y1
    have hd := i6 x y x0 x1 y0 y1
    unfold dI at hd ⊢
    rw [e (484 + x) (by omega) (by omega), e (484 + y) (by omega) (by omega), e (544 + x) (by omega) (by omega), e (544 + y) (by omega) (by omega), e (604 + x) (by omega) (by omega), e (604 + y) (by omega) (by omega)]
    exact hd
theorem WI.cong {N M : NN} (h : WI N) (h3 : N 3 ≤ 60) (e : ∀ j, 0 ≤ j → j < 4324 → M j = N j) : WI M := by
  intro x i x0 x1 i0 i1 i2
  rw [e 3 (by omega) (by omega)] at x1
  rw [e _ (by omega) (by omega)] at i1
  rw [e _ (by omega) (by omega), e _ (by omega) (by omega)]
  exact h x i x0 x1 i0 i1 i2
theorem SI.cong {N M : NN} {p : Int} (h : SI N p) (h3 : N 3 ≤ 60) (e : ∀ j, 0 ≤ j → j < 4324 → M j = N j) : SI M p := by
  intro x x0 x1 q1 q2
  rw [e 3 (by omega) (by omega)] at x1
  rw [e _ (by omega) (by omega)] at q1 q2
  rw [e _ (by omega) (by omega), e 4 (by omega) (by omega)]
  exact h x x0 x1 q1 q2
theorem JI.cong {N M : NN} (h : JI N) (e : ∀ j, 0 ≤ j → j < 4324 → M j = N j) (hr : ∀ j, inR (M j)) : JI M := by
  obtain ⟨b0, b1, b2, b3, b4, b5⟩ := h.1.n
  exact ⟨h.1.cong e hr, h.2.1.cong b3.2 e, h.2.2.cong b3.2 e⟩
theorem RH.cong {σ : SS} {t : Int} {N M : NN} {k : Int} (h : RH σ t N) (hI : IV N k) (e : ∀ j, 0 ≤ j → j < 4324 → M j = N j) : RH σ t M := by
  obtain ⟨b0, b1, b2, b3, b4, b5⟩ := hI.n
  obtain ⟨w0, w1, w2, w3, w4⟩ := h.n
  have m0 := e 0 (by omega) (by omega)
  have m1 := e 1 (by omega) (by omega)
  have m2 := e 2 (by omega) (by omega)
  have m3 := e 3 (by omega) (by omega)
  have m4 := e 4 (by omega) (by omega)
  refine ⟨⟨by rw [m0]; exact w0, by rw [m1]; exact w1, by rw [m2]; exact w2, by rw [m3]; exact w3, by rw [m4]; exact w4⟩, ?_, ?_, ?_, ?_, ?_, ?_, ?_⟩
  · intro i i0 i1
    rw [m0] at i1
    rw [e _ (by omega) (by omega), e _ (by omega) (by omega), e _ (by omega) (by omega), e _ (by omega) (by omega)]
    exact h.p i i0 i1
  · intro i i0 i1
    rw [m1] at i1
    rw [e _ (by omega) (by omega), e _ (by omega) (by omega), e _ (by omega) (by omega), e _ (by omega) (by omega), e _ (by omega) (by omega)]
    exact h.b i i0 i1
  · intro b c y0 y1 c0 c1
    rw [m1] at y1
    rw [e _ (by omega) (by omega)]
    exact h.c b c y0 y1 c0 c1
  · intro i i0 i1
    rw [m2] at i1
    rw [e _ (by omega) (by omega), e _ (by omega) (by omega), e _ (by omega) (by omega)]
    exact h.f i i0 i1
  · intro i i0 i1
    rw [m3] at i1
    rw [e _ (by omega) (by omega), e _ (by omega) (by omega), e _ (by omega) (by omega), e _ (by omega) (by omega), e _ (by omega) (by omega), e _ (by omega) (by omega)]
    exact h.g i i0 i1
  · intro x i x0 x1 i0 i1 i2
    rw [m3] at x1
    rw [e _ (by omega) (by omega)] at i1
    rw [e _ (by omega) (by omega), e _ (by omega) (by omega)]
    exact h.w x i x0 x1 i0 i1 i2
  · intro i i0 i1
    rw [m0] at i1
    obtain ⟨r0, r1, r2, r3, r4⟩ := h.r i i0 i1
    unfold RHr1
    rw [e (8 + i) (by omega) (by omega), m3]
    refine ⟨r0, r1, fun j j0 j1 => ?_, fun j l j0 j1 l1 => ?_, fun h5 x x0 x1 q1 q2 => ?_⟩
    · obtain ⟨q1, q2, q3⟩ := r2 j j0 j1
      rw [e _ (by omega) (by omega), e _ (by omega) (by omega)]
      exact ⟨q1, q2, q3⟩
    · obtain ⟨q1, -⟩ := r2 j j0 (by omega)
      obtain ⟨p1, -⟩ := r2 l (by omega) l1
      rw [e _ (by omega) (by omega), e _ (by omega) (by omega)]
      exact r3 j l j0 j1 l1
    · rw [e _ (by omega) (by omega)] at q1 q2
      exact r4 h5 x x0 x1 q1 q2
/-- the copy stands for what was copied -/
theorem RH.copy {σ : SS} {t t' : Int} {N : NN} {k : Int} (h : RH σ t' N) (hI : IV N k) : RH (hc σ t t' 12 16 8 60 1) t N := by
  obtain ⟨b0, b1, b2, b3, b4, b5⟩ := hI.n
  have c : ∀ (a : Nat) (i j : Int), 0 ≤ j → j < wd a → 0 ≤ i → i < lm a 12 16 8 60 1 → hc σ t t' 12 16 8 60 1 a t i j = σ a t' i j := fun a i j j0 j1 i0 i1 => if_pos ⟨rfl, j0, j1, i0, i1⟩
  have c0 : ∀ i j : Int, 0 ≤ j → j < 5 → 0 ≤ i → i < 12 → hc σ t t' 12 16 8 60 1 0 t i j = σ 0 t' i j := fun i j j0 j1 i0 i1 => c 0 i j j0 j1 i0 i1
  have c1 : ∀ i j : Int, 0 ≤ j → j < 60 → 0 ≤ i → i < 12 → hc σ t t' 12 16 8 60 1 1 t i j = σ 1 t' i j := fun i j j0 j1 i0 i1 => c 1 i j j0 j1 i0 i1
  have c2 : ∀ i j : Int, 0 ≤ j → j < 6 → 0 ≤ i → i < 16 → hc σ t t' 12 16 8 60 1 2 t i j = σ 2 t' i j := fun i j j0 j1 i0 i1 => c 2 i j j0 j1 i0 i1
  have c3 : ∀ i j : Int, 0 ≤ j → j < 12 → 0 ≤ i → i < 16 → hc σ t t' 12 16 8 60 1 3 t i j = σ 3 t' i j := fun i j j0 j1 i0 i1 => c 3 i j j0 j1 i0 i1
  have c4 : ∀ i j : Int, 0 ≤ j → j < 3 → 0 ≤ i → i < 8 → hc σ t t' 12 16 8 60 1 4 t i j = σ 4 t' i j := fun i j j0 j1 i0 i1 => c 4 i j j0 j1 i0 i1
  have c5 : ∀ i j : Int, 0 ≤ j → j < 6 → 0 ≤ i → i < 60 → hc σ t t' 12 16 8 60 1 5 t i j = σ 5 t' i j := fun i j j0 j1 i0 i1 => c 5 i j j0 j1 i0 i1
  have c6 : ∀ i j : Int, 0 ≤ j → j < 30 → 0 ≤ i → i < 60 → hc σ t t' 12 16 8 60 1 6 t i j = σ 6 t' i j := fun i j j0 j1 i0 i1 => c 6 i j j0 j1 i0 i1
  have c7 : ∀ j : Int, 0 ≤ j → j < 5 → hc σ t t' 12 16 8 60 1 7 t 0 j = σ 7 t' 0 j := fun j j0 j1 => c 7 0 j j0 j1 (by decide) (by decide)
  generalize hc σ t t' 12 16 8 60 1 = τ at c0 c1 c2 c3 c4 c5 c6 c7
  obtain ⟨w0, w1, w2, w3, w4⟩ := h.n
  refine ⟨⟨by rw [c7 0 (by omega) (by omega)]; exact w0, by rw [c7 1 (by omega) (by omega)]; exact w1, by rw [c7 2 (by omega) (by omega)]; exact w2, by rw [c7 3 (by omega) (by omega)]; exact w3, by rw [c7 4 (by omega) (by omega)]; exact w4⟩, ?_, ?_, ?_, ?_, ?_, ?_, ?_⟩
  · intro i i0 i1
    rw [c0 i 0 (by omega) (by omega) i0 (by omega), c0 i 1 (by omega) (by omega) i0 (by omega), c0 i 2 (by omega) (by omega) i0 (by omega), c0 i 3 (by omega) (by omega) i0 (by omega)]
    exact h.p i i0 i1
  · intro i i0 i1
    rw [c2 i 0 (by omega) (by omega) i0 (by omega), c2 i 1 (by omega) (by omega) i0 (by omega), c2 i 2 (by omega) (by omega) i0 (by omega), c2 i 3 (by omega) (by omega) i0 (by omega), c2 i 4 (by omega) (by omega) i0 (by omega)]
    exact h.b i i0 i1
  · intro b c y0 y1 z0 z1
    rw [c3 b c z0 z1 y0 (by omega)]
    exact h.c b c y0 y1 z0 z1
  · intro i i0 i1
    rw [c4 i 0 (by omega) (by omega) i0 (by omega), c4 i 1 (by omega) (by omega) i0 (by omega), c4 i 2 (by omega) (by omega) i0 (by omega)]
    exact h.f i i0 i1
  · intro i i0 i1
    rw [c5 i 0 (by omega) (by omega) i0 (by omega), c5 i 1 (by omega) (by omega) i0 (by omega), c5 i 2 (by omega) (by omega) i0 (by omega), c5 i 3 (by omega) (by omega) i0 (by omega), c5 i 4 (by omega) (by omega) i0 (by omega), c5 i 5 (by omega) (by omega) i0 (by omega)]
    exact h.g i i0 i1
  · intro x i x0 x1 i0 i1 i2
    rw [c6 x i i0 i2 x0 (by omega)]
    exact h.w x i x0 x1 i0 i1 i2
  · intro i i0 i1
    obtain ⟨r0, r1, r2, r3, r4⟩ := h.r i i0 i1
    unfold RHr1
    rw [c0 i 4 (by omega) (by omega) i0 (by omega)]
    refine ⟨r0, r1, fun j j0 j1 => ?_, fun j l j0 j1 l1 => ?_, fun h5 x x0 x1 q1 q2 => ?_⟩
    · rw [c1 i j j0 (by omega) i0 (by omega)]
      exact r2 j j0 j1
    · rw [c1 i j j0 (by omega) i0 (by omega), c1 i l (by omega) (by omega) i0 (by omega)]
      exact r3 j l j0 j1 l1
    · obtain ⟨j, z0, z1, z2⟩ := r4 h5 x x0 x1 q1 q2
      exact ⟨j, z0, z1, by rw [c1 i j z0 (by omega) i0 (by omega)]; exact z2⟩
theorem RG_hc {σ : SS} {t t' x y z w v : Int} (h : RG σ) : RG (hc σ t t' x y z w v) := by
  refine ⟨fun a t1 i j => ?_, fun a t1 i j q => ?_⟩
  · unfold hc
    split
    · exact h.1 _ _ _ _
    · exact h.1 _ _ _ _
  · unfold hc
    split
    · exact h.2 _ _ _ _ q
    · exact h.2 _ _ _ _ q
/-- another hall is as it was -/
theorem RH.ot {σ τ : SS} {t : Int} {N : NN} (h : RH σ t N) (e : ∀ (a : Nat) (i : Int), a < 8 → τ a t i = σ a t i) : RH τ t N := by
  unfold RH RHn RHp RHb RHc RHf RHg RHw RHr RHr1 at h ⊢
  simp only [e 0 _ (by decide), e 1 _ (by decide), e 2 _ (by decide), e 3 _ (by decide), e 4 _ (by decide), e 5 _ (by decide), e 6 _ (by decide), e 7 _ (by decide)]
  exact h
