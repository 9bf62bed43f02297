/-! ===== the invariant kept ===== -/
/-- what grows: points, belts, flights, bags; what a person sets -/
theorem IV.grow {N M : NN} {k : Int} (hI : IV N k) (hn : nI4 M) (c : N 0 ≤ M 0 ∧ N 1 ≤ M 1 ∧ N 2 ≤ M 2 ∧ N 3 ≤ M 3 ∧ M 4 = N 4 ∧ N 5 ≤ M 5)
    (eP : ∀ p, 0 ≤ p → p < N 0 → M (8 + p) = N (8 + p) ∧ M (20 + p) = N (20 + p) ∧ M (32 + p) = N (32 + p))
    (eB : ∀ b, 0 ≤ b → b < N 1 → M (68 + b) = N (68 + b) ∧ M (84 + b) = N (84 + b) ∧ M (100 + b) = N (100 + b) ∧ (M (116 + b) = 0 ∨ M (116 + b) = 1) ∧ (0 ≤ M (132 + b) ∧ M (132 + b) ≤ 9))
    (eF : ∀ f, 0 ≤ f → f < N 2 → M (340 + f) = N (340 + f) ∧ M (348 + f) = N (348 + f) ∧ M (356 + f) = N (356 + f))
    (eG : ∀ x, 0 ≤ x → x < N 3 → M (364 + x) = N (364 + x) ∧ (M (424 + x) = 0 ∨ M (424 + x) = 1) ∧ M (484 + x) = N (484 + x) ∧ M (544 + x) = N (544 + x) ∧ M (604 + x) = N (604 + x) ∧ M (664 + x) = N (664 + x))
    (eC : ∀ b c, 0 ≤ b → b < N 1 → 0 ≤ c → c < 12 → M (148 + 12 * b + c) = N (148 + 12 * b + c))
    (hp : ∀ p, 0 ≤ p → p < M 0 → (0 ≤ M (44 + p) ∧ M (44 + p) ≤ M 1) ∧ (0 ≤ M (56 + p) ∧ M (56 + p) ≤ 9) ∧ (M (8 + p) = 1 → (M (44 + p) = 0 ∧ ∀ b, 0 ≤ b → b < M 1 → M (84 + b) ≠ p) ∨ (1 ≤ M (44 + p) ∧ M (84 + (M (44 + p) - 1)) = p)))
    (np : ∀ p, N 0 ≤ p → p < M 0 → (0 ≤ M (8 + p) ∧ M (8 + p) ≤ 5) ∧ (M (8 + p) = 2 → 1 ≤ M (20 + p) ∧ M (20 + p) ≤ 9) ∧ (M (8 + p) = 4 → 1 ≤ M (20 + p) ∧ M (20 + p) ≤ 20) ∧ M (32 + p) = 0)
    (nb : ∀ b, N 1 ≤ b → b < M 1 → bI2 M b) (nf : ∀ f, N 2 ≤ f → f < M 2 → fI M f)
    (ng : ∀ g, N 3 ≤ g → g < M 3 → gI M k g ∧ M (484 + g) = 0 ∧ ∀ x, 0 ≤ x → x < g → M (484 + x) = 0 → M (544 + x) = M (544 + g) → M (604 + x) ≠ M (604 + g))
    (nc : ∀ b c, N 1 ≤ b → b < M 1 → 0 ≤ c → c < 12 → M (148 + 12 * b + c) = 0)
    (hr : ∀ j, inR (M j)) : IV M k := by
  obtain ⟨b0, b1, b2, b3, b4, b5⟩ := hI.n
  obtain ⟨c0, c1, c2, c3, c4, c5⟩ := c
  refine ⟨hn, ?_, ?_, ?_, ?_, ?_, ?_, hr, hI.k⟩
  · intro p p0 p1
    obtain ⟨a1, a2, a3⟩ := hp p p0 p1
    by_cases e : p < N 0
    · obtain ⟨q1, q2, q3, q4, -⟩ := hI.p p0 e
      obtain ⟨e1, e2, e3⟩ := eP p p0 e
      unfold pI
      refine ⟨by rw [e1]; exact q1, by rw [e1, e2]; exact q2, by rw [e1, e2]; exact q3, ?_, a1, a2, a3⟩
      rw [e3]
      rcases q4 with h | ⟨h1, h2, h3⟩
      · exact Or.inl h
      · obtain ⟨-, -, g3, g4, -⟩ := eG (N (32 + p) - 1) (by omega) (by omega)
        rw [g3, g4]
        exact Or.inr ⟨⟨h1.1, by omega⟩, h2, h3⟩
    · obtain ⟨q1, q2, q3, q4⟩ := np p (by omega) p1
      exact ⟨q1, q2, q3, Or.inl q4, a1, a2, a3⟩
  · intro b d0 d1
    by_cases e : b < N 1
    · obtain ⟨q1, q2, q3, q4, q5, q6, q7⟩ := hI.b d0 e
      obtain ⟨e1, e2, e3, e4, e5⟩ := eB b d0 e
      unfold bI2
      rw [e1, e2, e3, (eP (N (68 + b)) q1.1 q1.2).1, (eP (N (84 + b)) q2.1 q2.2).1]
      exact ⟨⟨q1.1, by omega⟩, ⟨q2.1, by omega⟩, q3, e4, e5, q6, q7⟩
    · exact nb b (by omega) d1
  · intro f d0 d1
    by_cases e : f < N 2
    · obtain ⟨q1, q2, q3, q4⟩ := hI.f d0 e
      obtain ⟨e1, e2, e3⟩ := eF f d0 e
      unfold fI
      rw [e1, e2, e3, (eP (N (340 + f)) q1.1 q1.2).1]
      exact ⟨⟨q1.1, by omega⟩, q2, q3, q4⟩
    · exact nf f (by omega) d1
  · intro x d0 d1
    by_cases e : x < N 3
    · obtain ⟨q1, q2, q3, q4⟩ := hI.g d0 e
      obtain ⟨e1, e2, e3, e4, e5, e6⟩ := eG x d0 e
      unfold gI wI
      rw [e1, e3, e4, e5, e6, c4]
      refine ⟨⟨q1.1, by omega⟩, e2, q3, ?_⟩
      rcases q4 with ⟨w, h1, h2, h3⟩ | ⟨w, h1, h2, h3⟩ | ⟨w, h1, h2, h3, h4⟩ | ⟨w, h1, h2, h3⟩ | ⟨w, h1⟩ | ⟨w, h1, h2, h3⟩
      · exact Or.inl ⟨w, ⟨h1.1, by omega⟩, by rw [(eP _ h1.1 h1.2).1]; exact h2, h3.1, by omega⟩
      · refine Or.inr (Or.inl ⟨w, ⟨h1.1, by omega⟩, ?_, ?_⟩)
        · rw [(eB _ h1.1 h1.2).2.2.1]; exact h2
        · obtain ⟨-, -, l, -⟩ := hI.b h1.1 h1.2
          rw [eC _ _ h1.1 h1.2 h2.1 (by omega)]; exact h3
      · refine Or.inr (Or.inr (Or.inl ⟨w, ⟨h1.1, by omega⟩, ?_, ?_, h4⟩))
        · rw [(eP _ h1.1 h1.2).1]; exact h2
        · rw [(eP _ h1.1 h1.2).2.2]; exact h3
      · exact Or.inr (Or.inr (Or.inr (Or.inl ⟨w, ⟨h1.1, by omega⟩, by rw [(eP _ h1.1 h1.2).1]; exact h2, h3⟩)))
      · exact Or.inr (Or.inr (Or.inr (Or.inr (Or.inl ⟨w, h1⟩))))
      · exact Or.inr (Or.inr (Or.inr (Or.inr (Or.inr ⟨w, ⟨h1.1, by omega⟩, by rw [(eP _ h1.1 h1.2).1]; exact h2, h3⟩))))
    · exact (ng x (by omega) d1).1
  · intro b c d0 d1 d2 d3
    by_cases e : b < N 1
    · have hc := hI.c d0 e d2 d3
      unfold cI at hc ⊢
      rw [eC b c d0 e d2 d3]
      rcases hc with h | ⟨h1, h2, h3, h4⟩
      · exact Or.inl h
      · obtain ⟨-, -, g3, g4, g5, -⟩ := eG (N (148 + 12 * b + c) - 1) (by omega) (by omega)
        rw [g3, g4, g5]
        exact Or.inr ⟨⟨h1.1, by omega⟩, h2, h3, h4⟩
    · exact Or.inl (nc b c (by omega) d1 d2 d3)
  · intro x y x0 x1 y0 y1 h1 h2 h3 h4
    by_cases ex : x < N 3
    · by_cases ey : y < N 3
      · obtain ⟨-, -, g3, g4, g5, -⟩ := eG x x0 ex
        obtain ⟨-, -, k3, k4, k5, -⟩ := eG y y0 ey
        rw [g3] at h1
        rw [g3, k3] at h2
        rw [g4, k4] at h3
        rw [g5, k5] at h4
        exact hI.d x0 ex y0 ey h1 h2 h3 h4
      · obtain ⟨-, q, w⟩ := ng y (by omega) y1
        exact absurd h4 (w x x0 (by omega) (by omega) h3)
    · obtain ⟨-, q, w⟩ := ng x (by omega) x1
      rcases Int.lt_trichotomy y x with z | z | z
      · exact absurd h4.symm (w y y0 z (by omega) h3.symm)
      · exact z.symm
      · obtain ⟨-, q2, w2⟩ := ng y (by omega) y1
        exact absurd h4 (w2 x x0 z q h3)
/-- one bag goes from one place to another -/
theorem IV.mv {N M : NN} {k g : Int} (hI : IV N k) (hg : 0 ≤ g ∧ g < N 3)
    (hA : ∀ j, j ≠ 5 → (j < 32 ∨ (44 ≤ j ∧ j < 148) ∨ (340 ≤ j ∧ j < 424) ∨ 664 ≤ j) → M j = N j)
    (hdb : ∀ x, 0 ≤ x → x < N 3 → M (424 + x) = 0 ∨ M (424 + x) = 1)
    (hB : ∀ x, 0 ≤ x → x < N 3 → x ≠ g → M (484 + x) = N (484 + x) ∧ M (544 + x) = N (544 + x) ∧ M (604 + x) = N (604 + x))
    (h5 : N 5 ≤ M 5 ∧ M 5 ≤ 1000000)
    (hH : ∀ p, 0 ≤ p → p < N 0 → (M (32 + p) = N (32 + p) ∧ N (32 + p) ≠ g + 1) ∨ (M (32 + p) = 0 ∧ (N (32 + p) = 0 ∨ N (32 + p) = g + 1)) ∨ (M (32 + p) = g + 1 ∧ N (32 + p) = 0 ∧ M (484 + g) = 2 ∧ M (544 + g) = p))
    (hC : ∀ b c, 0 ≤ b → b < N 1 → 0 ≤ c → c < 12 → (M (148 + 12 * b + c) = N (148 + 12 * b + c) ∧ N (148 + 12 * b + c) ≠ g + 1) ∨ (M (148 + 12 * b + c) = 0 ∧ (N (148 + 12 * b + c) = 0 ∨ N (148 + 12 * b + c) = g + 1)) ∨ (M (148 + 12 * b + c) = g + 1 ∧ N (148 + 12 * b + c) = 0 ∧ M (484 + g) = 1 ∧ M (544 + g) = b ∧ M (604 + g) = c))
    (hW : wI M g (M (484 + g)))
    (hD : ∀ x, 0 ≤ x → x < N 3 → x ≠ g → (M (484 + g) = 0 ∨ M (484 + g) = 3) → N (484 + x) = M (484 + g) → N (544 + x) = M (544 + g) → N (604 + x) ≠ M (604 + g))
    (hr : ∀ j, inR (M j)) : IV M k := by
  obtain ⟨b0, b1, b2, b3, b4, b5⟩ := hI.n
  have m0 : M 0 = N 0 := hA 0 (by omega) (by omega)
  have m1 : M 1 = N 1 := hA 1 (by omega) (by omega)
  have m2 : M 2 = N 2 := hA 2 (by omega) (by omega)
  have m3 : M 3 = N 3 := hA 3 (by omega) (by omega)
  have m4 : M 4 = N 4 := hA 4 (by omega) (by omega)
  refine ⟨by unfold nI4; rw [m0, m1, m2, m3, m4]; exact ⟨b0, b1, b2, b3, b4, by omega, by omega⟩, ?_, ?_, ?_, ?_, ?_, ?_, hr, hI.k⟩
  · intro p p0 p1
    rw [m0] at p1
    obtain ⟨q1, q2, q3, q4, q5, q6, q7⟩ := hI.p p0 p1
    unfold pI
    rw [hA (8 + p) (by omega) (by omega), hA (20 + p) (by omega) (by omega), hA (44 + p) (by omega) (by omega), hA (56 + p) (by omega) (by omega), m1, m3]
    refine ⟨q1, q2, q3, ?_, q5, q6, fun hk => ?_⟩
    · rcases hH p p0 p1 with ⟨h1, h2⟩ | ⟨h1, -⟩ | ⟨h1, h2, h3, h4⟩
      · rw [h1]
        rcases q4 with h | ⟨z1, z2, z3⟩
        · exact Or.inl h
        · obtain ⟨g3, g4, -⟩ := hB (N (32 + p) - 1) (by omega) (by omega) (by omega)
          rw [g3, g4]
          exact Or.inr ⟨z1, z2, z3⟩
      · exact Or.inl h1
      · rw [h1, show g + 1 - 1 = g by omega]
        exact Or.inr ⟨by omega, h3, h4⟩
    · rcases q7 hk with ⟨h1, h2⟩ | ⟨h1, h2⟩
      · exact Or.inl ⟨h1, fun b c0 c1 => by rw [hA _ (by omega) (by omega)]; exact h2 b c0 c1⟩
      · refine Or.inr ⟨h1, ?_⟩
        rw [hA _ (by omega) (by omega)]
        exact h2
  · intro b c0 c1
    rw [m1] at c1
    obtain ⟨q1, q2, q3, q4, q5, q6, q7⟩ := hI.b c0 c1
    unfold bI2
    rw [hA (68 + b) (by omega) (by omega), hA (84 + b) (by omega) (by omega), hA (100 + b) (by omega) (by omega), hA (116 + b) (by omega) (by omega), hA (132 + b) (by omega) (by omega), m0, hA (8 + N (68 + b)) (by omega) (by omega), hA (8 + N (84 + b)) (by omega) (by omega)]
    exact ⟨q1, q2, q3, q4, q5, q6, q7⟩
  · intro x c0 c1
    rw [m2] at c1
    obtain ⟨q1, q2, q3, q4⟩ := hI.f c0 c1
    unfold fI
    rw [hA (340 + x) (by omega) (by omega), hA (348 + x) (by omega) (by omega), hA (356 + x) (by omega) (by omega), m0, hA (8 + N (340 + x)) (by omega) (by omega)]
    exact ⟨q1, q2, q3, q4⟩
  · intro x c0 c1
    rw [m3] at c1
    obtain ⟨q1, q2, q3, q4⟩ := hI.g c0 c1
    unfold gI
    rw [hA (364 + x) (by omega) (by omega), hA (664 + x) (by omega) (by omega), m2, m4]
    refine ⟨q1, hdb x c0 c1, q3, ?_⟩
    by_cases e : x = g
    · subst e; exact hW
    · obtain ⟨e3, e4, e5⟩ := hB x c0 c1 e
      unfold wI
      rw [e3, e4, e5, m0, m1, m4]
      rcases q4 with ⟨w, h1, h2, h3⟩ | ⟨w, h1, h2, h3⟩ | ⟨w, h1, h2, h3, h4⟩ | ⟨w, h1, h2, h3⟩ | ⟨w, h1⟩ | ⟨w, h1, h2, h3⟩
      · exact Or.inl ⟨w, h1, by rw [hA _ (by omega) (by omega)]; exact h2, h3.1, by omega⟩
      · refine Or.inr (Or.inl ⟨w, h1, ?_, ?_⟩)
        · rw [hA _ (by omega) (by omega)]; exact h2
        · obtain ⟨-, -, l, -⟩ := hI.b h1.1 h1.2
          rcases hC _ _ h1.1 h1.2 h2.1 (show N (604 + x) < 12 by omega) with ⟨z1, z2⟩ | ⟨z1, z2⟩ | ⟨z1, z2, -⟩
          · rw [z1]; exact h3
          · omega
          · omega
      · refine Or.inr (Or.inr (Or.inl ⟨w, h1, ?_, ?_, h4⟩))
        · rw [hA _ (by omega) (by omega)]; exact h2
        · rcases hH _ h1.1 h1.2 with ⟨z1, z2⟩ | ⟨z1, z2⟩ | ⟨z1, z2, -⟩
          · rw [z1]; exact h3
          · omega
          · omega
      · exact Or.inr (Or.inr (Or.inr (Or.inl ⟨w, h1, by rw [hA _ (by omega) (by omega)]; exact h2, h3⟩)))
      · exact Or.inr (Or.inr (Or.inr (Or.inr (Or.inl ⟨w, h1⟩))))
      · exact Or.inr (Or.inr (Or.inr (Or.inr (Or.inr ⟨w, h1, by rw [hA _ (by omega) (by omega)]; exact h2, h3⟩))))
  · intro b c c0 c1 c2 c3
    rw [m1] at c1
    have hc := hI.c c0 c1 c2 c3
    unfold cI at hc ⊢
    rw [m3]
    rcases hC b c c0 c1 c2 c3 with ⟨z1, z2⟩ | ⟨z1, -⟩ | ⟨z1, z2, z3, z4, z5⟩
    · rw [z1]
      rcases hc with h | ⟨h1, h2, h3, h4⟩
      · exact Or.inl h
      · obtain ⟨e3, e4, e5⟩ := hB (N (148 + 12 * b + c) - 1) (by omega) (by omega) (by omega)
        rw [e3, e4, e5]
        exact Or.inr ⟨h1, h2, h3, h4⟩
    · exact Or.inl z1
    · rw [z1, show g + 1 - 1 = g by omega]
      exact Or.inr ⟨by omega, z3, z4, z5⟩
  · intro x y x0 x1 y0 y1 h1 h2 h3 h4
    rw [m3] at x1 y1
    by_cases ex : x = g
    · by_cases ey : y = g
      · omega
      · obtain ⟨k3, k4, k5⟩ := hB y y0 y1 ey
        subst ex
        exact absurd (by rw [← k5, h4]) (hD y y0 y1 ey h1 (by rw [← k3, h2]) (by rw [← k4, h3]))
    · obtain ⟨g3, g4, g5⟩ := hB x x0 x1 ex
      by_cases ey : y = g
      · subst ey
        exact absurd (by rw [← g5, h4]) (hD x x0 x1 ex (by rw [← h2]; exact h1) (by rw [← g3, h2]) (by rw [← g4, h3]))
      · obtain ⟨k3, k4, k5⟩ := hB y y0 y1 ey
        rw [g3] at h1
        rw [g3, k3] at h2
        rw [g4, k4] at h3
        rw [g5, k5] at h4
        exact hI.d x0 x1 y0 y1 h1 h2 h3 h4
/-- a step more -/
theorem IV.goes {N : NN} {k g p : Int} (hI : IV N k) (hg : 0 ≤ g ∧ g < N 3) (hp : 0 ≤ p ∧ p < 12) (hk : k < 300) : IV (goesN N g p) (k + 1) ∧ (∀ j, j < 664 → goesN N g p j = N j) ∧ goesN N g p (664 + g) = N (664 + g) + 1 ∧ (∀ x, 0 ≤ x → x < 60 → x ≠ g → goesN N g p (664 + x) = N (664 + x)) := by
  obtain ⟨b0, b1, b2, b3, b4, b5⟩ := hI.n
  obtain ⟨q1, q2, q3, q4⟩ := hI.g hg.1 hg.2
  have hA : ∀ j, j < 664 → goesN N g p j = N j := by
    intro j hj
    unfold goesN
    rw [uI_n (by omega)]
    split
    · rw [uI_n (by omega), uI_n (by omega)]
    · rfl
  have hB : goesN N g p (664 + g) = N (664 + g) + 1 := uI_s
  have hC : ∀ x, 0 ≤ x → x < 60 → x ≠ g → goesN N g p (664 + x) = N (664 + x) := by
    intro x x0 x1 xn
    unfold goesN
    rw [uI_n (by omega)]
    split
    · rw [uI_n (by omega), uI_n (by omega)]
    · rfl
  have hR : ∀ j, inR (goesN N g p j) := by
    intro j
    unfold goesN
    refine inR_uI ?_ ⟨by omega, by omega⟩ j
    split
    · exact inR_uI (inR_uI hI.r ⟨by omega, by omega⟩) ⟨by omega, by omega⟩
    · exact hI.r
  refine ⟨?_, hA, hB, hC⟩
  have hkk := hI.k
  obtain ⟨-, i1, i2, i3, i4, i5, i6, -, -⟩ := hI
  generalize goesN N g p = M at hA hB hC hR
  have m0 : M 0 = N 0 := hA 0 (by omega)
  have m1 : M 1 = N 1 := hA 1 (by omega)
  have m2 : M 2 = N 2 := hA 2 (by omega)
  have m3 : M 3 = N 3 := hA 3 (by omega)
  have m4 : M 4 = N 4 := hA 4 (by omega)
  have m5 : M 5 = N 5 := hA 5 (by omega)
  refine ⟨by unfold nI4; rw [m0, m1, m2, m3, m4, m5]; exact ⟨b0, b1, b2, b3, b4, b5⟩, ?_, ?_, ?_, ?_, ?_, ?_, hR, ⟨by omega, by omega⟩⟩
  · intro q c0 c1
    rw [m0] at c1
    obtain ⟨q1, q2, q3, q4, q5, q6, q7⟩ := i1 q c0 c1
    unfold pI
    rw [hA (8 + q) (by omega), hA (20 + q) (by omega), hA (32 + q) (by omega), hA (44 + q) (by omega), hA (56 + q) (by omega), m1, m3]
    refine ⟨q1, q2, q3, ?_, q5, q6, fun hk => ?_⟩
    · rcases q4 with h | ⟨z1, z2, z3⟩
      · exact Or.inl h
      · rw [hA _ (by omega), hA _ (by omega)]
        exact Or.inr ⟨z1, z2, z3⟩
    · rcases q7 hk with ⟨h1, h2⟩ | ⟨h1, h2⟩
      · exact Or.inl ⟨h1, fun b c0 c1 => by rw [hA _ (by omega)]; exact h2 b c0 c1⟩
      · refine Or.inr ⟨h1, ?_⟩
        rw [hA _ (by omega)]
        exact h2
  · intro b c0 c1
    rw [m1] at c1
    obtain ⟨q1, q2, q3, q4, q5, q6, q7⟩ := i2 b c0 c1
    unfold bI2
    rw [hA (68 + b) (by omega), hA (84 + b) (by omega), hA (100 + b) (by omega), hA (116 + b) (by omega), hA (132 + b) (by omega), m0, hA (8 + N (68 + b)) (by omega), hA (8 + N (84 + b)) (by omega)]
    exact ⟨q1, q2, q3, q4, q5, q6, q7⟩
  · intro x c0 c1
    rw [m2] at c1
    obtain ⟨q1, q2, q3, q4⟩ := i3 x c0 c1
    unfold fI
    rw [hA (340 + x) (by omega), hA (348 + x) (by omega), hA (356 + x) (by omega), m0, hA (8 + N (340 + x)) (by omega)]
    exact ⟨q1, q2, q3, q4⟩
  · intro x c0 c1
    rw [m3] at c1
    obtain ⟨q1, q2, q3, q4⟩ := i4 x c0 c1
    unfold gI wI
    rw [hA (364 + x) (by omega), hA (424 + x) (by omega), hA (484 + x) (by omega), hA (544 + x) (by omega), hA (604 + x) (by omega), m2, m4, m0, m1, m5]
    refine ⟨q1, q2, ?_, ?_⟩
    · by_cases e : x = g
      · subst e; rw [hB]; omega
      · rw [hC x c0 (by omega) e]; omega
    · rcases q4 with ⟨w, h1, h2, h3⟩ | ⟨w, h1, h2, h3⟩ | ⟨w, h1, h2, h3, h4⟩ | ⟨w, h1, h2, h3⟩ | ⟨w, h1⟩ | ⟨w, h1, h2, h3⟩
      · exact Or.inl ⟨w, h1, by rw [hA _ (by omega)]; exact h2, h3⟩
      · obtain ⟨-, -, l, -⟩ := i2 _ h1.1 h1.2
        refine Or.inr (Or.inl ⟨w, h1, ?_, ?_⟩)
        · rw [hA _ (by omega)]; exact h2
        · rw [hA _ (by omega)]; exact h3
      · refine Or.inr (Or.inr (Or.inl ⟨w, h1, ?_, ?_, h4⟩))
        · rw [hA _ (by omega)]; exact h2
        · rw [hA _ (by omega)]; exact h3
      · exact Or.inr (Or.inr (Or.inr (Or.inl ⟨w, h1, by rw [hA _ (by omega)]; exact h2, h3⟩)))
      · exact Or.inr (Or.inr (Or.inr (Or.inr (Or.inl ⟨w, h1⟩))))
      · exact Or.inr (Or.inr (Or.inr (Or.inr (Or.inr ⟨w, h1, by rw [hA _ (by omega)]; exact h2, h3⟩))))
  · intro b c c0 c1 c2 c3
    rw [m1] at c1
    have hc := i5 b c c0 c1 c2 c3
    unfold cI at hc ⊢
    rw [hA (148 + 12 * b + c) (by omega), m3]
    rcases hc with h | ⟨h1, h2, h3, h4⟩
    · exact Or.inl h
    · rw [hA _ (by omega), hA _ (by omega), hA _ (by omega)]
      exact Or.inr ⟨h1, h2, h3, h4⟩
  · intro x y x0 x1 y0 y1
    rw [m3] at x1 y1
    have hd := i6 x y x0 x1 y0 y1
    unfold dI at hd ⊢
    rw [hA (484 + x) (by omega), hA (484 + y) (by omega), hA (544 + x) (by omega), hA (544 + y) (by omega), hA (604 + x) (by omega), hA (604 + y) (by omega)]
    exact hd
theorem IV.more {N : NN} {k k' : Int} (hI : IV N k) (h : k ≤ k') (h2 : k' ≤ 300) : IV N k' := by
  have hk := hI.k
  obtain ⟨i0, i1, i2, i3, i4, i5, i6, i7, -⟩ := hI
  refine ⟨i0, i1, i2, i3, fun x x0 x1 => ?_, i5, i6, i7, by omega, h2⟩
  obtain ⟨q1, q2, q3, q4⟩ := i4 x x0 x1
  exact ⟨q1, q2, by omega, q4⟩
