theorem hold_ne {N : NN} {k p g : Int} (hI : IV N k) (p0 : 0 ≤ p) (p1 : p < N 0) (h : ¬ (N (484 + g) = 2 ∧ N (544 + g) = p)) (hg : 0 ≤ g) : N (32 + p) ≠ g + 1 := by
  intro q
  obtain ⟨-, -, -, w, -⟩ := hI.p p0 p1
  rcases w with w | ⟨-, w2, w3⟩
  · omega
  · rw [q, show g + 1 - 1 = g by omega] at w2 w3
    exact h ⟨w2, w3⟩
theorem cell_ne {N : NN} {k b c g : Int} (hI : IV N k) (b0 : 0 ≤ b) (b1 : b < N 1) (c0 : 0 ≤ c) (c1 : c < 12) (h : ¬ (N (484 + g) = 1 ∧ N (544 + g) = b ∧ N (604 + g) = c)) (hg : 0 ≤ g) : N (148 + 12 * b + c) ≠ g + 1 := by
  intro q
  rcases hI.c b0 b1 c0 c1 with w | ⟨-, w2, w3, w4⟩
  · omega
  · rw [q, show g + 1 - 1 = g by omega] at w2 w3 w4
    exact h ⟨w2, w3, w4⟩
theorem cell_i {b c b' c' : Int} (h0 : 0 ≤ c ∧ c < 12) (h1 : 0 ≤ c' ∧ c' < 12) (h : 148 + 12 * b + c = 148 + 12 * b' + c') : b = b' ∧ c = c' := by omega

theorem inR_clr {N : NN} {n c : Int} (h : ∀ j, inR (N j)) (j : Int) : inR (clr N n c j) := by
  unfold clr
  split
  · exact ⟨by decide, by decide⟩
  · exact h j

theorem IV_beltA {N : NN} {k fr to cs : Int} (hI : IV N k) (h16 : N 1 < 16) (hf : 0 ≤ fr ∧ fr < N 0) (ht : 0 ≤ to ∧ to < N 0) (hc : 1 ≤ cs ∧ cs ≤ 12) (hk1 : N (8 + fr) ≠ 5) (hk2 : N (8 + to) ≠ 0) : IV (uI (uI (uI (clr (uI (uI (uI (uI (uI N (68 + N 1) fr) (84 + N 1) to) (100 + N 1) cs) (116 + N 1) 0) (132 + N 1) 1) (N 1) 12) (44 + to) (N 1 + 1)) (56 + to) 1) 1 (N 1 + 1)) k := by
  obtain ⟨b0, b1, b2, b3, b4, b5⟩ := hI.n
  have vc : ∀ c, 0 ≤ c → c < 12 → (uI (uI (uI (clr (uI (uI (uI (uI (uI N (68 + N 1) fr) (84 + N 1) to) (100 + N 1) cs) (116 + N 1) 0) (132 + N 1) 1) (N 1) 12) (44 + to) (N 1 + 1)) (56 + to) 1) 1 (N 1 + 1)) (148 + 12 * N 1 + c) = 0 := by
    intro c c0 c1
    unfold clr uI; (repeat (first | rewrite [if_pos (by omega)] | rewrite [if_neg (by omega)] | dsimp only)); (try rfl)
  have e : ∀ j, (j < 148 + 12 * N 1 ∨ 148 + 12 * N 1 + 12 ≤ j) → j ≠ 68 + N 1 → j ≠ 84 + N 1 → j ≠ 100 + N 1 → j ≠ 116 + N 1 → j ≠ 132 + N 1 → j ≠ 1 → j ≠ 44 + to → j ≠ 56 + to → (uI (uI (uI (clr (uI (uI (uI (uI (uI N (68 + N 1) fr) (84 + N 1) to) (100 + N 1) cs) (116 + N 1) 0) (132 + N 1) 1) (N 1) 12) (44 + to) (N 1 + 1)) (56 + to) 1) 1 (N 1 + 1)) j = N j := by
    intro j q0 q1 q2 q3 q4 q5 q6 q7 q8
    unfold clr uI; (repeat (first | rewrite [if_pos (by omega)] | rewrite [if_neg (by omega)] | dsimp only)); (try rfl)
  have v0 : (uI (uI (uI (clr (uI (uI (uI (uI (uI N (68 + N 1) fr) (84 + N 1) to) (100 + N 1) cs) (116 + N 1) 0) (132 + N 1) 1) (N 1) 12) (44 + to) (N 1 + 1)) (56 + to) 1) 1 (N 1 + 1)) (68 + N 1) = fr := by unfold clr uI; (repeat (first | rewrite [if_pos (by omega)] | rewrite [if_neg (by omega)] | dsimp only)); (try rfl)
  have v1 : (uI (uI (uI (clr (uI (uI (uI (uI (uI N (68 + N 1) fr) (84 + N 1) to) (100 + N 1) cs) (116 + N 1) 0) (132 + N 1) 1) (N 1) 12) (44 + to) (N 1 + 1)) (56 + to) 1) 1 (N 1 + 1)) (84 + N 1) = to := by unfold clr uI; (repeat (first | rewrite [if_pos (by omega)] | rewrite [if_neg (by omega)] | dsimp only)); (try rfl)
  have v2 : (uI (uI (uI (clr (uI (uI (uI (uI (uI N (68 + N 1) fr) (84 + N 1) to) (100 + N 1) cs) (116 + N 1) 0) (132 + N 1) 1) (N 1) 12) (44 + to) (N 1 + 1)) (56 + to) 1) 1 (N 1 + 1)) (100 + N 1) = cs := by unfold clr uI; (repeat (first | rewrite [if_pos (by omega)] | rewrite [if_neg (by omega)] | dsimp only)); (try rfl)
  have v3 : (uI (uI (uI (clr (uI (uI (uI (uI (uI N (68 + N 1) fr) (84 + N 1) to) (100 + N 1) cs) (116 + N 1) 0) (132 + N 1) 1) (N 1) 12) (44 + to) (N 1 + 1)) (56 + to) 1) 1 (N 1 + 1)) (116 + N 1) = 0 := by unfold clr uI; (repeat (first | rewrite [if_pos (by omega)] | rewrite [if_neg (by omega)] | dsimp only)); (try rfl)
  have v4 : (uI (uI (uI (clr (uI (uI (uI (uI (uI N (68 + N 1) fr) (84 + N 1) to) (100 + N 1) cs) (116 + N 1) 0) (132 + N 1) 1) (N 1) 12) (44 + to) (N 1 + 1)) (56 + to) 1) 1 (N 1 + 1)) (132 + N 1) = 1 := by unfold clr uI; (repeat (first | rewrite [if_pos (by omega)] | rewrite [if_neg (by omega)] | dsimp only)); (try rfl)
  have v5 : (uI (uI (uI (clr (uI (uI (uI (uI (uI N (68 + N 1) fr) (84 + N 1) to) (100 + N 1) cs) (116 + N 1) 0) (132 + N 1) 1) (N 1) 12) (44 + to) (N 1 + 1)) (56 + to) 1) 1 (N 1 + 1)) (1) = N 1 + 1 := by unfold clr uI; (repeat (first | rewrite [if_pos (by omega)] | rewrite [if_neg (by omega)] | dsimp only)); (try rfl)
  have v6 : (uI (uI (uI (clr (uI (uI (uI (uI (uI N (68 + N 1) fr) (84 + N 1) to) (100 + N 1) cs) (116 + N 1) 0) (132 + N 1) 1) (N 1) 12) (44 + to) (N 1 + 1)) (56 + to) 1) 1 (N 1 + 1)) (44 + to) = N 1 + 1 := by unfold clr uI; (repeat (first | rewrite [if_pos (by omega)] | rewrite [if_neg (by omega)] | dsimp only)); (try rfl)
  have v7 : (uI (uI (uI (clr (uI (uI (uI (uI (uI N (68 + N 1) fr) (84 + N 1) to) (100 + N 1) cs) (116 + N 1) 0) (132 + N 1) 1) (N 1) 12) (44 + to) (N 1 + 1)) (56 + to) 1) 1 (N 1 + 1)) (56 + to) = 1 := by unfold clr uI; (repeat (first | rewrite [if_pos (by omega)] | rewrite [if_neg (by omega)] | dsimp only)); (try rfl)
  have hr : ∀ j, inR ((uI (uI (uI (clr (uI (uI (uI (uI (uI N (68 + N 1) fr) (84 + N 1) to) (100 + N 1) cs) (116 + N 1) 0) (132 + N 1) 1) (N 1) 12) (44 + to) (N 1 + 1)) (56 + to) 1) 1 (N 1 + 1)) j) := (inR_uI (inR_uI (inR_uI (inR_clr (inR_uI (inR_uI (inR_uI (inR_uI (inR_uI hI.r ⟨by omega, by omega⟩) ⟨by omega, by omega⟩) ⟨by omega, by omega⟩) ⟨by omega, by omega⟩) ⟨by omega, by omega⟩)) ⟨by omega, by omega⟩) ⟨by omega, by omega⟩) ⟨by omega, by omega⟩)
  generalize (uI (uI (uI (clr (uI (uI (uI (uI (uI N (68 + N 1) fr) (84 + N 1) to) (100 + N 1) cs) (116 + N 1) 0) (132 + N 1) 1) (N 1) 12) (44 + to) (N 1 + 1)) (56 + to) 1) 1 (N 1 + 1)) = M at vc e v0 v1 v2 v3 v4 v5 v6 v7 hr ⊢
  have m0 : M 0 = N 0 := e 0 (by omega) (by omega) (by omega) (by omega) (by omega) (by omega) (by omega) (by omega) (by omega) 
  have m2 : M 2 = N 2 := e 2 (by omega) (by omega) (by omega) (by omega) (by omega) (by omega) (by omega) (by omega) (by omega) 
  have m3 : M 3 = N 3 := e 3 (by omega) (by omega) (by omega) (by omega) (by omega) (by omega) (by omega) (by omega) (by omega) 
  have m4 : M 4 = N 4 := e 4 (by omega) (by omega) (by omega) (by omega) (by omega) (by omega) (by omega) (by omega) (by omega) 
  have m5 : M 5 = N 5 := e 5 (by omega) (by omega) (by omega) (by omega) (by omega) (by omega) (by omega) (by omega) (by omega) 
  refine hI.grow ⟨by omega, by omega, by omega, by omega, by omega, by omega⟩ ⟨by omega, by omega, by omega, by omega, by omega, by omega⟩ (fun p p0 p1 => ⟨e _ (by omega) (by omega) (by omega) (by omega) (by omega) (by omega) (by omega) (by omega) (by omega) , e _ (by omega) (by omega) (by omega) (by omega) (by omega) (by omega) (by omega) (by omega) (by omega) , e _ (by omega) (by omega) (by omega) (by omega) (by omega) (by omega) (by omega) (by omega) (by omega) ⟩) (fun b d0 d1 => by
    obtain ⟨-, -, -, q4, q5, -⟩ := hI.b d0 d1
    rw [e (116 + b) (by omega) (by omega) (by omega) (by omega) (by omega) (by omega) (by omega) (by omega) (by omega) , e (132 + b) (by omega) (by omega) (by omega) (by omega) (by omega) (by omega) (by omega) (by omega) (by omega) ]
    exact ⟨e _ (by omega) (by omega) (by omega) (by omega) (by omega) (by omega) (by omega) (by omega) (by omega) , e _ (by omega) (by omega) (by omega) (by omega) (by omega) (by omega) (by omega) (by omega) (by omega) , e _ (by omega) (by omega) (by omega) (by omega) (by omega) (by omega) (by omega) (by omega) (by omega) , q4, q5⟩) (fun f d0 d1 => ⟨e _ (by omega) (by omega) (by omega) (by omega) (by omega) (by omega) (by omega) (by omega) (by omega) , e _ (by omega) (by omega) (by omega) (by omega) (by omega) (by omega) (by omega) (by omega) (by omega) , e _ (by omega) (by omega) (by omega) (by omega) (by omega) (by omega) (by omega) (by omega) (by omega) ⟩) (fun x d0 d1 => by
    obtain ⟨-, q2, -⟩ := hI.g d0 d1
    rw [e (424 + x) (by omega) (by omega) (by omega) (by omega) (by omega) (by omega) (by omega) (by omega) (by omega) ]
    exact ⟨e _ (by omega) (by omega) (by omega) (by omega) (by omega) (by omega) (by omega) (by omega) (by omega) , q2, e _ (by omega) (by omega) (by omega) (by omega) (by omega) (by omega) (by omega) (by omega) (by omega) , e _ (by omega) (by omega) (by omega) (by omega) (by omega) (by omega) (by omega) (by omega) (by omega) , e _ (by omega) (by omega) (by omega) (by omega) (by omega) (by omega) (by omega) (by omega) (by omega) , e _ (by omega) (by omega) (by omega) (by omega) (by omega) (by omega) (by omega) (by omega) (by omega) ⟩) (fun b c d0 d1 d2 d3 => e _ (by omega) (by omega) (by omega) (by omega) (by omega) (by omega) (by omega) (by omega) (by omega) ) (fun p p0 p1 => by
    by_cases c : p = to
    · subst c
      rw [v6, v7, v5]
      refine ⟨⟨by omega, by omega⟩, ⟨by omega, by omega⟩, fun _ => Or.inr ⟨by omega, ?_⟩⟩
      rw [show N 1 + 1 - 1 = N 1 by omega, v1]
    · obtain ⟨-, -, -, -, q5, q6, q7⟩ := hI.p (p := p) p0 (by omega)
      rw [e (44 + p) (by omega) (by omega) (by omega) (by omega) (by omega) (by omega) (by omega) (by omega) (by omega) , e (56 + p) (by omega) (by omega) (by omega) (by omega) (by omega) (by omega) (by omega) (by omega) (by omega) , e (8 + p) (by omega) (by omega) (by omega) (by omega) (by omega) (by omega) (by omega) (by omega) (by omega) , v5]
      refine ⟨by omega, q6, fun hk => ?_⟩
      rcases q7 hk with ⟨h1, h2⟩ | ⟨h1, h2⟩
      · refine Or.inl ⟨h1, fun b c0 c1 => ?_⟩
        by_cases cb : b = N 1
        · rw [cb, v1]; omega
        · rw [e _ (by omega) (by omega) (by omega) (by omega) (by omega) (by omega) (by omega) (by omega) (by omega) ]; exact h2 b c0 (by omega)
      · exact Or.inr ⟨h1, by rw [e _ (by omega) (by omega) (by omega) (by omega) (by omega) (by omega) (by omega) (by omega) (by omega) ]; exact h2⟩) (fun p p0 p1 => by omega) (fun b c0 c1 => by
    obtain rfl : b = N 1 := by omega
    unfold bI2
    rw [v0, v1, v2, v3, v4, m0, e (8 + fr) (by omega) (by omega) (by omega) (by omega) (by omega) (by omega) (by omega) (by omega) (by omega) , e (8 + to) (by omega) (by omega) (by omega) (by omega) (by omega) (by omega) (by omega) (by omega) (by omega) ]
    exact ⟨hf, ht, hc, Or.inl rfl, ⟨by omega, by omega⟩, hk1, hk2⟩) (fun b p0 p1 => by omega) (fun b p0 p1 => by omega) (fun b c c0 c1 c2 c3 => by
    obtain rfl : b = N 1 := by omega
    exact vc c c2 c3) hr

theorem IV_beltB {N : NN} {k fr to cs : Int} (hI : IV N k) (h16 : N 1 < 16) (hf : 0 ≤ fr ∧ fr < N 0) (ht : 0 ≤ to ∧ to < N 0) (hc : 1 ≤ cs ∧ cs ≤ 12) (hk1 : N (8 + fr) ≠ 5) (hk2 : N (8 + to) ≠ 0) (hB : ¬ (N (8 + to) = 1 ∧ N (44 + to) = 0)) : IV (uI (clr (uI (uI (uI (uI (uI N (68 + N 1) fr) (84 + N 1) to) (100 + N 1) cs) (116 + N 1) 0) (132 + N 1) 1) (N 1) 12) 1 (N 1 + 1)) k := by
  obtain ⟨b0, b1, b2, b3, b4, b5⟩ := hI.n
  have vc : ∀ c, 0 ≤ c → c < 12 → (uI (clr (uI (uI (uI (uI (uI N (68 + N 1) fr) (84 + N 1) to) (100 + N 1) cs) (116 + N 1) 0) (132 + N 1) 1) (N 1) 12) 1 (N 1 + 1)) (148 + 12 * N 1 + c) = 0 := by
    intro c c0 c1
    unfold clr uI; (repeat (first | rewrite [if_pos (by omega)] | rewrite [if_neg (by omega)] | dsimp only)); (try rfl)
  have e : ∀ j, (j < 148 + 12 * N 1 ∨ 148 + 12 * N 1 + 12 ≤ j) → j ≠ 68 + N 1 → j ≠ 84 + N 1 → j ≠ 100 + N 1 → j ≠ 116 + N 1 → j ≠ 132 + N 1 → j ≠ 1 → (uI (clr (uI (uI (uI (uI (uI N (68 + N 1) fr) (84 + N 1) to) (100 + N 1) cs) (116 + N 1) 0) (132 + N 1) 1) (N 1) 12) 1 (N 1 + 1)) j = N j := by
    intro j q0 q1 q2 q3 q4 q5 q6
    unfold clr uI; (repeat (first | rewrite [if_pos (by omega)] | rewrite [if_neg (by omega)] | dsimp only)); (try rfl)
  have v0 : (uI (clr (uI (uI (uI (uI (uI N (68 + N 1) fr) (84 + N 1) to) (100 + N 1) cs) (116 + N 1) 0) (132 + N 1) 1) (N 1) 12) 1 (N 1 + 1)) (68 + N 1) = fr := by unfold clr uI; (repeat (first | rewrite [if_pos (by omega)] | rewrite [if_neg (by omega)] | dsimp only)); (try rfl)
  have v1 : (uI (clr (uI (uI (uI (uI (uI N (68 + N 1) fr) (84 + N 1) to) (100 + N 1) cs) (116 + N 1) 0) (132 + N 1) 1) (N 1) 12) 1 (N 1 + 1)) (84 + N 1) = to := by unfold clr uI; (repeat (first | rewrite [if_pos (by omega)] | rewrite [if_neg (by omega)] | dsimp only)); (try rfl)
  have v2 : (uI (clr (uI (uI (uI (uI (uI N (68 + N 1) fr) (84 + N 1) to) (100 + N 1) cs) (116 + N 1) 0) (132 + N 1) 1) (N 1) 12) 1 (N 1 + 1)) (100 + N 1) = cs := by unfold clr uI; (repeat (first | rewrite [if_pos (by omega)] | rewrite [if_neg (by omega)] | dsimp only)); (try rfl)
  have v3 : (uI (clr (uI (uI (uI (uI (uI N (68 + N 1) fr) (84 + N 1) to) (100 + N 1) cs) (116 + N 1) 0) (132 + N 1) 1) (N 1) 12) 1 (N 1 + 1)) (116 + N 1) = 0 := by unfold clr uI; (repeat (first | rewrite [if_pos (by omega)] | rewrite [if_neg (by omega)] | dsimp only)); (try rfl)
  have v4 : (uI (clr (uI (uI (uI (uI (uI N (68 + N 1) fr) (84 + N 1) to) (100 + N 1) cs) (116 + N 1) 0) (132 + N 1) 1) (N 1) 12) 1 (N 1 + 1)) (132 + N 1) = 1 := by unfold clr uI; (repeat (first | rewrite [if_pos (by omega)] | rewrite [if_neg (by omega)] | dsimp only)); (try rfl)
  have v5 : (uI (clr (uI (uI (uI (uI (uI N (68 + N 1) fr) (84 + N 1) to) (100 + N 1) cs) (116 + N 1) 0) (132 + N 1) 1) (N 1) 12) 1 (N 1 + 1)) (1) = N 1 + 1 := by unfold clr uI; (repeat (first | rewrite [if_pos (by omega)] | rewrite [if_neg (by omega)] | dsimp only)); (try rfl)
  have hr : ∀ j, inR ((uI (clr (uI (uI (uI (uI (uI N (68 + N 1) fr) (84 + N 1) to) (100 + N 1) cs) (116 + N 1) 0) (132 + N 1) 1) (N 1) 12) 1 (N 1 + 1)) j) := (inR_uI (inR_clr (inR_uI (inR_uI (inR_uI (inR_uI (inR_uI hI.r ⟨by omega, by omega⟩) ⟨by omega, by omega⟩) ⟨by omega, by omega⟩) ⟨by omega, by omega⟩) ⟨by omega, by omega⟩)) ⟨by omega, by omega⟩)
  generalize (uI (clr (uI (uI (uI (uI (uI N (68 + N 1) fr) (84 + N 1) to) (100 + N 1) cs) (116 + N 1) 0) (132 + N 1) 1) (N 1) 12) 1 (N 1 + 1)) = M at vc e v0 v1 v2 v3 v4 v5 hr ⊢
  have m0 : M 0 = N 0 := e 0 (by omega) (by omega) (by omega) (by omega) (by omega) (by omega) (by omega) 
  have m2 : M 2 = N 2 := e 2 (by omega) (by omega) (by omega) (by omega) (by omega) (by omega) (by omega) 
  have m3 : M 3 = N 3 := e 3 (by omega) (by omega) (by omega) (by omega) (by omega) (by omega) (by omega) 
  have m4 : M 4 = N 4 := e 4 (by omega) (by omega) (by omega) (by omega) (by omega) (by omega) (by omega) 
  have m5 : M 5 = N 5 := e 5 (by omega) (by omega) (by omega) (by omega) (by omega) (by omega) (by omega) 
  refine hI.grow ⟨by omega, by omega, by omega, by omega, by omega, by omega⟩ ⟨by omega, by omega, by omega, by omega, by omega, by omega⟩ (fun p p0 p1 => ⟨e _ (by omega) (by omega) (by omega) (by omega) (by omega) (by omega) (by omega) , e _ (by omega) (by omega) (by omega) (by omega) (by omega) (by omega) (by omega) , e _ (by omega) (by omega) (by omega) (by omega) (by omega) (by omega) (by omega) ⟩) (fun b d0 d1 => by
    obtain ⟨-, -, -, q4, q5, -⟩ := hI.b d0 d1
    rw [e (116 + b) (by omega) (by omega) (by omega) (by omega) (by omega) (by omega) (by omega) , e (132 + b) (by omega) (by omega) (by omega) (by omega) (by omega) (by omega) (by omega) ]
    exact ⟨e _ (by omega) (by omega) (by omega) (by omega) (by omega) (by omega) (by omega) , e _ (by omega) (by omega) (by omega) (by omega) (by omega) (by omega) (by omega) , e _ (by omega) (by omega) (by omega) (by omega) (by omega) (by omega) (by omega) , q4, q5⟩) (fun f d0 d1 => ⟨e _ (by omega) (by omega) (by omega) (by omega) (by omega) (by omega) (by omega) , e _ (by omega) (by omega) (by omega) (by omega) (by omega) (by omega) (by omega) , e _ (by omega) (by omega) (by omega) (by omega) (by omega) (by omega) (by omega) ⟩) (fun x d0 d1 => by
    obtain ⟨-, q2, -⟩ := hI.g d0 d1
    rw [e (424 + x) (by omega) (by omega) (by omega) (by omega) (by omega) (by omega) (by omega) ]
    exact ⟨e _ (by omega) (by omega) (by omega) (by omega) (by omega) (by omega) (by omega) , q2, e _ (by omega) (by omega) (by omega) (by omega) (by omega) (by omega) (by omega) , e _ (by omega) (by omega) (by omega) (by omega) (by omega) (by omega) (by omega) , e _ (by omega) (by omega) (by omega) (by omega) (by omega) (by omega) (by omega) , e _ (by omega) (by omega) (by omega) (by omega) (by omega) (by omega) (by omega) ⟩) (fun b c d0 d1 d2 d3 => e _ (by omega) (by omega) (by omega) (by omega) (by omega) (by omega) (by omega) ) (fun p p0 p1 => by
    obtain ⟨-, -, -, -, q5, q6, q7⟩ := hI.p (p := p) p0 (by omega)
    rw [e (44 + p) (by omega) (by omega) (by omega) (by omega) (by omega) (by omega) (by omega) , e (56 + p) (by omega) (by omega) (by omega) (by omega) (by omega) (by omega) (by omega) , e (8 + p) (by omega) (by omega) (by omega) (by omega) (by omega) (by omega) (by omega) , v5]
    refine ⟨by omega, q6, fun hk => ?_⟩
    rcases q7 hk with ⟨h1, h2⟩ | ⟨h1, h2⟩
    · refine Or.inl ⟨h1, fun b c0 c1 => ?_⟩
      by_cases cb : b = N 1
      · rw [cb, v1]; intro q; exact hB (by rw [q]; exact ⟨hk, h1⟩)
      · rw [e _ (by omega) (by omega) (by omega) (by omega) (by omega) (by omega) (by omega) ]; exact h2 b c0 (by omega)
    · exact Or.inr ⟨h1, by rw [e _ (by omega) (by omega) (by omega) (by omega) (by omega) (by omega) (by omega) ]; exact h2⟩) (fun p p0 p1 => by omega) (fun b c0 c1 => by
    obtain rfl : b = N 1 := by omega
    unfold bI2
    rw [v0, v1, v2, v3, v4, m0, e (8 + fr) (by omega) (by omega) (by omega) (by omega) (by omega) (by omega) (by omega) , e (8 + to) (by omega) (by omega) (by omega) (by omega) (by omega) (by omega) (by omega) ]
    exact ⟨hf, ht, hc, Or.inl rfl, ⟨by omega, by omega⟩, hk1, hk2⟩) (fun b p0 p1 => by omega) (fun b p0 p1 => by omega) (fun b c c0 c1 c2 c3 => by
    obtain rfl : b = N 1 := by omega
    exact vc c c2 c3) hr

theorem IV_bag {N : NN} {k dk fl db : Int} (hI : IV N k) (h60 : N 3 < 60) (h5 : N 5 < 1000000) (hdk : 0 ≤ dk ∧ dk < N 0) (hfl : 0 ≤ fl ∧ fl < N 2) (hdb : db = 0 ∨ db = 1) (hk : N (8 + dk) = 0) : IV (uI (waitsN (uI (uI (uI N (364 + N 3) fl) (424 + N 3) db) (664 + N 3) 0) (N 3) dk) 3 (N 3 + 1)) k := by
  obtain ⟨b0, b1, b2, b3, b4, b5⟩ := hI.n
  have h5a : (uI (uI (uI N (364 + N 3) fl) (424 + N 3) db) (664 + N 3) 0) 5 = N 5 := by rw [uI_n (by omega), uI_n (by omega), uI_n (by omega)]
  have h5b : (liesN (uI (uI (uI N (364 + N 3) fl) (424 + N 3) db) (664 + N 3) 0) (N 3) 0 dk (N 5)) 5 = N 5 := by unfold liesN; rw [uI_n (by omega), uI_n (by omega), uI_n (by omega)]; exact h5a
  have e : ∀ j, j ≠ 364 + N 3 → j ≠ 424 + N 3 → j ≠ 484 + N 3 → j ≠ 544 + N 3 → j ≠ 604 + N 3 → j ≠ 664 + N 3 → j ≠ 3 → j ≠ 5 → (uI (waitsN (uI (uI (uI N (364 + N 3) fl) (424 + N 3) db) (664 + N 3) 0) (N 3) dk) 3 (N 3 + 1)) j = N j := by
    intro j q0 q1 q2 q3 q4 q5 q6 q7
    unfold waitsN liesN uI; (repeat (first | rewrite [if_pos (by omega)] | rewrite [if_neg (by omega)] | dsimp only)); (try rfl)
  have v0 : (uI (waitsN (uI (uI (uI N (364 + N 3) fl) (424 + N 3) db) (664 + N 3) 0) (N 3) dk) 3 (N 3 + 1)) (364 + N 3) = fl := by unfold waitsN liesN uI; (repeat (first | rewrite [if_pos (by omega)] | rewrite [if_neg (by omega)] | dsimp only)); (try rfl)
  have v1 : (uI (waitsN (uI (uI (uI N (364 + N 3) fl) (424 + N 3) db) (664 + N 3) 0) (N 3) dk) 3 (N 3 + 1)) (424 + N 3) = db := by unfold waitsN liesN uI; (repeat (first | rewrite [if_pos (by omega)] | rewrite [if_neg (by omega)] | dsimp only)); (try rfl)
  have v2 : (uI (waitsN (uI (uI (uI N (364 + N 3) fl) (424 + N 3) db) (664 + N 3) 0) (N 3) dk) 3 (N 3 + 1)) (484 + N 3) = 0 := by unfold waitsN liesN uI; (repeat (first | rewrite [if_pos (by omega)] | rewrite [if_neg (by omega)] | dsimp only)); (try rfl)
  have v3 : (uI (waitsN (uI (uI (uI N (364 + N 3) fl) (424 + N 3) db) (664 + N 3) 0) (N 3) dk) 3 (N 3 + 1)) (544 + N 3) = dk := by unfold waitsN liesN uI; (repeat (first | rewrite [if_pos (by omega)] | rewrite [if_neg (by omega)] | dsimp only)); (try rfl)
  have v4 : (uI (waitsN (uI (uI (uI N (364 + N 3) fl) (424 + N 3) db) (664 + N 3) 0) (N 3) dk) 3 (N 3 + 1)) (604 + N 3) = N 5 := by unfold waitsN liesN uI; (repeat (first | rewrite [if_pos (by omega)] | rewrite [if_neg (by omega)] | dsimp only)); (try rfl)
  have v5 : (uI (waitsN (uI (uI (uI N (364 + N 3) fl) (424 + N 3) db) (664 + N 3) 0) (N 3) dk) 3 (N 3 + 1)) (664 + N 3) = 0 := by unfold waitsN liesN uI; (repeat (first | rewrite [if_pos (by omega)] | rewrite [if_neg (by omega)] | dsimp only)); (try rfl)
  have v6 : (uI (waitsN (uI (uI (uI N (364 + N 3) fl) (424 + N 3) db) (664 + N 3) 0) (N 3) dk) 3 (N 3 + 1)) (3) = N 3 + 1 := by unfold waitsN liesN uI; (repeat (first | rewrite [if_pos (by omega)] | rewrite [if_neg (by omega)] | dsimp only)); (try rfl)
  have v7 : (uI (waitsN (uI (uI (uI N (364 + N 3) fl) (424 + N 3) db) (664 + N 3) 0) (N 3) dk) 3 (N 3 + 1)) (5) = N 5 + 1 := by unfold waitsN liesN uI; (repeat (first | rewrite [if_pos (by omega)] | rewrite [if_neg (by omega)] | dsimp only)); (try rfl)
  have hr : ∀ j, inR ((uI (waitsN (uI (uI (uI N (364 + N 3) fl) (424 + N 3) db) (664 + N 3) 0) (N 3) dk) 3 (N 3 + 1)) j) := (by
    unfold waitsN liesN
    exact inR_uI (inR_uI (inR_uI (inR_uI (inR_uI (inR_uI (inR_uI (inR_uI hI.r ⟨by omega, by omega⟩) ⟨by omega, by omega⟩) ⟨by omega, by omega⟩) ⟨by omega, by omega⟩) ⟨by omega, by omega⟩) (by rw [h5a]; exact ⟨by omega, by omega⟩)) (by rw [h5a]; exact ⟨by omega, by omega⟩)) ⟨by omega, by omega⟩)
  generalize (uI (waitsN (uI (uI (uI N (364 + N 3) fl) (424 + N 3) db) (664 + N 3) 0) (N 3) dk) 3 (N 3 + 1)) = M at e v0 v1 v2 v3 v4 v5 v6 v7 hr ⊢
  have m0 : M 0 = N 0 := e 0 (by omega) (by omega) (by omega) (by omega) (by omega) (by omega) (by omega) (by omega) 
  have m1 : M 1 = N 1 := e 1 (by omega) (by omega) (by omega) (by omega) (by omega) (by omega) (by omega) (by omega) 
  have m2 : M 2 = N 2 := e 2 (by omega) (by omega) (by omega) (by omega) (by omega) (by omega) (by omega) (by omega) 
  have m4 : M 4 = N 4 := e 4 (by omega) (by omega) (by omega) (by omega) (by omega) (by omega) (by omega) (by omega) 
  refine hI.grow ⟨by omega, by omega, by omega, by omega, by omega, by omega⟩ ⟨by omega, by omega, by omega, by omega, by omega, by omega⟩ (fun p p0 p1 => ⟨e _ (by omega) (by omega) (by omega) (by omega) (by omega) (by omega) (by omega) (by omega) , e _ (by omega) (by omega) (by omega) (by omega) (by omega) (by omega) (by omega) (by omega) , e _ (by omega) (by omega) (by omega) (by omega) (by omega) (by omega) (by omega) (by omega) ⟩) (fun b d0 d1 => by
    obtain ⟨-, -, -, q4, q5, -⟩ := hI.b d0 d1
    rw [e (116 + b) (by omega) (by omega) (by omega) (by omega) (by omega) (by omega) (by omega) (by omega) , e (132 + b) (by omega) (by omega) (by omega) (by omega) (by omega) (by omega) (by omega) (by omega) ]
    exact ⟨e _ (by omega) (by omega) (by omega) (by omega) (by omega) (by omega) (by omega) (by omega) , e _ (by omega) (by omega) (by omega) (by omega) (by omega) (by omega) (by omega) (by omega) , e _ (by omega) (by omega) (by omega) (by omega) (by omega) (by omega) (by omega) (by omega) , q4, q5⟩) (fun f d0 d1 => ⟨e _ (by omega) (by omega) (by omega) (by omega) (by omega) (by omega) (by omega) (by omega) , e _ (by omega) (by omega) (by omega) (by omega) (by omega) (by omega) (by omega) (by omega) , e _ (by omega) (by omega) (by omega) (by omega) (by omega) (by omega) (by omega) (by omega) ⟩) (fun x d0 d1 => by
    obtain ⟨-, q2, -⟩ := hI.g d0 d1
    rw [e (424 + x) (by omega) (by omega) (by omega) (by omega) (by omega) (by omega) (by omega) (by omega) ]
    exact ⟨e _ (by omega) (by omega) (by omega) (by omega) (by omega) (by omega) (by omega) (by omega) , q2, e _ (by omega) (by omega) (by omega) (by omega) (by omega) (by omega) (by omega) (by omega) , e _ (by omega) (by omega) (by omega) (by omega) (by omega) (by omega) (by omega) (by omega) , e _ (by omega) (by omega) (by omega) (by omega) (by omega) (by omega) (by omega) (by omega) , e _ (by omega) (by omega) (by omega) (by omega) (by omega) (by omega) (by omega) (by omega) ⟩) (fun b c d0 d1 d2 d3 => e _ (by omega) (by omega) (by omega) (by omega) (by omega) (by omega) (by omega) (by omega) ) (fun p p0 p1 => by
    obtain ⟨-, -, -, -, q5, q6, q7⟩ := hI.p (p := p) p0 (by omega)
    rw [e (44 + p) (by omega) (by omega) (by omega) (by omega) (by omega) (by omega) (by omega) (by omega) , e (56 + p) (by omega) (by omega) (by omega) (by omega) (by omega) (by omega) (by omega) (by omega) , e (8 + p) (by omega) (by omega) (by omega) (by omega) (by omega) (by omega) (by omega) (by omega) , m1]
    refine ⟨q5, q6, fun hk => ?_⟩
    rcases q7 hk with ⟨h1, h2⟩ | ⟨h1, h2⟩
    · exact Or.inl ⟨h1, fun b c0 c1 => by rw [e _ (by omega) (by omega) (by omega) (by omega) (by omega) (by omega) (by omega) (by omega) ]; exact h2 b c0 c1⟩
    · exact Or.inr ⟨h1, by rw [e _ (by omega) (by omega) (by omega) (by omega) (by omega) (by omega) (by omega) (by omega) ]; exact h2⟩) (fun p p0 p1 => by omega) (fun b p0 p1 => by omega) (fun b p0 p1 => by omega) (fun x x0 x1 => by
    obtain rfl : x = N 3 := by omega
    refine ⟨?_, v2, fun y y0 y1 y2 y3 => ?_⟩
    · unfold gI wI
      rw [v0, v1, v2, v3, v4, v5, v7, m2, m0, e (8 + dk) (by omega) (by omega) (by omega) (by omega) (by omega) (by omega) (by omega) (by omega) ]
      have hkk := hI.k
      exact ⟨hfl, hdb, ⟨by omega, by omega⟩, Or.inl ⟨rfl, hdk, hk, by omega, by omega⟩⟩
    · rw [e _ (by omega) (by omega) (by omega) (by omega) (by omega) (by omega) (by omega) (by omega) ] at y2
      rw [e _ (by omega) (by omega) (by omega) (by omega) (by omega) (by omega) (by omega) (by omega) , v4]
      obtain ⟨-, -, -, w⟩ := hI.g (g := y) y0 (by omega)
      unfold wI at w
      omega) (fun b c p0 p1 => by omega) hr

theorem IV_take1 {N : NN} {k g : Int} (hI : IV N k) (hg : 0 ≤ g ∧ g < N 3) (hw : N (484 + g) = 1) : IV (liesN (uI N (148 + 12 * N (544 + g) + N (604 + g)) 0) g 4 (-100) 0) k := by
  obtain ⟨b0, b1, b2, b3, b4, b5⟩ := hI.n
  obtain ⟨-, -, -, w⟩ := hI.g hg.1 hg.2
  unfold wI at w
  have w2 : (0 ≤ N (544 + g) ∧ N (544 + g) < N 1) ∧ (0 ≤ N (604 + g) ∧ N (604 + g) < N (100 + N (544 + g))) ∧ N (148 + 12 * N (544 + g) + N (604 + g)) = g + 1 := by omega
  obtain ⟨w3, w4, w5⟩ := w2
  obtain ⟨-, -, l1, -⟩ := hI.b w3.1 w3.2
  have e : ∀ j, j ≠ 484 + g → j ≠ 544 + g → j ≠ 604 + g → j ≠ 148 + 12 * N (544 + g) + N (604 + g) → (liesN (uI N (148 + 12 * N (544 + g) + N (604 + g)) 0) g 4 (-100) 0) j = N j := by
    intro j q0 q1 q2 q3
    unfold liesN uI; (repeat (first | rewrite [if_pos (by omega)] | rewrite [if_neg (by omega)] | dsimp only)); (try rfl)
  have v0 : (liesN (uI N (148 + 12 * N (544 + g) + N (604 + g)) 0) g 4 (-100) 0) (484 + g) = 4 := by unfold liesN uI; (repeat (first | rewrite [if_pos (by omega)] | rewrite [if_neg (by omega)] | dsimp only)); (try rfl)
  have v1 : (liesN (uI N (148 + 12 * N (544 + g) + N (604 + g)) 0) g 4 (-100) 0) (544 + g) = -100 := by unfold liesN uI; (repeat (first | rewrite [if_pos (by omega)] | rewrite [if_neg (by omega)] | dsimp only)); (try rfl)
  have v2 : (liesN (uI N (148 + 12 * N (544 + g) + N (604 + g)) 0) g 4 (-100) 0) (604 + g) = 0 := by unfold liesN uI; (repeat (first | rewrite [if_pos (by omega)] | rewrite [if_neg (by omega)] | dsimp only)); (try rfl)
  have v3 : (liesN (uI N (148 + 12 * N (544 + g) + N (604 + g)) 0) g 4 (-100) 0) (148 + 12 * N (544 + g) + N (604 + g)) = 0 := by unfold liesN uI; (repeat (first | rewrite [if_pos (by omega)] | rewrite [if_neg (by omega)] | dsimp only)); (try rfl)
  have hr : ∀ j, inR ((liesN (uI N (148 + 12 * N (544 + g) + N (604 + g)) 0) g 4 (-100) 0) j) := (by unfold liesN; exact inR_uI (inR_uI (inR_uI (inR_uI hI.r ⟨by omega, by omega⟩) ⟨by omega, by omega⟩) ⟨by omega, by omega⟩) ⟨by omega, by omega⟩)
  generalize (liesN (uI N (148 + 12 * N (544 + g) + N (604 + g)) 0) g 4 (-100) 0) = M at e v0 v1 v2 v3 hr ⊢
  refine hI.mv hg (fun j _ hj => e j (by omega) (by omega) (by omega) (by omega) ) (fun x x0 x1 => by rw [e _ (by omega) (by omega) (by omega) (by omega) ]; exact (hI.g x0 x1).2.1) (fun x x0 x1 xn => ⟨e _ (by omega) (by omega) (by omega) (by omega) , e _ (by omega) (by omega) (by omega) (by omega) , e _ (by omega) (by omega) (by omega) (by omega) ⟩) (by rw [e 5 (by omega) (by omega) (by omega) (by omega) ]; omega) (fun p p0 p1 => Or.inl ⟨e _ (by omega) (by omega) (by omega) (by omega), hold_ne hI p0 p1 (by omega) hg.1⟩) (fun b c d0 d1 d2 d3 => by
    by_cases q : 148 + 12 * b + c = 148 + 12 * N (544 + g) + N (604 + g)
    · rw [q]; exact Or.inr (Or.inl ⟨v3, Or.inr w5⟩)
    · exact Or.inl ⟨e _ (by omega) (by omega) (by omega) q, cell_ne hI d0 d1 d2 d3 (fun z => q (by omega)) hg.1⟩) (by unfold wI; rw [v0, v1]; exact Or.inr (Or.inr (Or.inr (Or.inr (Or.inl ⟨rfl, rfl⟩))))) (fun x x0 x1 xn hz => by omega) hr

theorem IV_take2 {N : NN} {k g : Int} (hI : IV N k) (hg : 0 ≤ g ∧ g < N 3) (hw : N (484 + g) = 2) : IV (liesN (uI N (32 + N (544 + g)) 0) g 4 (-100) 0) k := by
  obtain ⟨b0, b1, b2, b3, b4, b5⟩ := hI.n
  obtain ⟨-, -, -, w⟩ := hI.g hg.1 hg.2
  unfold wI at w
  have w2 : (0 ≤ N (544 + g) ∧ N (544 + g) < N 0) ∧ N (32 + N (544 + g)) = g + 1 := by omega
  obtain ⟨w3, w5⟩ := w2
  have e : ∀ j, j ≠ 484 + g → j ≠ 544 + g → j ≠ 604 + g → j ≠ 32 + N (544 + g) → (liesN (uI N (32 + N (544 + g)) 0) g 4 (-100) 0) j = N j := by
    intro j q0 q1 q2 q3
    unfold liesN uI; (repeat (first | rewrite [if_pos (by omega)] | rewrite [if_neg (by omega)] | dsimp only)); (try rfl)
  have v0 : (liesN (uI N (32 + N (544 + g)) 0) g 4 (-100) 0) (484 + g) = 4 := by unfold liesN uI; (repeat (first | rewrite [if_pos (by omega)] | rewrite [if_neg (by omega)] | dsimp only)); (try rfl)
  have v1 : (liesN (uI N (32 + N (544 + g)) 0) g 4 (-100) 0) (544 + g) = -100 := by unfold liesN uI; (repeat (first | rewrite [if_pos (by omega)] | rewrite [if_neg (by omega)] | dsimp only)); (try rfl)
  have v2 : (liesN (uI N (32 + N (544 + g)) 0) g 4 (-100) 0) (604 + g) = 0 := by unfold liesN uI; (repeat (first | rewrite [if_pos (by omega)] | rewrite [if_neg (by omega)] | dsimp only)); (try rfl)
  have v3 : (liesN (uI N (32 + N (544 + g)) 0) g 4 (-100) 0) (32 + N (544 + g)) = 0 := by unfold liesN uI; (repeat (first | rewrite [if_pos (by omega)] | rewrite [if_neg (by omega)] | dsimp only)); (try rfl)
  have hr : ∀ j, inR ((liesN (uI N (32 + N (544 + g)) 0) g 4 (-100) 0) j) := (by unfold liesN; exact inR_uI (inR_uI (inR_uI (inR_uI hI.r ⟨by omega, by omega⟩) ⟨by omega, by omega⟩) ⟨by omega, by omega⟩) ⟨by omega, by omega⟩)
  generalize (liesN (uI N (32 + N (544 + g)) 0) g 4 (-100) 0) = M at e v0 v1 v2 v3 hr ⊢
  refine hI.mv hg (fun j _ hj => e j (by omega) (by omega) (by omega) (by omega) ) (fun x x0 x1 => by rw [e _ (by omega) (by omega) (by omega) (by omega) ]; exact (hI.g x0 x1).2.1) (fun x x0 x1 xn => ⟨e _ (by omega) (by omega) (by omega) (by omega) , e _ (by omega) (by omega) (by omega) (by omega) , e _ (by omega) (by omega) (by omega) (by omega) ⟩) (by rw [e 5 (by omega) (by omega) (by omega) (by omega) ]; omega) (fun p p0 p1 => by
    by_cases q : p = N (544 + g)
    · rw [q]; exact Or.inr (Or.inl ⟨v3, Or.inr w5⟩)
    · exact Or.inl ⟨e _ (by omega) (by omega) (by omega) (by omega), hold_ne hI p0 p1 (by omega) hg.1⟩) (fun b c d0 d1 d2 d3 => Or.inl ⟨e _ (by omega) (by omega) (by omega) (by omega), cell_ne hI d0 d1 d2 d3 (by omega) hg.1⟩) (by unfold wI; rw [v0, v1]; exact Or.inr (Or.inr (Or.inr (Or.inr (Or.inl ⟨rfl, rfl⟩))))) (fun x x0 x1 xn hz => by omega) hr

theorem IV_take3 {N : NN} {k g : Int} (hI : IV N k) (hg : 0 ≤ g ∧ g < N 3) (hw : N (484 + g) = 0 ∨ N (484 + g) = 3) : IV (liesN N g 4 (-100) 0) k := by
  obtain ⟨b0, b1, b2, b3, b4, b5⟩ := hI.n
  obtain ⟨-, -, -, w⟩ := hI.g hg.1 hg.2
  unfold wI at w
  have e : ∀ j, j ≠ 484 + g → j ≠ 544 + g → j ≠ 604 + g → (liesN N g 4 (-100) 0) j = N j := by
    intro j q0 q1 q2
    unfold liesN uI; (repeat (first | rewrite [if_pos (by omega)] | rewrite [if_neg (by omega)] | dsimp only)); (try rfl)
  have v0 : (liesN N g 4 (-100) 0) (484 + g) = 4 := by unfold liesN uI; (repeat (first | rewrite [if_pos (by omega)] | rewrite [if_neg (by omega)] | dsimp only)); (try rfl)
  have v1 : (liesN N g 4 (-100) 0) (544 + g) = -100 := by unfold liesN uI; (repeat (first | rewrite [if_pos (by omega)] | rewrite [if_neg (by omega)] | dsimp only)); (try rfl)
  have v2 : (liesN N g 4 (-100) 0) (604 + g) = 0 := by unfold liesN uI; (repeat (first | rewrite [if_pos (by omega)] | rewrite [if_neg (by omega)] | dsimp only)); (try rfl)
  have hr : ∀ j, inR ((liesN N g 4 (-100) 0) j) := (by unfold liesN; exact inR_uI (inR_uI (inR_uI hI.r ⟨by omega, by omega⟩) ⟨by omega, by omega⟩) ⟨by omega, by omega⟩)
  generalize (liesN N g 4 (-100) 0) = M at e v0 v1 v2 hr ⊢
  refine hI.mv hg (fun j _ hj => e j (by omega) (by omega) (by omega) ) (fun x x0 x1 => by rw [e _ (by omega) (by omega) (by omega) ]; exact (hI.g x0 x1).2.1) (fun x x0 x1 xn => ⟨e _ (by omega) (by omega) (by omega) , e _ (by omega) (by omega) (by omega) , e _ (by omega) (by omega) (by omega) ⟩) (by rw [e 5 (by omega) (by omega) (by omega) ]; omega) (fun p p0 p1 => Or.inl ⟨e _ (by omega) (by omega) (by omega), hold_ne hI p0 p1 (by omega) hg.1⟩) (fun b c d0 d1 d2 d3 => Or.inl ⟨e _ (by omega) (by omega) (by omega), cell_ne hI d0 d1 d2 d3 (by omega) hg.1⟩) (by unfold wI; rw [v0, v1]; exact Or.inr (Or.inr (Or.inr (Or.inr (Or.inl ⟨rfl, rfl⟩))))) (fun x x0 x1 xn hz => by omega) hr

theorem IV_give {N : NN} {k g dk db : Int} (hI : IV N k) (hg : 0 ≤ g ∧ g < N 3) (h5 : N 5 < 1000000) (hdk : 0 ≤ dk ∧ dk < N 0) (hdb : db = 0 ∨ db = 1) (hk : N (8 + dk) = 0) (hw : N (484 + g) = 4) : IV (waitsN (uI N (424 + g) db) g dk) k := by
  obtain ⟨b0, b1, b2, b3, b4, b5⟩ := hI.n
  have h5a : (uI N (424 + g) db) 5 = N 5 := by rw [uI_n (by omega)]
  have h5b : (liesN (uI N (424 + g) db) g 0 dk (N 5)) 5 = N 5 := by unfold liesN; rw [uI_n (by omega), uI_n (by omega), uI_n (by omega)]; exact h5a
  have e : ∀ j, j ≠ 484 + g → j ≠ 544 + g → j ≠ 604 + g → j ≠ 424 + g → j ≠ 5 → (waitsN (uI N (424 + g) db) g dk) j = N j := by
    intro j q0 q1 q2 q3 q4
    unfold waitsN liesN uI; (repeat (first | rewrite [if_pos (by omega)] | rewrite [if_neg (by omega)] | dsimp only)); (try rfl)
  have v0 : (waitsN (uI N (424 + g) db) g dk) (484 + g) = 0 := by unfold waitsN liesN uI; (repeat (first | rewrite [if_pos (by omega)] | rewrite [if_neg (by omega)] | dsimp only)); (try rfl)
  have v1 : (waitsN (uI N (424 + g) db) g dk) (544 + g) = dk := by unfold waitsN liesN uI; (repeat (first | rewrite [if_pos (by omega)] | rewrite [if_neg (by omega)] | dsimp only)); (try rfl)
  have v2 : (waitsN (uI N (424 + g) db) g dk) (604 + g) = N 5 := by unfold waitsN liesN uI; (repeat (first | rewrite [if_pos (by omega)] | rewrite [if_neg (by omega)] | dsimp only)); (try rfl)
  have v3 : (waitsN (uI N (424 + g) db) g dk) (424 + g) = db := by unfold waitsN liesN uI; (repeat (first | rewrite [if_pos (by omega)] | rewrite [if_neg (by omega)] | dsimp only)); (try rfl)
  have v4 : (waitsN (uI N (424 + g) db) g dk) (5) = N 5 + 1 := by unfold waitsN liesN uI; (repeat (first | rewrite [if_pos (by omega)] | rewrite [if_neg (by omega)] | dsimp only)); (try rfl)
  have hr : ∀ j, inR ((waitsN (uI N (424 + g) db) g dk) j) := (by unfold waitsN liesN; exact inR_uI (inR_uI (inR_uI (inR_uI (inR_uI hI.r ⟨by omega, by omega⟩) ⟨by omega, by omega⟩) ⟨by omega, by omega⟩) (by rw [h5a]; exact ⟨by omega, by omega⟩)) (by rw [h5a]; exact ⟨by omega, by omega⟩))
  generalize (waitsN (uI N (424 + g) db) g dk) = M at e v0 v1 v2 v3 v4 hr ⊢
  refine hI.mv hg (fun j _ hj => e j (by omega) (by omega) (by omega) (by omega) (by omega) ) (fun x x0 x1 => by
    by_cases c : x = g
    · rw [c, v3]; exact hdb
    · rw [e _ (by omega) (by omega) (by omega) (by omega) (by omega) ]; exact (hI.g x0 x1).2.1) (fun x x0 x1 xn => ⟨e _ (by omega) (by omega) (by omega) (by omega) (by omega) , e _ (by omega) (by omega) (by omega) (by omega) (by omega) , e _ (by omega) (by omega) (by omega) (by omega) (by omega) ⟩) (by rw [v4]; omega) (fun p p0 p1 => Or.inl ⟨e _ (by omega) (by omega) (by omega) (by omega) (by omega) , hold_ne hI p0 p1 (by omega) hg.1⟩) (fun b c d0 d1 d2 d3 => Or.inl ⟨e _ (by omega) (by omega) (by omega) (by omega) (by omega) , cell_ne hI d0 d1 d2 d3 (by omega) hg.1⟩) (by unfold wI; rw [v0, v1, v2, v4, e 0 (by omega) (by omega) (by omega) (by omega) (by omega) , e (8 + dk) (by omega) (by omega) (by omega) (by omega) (by omega) ]; exact Or.inl ⟨rfl, hdk, hk, by omega, by omega⟩) (fun x x0 x1 xn hz h1 h2 => by
    rw [v0] at h1
    rw [v2]
    obtain ⟨-, -, -, w⟩ := hI.g x0 x1
    unfold wI at w
    omega) hr
