theorem RH_belt {σ : SS} {N M : NN} {k fr to cs hh tt : Int} (hI : IV N k) (h16 : N 1 < 16) (hH : RH σ 0 N) (ht : 0 ≤ to ∧ to < N 0) (e : ∀ j, (j < 148 + 12 * N 1 ∨ 148 + 12 * N 1 + 12 ≤ j) → j ≠ 68 + N 1 → j ≠ 84 + N 1 → j ≠ 100 + N 1 → j ≠ 116 + N 1 → j ≠ 132 + N 1 → j ≠ 1 → j ≠ 44 + to → j ≠ 56 + to → M j = N j) (v0 : M (68 + N 1) = fr) (v1 : M (84 + N 1) = to) (v2 : M (100 + N 1) = cs) (v3 : M (116 + N 1) = 0) (v4 : M (132 + N 1) = 1) (v5 : M 1 = N 1 + 1) (vc : ∀ c, 0 ≤ c → c < 12 → M (148 + 12 * N 1 + c) = 0) (hk : N (8 + to) = 1 → hh = M (44 + to) - 1 ∧ tt = M (56 + to)) : RH (up (up (up (sK (up (up (up (up (up (up σ 2 0 (σ 7 0 0 1) 0 fr) 2 0 (σ 7 0 0 1) 1 to) 2 0 (σ 7 0 0 1) 2 cs) 2 0 (σ 7 0 0 1) 3 1) 2 0 (σ 7 0 0 1) 4 0) 2 0 (σ 7 0 0 1) 5 0) 3 (σ 7 0 0 1) (fil ((up (up (up (up (up (up σ 2 0 (σ 7 0 0 1) 0 fr) 2 0 (σ 7 0 0 1) 1 to) 2 0 (σ 7 0 0 1) 2 cs) 2 0 (σ 7 0 0 1) 3 1) 2 0 (σ 7 0 0 1) 4 0) 2 0 (σ 7 0 0 1) 5 0) 3 0 (σ 7 0 0 1)) 12 (-1))) 0 0 to 2 hh) 0 0 to 3 tt) 7 0 0 1 (σ 7 0 0 1 + 1)) 0 M := by
  obtain ⟨b0, b1, b2, b3, b4, b5⟩ := hI.n
  obtain ⟨n0, n1, n2, n3, n4⟩ := hH.n
  refine ⟨?_, ?_, ?_, ?_, hH.f.same rfl (e 2 (by omega) (by omega) (by omega) (by omega) (by omega) (by omega) (by omega) (by omega) (by omega) ) (by omega) (fun j _ _ => e j (by omega) (by omega) (by omega) (by omega) (by omega) (by omega) (by omega) (by omega) (by omega) ), hH.g.same rfl (e 3 (by omega) (by omega) (by omega) (by omega) (by omega) (by omega) (by omega) (by omega) (by omega) ) (by omega) (fun j _ _ => e j (by omega) (by omega) (by omega) (by omega) (by omega) (by omega) (by omega) (by omega) (by omega) ), hH.w.same rfl (e 3 (by omega) (by omega) (by omega) (by omega) (by omega) (by omega) (by omega) (by omega) (by omega) ) (by omega) (fun j _ => e j (by omega) (by omega) (by omega) (by omega) (by omega) (by omega) (by omega) (by omega) (by omega) ), hH.r.same (fun i => (by unfold up sK; (repeat (first | rewrite [if_pos (by omega)] | rewrite [if_neg (by omega)] | dsimp only)); (try rfl))) rfl (e 0 (by omega) (by omega) (by omega) (by omega) (by omega) (by omega) (by omega) (by omega) (by omega) ) (e 3 (by omega) (by omega) (by omega) (by omega) (by omega) (by omega) (by omega) (by omega) (by omega) ) (by omega) (by omega) (fun j _ _ => e j (by omega) (by omega) (by omega) (by omega) (by omega) (by omega) (by omega) (by omega) (by omega) ) (fun j _ _ => e j (by omega) (by omega) (by omega) (by omega) (by omega) (by omega) (by omega) (by omega) (by omega) )⟩
  · exact ⟨by rw [e 0 (by omega) (by omega) (by omega) (by omega) (by omega) (by omega) (by omega) (by omega) (by omega) , ← n0]; exact (by unfold up sK; (repeat (first | rewrite [if_pos (by omega)] | rewrite [if_neg (by omega)] | dsimp only)); (try rfl)), by rw [v5, ← n1]; exact (by unfold up sK; (repeat (first | rewrite [if_pos (by omega)] | rewrite [if_neg (by omega)] | dsimp only)); (try rfl)), by rw [e 2 (by omega) (by omega) (by omega) (by omega) (by omega) (by omega) (by omega) (by omega) (by omega) , ← n2]; exact (by unfold up sK; (repeat (first | rewrite [if_pos (by omega)] | rewrite [if_neg (by omega)] | dsimp only)); (try rfl)), by rw [e 3 (by omega) (by omega) (by omega) (by omega) (by omega) (by omega) (by omega) (by omega) (by omega) , ← n3]; exact (by unfold up sK; (repeat (first | rewrite [if_pos (by omega)] | rewrite [if_neg (by omega)] | dsimp only)); (try rfl)), by rw [e 4 (by omega) (by omega) (by omega) (by omega) (by omega) (by omega) (by omega) (by omega) (by omega) , ← n4]; exact (by unfold up sK; (repeat (first | rewrite [if_pos (by omega)] | rewrite [if_neg (by omega)] | dsimp only)); (try rfl))⟩
  · intro i c0 c1
    rw [e 0 (by omega) (by omega) (by omega) (by omega) (by omega) (by omega) (by omega) (by omega) (by omega) ] at c1
    obtain ⟨w0, w1, w2⟩ := hH.p i c0 c1
    rw [e (8 + i) (by omega) (by omega) (by omega) (by omega) (by omega) (by omega) (by omega) (by omega) (by omega) , e (20 + i) (by omega) (by omega) (by omega) (by omega) (by omega) (by omega) (by omega) (by omega) (by omega) ]
    refine ⟨by rw [← w0]; exact (by unfold up sK; (repeat (first | rewrite [if_pos (by omega)] | rewrite [if_neg (by omega)] | dsimp only)); (try rfl)), by rw [← w1]; exact (by unfold up sK; (repeat (first | rewrite [if_pos (by omega)] | rewrite [if_neg (by omega)] | dsimp only)); (try rfl)), fun h1 => ?_⟩
    by_cases q : i = to
    · subst q
      obtain ⟨z1, z2⟩ := hk h1
      rw [← z1, ← z2]
      exact ⟨(by unfold up sK; (repeat (first | rewrite [if_pos (by omega)] | rewrite [if_neg (by omega)] | dsimp only)); (try rfl)), (by unfold up sK; (repeat (first | rewrite [if_pos (by omega)] | rewrite [if_neg (by omega)] | dsimp only)); (try rfl))⟩
    · obtain ⟨w3, w4⟩ := w2 h1
      rw [e (44 + i) (by omega) (by omega) (by omega) (by omega) (by omega) (by omega) (by omega) (by omega) (by omega) , e (56 + i) (by omega) (by omega) (by omega) (by omega) (by omega) (by omega) (by omega) (by omega) (by omega) , ← w3, ← w4]
      exact ⟨(by unfold up sK; (repeat (first | rewrite [if_pos (by omega)] | rewrite [if_neg (by omega)] | dsimp only)); (try rfl)), (by unfold up sK; (repeat (first | rewrite [if_pos (by omega)] | rewrite [if_neg (by omega)] | dsimp only)); (try rfl))⟩
  · intro b c0 c1
    rw [v5] at c1
    by_cases q : b = N 1
    · subst q
      rw [v0, v1, v2, v3, v4]
      exact ⟨(by unfold up sK; (repeat (first | rewrite [if_pos (by omega)] | rewrite [if_neg (by omega)] | dsimp only)); (try rfl)), (by unfold up sK; (repeat (first | rewrite [if_pos (by omega)] | rewrite [if_neg (by omega)] | dsimp only)); (try rfl)), (by unfold up sK; (repeat (first | rewrite [if_pos (by omega)] | rewrite [if_neg (by omega)] | dsimp only)); (try rfl)), (by unfold up sK; (repeat (first | rewrite [if_pos (by omega)] | rewrite [if_neg (by omega)] | dsimp only)); (try rfl)), (by unfold up sK; (repeat (first | rewrite [if_pos (by omega)] | rewrite [if_neg (by omega)] | dsimp only)); (try rfl))⟩
    · obtain ⟨w0, w1, w2, w3, w4⟩ := hH.b b c0 (by omega)
      rw [e (68 + b) (by omega) (by omega) (by omega) (by omega) (by omega) (by omega) (by omega) (by omega) (by omega) , e (84 + b) (by omega) (by omega) (by omega) (by omega) (by omega) (by omega) (by omega) (by omega) (by omega) , e (100 + b) (by omega) (by omega) (by omega) (by omega) (by omega) (by omega) (by omega) (by omega) (by omega) , e (132 + b) (by omega) (by omega) (by omega) (by omega) (by omega) (by omega) (by omega) (by omega) (by omega) , e (116 + b) (by omega) (by omega) (by omega) (by omega) (by omega) (by omega) (by omega) (by omega) (by omega) , ← w0, ← w1, ← w2, ← w3, ← w4]
      exact ⟨(by unfold up sK; (repeat (first | rewrite [if_pos (by omega)] | rewrite [if_neg (by omega)] | dsimp only)); (try rfl)), (by unfold up sK; (repeat (first | rewrite [if_pos (by omega)] | rewrite [if_neg (by omega)] | dsimp only)); (try rfl)), (by unfold up sK; (repeat (first | rewrite [if_pos (by omega)] | rewrite [if_neg (by omega)] | dsimp only)); (try rfl)), (by unfold up sK; (repeat (first | rewrite [if_pos (by omega)] | rewrite [if_neg (by omega)] | dsimp only)); (try rfl)), (by unfold up sK; (repeat (first | rewrite [if_pos (by omega)] | rewrite [if_neg (by omega)] | dsimp only)); (try rfl))⟩
  · intro b c c0 c1 c2 c3
    rw [v5] at c1
    by_cases q : b = N 1
    · subst q
      rw [vc c c2 c3]
      exact (by unfold up sK fil; (repeat (first | rewrite [if_pos (by omega)] | rewrite [if_neg (by omega)] | dsimp only)); (try rfl))
    · rw [e (148 + 12 * b + c) (by omega) (by omega) (by omega) (by omega) (by omega) (by omega) (by omega) (by omega) (by omega) , ← hH.c b c c0 (by omega) c2 c3]
      exact (by unfold up sK fil; (repeat (first | rewrite [if_pos (by omega)] | rewrite [if_neg (by omega)] | dsimp only)); (try rfl))

theorem meet_eq {σ : SS} {i b : Int} : (if σ 0 0 i 2 = -1 then up (up σ 0 0 i 2 b) 0 0 i 3 1 else σ) = up (up σ 0 0 i 2 (if σ 0 0 i 2 = -1 then b else σ 0 0 i 2)) 0 0 i 3 (if σ 0 0 i 2 = -1 then 1 else σ 0 0 i 3) := by
  by_cases h : σ 0 0 i 2 = -1
  · rw [if_pos h, if_pos h, if_pos h]
  · rw [if_neg h, if_neg h, if_neg h]
    funext a t x j
    unfold up
    split
    · rename_i q; obtain ⟨rfl, rfl, rfl, rfl⟩ := q; rfl
    · split
      · rename_i q; obtain ⟨rfl, rfl, rfl, rfl⟩ := q; rfl
      · rfl

theorem belt_all {σ : SS} {N : NN} {k fr to cs : Int} (hI : IV N k) (h16 : N 1 < 16) (hf : 0 ≤ fr ∧ fr < N 0) (ht : 0 ≤ to ∧ to < N 0) (hc : 1 ≤ cs ∧ cs ≤ 12) (hk1 : N (8 + fr) ≠ 5) (hk2 : N (8 + to) ≠ 0) (hH : RH σ 0 N) (hne : fr ≠ to) : ∃ M : NN, s_belt N fr to cs = (N 1, M, 0) ∧ IV M k ∧ RH (up (up (up (sK (up (up (up (up (up (up σ 2 0 (σ 7 0 0 1) 0 fr) 2 0 (σ 7 0 0 1) 1 to) 2 0 (σ 7 0 0 1) 2 cs) 2 0 (σ 7 0 0 1) 3 1) 2 0 (σ 7 0 0 1) 4 0) 2 0 (σ 7 0 0 1) 5 0) 3 (σ 7 0 0 1) (fil ((up (up (up (up (up (up σ 2 0 (σ 7 0 0 1) 0 fr) 2 0 (σ 7 0 0 1) 1 to) 2 0 (σ 7 0 0 1) 2 cs) 2 0 (σ 7 0 0 1) 3 1) 2 0 (σ 7 0 0 1) 4 0) 2 0 (σ 7 0 0 1) 5 0) 3 0 (σ 7 0 0 1)) 12 (-1))) 0 0 to 2 (if (sK (up (up (up (up (up (up σ 2 0 (σ 7 0 0 1) 0 fr) 2 0 (σ 7 0 0 1) 1 to) 2 0 (σ 7 0 0 1) 2 cs) 2 0 (σ 7 0 0 1) 3 1) 2 0 (σ 7 0 0 1) 4 0) 2 0 (σ 7 0 0 1) 5 0) 3 (σ 7 0 0 1) (fil ((up (up (up (up (up (up σ 2 0 (σ 7 0 0 1) 0 fr) 2 0 (σ 7 0 0 1) 1 to) 2 0 (σ 7 0 0 1) 2 cs) 2 0 (σ 7 0 0 1) 3 1) 2 0 (σ 7 0 0 1) 4 0) 2 0 (σ 7 0 0 1) 5 0) 3 0 (σ 7 0 0 1)) 12 (-1))) 0 0 to 2 = -1 then (σ 7 0 0 1) else (sK (up (up (up (up (up (up σ 2 0 (σ 7 0 0 1) 0 fr) 2 0 (σ 7 0 0 1) 1 to) 2 0 (σ 7 0 0 1) 2 cs) 2 0 (σ 7 0 0 1) 3 1) 2 0 (σ 7 0 0 1) 4 0) 2 0 (σ 7 0 0 1) 5 0) 3 (σ 7 0 0 1) (fil ((up (up (up (up (up (up σ 2 0 (σ 7 0 0 1) 0 fr) 2 0 (σ 7 0 0 1) 1 to) 2 0 (σ 7 0 0 1) 2 cs) 2 0 (σ 7 0 0 1) 3 1) 2 0 (σ 7 0 0 1) 4 0) 2 0 (σ 7 0 0 1) 5 0) 3 0 (σ 7 0 0 1)) 12 (-1))) 0 0 to 2)) 0 0 to 3 (if (sK (up (up (up (up (up (up σ 2 0 (σ 7 0 0 1) 0 fr) 2 0 (σ 7 0 0 1) 1 to) 2 0 (σ 7 0 0 1) 2 cs) 2 0 (σ 7 0 0 1) 3 1) 2 0 (σ 7 0 0 1) 4 0) 2 0 (σ 7 0 0 1) 5 0) 3 (σ 7 0 0 1) (fil ((up (up (up (up (up (up σ 2 0 (σ 7 0 0 1) 0 fr) 2 0 (σ 7 0 0 1) 1 to) 2 0 (σ 7 0 0 1) 2 cs) 2 0 (σ 7 0 0 1) 3 1) 2 0 (σ 7 0 0 1) 4 0) 2 0 (σ 7 0 0 1) 5 0) 3 0 (σ 7 0 0 1)) 12 (-1))) 0 0 to 2 = -1 then 1 else (sK (up (up (up (up (up (up σ 2 0 (σ 7 0 0 1) 0 fr) 2 0 (σ 7 0 0 1) 1 to) 2 0 (σ 7 0 0 1) 2 cs) 2 0 (σ 7 0 0 1) 3 1) 2 0 (σ 7 0 0 1) 4 0) 2 0 (σ 7 0 0 1) 5 0) 3 (σ 7 0 0 1) (fil ((up (up (up (up (up (up σ 2 0 (σ 7 0 0 1) 0 fr) 2 0 (σ 7 0 0 1) 1 to) 2 0 (σ 7 0 0 1) 2 cs) 2 0 (σ 7 0 0 1) 3 1) 2 0 (σ 7 0 0 1) 4 0) 2 0 (σ 7 0 0 1) 5 0) 3 0 (σ 7 0 0 1)) 12 (-1))) 0 0 to 3)) 7 0 0 1 (σ 7 0 0 1 + 1)) 0 M := by
  obtain ⟨b0, b1, b2, b3, b4, b5⟩ := hI.n
  obtain ⟨n0, n1, n2, n3, n4⟩ := hH.n
  obtain ⟨y0, y1, y2⟩ := hH.p to ht.1 ht.2
  have t2 : (sK (up (up (up (up (up (up σ 2 0 (σ 7 0 0 1) 0 fr) 2 0 (σ 7 0 0 1) 1 to) 2 0 (σ 7 0 0 1) 2 cs) 2 0 (σ 7 0 0 1) 3 1) 2 0 (σ 7 0 0 1) 4 0) 2 0 (σ 7 0 0 1) 5 0) 3 (σ 7 0 0 1) (fil ((up (up (up (up (up (up σ 2 0 (σ 7 0 0 1) 0 fr) 2 0 (σ 7 0 0 1) 1 to) 2 0 (σ 7 0 0 1) 2 cs) 2 0 (σ 7 0 0 1) 3 1) 2 0 (σ 7 0 0 1) 4 0) 2 0 (σ 7 0 0 1) 5 0) 3 0 (σ 7 0 0 1)) 12 (-1))) 0 0 to 2 = σ 0 0 to 2 := rfl
  have t3 : (sK (up (up (up (up (up (up σ 2 0 (σ 7 0 0 1) 0 fr) 2 0 (σ 7 0 0 1) 1 to) 2 0 (σ 7 0 0 1) 2 cs) 2 0 (σ 7 0 0 1) 3 1) 2 0 (σ 7 0 0 1) 4 0) 2 0 (σ 7 0 0 1) 5 0) 3 (σ 7 0 0 1) (fil ((up (up (up (up (up (up σ 2 0 (σ 7 0 0 1) 0 fr) 2 0 (σ 7 0 0 1) 1 to) 2 0 (σ 7 0 0 1) 2 cs) 2 0 (σ 7 0 0 1) 3 1) 2 0 (σ 7 0 0 1) 4 0) 2 0 (σ 7 0 0 1) 5 0) 3 0 (σ 7 0 0 1)) 12 (-1))) 0 0 to 3 = σ 0 0 to 3 := rfl
  rw [t2, t3]
  by_cases hAB : N (8 + to) = 1 ∧ N (44 + to) = 0
  · have hm1 : σ 0 0 to 2 = -1 := by have := y2 hAB.1; omega
    rw [if_pos hm1, if_pos hm1]
    refine ⟨(uI (uI (uI (clr (uI (uI (uI (uI (uI N (68 + N 1) fr) (84 + N 1) to) (100 + N 1) cs) (116 + N 1) 0) (132 + N 1) 1) (N 1) 12) (44 + to) (N 1 + 1)) (56 + to) 1) 1 (N 1 + 1)), by unfold s_belt s_belt1; (repeat (first | rewrite [if_pos (by omega)] | rewrite [if_neg (by omega)])); rfl, IV_beltA hI h16 hf ht hc hk1 hk2, ?_⟩
    exact RH_belt (M := (uI (uI (uI (clr (uI (uI (uI (uI (uI N (68 + N 1) fr) (84 + N 1) to) (100 + N 1) cs) (116 + N 1) 0) (132 + N 1) 1) (N 1) 12) (44 + to) (N 1 + 1)) (56 + to) 1) 1 (N 1 + 1))) hI h16 hH ht (fun j q0 q1 q2 q3 q4 q5 q6 q7 q8 => (by unfold clr uI; (repeat (first | rewrite [if_pos (by omega)] | rewrite [if_neg (by omega)] | dsimp only)); (try rfl))) (by unfold clr uI; (repeat (first | rewrite [if_pos (by omega)] | rewrite [if_neg (by omega)] | dsimp only)); (try rfl)) (by unfold clr uI; (repeat (first | rewrite [if_pos (by omega)] | rewrite [if_neg (by omega)] | dsimp only)); (try rfl)) (by unfold clr uI; (repeat (first | rewrite [if_pos (by omega)] | rewrite [if_neg (by omega)] | dsimp only)); (try rfl)) (by unfold clr uI; (repeat (first | rewrite [if_pos (by omega)] | rewrite [if_neg (by omega)] | dsimp only)); (try rfl)) (by unfold clr uI; (repeat (first | rewrite [if_pos (by omega)] | rewrite [if_neg (by omega)] | dsimp only)); (try rfl)) (by unfold clr uI; (repeat (first | rewrite [if_pos (by omega)] | rewrite [if_neg (by omega)] | dsimp only)); (try rfl)) (fun c c0 c1 => (by unfold clr uI; (repeat (first | rewrite [if_pos (by omega)] | rewrite [if_neg (by omega)] | dsimp only)); (try rfl))) (fun h1 => ⟨by rw [show (uI (uI (uI (clr (uI (uI (uI (uI (uI N (68 + N 1) fr) (84 + N 1) to) (100 + N 1) cs) (116 + N 1) 0) (132 + N 1) 1) (N 1) 12) (44 + to) (N 1 + 1)) (56 + to) 1) 1 (N 1 + 1)) (44 + to) = N 1 + 1 from (by unfold clr uI; (repeat (first | rewrite [if_pos (by omega)] | rewrite [if_neg (by omega)] | dsimp only)); (try rfl))]; omega, (show (uI (uI (uI (clr (uI (uI (uI (uI (uI N (68 + N 1) fr) (84 + N 1) to) (100 + N 1) cs) (116 + N 1) 0) (132 + N 1) 1) (N 1) 12) (44 + to) (N 1 + 1)) (56 + to) 1) 1 (N 1 + 1)) (56 + to) = 1 from (by unfold clr uI; (repeat (first | rewrite [if_pos (by omega)] | rewrite [if_neg (by omega)] | dsimp only)); (try rfl))).symm⟩)
  · refine ⟨(uI (clr (uI (uI (uI (uI (uI N (68 + N 1) fr) (84 + N 1) to) (100 + N 1) cs) (116 + N 1) 0) (132 + N 1) 1) (N 1) 12) 1 (N 1 + 1)), by unfold s_belt s_belt1; (repeat (first | rewrite [if_pos (by omega)] | rewrite [if_neg (by omega)])); rfl, IV_beltB hI h16 hf ht hc hk1 hk2 hAB, ?_⟩
    exact RH_belt (M := (uI (clr (uI (uI (uI (uI (uI N (68 + N 1) fr) (84 + N 1) to) (100 + N 1) cs) (116 + N 1) 0) (132 + N 1) 1) (N 1) 12) 1 (N 1 + 1))) hI h16 hH ht (fun j q0 q1 q2 q3 q4 q5 q6 q7 q8 => (by unfold clr uI; (repeat (first | rewrite [if_pos (by omega)] | rewrite [if_neg (by omega)] | dsimp only)); (try rfl))) (by unfold clr uI; (repeat (first | rewrite [if_pos (by omega)] | rewrite [if_neg (by omega)] | dsimp only)); (try rfl)) (by unfold clr uI; (repeat (first | rewrite [if_pos (by omega)] | rewrite [if_neg (by omega)] | dsimp only)); (try rfl)) (by unfold clr uI; (repeat (first | rewrite [if_pos (by omega)] | rewrite [if_neg (by omega)] | dsimp only)); (try rfl)) (by unfold clr uI; (repeat (first | rewrite [if_pos (by omega)] | rewrite [if_neg (by omega)] | dsimp only)); (try rfl)) (by unfold clr uI; (repeat (first | rewrite [if_pos (by omega)] | rewrite [if_neg (by omega)] | dsimp only)); (try rfl)) (by unfold clr uI; (repeat (first | rewrite [if_pos (by omega)] | rewrite [if_neg (by omega)] | dsimp only)); (try rfl)) (fun c c0 c1 => (by unfold clr uI; (repeat (first | rewrite [if_pos (by omega)] | rewrite [if_neg (by omega)] | dsimp only)); (try rfl))) (fun h1 => by have hm2 : ¬ σ 0 0 to 2 = -1 := (by have := y2 h1; omega); rw [if_neg hm2, if_neg hm2, show (uI (clr (uI (uI (uI (uI (uI N (68 + N 1) fr) (84 + N 1) to) (100 + N 1) cs) (116 + N 1) 0) (132 + N 1) 1) (N 1) 12) 1 (N 1 + 1)) (44 + to) = N (44 + to) from (by unfold clr uI; (repeat (first | rewrite [if_pos (by omega)] | rewrite [if_neg (by omega)] | dsimp only)); (try rfl)), show (uI (clr (uI (uI (uI (uI (uI N (68 + N 1) fr) (84 + N 1) to) (100 + N 1) cs) (116 + N 1) 0) (132 + N 1) 1) (N 1) 12) 1 (N 1 + 1)) (56 + to) = N (56 + to) from (by unfold clr uI; (repeat (first | rewrite [if_pos (by omega)] | rewrite [if_neg (by omega)] | dsimp only)); (try rfl))]; exact y2 h1)

set_option maxRecDepth 100000 in
theorem c_X6_belt {g : GG} {kp : Bool} {σ : SS} (hR : RG σ) {N : NN} {kk : Int} (hI : IV N kk) (hH : RH σ 0 N) (hS : SM σ N) (h8 : ∀ i j, σ 8 0 i j ≤ 1000000) (h9 : 0 ≤ σ 9 0 0 0 ∧ σ 9 0 0 0 ≤ 1000000) (fr : Int) (hfr : inR fr) (to : Int) (hto : inR to) (cs : Int) (hcs : inR cs)  : TC g kp 4 mX6_belt [rf g (ad 9 0 0), vi fr, vi to, vi cs] σ (fun r τ => r = some (vi (s_belt N fr to cs).1) ∧ CR σ τ (s_belt N fr to cs).2.1 (s_belt N fr to cs).2.2) := by
  refine TC.of (by decide) (Nat.le_of_ble_eq_true rfl) rfl ?_
  obtain ⟨b0, b1, b2, b3, b4, b5⟩ := hI.n
  obtain ⟨n0, n1, n2, n3, n4⟩ := hH.n
  refine v_aload_n 0 dX6_belt_0 (nx := 1) rfl rfl ?_
  refine t_get (a := 9) (p := 0) (T := TX6) dX6_belt_1 (nx := 4) rfl (by decide) (ok_m 9 rfl) rfl rfl iU6 (by decide) fl_X6_10 rfl ?_
  refine v_iload_n 1 dX6_belt_4 (nx := 5) rfl rfl ?_
  refine t_callVi (a := 7) (c_X3_hasPoint hR _ (by first | assumption | exact hR.1 _ _ _ _ | exact ⟨by omega, by omega⟩)) dX6_belt_5 (nx := 8) rfl kX3_hasPoint ml_X6_59 (by decide) (ok_m 7 rfl) rfl rfl rfl rfl (Nat.le_of_ble_eq_true rfl) ⟨by decide, by decide⟩ ⟨by decide, by decide⟩ ?_
  refine v_ifB_eq dX6_belt_8 (tgt := 32) (by decide) (nx := 11) rfl (fun c8 => ?_) (fun c8 => ?_)
  · refine v_aload_n 0 dX6_belt_32 (nx := 33) rfl rfl ?_
    refine v_iconst dX6_belt_33 (nx := 34) rfl ?_
    refine t_callVi (a := 9) (c_X6_finding _) dX6_belt_34 (nx := 37) rfl kX6_finding ml_X6_38 (by decide) (ok_m 9 rfl) rfl rfl rfl rfl (Nat.le_of_ble_eq_true rfl) ⟨by decide, by decide⟩ ⟨by decide, by decide⟩ ?_
    exact t_iret dX6_belt_37 rfl (by first | exact cfC hR hH hS h8 h9 (by unfold s_belt fnd; (repeat (first | rewrite [if_pos (by omega)] | rewrite [if_neg (by omega)])); rfl) | exact cfA hsb n1 (CR.ms hRH (fun a t i h => (by have h2 : 10 ≤ a ∨ t ≠ 0 := h.imp id (fun q => q.1); (repeat (first | rw [up_o (by decide) h2] | rw [sK_o (by decide) h2])))) rfl k8 kS kR kb) | (exfalso; omega))
  · refine v_aload_n 0 dX6_belt_11 (nx := 12) rfl rfl ?_
    refine t_get (a := 9) (p := 0) (T := TX6) dX6_belt_12 (nx := 15) rfl (by decide) (ok_m 9 rfl) rfl rfl iU6 (by decide) fl_X6_10 rfl ?_
    refine v_iload_n 2 dX6_belt_15 (nx := 16) rfl rfl ?_
    refine t_callVi (a := 7) (c_X3_hasPoint hR _ (by first | assumption | exact hR.1 _ _ _ _ | exact ⟨by omega, by omega⟩)) dX6_belt_16 (nx := 19) rfl kX3_hasPoint ml_X6_59 (by decide) (ok_m 7 rfl) rfl rfl rfl rfl (Nat.le_of_ble_eq_true rfl) ⟨by decide, by decide⟩ ⟨by decide, by decide⟩ ?_
    refine v_ifB_eq dX6_belt_19 (tgt := 32) (by decide) (nx := 22) rfl (fun c19 => ?_) (fun c19 => ?_)
    · refine v_aload_n 0 dX6_belt_32 (nx := 33) rfl rfl ?_
      refine v_iconst dX6_belt_33 (nx := 34) rfl ?_
      refine t_callVi (a := 9) (c_X6_finding _) dX6_belt_34 (nx := 37) rfl kX6_finding ml_X6_38 (by decide) (ok_m 9 rfl) rfl rfl rfl rfl (Nat.le_of_ble_eq_true rfl) ⟨by decide, by decide⟩ ⟨by decide, by decide⟩ ?_
      exact t_iret dX6_belt_37 rfl (by first | exact cfC hR hH hS h8 h9 (by unfold s_belt fnd; (repeat (first | rewrite [if_pos (by omega)] | rewrite [if_neg (by omega)])); rfl) | exact cfA hsb n1 (CR.ms hRH (fun a t i h => (by have h2 : 10 ≤ a ∨ t ≠ 0 := h.imp id (fun q => q.1); (repeat (first | rw [up_o (by decide) h2] | rw [sK_o (by decide) h2])))) rfl k8 kS kR kb) | (exfalso; omega))
    · refine v_iload_n 3 dX6_belt_22 (nx := 23) rfl rfl ?_
      refine v_iconst dX6_belt_23 (nx := 24) rfl ?_
      refine v_bipush dX6_belt_24 (nx := 26) rfl rfl ?_
      refine t_callSi (c_X6_within _ _ _ (by first | assumption | exact hR.1 _ _ _ _ | exact ⟨by omega, by omega⟩) (by first | assumption | exact hR.1 _ _ _ _ | exact ⟨by omega, by omega⟩) (by first | assumption | exact hR.1 _ _ _ _ | exact ⟨by omega, by omega⟩)) dX6_belt_26 (nx := 29) rfl kX6_within ml_X6_62 rfl rfl (Nat.le_of_ble_eq_true rfl) ⟨by decide, by decide⟩ ⟨by decide, by decide⟩ ?_
      refine v_ifB_ne dX6_belt_29 (tgt := 38) (by decide) (nx := 32) rfl (fun c29 => ?_) (fun c29 => ?_)
      · refine v_iload_n 1 dX6_belt_38 (nx := 39) rfl rfl ?_
        refine v_iload_n 2 dX6_belt_39 (nx := 40) rfl rfl ?_
        refine v_icmp_ne dX6_belt_40 (tgt := 50) (by decide) (nx := 43) rfl (by first | assumption | exact hR.1 _ _ _ _ | exact ⟨by omega, by omega⟩) (by first | assumption | exact hR.1 _ _ _ _ | exact ⟨by omega, by omega⟩) (fun c40 => ?_) (fun c40 => ?_)
        · obtain ⟨x0, x1, x2⟩ := hH.p fr (by omega) (by omega)
          obtain ⟨y0, y1, y2⟩ := hH.p to (by omega) (by omega)
          refine v_aload_n 0 dX6_belt_50 (nx := 51) rfl rfl ?_
          refine t_get (a := 9) (p := 0) (T := TX6) dX6_belt_51 (nx := 54) rfl (by decide) (ok_m 9 rfl) rfl rfl iU6 (by decide) fl_X6_10 rfl ?_
          refine t_get (a := 7) (p := 0) (T := TX3) dX6_belt_54 (nx := 57) rfl (by decide) (ok_m 7 rfl) rfl rfl iU3 (by decide) fl_X6_45 rfl ?_
          refine v_iload_n 1 dX6_belt_57 (nx := 58) rfl rfl ?_
          refine t_ldP dX6_belt_58 (nx := 59) rfl (ok_m 15 rfl) ⟨by omega, by omega⟩ ?_
          refine t_get (a := 0) (p := 0) (T := TX4) dX6_belt_59 (nx := 62) rfl (by decide) (by first | assumption | exact ok_0 ⟨by omega, by omega⟩) rfl rfl iU4 (by decide) fl_X6_66 rfl ?_
          refine v_iconst dX6_belt_62 (nx := 63) rfl ?_
          refine v_icmp_eq dX6_belt_63 (tgt := 81) (by decide) (nx := 66) rfl (by first | assumption | exact hR.1 _ _ _ _ | exact ⟨by omega, by omega⟩) (by first | assumption | exact hR.1 _ _ _ _ | exact ⟨by omega, by omega⟩) (fun c63 => ?_) (fun c63 => ?_)
          · refine v_aload_n 0 dX6_belt_81 (nx := 82) rfl rfl ?_
            refine v_bipush dX6_belt_82 (nx := 84) rfl rfl ?_
            refine t_callVi (a := 9) (c_X6_finding _) dX6_belt_84 (nx := 87) rfl kX6_finding ml_X6_38 (by decide) (ok_m 9 rfl) rfl rfl rfl rfl (Nat.le_of_ble_eq_true rfl) ⟨by decide, by decide⟩ ⟨by decide, by decide⟩ ?_
            exact t_iret dX6_belt_87 rfl (by first | exact cfC hR hH hS h8 h9 (by unfold s_belt fnd; (repeat (first | rewrite [if_pos (by omega)] | rewrite [if_neg (by omega)])); rfl) | exact cfA hsb n1 (CR.ms hRH (fun a t i h => (by have h2 : 10 ≤ a ∨ t ≠ 0 := h.imp id (fun q => q.1); (repeat (first | rw [up_o (by decide) h2] | rw [sK_o (by decide) h2])))) rfl k8 kS kR kb) | (exfalso; omega))
          · refine v_aload_n 0 dX6_belt_66 (nx := 67) rfl rfl ?_
            refine t_get (a := 9) (p := 0) (T := TX6) dX6_belt_67 (nx := 70) rfl (by decide) (ok_m 9 rfl) rfl rfl iU6 (by decide) fl_X6_10 rfl ?_
            refine t_get (a := 7) (p := 0) (T := TX3) dX6_belt_70 (nx := 73) rfl (by decide) (ok_m 7 rfl) rfl rfl iU3 (by decide) fl_X6_45 rfl ?_
            refine v_iload_n 2 dX6_belt_73 (nx := 74) rfl rfl ?_
            refine t_ldP dX6_belt_74 (nx := 75) rfl (ok_m 15 rfl) ⟨by omega, by omega⟩ ?_
            refine t_get (a := 0) (p := 0) (T := TX4) dX6_belt_75 (nx := 78) rfl (by decide) (by first | assumption | exact ok_0 ⟨by omega, by omega⟩) rfl rfl iU4 (by decide) fl_X6_66 rfl ?_
            refine v_if_ne dX6_belt_78 (tgt := 88) (by decide) (nx := 81) rfl (by first | assumption | exact hR.1 _ _ _ _ | exact ⟨by omega, by omega⟩) (fun c78 => ?_) (fun c78 => ?_)
            · refine v_aload_n 0 dX6_belt_88 (nx := 89) rfl rfl ?_
              refine t_get (a := 9) (p := 0) (T := TX6) dX6_belt_89 (nx := 92) rfl (by decide) (ok_m 9 rfl) rfl rfl iU6 (by decide) fl_X6_10 rfl ?_
              refine t_get (a := 7) (p := 5) (T := TX3) dX6_belt_92 (nx := 95) rfl (by decide) (ok_m 7 rfl) rfl rfl iU3 (by decide) fl_X6_69 rfl ?_
              refine v_bipush dX6_belt_95 (nx := 97) rfl rfl ?_
              refine v_icmp_lt dX6_belt_97 (tgt := 107) (by decide) (nx := 100) rfl (by first | assumption | exact hR.1 _ _ _ _ | exact ⟨by omega, by omega⟩) (by first | assumption | exact hR.1 _ _ _ _ | exact ⟨by omega, by omega⟩) (fun c97 => ?_) (fun c97 => ?_)
              · refine v_aload_n 0 dX6_belt_107 (nx := 108) rfl rfl ?_
                refine t_get (a := 9) (p := 0) (T := TX6) dX6_belt_108 (nx := 111) rfl (by decide) (ok_m 9 rfl) rfl rfl iU6 (by decide) fl_X6_10 rfl ?_
                refine t_get (a := 7) (p := 5) (T := TX3) dX6_belt_111 (nx := 114) rfl (by decide) (ok_m 7 rfl) rfl rfl iU3 (by decide) fl_X6_69 rfl ?_
                refine v_istore dX6_belt_114 (nx := 116) rfl rfl (by decide) ?_
                refine v_aload_n 0 dX6_belt_116 (nx := 117) rfl rfl ?_
                refine t_get (a := 9) (p := 0) (T := TX6) dX6_belt_117 (nx := 120) rfl (by decide) (ok_m 9 rfl) rfl rfl iU6 (by decide) fl_X6_10 rfl ?_
                refine t_get (a := 7) (p := 1) (T := TX3) dX6_belt_120 (nx := 123) rfl (by decide) (ok_m 7 rfl) rfl rfl iU3 (by decide) fl_X6_72 rfl ?_
                refine v_iload 4 dX6_belt_123 (nx := 125) rfl rfl ?_
                refine t_ldB dX6_belt_125 (nx := 126) rfl (ok_m 16 rfl) ⟨by omega, by omega⟩ ?_
                refine v_iload_n 1 dX6_belt_126 (nx := 127) rfl rfl ?_
                refine v_iload_n 2 dX6_belt_127 (nx := 128) rfl rfl ?_
                refine v_iload_n 3 dX6_belt_128 (nx := 129) rfl rfl ?_
                refine t_callVv (a := 2) (c_X1_begin _ (by omega) _ _ _) dX6_belt_129 (nx := 132) rfl kX1_begin ml_X6_76 (by decide) (by first | assumption | exact ok_2 ⟨by omega, by omega⟩) rfl rfl rfl rfl (Nat.le_of_ble_eq_true rfl) ⟨by decide, by decide⟩ ⟨by decide, by decide⟩ ?_
                refine v_aload_n 0 dX6_belt_132 (nx := 133) rfl rfl ?_
                refine t_get (a := 9) (p := 0) (T := TX6) dX6_belt_133 (nx := 136) rfl (by decide) (ok_m 9 rfl) rfl rfl iU6 (by decide) fl_X6_10 rfl ?_
                refine t_get (a := 7) (p := 0) (T := TX3) dX6_belt_136 (nx := 139) rfl (by decide) (ok_m 7 rfl) rfl rfl iU3 (by decide) fl_X6_45 rfl ?_
                refine v_iload_n 2 dX6_belt_139 (nx := 140) rfl rfl ?_
                refine t_ldP dX6_belt_140 (nx := 141) rfl (ok_m 15 rfl) ⟨by omega, by omega⟩ ?_
                refine v_iload 4 dX6_belt_141 (nx := 143) rfl rfl ?_
                refine t_callVv (a := 0) (c_X4_meetInlet (RG_sK (RG_up (RG_up (RG_up (RG_up (RG_up (RG_up hR hfr) hto) hcs) ⟨by omega, by omega⟩) ⟨by omega, by omega⟩) ⟨by omega, by omega⟩) (fun j => by unfold fil; split; exact ⟨by decide, by decide⟩; exact hR.1 _ _ _ _)) _ (by omega) _) dX6_belt_143 (nx := 146) rfl kX4_meetInlet ml_X6_81 (by decide) (by first | assumption | exact ok_0 ⟨by omega, by omega⟩) rfl rfl rfl rfl (Nat.le_of_ble_eq_true rfl) ⟨by decide, by decide⟩ ⟨by decide, by decide⟩ ?_
                rw [meet_eq]
                refine v_aload_n 0 dX6_belt_146 (nx := 147) rfl rfl ?_
                refine t_get (a := 9) (p := 0) (T := TX6) dX6_belt_147 (nx := 150) rfl (by decide) (ok_m 9 rfl) rfl rfl iU6 (by decide) fl_X6_10 rfl ?_
                refine v_dup dX6_belt_150 (nx := 151) rfl rfl ?_
                refine t_get (a := 7) (p := 5) (T := TX3) (v := vi (σ 7 0 0 1)) dX6_belt_151 (nx := 154) rfl (by decide) (ok_m 7 rfl) rfl rfl iU3 (by decide) fl_X6_69 rfl ?_
                refine v_iconst dX6_belt_154 (nx := 155) rfl ?_
                refine v_iadd dX6_belt_155 (nx := 156) rfl ?_
                refine t_put (a := 7) (j := 1) (p := 5) (T := TX3) dX6_belt_156 (nx := 159) rfl (by decide) (ok_m 7 rfl) rfl rfl iU3 tyX3 tyX3_ok nmX3 (by decide) fl_X6_69 rfl (Or.inl rfl) (Nat.le_of_ble_eq_true rfl) (by rfl) ?_
                obtain ⟨M, hsb, hIM, hRH⟩ := belt_all (fr := fr) (to := to) (cs := cs) hI (by omega) ⟨by omega, by omega⟩ ⟨by omega, by omega⟩ ⟨by omega, by omega⟩ (by omega) (by omega) hH (by omega)
                refine v_aload_n 0 dX6_belt_159 (nx := 160) rfl rfl ?_
                refine t_get (a := 9) (p := 1) (T := TX6) dX6_belt_160 (nx := 163) rfl (by decide) (ok_m 9 rfl) rfl rfl iU6 (by decide) fl_X6_19 rfl ?_
                refine v_aload_n 0 dX6_belt_163 (nx := 164) rfl rfl ?_
                refine t_get (a := 9) (p := 0) (T := TX6) dX6_belt_164 (nx := 167) rfl (by decide) (ok_m 9 rfl) rfl rfl iU6 (by decide) fl_X6_10 rfl ?_
                refine t_callVvQ (a := 19) (c_X5_measure (RG_up (RG_up (RG_up (RG_sK (RG_up (RG_up (RG_up (RG_up (RG_up (RG_up hR hfr) hto) hcs) ⟨by omega, by omega⟩) ⟨by omega, by omega⟩) ⟨by omega, by omega⟩) (fun j => by unfold fil; split; exact ⟨by decide, by decide⟩; exact hR.1 _ _ _ _)) (by split; exact ⟨by omega, by omega⟩; exact hR.1 _ _ _ _)) (by split; exact ⟨by decide, by decide⟩; exact hR.1 _ _ _ _)) ⟨by omega, by omega⟩) hIM hRH.n hRH.b hRH.p h8) dX6_belt_167 (nx := 170) rfl kX5_measure ml_X6_55 (by decide) (ok_m 19 rfl) rfl rfl rfl rfl (Nat.le_of_ble_eq_true rfl) ⟨by decide, by decide⟩ ⟨by decide, by decide⟩ (fun τ hq => ?_)
                obtain ⟨k8, kS, kR, kb⟩ := hq
                refine v_iload 4 dX6_belt_170 (nx := 172) rfl rfl ?_
                exact t_iret dX6_belt_172 rfl (by first | exact cfC hR hH hS h8 h9 (by unfold s_belt fnd; (repeat (first | rewrite [if_pos (by omega)] | rewrite [if_neg (by omega)])); rfl) | exact cfA hsb n1 (CR.ms hRH (fun a t i h => (by have h2 : 10 ≤ a ∨ t ≠ 0 := h.imp id (fun q => q.1); (repeat (first | rw [up_o (by decide) h2] | rw [sK_o (by decide) h2])))) rfl k8 kS kR kb) | (exfalso; omega))
              · refine v_aload_n 0 dX6_belt_100 (nx := 101) rfl rfl ?_
                refine v_bipush dX6_belt_101 (nx := 103) rfl rfl ?_
                refine t_callVi (a := 9) (c_X6_finding _) dX6_belt_103 (nx := 106) rfl kX6_finding ml_X6_38 (by decide) (ok_m 9 rfl) rfl rfl rfl rfl (Nat.le_of_ble_eq_true rfl) ⟨by decide, by decide⟩ ⟨by decide, by decide⟩ ?_
                exact t_iret dX6_belt_106 rfl (by first | exact cfC hR hH hS h8 h9 (by unfold s_belt fnd; (repeat (first | rewrite [if_pos (by omega)] | rewrite [if_neg (by omega)])); rfl) | exact cfA hsb n1 (CR.ms hRH (fun a t i h => (by have h2 : 10 ≤ a ∨ t ≠ 0 := h.imp id (fun q => q.1); (repeat (first | rw [up_o (by decide) h2] | rw [sK_o (by decide) h2])))) rfl k8 kS kR kb) | (exfalso; omega))
            · refine v_aload_n 0 dX6_belt_81 (nx := 82) rfl rfl ?_
              refine v_bipush dX6_belt_82 (nx := 84) rfl rfl ?_
              refine t_callVi (a := 9) (c_X6_finding _) dX6_belt_84 (nx := 87) rfl kX6_finding ml_X6_38 (by decide) (ok_m 9 rfl) rfl rfl rfl rfl (Nat.le_of_ble_eq_true rfl) ⟨by decide, by decide⟩ ⟨by decide, by decide⟩ ?_
              exact t_iret dX6_belt_87 rfl (by first | exact cfC hR hH hS h8 h9 (by unfold s_belt fnd; (repeat (first | rewrite [if_pos (by omega)] | rewrite [if_neg (by omega)])); rfl) | exact cfA hsb n1 (CR.ms hRH (fun a t i h => (by have h2 : 10 ≤ a ∨ t ≠ 0 := h.imp id (fun q => q.1); (repeat (first | rw [up_o (by decide) h2] | rw [sK_o (by decide) h2])))) rfl k8 kS kR kb) | (exfalso; omega))
        · refine v_aload_n 0 dX6_belt_43 (nx := 44) rfl rfl ?_
          refine v_bipush dX6_belt_44 (nx := 46) rfl rfl ?_
          refine t_callVi (a := 9) (c_X6_finding _) dX6_belt_46 (nx := 49) rfl kX6_finding ml_X6_38 (by decide) (ok_m 9 rfl) rfl rfl rfl rfl (Nat.le_of_ble_eq_true rfl) ⟨by decide, by decide⟩ ⟨by decide, by decide⟩ ?_
          exact t_iret dX6_belt_49 rfl (by first | exact cfC hR hH hS h8 h9 (by unfold s_belt fnd; (repeat (first | rewrite [if_pos (by omega)] | rewrite [if_neg (by omega)])); rfl) | exact cfA hsb n1 (CR.ms hRH (fun a t i h => (by have h2 : 10 ≤ a ∨ t ≠ 0 := h.imp id (fun q => q.1); (repeat (first | rw [up_o (by decide) h2] | rw [sK_o (by decide) h2])))) rfl k8 kS kR kb) | (exfalso; omega))
      · refine v_aload_n 0 dX6_belt_32 (nx := 33) rfl rfl ?_
        refine v_iconst dX6_belt_33 (nx := 34) rfl ?_
        refine t_callVi (a := 9) (c_X6_finding _) dX6_belt_34 (nx := 37) rfl kX6_finding ml_X6_38 (by decide) (ok_m 9 rfl) rfl rfl rfl rfl (Nat.le_of_ble_eq_true rfl) ⟨by decide, by decide⟩ ⟨by decide, by decide⟩ ?_
        exact t_iret dX6_belt_37 rfl (by first | exact cfC hR hH hS h8 h9 (by unfold s_belt fnd; (repeat (first | rewrite [if_pos (by omega)] | rewrite [if_neg (by omega)])); rfl) | exact cfA hsb n1 (CR.ms hRH (fun a t i h => (by have h2 : 10 ≤ a ∨ t ≠ 0 := h.imp id (fun q => q.1); (repeat (first | rw [up_o (by decide) h2] | rw [sK_o (by decide) h2])))) rfl k8 kS kR kb) | (exfalso; omega))
