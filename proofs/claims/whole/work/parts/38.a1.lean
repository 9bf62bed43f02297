theorem IV_point {N : NN} {k kd v : Int} (hI : IV N k) (h12 : N 0 < 12) (hkd : 0 ≤ kd ∧ kd ≤ 5) (h2 : kd = 2 → 1 ≤ v ∧ v ≤ 9) (h4 : kd = 4 → 1 ≤ v ∧ v ≤ 20) (hv : inR v) : IV (uI (uI (uI (uI (uI (uI N (8 + N 0) (kd)) (20 + N 0) (v)) (32 + N 0) (0)) (44 + N 0) (0)) (56 + N 0) (0)) (0) (N 0 + 1)) k := by
  obtain ⟨b0, b1, b2, b3, b4, b5⟩ := hI.n
  have e : ∀ j, j ≠ 8 + N 0 → j ≠ 20 + N 0 → j ≠ 32 + N 0 → j ≠ 44 + N 0 → j ≠ 56 + N 0 → j ≠ 0 → (uI (uI (uI (uI (uI (uI N (8 + N 0) (kd)) (20 + N 0) (v)) (32 + N 0) (0)) (44 + N 0) (0)) (56 + N 0) (0)) (0) (N 0 + 1)) j = N j := by
    intro j q0 q1 q2 q3 q4 q5
    rw [uI_n q5, uI_n q4, uI_n q3, uI_n q2, uI_n q1, uI_n q0]
  have v0 : (uI (uI (uI (uI (uI (uI N (8 + N 0) (kd)) (20 + N 0) (v)) (32 + N 0) (0)) (44 + N 0) (0)) (56 + N 0) (0)) (0) (N 0 + 1)) (8 + N 0) = kd := by unfold uI; (repeat (first | rewrite [if_pos (by omega)] | rewrite [if_neg (by omega)] | dsimp only)); (try rfl)
  have v1 : (uI (uI (uI (uI (uI (uI N (8 + N 0) (kd)) (20 + N 0) (v)) (32 + N 0) (0)) (44 + N 0) (0)) (56 + N 0) (0)) (0) (N 0 + 1)) (20 + N 0) = v := by unfold uI; (repeat (first | rewrite [if_pos (by omega)] | rewrite [if_neg (by omega)] | dsimp only)); (try rfl)
  have v2 : (uI (uI (uI (uI (uI (uI N (8 + N 0) (kd)) (20 + N 0) (v)) (32 + N 0) (0)) (44 + N 0) (0)) (56 + N 0) (0)) (0) (N 0 + 1)) (32 + N 0) = 0 := by unfold uI; (repeat (first | rewrite [if_pos (by omega)] | rewrite [if_neg (by omega)] | dsimp only)); (try rfl)
  have v3 : (uI (uI (uI (uI (uI (uI N (8 + N 0) (kd)) (20 + N 0) (v)) (32 + N 0) (0)) (44 + N 0) (0)) (56 + N 0) (0)) (0) (N 0 + 1)) (44 + N 0) = 0 := by unfold uI; (repeat (first | rewrite [if_pos (by omega)] | rewrite [if_neg (by omega)] | dsimp only)); (try rfl)
  have v4 : (uI (uI (uI (uI (uI (uI N (8 + N 0) (kd)) (20 + N 0) (v)) (32 + N 0) (0)) (44 + N 0) (0)) (56 + N 0) (0)) (0) (N 0 + 1)) (56 + N 0) = 0 := by unfold uI; (repeat (first | rewrite [if_pos (by omega)] | rewrite [if_neg (by omega)] | dsimp only)); (try rfl)
  have v5 : (uI (uI (uI (uI (uI (uI N (8 + N 0) (kd)) (20 + N 0) (v)) (32 + N 0) (0)) (44 + N 0) (0)) (56 + N 0) (0)) (0) (N 0 + 1)) (0) = N 0 + 1 := by unfold uI; (repeat (first | rewrite [if_pos (by omega)] | rewrite [if_neg (by omega)] | dsimp only)); (try rfl)
  have hr : ∀ j, inR ((uI (uI (uI (uI (uI (uI N (8 + N 0) (kd)) (20 + N 0) (v)) (32 + N 0) (0)) (44 + N 0) (0)) (56 + N 0) (0)) (0) (N 0 + 1)) j) := (inR_uI (inR_uI (inR_uI (inR_uI (inR_uI (inR_uI hI.r ⟨by omega, by omega⟩) hv) ⟨by omega, by omega⟩) ⟨by omega, by omega⟩) ⟨by omega, by omega⟩) ⟨by omega, by omega⟩)
  generalize (uI (uI (uI (uI (uI (uI N (8 + N 0) (kd)) (20 + N 0) (v)) (32 + N 0) (0)) (44 + N 0) (0)) (56 + N 0) (0)) (0) (N 0 + 1)) = M at e v0 v1 v2 v3 v4 v5 hr ⊢
  have m1 : M 1 = N 1 := e 1 (by omega) (by omega) (by omega) (by omega) (by omega) (by omega) 
  have m2 : M 2 = N 2 := e 2 (by omega) (by omega) (by omega) (by omega) (by omega) (by omega) 
  have m3 : M 3 = N 3 := e 3 (by omega) (by omega) (by omega) (by omega) (by omega) (by omega) 
  have m4 : M 4 = N 4 := e 4 (by omega) (by omega) (by omega) (by omega) (by omega) (by omega) 
  have m5 : M 5 = N 5 := e 5 (by omega) (by omega) (by omega) (by omega) (by omega) (by omega) 
  refine hI.grow ⟨by omega, by omega, by omega, by omega, by omega, by omega⟩ ⟨by omega, by omega, by omega, by omega, by omega, by omega⟩ (fun p p0 p1 => ⟨e _ (by omega) (by omega) (by omega) (by omega) (by omega) (by omega) , e _ (by omega) (by omega) (by omega) (by omega) (by omega) (by omega) , e _ (by omega) (by omega) (by omega) (by omega) (by omega) (by omega) ⟩) (fun b d0 d1 => by
    obtain ⟨-, -, -, q4, q5, -⟩ := hI.b d0 d1
    rw [e (116 + b) (by omega) (by omega) (by omega) (by omega) (by omega) (by omega) , e (132 + b) (by omega) (by omega) (by omega) (by omega) (by omega) (by omega) ]
    exact ⟨e _ (by omega) (by omega) (by omega) (by omega) (by omega) (by omega) , e _ (by omega) (by omega) (by omega) (by omega) (by omega) (by omega) , e _ (by omega) (by omega) (by omega) (by omega) (by omega) (by omega) , q4, q5⟩) (fun f d0 d1 => ⟨e _ (by omega) (by omega) (by omega) (by omega) (by omega) (by omega) , e _ (by omega) (by omega) (by omega) (by omega) (by omega) (by omega) , e _ (by omega) (by omega) (by omega) (by omega) (by omega) (by omega) ⟩) (fun x d0 d1 => by
    obtain ⟨-, q2, -⟩ := hI.g d0 d1
    rw [e (424 + x) (by omega) (by omega) (by omega) (by omega) (by omega) (by omega) ]
    exact ⟨e _ (by omega) (by omega) (by omega) (by omega) (by omega) (by omega) , q2, e _ (by omega) (by omega) (by omega) (by omega) (by omega) (by omega) , e _ (by omega) (by omega) (by omega) (by omega) (by omega) (by omega) , e _ (by omega) (by omega) (by omega) (by omega) (by omega) (by omega) , e _ (by omega) (by omega) (by omega) (by omega) (by omega) (by omega) ⟩) (fun b c d0 d1 d2 d3 => e _ (by omega) (by omega) (by omega) (by omega) (by omega) (by omega) ) (fun p p0 p1 => by
    by_cases c : p = N 0
    · subst c
      rw [v3, v4]
      refine ⟨⟨by omega, by omega⟩, ⟨by omega, by omega⟩, fun _ => Or.inl ⟨rfl, fun b c0 c1 => ?_⟩⟩
      obtain ⟨-, q2, -⟩ := hI.b (b := b) c0 (by omega)
      rw [e _ (by omega) (by omega) (by omega) (by omega) (by omega) (by omega) ]
      omega
    · obtain ⟨-, -, -, -, q5, q6, q7⟩ := hI.p (p := p) p0 (by omega)
      rw [e (44 + p) (by omega) (by omega) (by omega) (by omega) (by omega) (by omega) , e (56 + p) (by omega) (by omega) (by omega) (by omega) (by omega) (by omega) , e (8 + p) (by omega) (by omega) (by omega) (by omega) (by omega) (by omega) , m1]
      refine ⟨q5, q6, fun hk => ?_⟩
      rcases q7 hk with ⟨h1, h2⟩ | ⟨h1, h2⟩
      · exact Or.inl ⟨h1, fun b c0 c1 => by rw [e _ (by omega) (by omega) (by omega) (by omega) (by omega) (by omega) ]; exact h2 b c0 c1⟩
      · exact Or.inr ⟨h1, by rw [e _ (by omega) (by omega) (by omega) (by omega) (by omega) (by omega) ]; exact h2⟩) (fun p p0 p1 => by
    obtain rfl : p = N 0 := by omega
    rw [v0, v1, v2]
    exact ⟨hkd, h2, h4, rfl⟩) (fun b p0 p1 => by omega) (fun b p0 p1 => by omega) (fun b p0 p1 => by omega) (fun b c p0 p1 => by omega) hr

theorem IV_flight {N : NN} {k c op cl : Int} (hI : IV N k) (h8 : N 2 < 8) (hc : 0 ≤ c ∧ c < N 0) (h5 : N (8 + c) = 5) (ho : 0 ≤ op ∧ op ≤ 5000) (he : 0 ≤ cl ∧ cl ≤ 5000) : IV (uI (uI (uI (uI N (340 + N 2) (c)) (348 + N 2) (op)) (356 + N 2) (cl)) (2) (N 2 + 1)) k := by
  obtain ⟨b0, b1, b2, b3, b4, b5⟩ := hI.n
  have e : ∀ j, j ≠ 340 + N 2 → j ≠ 348 + N 2 → j ≠ 356 + N 2 → j ≠ 2 → (uI (uI (uI (uI N (340 + N 2) (c)) (348 + N 2) (op)) (356 + N 2) (cl)) (2) (N 2 + 1)) j = N j := by
    intro j q0 q1 q2 q3
    rw [uI_n q3, uI_n q2, uI_n q1, uI_n q0]
  have v0 : (uI (uI (uI (uI N (340 + N 2) (c)) (348 + N 2) (op)) (356 + N 2) (cl)) (2) (N 2 + 1)) (340 + N 2) = c := by unfold uI; (repeat (first | rewrite [if_pos (by omega)] | rewrite [if_neg (by omega)] | dsimp only)); (try rfl)
  have v1 : (uI (uI (uI (uI N (340 + N 2) (c)) (348 + N 2) (op)) (356 + N 2) (cl)) (2) (N 2 + 1)) (348 + N 2) = op := by unfold uI; (repeat (first | rewrite [if_pos (by omega)] | rewrite [if_neg (by omega)] | dsimp only)); (try rfl)
  have v2 : (uI (uI (uI (uI N (340 + N 2) (c)) (348 + N 2) (op)) (356 + N 2) (cl)) (2) (N 2 + 1)) (356 + N 2) = cl := by unfold uI; (repeat (first | rewrite [if_pos (by omega)] | rewrite [if_neg (by omega)] | dsimp only)); (try rfl)
  have v3 : (uI (uI (uI (uI N (340 + N 2) (c)) (348 + N 2) (op)) (356 + N 2) (cl)) (2) (N 2 + 1)) (2) = N 2 + 1 := by unfold uI; (repeat (first | rewrite [if_pos (by omega)] | rewrite [if_neg (by omega)] | dsimp only)); (try rfl)
  have hr : ∀ j, inR ((uI (uI (uI (uI N (340 + N 2) (c)) (348 + N 2) (op)) (356 + N 2) (cl)) (2) (N 2 + 1)) j) := (inR_uI (inR_uI (inR_uI (inR_uI hI.r ⟨by omega, by omega⟩) ⟨by omega, by omega⟩) ⟨by omega, by omega⟩) ⟨by omega, by omega⟩)
  generalize (uI (uI (uI (uI N (340 + N 2) (c)) (348 + N 2) (op)) (356 + N 2) (cl)) (2) (N 2 + 1)) = M at e v0 v1 v2 v3 hr ⊢
  have m0 : M 0 = N 0 := e 0 (by omega) (by omega) (by omega) (by omega) 
  have m1 : M 1 = N 1 := e 1 (by omega) (by omega) (by omega) (by omega) 
  have m3 : M 3 = N 3 := e 3 (by omega) (by omega) (by omega) (by omega) 
  have m4 : M 4 = N 4 := e 4 (by omega) (by omega) (by omega) (by omega) 
  have m5 : M 5 = N 5 := e 5 (by omega) (by omega) (by omega) (by omega) 
  refine hI.grow ⟨by omega, by omega, by omega, by omega, by omega, by omega⟩ ⟨by omega, by omega, by omega, by omega, by omega, by omega⟩ (fun p p0 p1 => ⟨e _ (by omega) (by omega) (by omega) (by omega) , e _ (by omega) (by omega) (by omega) (by omega) , e _ (by omega) (by omega) (by omega) (by omega) ⟩) (fun b d0 d1 => by
    obtain ⟨-, -, -, q4, q5, -⟩ := hI.b d0 d1
    rw [e (116 + b) (by omega) (by omega) (by omega) (by omega) , e (132 + b) (by omega) (by omega) (by omega) (by omega) ]
    exact ⟨e _ (by omega) (by omega) (by omega) (by omega) , e _ (by omega) (by omega) (by omega) (by omega) , e _ (by omega) (by omega) (by omega) (by omega) , q4, q5⟩) (fun f d0 d1 => ⟨e _ (by omega) (by omega) (by omega) (by omega) , e _ (by omega) (by omega) (by omega) (by omega) , e _ (by omega) (by omega) (by omega) (by omega) ⟩) (fun x d0 d1 => by
    obtain ⟨-, q2, -⟩ := hI.g d0 d1
    rw [e (424 + x) (by omega) (by omega) (by omega) (by omega) ]
    exact ⟨e _ (by omega) (by omega) (by omega) (by omega) , q2, e _ (by omega) (by omega) (by omega) (by omega) , e _ (by omega) (by omega) (by omega) (by omega) , e _ (by omega) (by omega) (by omega) (by omega) , e _ (by omega) (by omega) (by omega) (by omega) ⟩) (fun b c d0 d1 d2 d3 => e _ (by omega) (by omega) (by omega) (by omega) ) (fun p p0 p1 => by
    obtain ⟨-, -, -, -, q5, q6, q7⟩ := hI.p (p := p) p0 (by omega)
    rw [e (44 + p) (by omega) (by omega) (by omega) (by omega) , e (56 + p) (by omega) (by omega) (by omega) (by omega) , e (8 + p) (by omega) (by omega) (by omega) (by omega) , m1]
    refine ⟨q5, q6, fun hk => ?_⟩
    rcases q7 hk with ⟨h1, h2⟩ | ⟨h1, h2⟩
    · exact Or.inl ⟨h1, fun b c0 c1 => by rw [e _ (by omega) (by omega) (by omega) (by omega) ]; exact h2 b c0 c1⟩
    · exact Or.inr ⟨h1, by rw [e _ (by omega) (by omega) (by omega) (by omega) ]; exact h2⟩) (fun p p0 p1 => by omega) (fun b p0 p1 => by omega) (fun f f0 f1 => by
    obtain rfl : f = N 2 := by omega
    unfold fI
    rw [v0, v1, v2, e (8 + c) (by omega) (by omega) (by omega) (by omega) , m0]
    exact ⟨hc, h5, ho, he⟩) (fun b p0 p1 => by omega) (fun b c p0 p1 => by omega) hr

theorem IV_fall {N : NN} {k b on : Int} (hI : IV N k) (hb : 0 ≤ b ∧ b < N 1) (hon : on = 0 ∨ on = 1) : IV (uI N (116 + b) (on)) k := by
  obtain ⟨b0, b1, b2, b3, b4, b5⟩ := hI.n
  have e : ∀ j, j ≠ 116 + b → (uI N (116 + b) (on)) j = N j := by
    intro j q0
    rw [uI_n q0]
  have v0 : (uI N (116 + b) (on)) (116 + b) = on := by unfold uI; (repeat (first | rewrite [if_pos (by omega)] | rewrite [if_neg (by omega)] | dsimp only)); (try rfl)
  have hr : ∀ j, inR ((uI N (116 + b) (on)) j) := (inR_uI hI.r ⟨by omega, by omega⟩)
  generalize (uI N (116 + b) (on)) = M at e v0 hr ⊢
  have m0 : M 0 = N 0 := e 0 (by omega) 
  have m1 : M 1 = N 1 := e 1 (by omega) 
  have m2 : M 2 = N 2 := e 2 (by omega) 
  have m3 : M 3 = N 3 := e 3 (by omega) 
  have m4 : M 4 = N 4 := e 4 (by omega) 
  have m5 : M 5 = N 5 := e 5 (by omega) 
  refine hI.grow ⟨by omega, by omega, by omega, by omega, by omega, by omega⟩ ⟨by omega, by omega, by omega, by omega, by omega, by omega⟩ (fun p p0 p1 => ⟨e _ (by omega) , e _ (by omega) , e _ (by omega) ⟩) (fun x d0 d1 => by
    obtain ⟨-, -, -, q4, q5, -⟩ := hI.b d0 d1
    rw [e (132 + x) (by omega) ]
    refine ⟨e _ (by omega) , e _ (by omega) , e _ (by omega) , ?_, q5⟩
    by_cases c : x = b
    · subst c; rw [v0]; exact hon
    · rw [e _ (by omega) ]; exact q4) (fun f d0 d1 => ⟨e _ (by omega) , e _ (by omega) , e _ (by omega) ⟩) (fun x d0 d1 => by
    obtain ⟨-, q2, -⟩ := hI.g d0 d1
    rw [e (424 + x) (by omega) ]
    exact ⟨e _ (by omega) , q2, e _ (by omega) , e _ (by omega) , e _ (by omega) , e _ (by omega) ⟩) (fun b c d0 d1 d2 d3 => e _ (by omega) ) (fun p p0 p1 => by
    obtain ⟨-, -, -, -, q5, q6, q7⟩ := hI.p (p := p) p0 (by omega)
    rw [e (44 + p) (by omega) , e (56 + p) (by omega) , e (8 + p) (by omega) , m1]
    refine ⟨q5, q6, fun hk => ?_⟩
    rcases q7 hk with ⟨h1, h2⟩ | ⟨h1, h2⟩
    · exact Or.inl ⟨h1, fun b c0 c1 => by rw [e _ (by omega) ]; exact h2 b c0 c1⟩
    · exact Or.inr ⟨h1, by rw [e _ (by omega) ]; exact h2⟩) (fun p p0 p1 => by omega) (fun b p0 p1 => by omega) (fun b p0 p1 => by omega) (fun b p0 p1 => by omega) (fun b c p0 p1 => by omega) hr

theorem IV_turns1 {N : NN} {k b v : Int} (hI : IV N k) (hb : 0 ≤ b ∧ b < N 1) (hv : 0 ≤ v ∧ v ≤ 9) : IV (uI (uI N (132 + b) (v)) (56 + N (84 + b)) (v)) k := by
  obtain ⟨b0, b1, b2, b3, b4, b5⟩ := hI.n
  obtain ⟨z1, z2, z3, -⟩ := hI.b hb.1 hb.2
  have e : ∀ j, j ≠ 132 + b → j ≠ 56 + N (84 + b) → (uI (uI N (132 + b) (v)) (56 + N (84 + b)) (v)) j = N j := by
    intro j q0 q1
    rw [uI_n q1, uI_n q0]
  have v0 : (uI (uI N (132 + b) (v)) (56 + N (84 + b)) (v)) (132 + b) = v := by unfold uI; (repeat (first | rewrite [if_pos (by omega)] | rewrite [if_neg (by omega)] | dsimp only)); (try rfl)
  have v1 : (uI (uI N (132 + b) (v)) (56 + N (84 + b)) (v)) (56 + N (84 + b)) = v := by unfold uI; (repeat (first | rewrite [if_pos (by omega)] | rewrite [if_neg (by omega)] | dsimp only)); (try rfl)
  have hr : ∀ j, inR ((uI (uI N (132 + b) (v)) (56 + N (84 + b)) (v)) j) := (inR_uI (inR_uI hI.r ⟨by omega, by omega⟩) ⟨by omega, by omega⟩)
  generalize (uI (uI N (132 + b) (v)) (56 + N (84 + b)) (v)) = M at e v0 v1 hr ⊢
  have m0 : M 0 = N 0 := e 0 (by omega) (by omega) 
  have m1 : M 1 = N 1 := e 1 (by omega) (by omega) 
  have m2 : M 2 = N 2 := e 2 (by omega) (by omega) 
  have m3 : M 3 = N 3 := e 3 (by omega) (by omega) 
  have m4 : M 4 = N 4 := e 4 (by omega) (by omega) 
  have m5 : M 5 = N 5 := e 5 (by omega) (by omega) 
  refine hI.grow ⟨by omega, by omega, by omega, by omega, by omega, by omega⟩ ⟨by omega, by omega, by omega, by omega, by omega, by omega⟩ (fun p p0 p1 => ⟨e _ (by omega) (by omega) , e _ (by omega) (by omega) , e _ (by omega) (by omega) ⟩) (fun x d0 d1 => by
    obtain ⟨-, -, -, q4, q5, -⟩ := hI.b d0 d1
    rw [e (116 + x) (by omega) (by omega) ]
    refine ⟨e _ (by omega) (by omega) , e _ (by omega) (by omega) , e _ (by omega) (by omega) , q4, ?_⟩
    by_cases c : x = b
    · subst c; rw [v0]; exact hv
    · rw [e _ (by omega) (by omega) ]; exact q5) (fun f d0 d1 => ⟨e _ (by omega) (by omega) , e _ (by omega) (by omega) , e _ (by omega) (by omega) ⟩) (fun x d0 d1 => by
    obtain ⟨-, q2, -⟩ := hI.g d0 d1
    rw [e (424 + x) (by omega) (by omega) ]
    exact ⟨e _ (by omega) (by omega) , q2, e _ (by omega) (by omega) , e _ (by omega) (by omega) , e _ (by omega) (by omega) , e _ (by omega) (by omega) ⟩) (fun b c d0 d1 d2 d3 => e _ (by omega) (by omega) ) (fun p p0 p1 => by
    obtain ⟨-, -, -, -, q5, q6, q7⟩ := hI.p (p := p) p0 (by omega)
    have e56 : 0 ≤ M (56 + p) ∧ M (56 + p) ≤ 9 := by
      by_cases c : p = N (84 + b)
      · rw [c, v1]; exact hv
      · rw [e _ (by omega) (by omega) ]; exact q6
    rw [e (44 + p) (by omega) (by omega) , e (8 + p) (by omega) (by omega) , m1]
    refine ⟨q5, e56, fun hk => ?_⟩
    rcases q7 hk with ⟨h1, h2⟩ | ⟨h1, h2⟩
    · exact Or.inl ⟨h1, fun b c0 c1 => by rw [e _ (by omega) (by omega) ]; exact h2 b c0 c1⟩
    · exact Or.inr ⟨h1, by rw [e _ (by omega) (by omega) ]; exact h2⟩) (fun p p0 p1 => by omega) (fun b p0 p1 => by omega) (fun b p0 p1 => by omega) (fun b p0 p1 => by omega) (fun b c p0 p1 => by omega) hr

theorem IV_turns0 {N : NN} {k b v : Int} (hI : IV N k) (hb : 0 ≤ b ∧ b < N 1) (hv : 0 ≤ v ∧ v ≤ 9) : IV (uI N (132 + b) (v)) k := by
  obtain ⟨b0, b1, b2, b3, b4, b5⟩ := hI.n
  obtain ⟨z1, z2, z3, -⟩ := hI.b hb.1 hb.2
  have e : ∀ j, j ≠ 132 + b → (uI N (132 + b) (v)) j = N j := by
    intro j q0
    rw [uI_n q0]
  have v0 : (uI N (132 + b) (v)) (132 + b) = v := by unfold uI; (repeat (first | rewrite [if_pos (by omega)] | rewrite [if_neg (by omega)] | dsimp only)); (try rfl)
  have hr : ∀ j, inR ((uI N (132 + b) (v)) j) := (inR_uI hI.r ⟨by omega, by omega⟩)
  generalize (uI N (132 + b) (v)) = M at e v0 hr ⊢
  have m0 : M 0 = N 0 := e 0 (by omega) 
  have m1 : M 1 = N 1 := e 1 (by omega) 
  have m2 : M 2 = N 2 := e 2 (by omega) 
  have m3 : M 3 = N 3 := e 3 (by omega) 
  have m4 : M 4 = N 4 := e 4 (by omega) 
  have m5 : M 5 = N 5 := e 5 (by omega) 
  refine hI.grow ⟨by omega, by omega, by omega, by omega, by omega, by omega⟩ ⟨by omega, by omega, by omega, by omega, by omega, by omega⟩ (fun p p0 p1 => ⟨e _ (by omega) , e _ (by omega) , e _ (by omega) ⟩) (fun x d0 d1 => by
    obtain ⟨-, -, -, q4, q5, -⟩ := hI.b d0 d1
    rw [e (116 + x) (by omega) ]
    refine ⟨e _ (by omega) , e _ (by omega) , e _ (by omega) , q4, ?_⟩
    by_cases c : x = b
    · subst c; rw [v0]; exact hv
    · rw [e _ (by omega) ]; exact q5) (fun f d0 d1 => ⟨e _ (by omega) , e _ (by omega) , e _ (by omega) ⟩) (fun x d0 d1 => by
    obtain ⟨-, q2, -⟩ := hI.g d0 d1
    rw [e (424 + x) (by omega) ]
    exact ⟨e _ (by omega) , q2, e _ (by omega) , e _ (by omega) , e _ (by omega) , e _ (by omega) ⟩) (fun b c d0 d1 d2 d3 => e _ (by omega) ) (fun p p0 p1 => by
    obtain ⟨-, -, -, -, q5, q6, q7⟩ := hI.p (p := p) p0 (by omega)
    rw [e (44 + p) (by omega) , e (56 + p) (by omega) , e (8 + p) (by omega) , m1]
    refine ⟨q5, q6, fun hk => ?_⟩
    rcases q7 hk with ⟨h1, h2⟩ | ⟨h1, h2⟩
    · exact Or.inl ⟨h1, fun b c0 c1 => by rw [e _ (by omega) ]; exact h2 b c0 c1⟩
    · exact Or.inr ⟨h1, by rw [e _ (by omega) ]; exact h2⟩) (fun p p0 p1 => by omega) (fun b p0 p1 => by omega) (fun b p0 p1 => by omega) (fun b p0 p1 => by omega) (fun b c p0 p1 => by omega) hr
