/-! rows when one bag goes -/
def rmS (σ : SS) (i l : Int) : SS := up (sK σ 1 i (shf (σ 1 0 i) l (σ 0 0 i 4 - 1))) 0 0 i 4 (σ 0 0 i 4 - 1)
def lvP (σ : SS) (i g : Int) : SS := if fstI (fun j => decide (σ 1 0 i j = g)) 0 (σ 0 0 i 4) = -1 then σ else rmS σ i (fstI (fun j => decide (σ 1 0 i j = g)) 0 (σ 0 0 i 4))
theorem lvP_eq {σ : SS} {N : NN} {i g : Int} (hr : RHr1 σ 0 N i) (h5 : N (8 + i) ≠ 5) (hg : 0 ≤ g ∧ g < N 3) (hat : N (484 + g) = wcK (N (8 + i)) ∧ N (544 + g) = i) : ∃ l, (0 ≤ l ∧ l < σ 0 0 i 4 ∧ σ 1 0 i l = g) ∧ lvP σ i g = rmS σ i l := by
  obtain ⟨l, l0, l1, e⟩ := hr.2.2.2.2 h5 g hg.1 hg.2 hat.1 hat.2
  have hx := (hr.srt h5 (by omega)).idx l0 l1
  rw [e] at hx
  refine ⟨l, ⟨l0, l1, e⟩, ?_⟩
  unfold lvP
  rw [hx, if_neg (by omega)]
theorem wcK_n {w : Int} (h : w = 1 ∨ 4 ≤ w) (k : Int) : w ≠ wcK k := by
  rcases wcK_c k with q | q | q <;> rw [q] <;> omega
theorem RHr.leave {σ τ : SS} {N M : NN} {i g l : Int} (h : RHr σ 0 N) (hi : 0 ≤ i ∧ i < N 0) (hn : N 0 ≤ 12 ∧ N 3 ≤ 60) (hl : 0 ≤ l ∧ l < σ 0 0 i 4 ∧ σ 1 0 i l = g) (hgi : N (544 + g) = i) (t4 : ∀ x, τ 0 0 x 4 = rmS σ i l 0 0 x 4) (t1 : τ 1 0 = rmS σ i l 1 0) (h0 : M 0 = N 0) (h3 : M 3 = N 3) (hk : ∀ x, 0 ≤ x → x < N 0 → M (8 + x) = N (8 + x)) (hx : ∀ x, 0 ≤ x → x < N 3 → x ≠ g → smB N M x) (hM : M (484 + g) = 1 ∨ 4 ≤ M (484 + g)) : RHr τ 0 M := by
  intro x x0 x1
  rw [h0] at x1
  by_cases q : x = i
  · subst q
    refine (h x x0 x1).leave hl.1 hl.2.1 hl.2.2 (by rw [t4]; exact (by unfold rmS up sK shf; (repeat (first | rewrite [if_pos (by omega)] | rewrite [if_neg (by omega)] | dsimp only)); (try rfl))) (fun j j0 j1 => by rw [t1]; by_cases c : l ≤ j; (rw [if_pos c]; exact (by unfold rmS up sK shf; (repeat (first | rewrite [if_pos (by omega)] | rewrite [if_neg (by omega)] | dsimp only)); (try rfl))); (rw [if_neg c]; exact (by unfold rmS up sK shf; (repeat (first | rewrite [if_pos (by omega)] | rewrite [if_neg (by omega)] | dsimp only)); (try rfl)))) (hk x x0 x1) h3 hx (fun w => wcK_n hM _ w.1)
  · refine (h x x0 x1).keep (by rw [t4]; exact (by unfold rmS up sK shf; (repeat (first | rewrite [if_pos (by omega)] | rewrite [if_neg (by omega)] | dsimp only)); (try rfl))) (fun j j0 j1 => by rw [t1]; exact (by unfold rmS up sK shf; (repeat (first | rewrite [if_pos (by omega)] | rewrite [if_neg (by omega)] | dsimp only)); (try rfl))) (hk x x0 x1) (by omega) (fun y y0 y1 => ?_)
    rw [h3] at y1
    by_cases c : y = g
    · subst c
      exact Or.inr ⟨fun w => wcK_n hM _ w.1, fun _ w => q (by rw [← w.2, hgi])⟩
    · exact Or.inl ⟨y1, hx y y0 y1 c⟩
theorem RHr.none {σ τ : SS} {N M : NN} {g : Int} (h : RHr σ 0 N) (t4 : ∀ x, τ 0 0 x 4 = σ 0 0 x 4) (t1 : τ 1 0 = σ 1 0) (h0 : M 0 = N 0) (h3 : M 3 = N 3) (hk : ∀ x, 0 ≤ x → x < N 0 → M (8 + x) = N (8 + x)) (hx : ∀ x, 0 ≤ x → x < N 3 → x ≠ g → smB N M x) (hN : N (484 + g) = 1 ∨ 4 ≤ N (484 + g)) (hM : M (484 + g) = 1 ∨ 4 ≤ M (484 + g)) : RHr τ 0 M := by
  intro x x0 x1
  rw [h0] at x1
  refine (h x x0 x1).keep (t4 x) (fun j j0 j1 => by rw [t1]) (hk x x0 x1) (by omega) (fun y y0 y1 => ?_)
  rw [h3] at y1
  by_cases c : y = g
  · subst c
    exact Or.inr ⟨fun w => wcK_n hM _ w.1, fun _ w => wcK_n hN _ w.1⟩
  · exact Or.inl ⟨y1, hx y y0 y1 c⟩
theorem RHr.enter {σ τ : SS} {N M : NN} {g i : Int} (h : RHr σ 0 N) (hi : 0 ≤ i ∧ i < N 0) (h60 : σ 0 0 i 4 < 60) (t4 : ∀ x, τ 0 0 x 4 = if x = i then σ 0 0 i 4 + 1 else σ 0 0 x 4) (t1 : ∀ x j, τ 1 0 x j = if x = i ∧ j = σ 0 0 i 4 then g else σ 1 0 x j) (h0 : M 0 = N 0) (h3 : M 3 = N 3) (hg : 0 ≤ g ∧ g < N 3) (hk : ∀ x, 0 ≤ x → x < N 0 → M (8 + x) = N (8 + x)) (h5 : N (8 + i) ≠ 5) (hx : ∀ x, 0 ≤ x → x < N 3 → x ≠ g → smB N M x) (hN : N (484 + g) = 1 ∨ 4 ≤ N (484 + g)) (hM : M (484 + g) = wcK (N (8 + i)) ∧ M (544 + g) = i) (hlt : ∀ x, 0 ≤ x → x < N 3 → N (484 + x) = wcK (N (8 + i)) → N (544 + x) = i → N (604 + x) < M (604 + g)) : RHr τ 0 M := by
  intro x x0 x1
  rw [h0] at x1
  by_cases q : x = i
  · subst q
    refine (h x x0 x1).join (by rw [t4, if_pos rfl]) h60 (fun j j0 j1 => by rw [t1, if_neg (by omega)]) (by rw [t1, if_pos ⟨rfl, rfl⟩]) (hk x x0 x1) h5 (by omega) ⟨hg.1, by omega⟩ hM (fun _ w => wcK_n hN _ w.1) (fun y y0 y1 yn => ⟨by omega, hx y y0 (by omega) yn⟩) hlt
  · refine (h x x0 x1).keep (by rw [t4, if_neg q]) (fun j j0 j1 => by rw [t1, if_neg (fun w => q w.1)]) (hk x x0 x1) (by omega) (fun y y0 y1 => ?_)
    rw [h3] at y1
    by_cases c : y = g
    · subst c
      exact Or.inr ⟨fun w => q (by rw [← w.2]; exact hM.2.symm ▸ rfl), fun _ w => wcK_n hN _ w.1⟩
    · exact Or.inl ⟨y1, hx y y0 y1 c⟩

theorem RH_take1 {σ : SS} {N : NN} {k g : Int} (hI : IV N k) (hg : 0 ≤ g ∧ g < N 3) (hH : RH σ 0 N) (hw : N (484 + g) = 1) : RH (liftS σ g) 0 (liesN (uI N (148 + 12 * N (544 + g) + N (604 + g)) 0) g 4 (-100) 0) := by
  obtain ⟨b0, b1, b2, b3, b4, b5⟩ := hI.n
  obtain ⟨n0, n1, n2, n3, n4⟩ := hH.n
  obtain ⟨w0, w1, w2, w3, w4, w5⟩ := hH.g g hg.1 hg.2
  obtain ⟨-, -, -, w⟩ := hI.g hg.1 hg.2
  unfold wI at w
  have hcell := cell_of hI hH.c hH.b hg hw
  have z2 : (0 ≤ N (544 + g) ∧ N (544 + g) < N 1) ∧ (0 ≤ N (604 + g) ∧ N (604 + g) < N (100 + N (544 + g))) := by omega
  obtain ⟨z3, z4⟩ := z2
  obtain ⟨-, -, l1, -⟩ := hI.b z3.1 z3.2
  have hT : liftS σ g = (up (up (up σ 3 0 (N (544 + g)) (N (604 + g)) (-1)) 5 0 g 2 4) 5 0 g 3 (-100)) := by
    unfold liftS outC
    rw [if_pos (by omega), w3, hcell, if_neg (by omega)]
  rw [hT]
  have e : ∀ j, j ≠ 484 + g → j ≠ 544 + g → j ≠ 604 + g → j ≠ 148 + 12 * N (544 + g) + N (604 + g) → (liesN (uI N (148 + 12 * N (544 + g) + N (604 + g)) 0) g 4 (-100) 0) j = N j := by
    intro j q0 q1 q2 q3
    unfold liesN uI; (repeat (first | rewrite [if_pos (by omega)] | rewrite [if_neg (by omega)] | dsimp only)); (try rfl)
  have v0 : (liesN (uI N (148 + 12 * N (544 + g) + N (604 + g)) 0) g 4 (-100) 0) (484 + g) = 4 := by unfold liesN uI; (repeat (first | rewrite [if_pos (by omega)] | rewrite [if_neg (by omega)] | dsimp only)); (try rfl)
  have v1 : (liesN (uI N (148 + 12 * N (544 + g) + N (604 + g)) 0) g 4 (-100) 0) (544 + g) = -100 := by unfold liesN uI; (repeat (first | rewrite [if_pos (by omega)] | rewrite [if_neg (by omega)] | dsimp only)); (try rfl)
  have v2 : (liesN (uI N (148 + 12 * N (544 + g) + N (604 + g)) 0) g 4 (-100) 0) (604 + g) = 0 := by unfold liesN uI; (repeat (first | rewrite [if_pos (by omega)] | rewrite [if_neg (by omega)] | dsimp only)); (try rfl)
  have v3 : (liesN (uI N (148 + 12 * N (544 + g) + N (604 + g)) 0) g 4 (-100) 0) (148 + 12 * N (544 + g) + N (604 + g)) = 0 := by unfold liesN uI; (repeat (first | rewrite [if_pos (by omega)] | rewrite [if_neg (by omega)] | dsimp only)); (try rfl)
  generalize (liesN (uI N (148 + 12 * N (544 + g) + N (604 + g)) 0) g 4 (-100) 0) = M at e v0 v1 v2 v3 ⊢
  refine hH.mv (g := g) ⟨e 0 (by omega) (by omega) (by omega) (by omega) , e 1 (by omega) (by omega) (by omega) (by omega) , e 2 (by omega) (by omega) (by omega) (by omega) , e 3 (by omega) (by omega) (by omega) (by omega) , e 4 (by omega) (by omega) (by omega) (by omega) ⟩ ⟨b0, b1, b2, b3⟩ (fun j _ hj => e j (by omega) (by omega) (by omega) (by omega) ) (fun x x0 x1 xn => e _ (by omega) (by omega) (by omega) (by omega) ) (fun x x0 x1 xn => ⟨e _ (by omega) (by omega) (by omega) (by omega) , e _ (by omega) (by omega) (by omega) (by omega) , e _ (by omega) (by omega) (by omega) (by omega) ⟩) rfl (fun i j hj => (by unfold up; (repeat (first | rewrite [if_pos (by omega)] | rewrite [if_neg (by omega)] | dsimp only)); (try rfl))) (fun b j hj => (by unfold up; (repeat (first | rewrite [if_pos (by omega)] | rewrite [if_neg (by omega)] | dsimp only)); (try rfl))) rfl (fun x hx => by funext j; exact (by unfold up; (repeat (first | rewrite [if_pos (by omega)] | rewrite [if_neg (by omega)] | dsimp only)); (try rfl))) rfl (fun b c c0 c1 c2 c3 => by
    rw [e 1 (by omega) (by omega) (by omega) (by omega) ] at c1
    by_cases q : 148 + 12 * b + c = 148 + 12 * N (544 + g) + N (604 + g)
    · obtain ⟨rfl, rfl⟩ := cell_i ⟨c2, c3⟩ ⟨z4.1, by omega⟩ q
      rw [v3]; exact (by unfold up; (repeat (first | rewrite [if_pos (by omega)] | rewrite [if_neg (by omega)] | dsimp only)); (try rfl))
    · rw [e _ (by omega) (by omega) (by omega) q, ← hH.c b c c0 c1 c2 c3]; exact (by unfold up; (repeat (first | rewrite [if_pos (by omega)] | rewrite [if_neg (by omega)] | dsimp only)); (try rfl))) (fun _ _ => by rw [v0, v1, v2, e (424 + g) (by omega) (by omega) (by omega) (by omega) ]; exact ⟨(by unfold up; (repeat (first | rewrite [if_pos (by omega)] | rewrite [if_neg (by omega)] | dsimp only)); (try rfl)), by rw [← w1]; exact (by unfold up; (repeat (first | rewrite [if_pos (by omega)] | rewrite [if_neg (by omega)] | dsimp only)); (try rfl)), (by unfold up; (repeat (first | rewrite [if_pos (by omega)] | rewrite [if_neg (by omega)] | dsimp only)); (try rfl)), (by unfold up; (repeat (first | rewrite [if_pos (by omega)] | rewrite [if_neg (by omega)] | dsimp only)); (try rfl)), fun _ h => absurd rfl h, (by unfold up; (repeat (first | rewrite [if_pos (by omega)] | rewrite [if_neg (by omega)] | dsimp only)); (try rfl))⟩) ?_
  exact hH.r.none (g := g) (fun _ => rfl) rfl (e 0 (by omega) (by omega) (by omega) (by omega) ) (e 3 (by omega) (by omega) (by omega) (by omega) ) (fun x x0 x1 => e _ (by omega) (by omega) (by omega) (by omega) ) (fun x x0 x1 xn => ⟨e _ (by omega) (by omega) (by omega) (by omega) , e _ (by omega) (by omega) (by omega) (by omega) , e _ (by omega) (by omega) (by omega) (by omega) ⟩) (Or.inl hw) (Or.inr (by omega))

theorem RH_take2 {σ : SS} {N : NN} {k g : Int} (hI : IV N k) (hg : 0 ≤ g ∧ g < N 3) (hH : RH σ 0 N) (hw : N (484 + g) = 2) : RH (liftS σ g) 0 (liesN (uI N (32 + N (544 + g)) 0) g 4 (-100) 0) := by
  obtain ⟨b0, b1, b2, b3, b4, b5⟩ := hI.n
  obtain ⟨n0, n1, n2, n3, n4⟩ := hH.n
  obtain ⟨w0, w1, w2, w3, w4, w5⟩ := hH.g g hg.1 hg.2
  obtain ⟨-, -, -, w⟩ := hI.g hg.1 hg.2
  unfold wI at w
  have z2 : (0 ≤ N (544 + g) ∧ N (544 + g) < N 0) ∧ N (8 + N (544 + g)) ≠ 5 := by omega
  have z3 : N (484 + g) = wcK (N (8 + N (544 + g))) := by
    unfold wcK
    (repeat (first | rewrite [if_pos (by omega)] | rewrite [if_neg (by omega)]))
    omega
  obtain ⟨l, hl, hlv⟩ := lvP_eq (hH.r _ z2.1.1 z2.1.2) z2.2 hg ⟨z3, rfl⟩
  have hT : liftS σ g = (up (up (rmS σ (N (544 + g)) l) 5 0 g 2 4) 5 0 g 3 (-100)) := by
    unfold liftS
    rw [if_neg (by omega), ← hlv]
    show up (up (lvP σ (σ 5 0 g 3) g) 5 0 g 2 4) 5 0 g 3 (-100) = _
    rw [w3]
  rw [hT]
  have e : ∀ j, j ≠ 484 + g → j ≠ 544 + g → j ≠ 604 + g → j ≠ 32 + N (544 + g) → (liesN (uI N (32 + N (544 + g)) 0) g 4 (-100) 0) j = N j := by
    intro j q0 q1 q2 q3
    unfold liesN uI; (repeat (first | rewrite [if_pos (by omega)] | rewrite [if_neg (by omega)] | dsimp only)); (try rfl)
  have v0 : (liesN (uI N (32 + N (544 + g)) 0) g 4 (-100) 0) (484 + g) = 4 := by unfold liesN uI; (repeat (first | rewrite [if_pos (by omega)] | rewrite [if_neg (by omega)] | dsimp only)); (try rfl)
  have v1 : (liesN (uI N (32 + N (544 + g)) 0) g 4 (-100) 0) (544 + g) = -100 := by unfold liesN uI; (repeat (first | rewrite [if_pos (by omega)] | rewrite [if_neg (by omega)] | dsimp only)); (try rfl)
  have v2 : (liesN (uI N (32 + N (544 + g)) 0) g 4 (-100) 0) (604 + g) = 0 := by unfold liesN uI; (repeat (first | rewrite [if_pos (by omega)] | rewrite [if_neg (by omega)] | dsimp only)); (try rfl)
  have v3 : (liesN (uI N (32 + N (544 + g)) 0) g 4 (-100) 0) (32 + N (544 + g)) = 0 := by unfold liesN uI; (repeat (first | rewrite [if_pos (by omega)] | rewrite [if_neg (by omega)] | dsimp only)); (try rfl)
  generalize (liesN (uI N (32 + N (544 + g)) 0) g 4 (-100) 0) = M at e v0 v1 v2 v3 ⊢
  refine hH.mv (g := g) ⟨e 0 (by omega) (by omega) (by omega) (by omega) , e 1 (by omega) (by omega) (by omega) (by omega) , e 2 (by omega) (by omega) (by omega) (by omega) , e 3 (by omega) (by omega) (by omega) (by omega) , e 4 (by omega) (by omega) (by omega) (by omega) ⟩ ⟨b0, b1, b2, b3⟩ (fun j _ hj => e j (by omega) (by omega) (by omega) (by omega) ) (fun x x0 x1 xn => e _ (by omega) (by omega) (by omega) (by omega) ) (fun x x0 x1 xn => ⟨e _ (by omega) (by omega) (by omega) (by omega) , e _ (by omega) (by omega) (by omega) (by omega) , e _ (by omega) (by omega) (by omega) (by omega) ⟩) rfl (fun i j hj => (by unfold rmS up sK; (repeat (first | rewrite [if_pos (by omega)] | rewrite [if_neg (by omega)] | dsimp only)); (try rfl))) (fun b j hj => (by unfold rmS up sK; (repeat (first | rewrite [if_pos (by omega)] | rewrite [if_neg (by omega)] | dsimp only)); (try rfl))) rfl (fun x hx => by funext j; exact (by unfold rmS up sK; (repeat (first | rewrite [if_pos (by omega)] | rewrite [if_neg (by omega)] | dsimp only)); (try rfl))) rfl (hH.c.same rfl (e 1 (by omega) (by omega) (by omega) (by omega) ) (by omega) (fun j _ _ => e j (by omega) (by omega) (by omega) (by omega) )) (fun _ _ => by rw [v0, v1, v2, e (424 + g) (by omega) (by omega) (by omega) (by omega) ]; exact ⟨(by unfold rmS up sK; (repeat (first | rewrite [if_pos (by omega)] | rewrite [if_neg (by omega)] | dsimp only)); (try rfl)), by rw [← w1]; exact (by unfold rmS up sK; (repeat (first | rewrite [if_pos (by omega)] | rewrite [if_neg (by omega)] | dsimp only)); (try rfl)), (by unfold rmS up sK; (repeat (first | rewrite [if_pos (by omega)] | rewrite [if_neg (by omega)] | dsimp only)); (try rfl)), (by unfold rmS up sK; (repeat (first | rewrite [if_pos (by omega)] | rewrite [if_neg (by omega)] | dsimp only)); (try rfl)), fun _ h => absurd rfl h, (by unfold rmS up sK; (repeat (first | rewrite [if_pos (by omega)] | rewrite [if_neg (by omega)] | dsimp only)); (try rfl))⟩) ?_
  exact hH.r.leave (g := g) z2.1 ⟨by omega, by omega⟩ hl rfl (fun _ => rfl) rfl (e 0 (by omega) (by omega) (by omega) (by omega) ) (e 3 (by omega) (by omega) (by omega) (by omega) ) (fun x x0 x1 => e _ (by omega) (by omega) (by omega) (by omega) ) (fun x x0 x1 xn => ⟨e _ (by omega) (by omega) (by omega) (by omega) , e _ (by omega) (by omega) (by omega) (by omega) , e _ (by omega) (by omega) (by omega) (by omega) ⟩) (Or.inr (by omega))

theorem RH_take3 {σ : SS} {N : NN} {k g : Int} (hI : IV N k) (hg : 0 ≤ g ∧ g < N 3) (hH : RH σ 0 N) (hw : N (484 + g) = 0 ∨ N (484 + g) = 3) : RH (liftS σ g) 0 (liesN N g 4 (-100) 0) := by
  obtain ⟨b0, b1, b2, b3, b4, b5⟩ := hI.n
  obtain ⟨n0, n1, n2, n3, n4⟩ := hH.n
  obtain ⟨w0, w1, w2, w3, w4, w5⟩ := hH.g g hg.1 hg.2
  obtain ⟨-, -, -, w⟩ := hI.g hg.1 hg.2
  unfold wI at w
  have z2 : (0 ≤ N (544 + g) ∧ N (544 + g) < N 0) ∧ N (8 + N (544 + g)) ≠ 5 := by omega
  have z3 : N (484 + g) = wcK (N (8 + N (544 + g))) := by
    rcases hw with q | q
    · rw [wcK0 (by omega)]; exact q
    · rw [wcK4 (by omega)]; exact q
  obtain ⟨l, hl, hlv⟩ := lvP_eq (hH.r _ z2.1.1 z2.1.2) z2.2 hg ⟨z3, rfl⟩
  have hT : liftS σ g = (up (up (rmS σ (N (544 + g)) l) 5 0 g 2 4) 5 0 g 3 (-100)) := by
    unfold liftS
    rw [if_neg (by omega), ← hlv]
    show up (up (lvP σ (σ 5 0 g 3) g) 5 0 g 2 4) 5 0 g 3 (-100) = _
    rw [w3]
  rw [hT]
  have e : ∀ j, j ≠ 484 + g → j ≠ 544 + g → j ≠ 604 + g → (liesN N g 4 (-100) 0) j = N j := by
    intro j q0 q1 q2
    unfold liesN uI; (repeat (first | rewrite [if_pos (by omega)] | rewrite [if_neg (by omega)] | dsimp only)); (try rfl)
  have v0 : (liesN N g 4 (-100) 0) (484 + g) = 4 := by unfold liesN uI; (repeat (first | rewrite [if_pos (by omega)] | rewrite [if_neg (by omega)] | dsimp only)); (try rfl)
  have v1 : (liesN N g 4 (-100) 0) (544 + g) = -100 := by unfold liesN uI; (repeat (first | rewrite [if_pos (by omega)] | rewrite [if_neg (by omega)] | dsimp only)); (try rfl)
  have v2 : (liesN N g 4 (-100) 0) (604 + g) = 0 := by unfold liesN uI; (repeat (first | rewrite [if_pos (by omega)] | rewrite [if_neg (by omega)] | dsimp only)); (try rfl)
  generalize (liesN N g 4 (-100) 0) = M at e v0 v1 v2 ⊢
  refine hH.mv (g := g) ⟨e 0 (by omega) (by omega) (by omega) , e 1 (by omega) (by omega) (by omega) , e 2 (by omega) (by omega) (by omega) , e 3 (by omega) (by omega) (by omega) , e 4 (by omega) (by omega) (by omega) ⟩ ⟨b0, b1, b2, b3⟩ (fun j _ hj => e j (by omega) (by omega) (by omega) ) (fun x x0 x1 xn => e _ (by omega) (by omega) (by omega) ) (fun x x0 x1 xn => ⟨e _ (by omega) (by omega) (by omega) , e _ (by omega) (by omega) (by omega) , e _ (by omega) (by omega) (by omega) ⟩) rfl (fun i j hj => (by unfold rmS up sK; (repeat (first | rewrite [if_pos (by omega)] | rewrite [if_neg (by omega)] | dsimp only)); (try rfl))) (fun b j hj => (by unfold rmS up sK; (repeat (first | rewrite [if_pos (by omega)] | rewrite [if_neg (by omega)] | dsimp only)); (try rfl))) rfl (fun x hx => by funext j; exact (by unfold rmS up sK; (repeat (first | rewrite [if_pos (by omega)] | rewrite [if_neg (by omega)] | dsimp only)); (try rfl))) rfl (hH.c.same rfl (e 1 (by omega) (by omega) (by omega) ) (by omega) (fun j _ _ => e j (by omega) (by omega) (by omega) )) (fun _ _ => by rw [v0, v1, v2, e (424 + g) (by omega) (by omega) (by omega) ]; exact ⟨(by unfold rmS up sK; (repeat (first | rewrite [if_pos (by omega)] | rewrite [if_neg (by omega)] | dsimp only)); (try rfl)), by rw [← w1]; exact (by unfold rmS up sK; (repeat (first | rewrite [if_pos (by omega)] | rewrite [if_neg (by omega)] | dsimp only)); (try rfl)), (by unfold rmS up sK; (repeat (first | rewrite [if_pos (by omega)] | rewrite [if_neg (by omega)] | dsimp only)); (try rfl)), (by unfold rmS up sK; (repeat (first | rewrite [if_pos (by omega)] | rewrite [if_neg (by omega)] | dsimp only)); (try rfl)), fun _ h => absurd rfl h, (by unfold rmS up sK; (repeat (first | rewrite [if_pos (by omega)] | rewrite [if_neg (by omega)] | dsimp only)); (try rfl))⟩) ?_
  exact hH.r.leave (g := g) z2.1 ⟨by omega, by omega⟩ hl rfl (fun _ => rfl) rfl (e 0 (by omega) (by omega) (by omega) ) (e 3 (by omega) (by omega) (by omega) ) (fun x x0 x1 => e _ (by omega) (by omega) (by omega) ) (fun x x0 x1 xn => ⟨e _ (by omega) (by omega) (by omega) , e _ (by omega) (by omega) (by omega) , e _ (by omega) (by omega) (by omega) ⟩) (Or.inr (by omega))

theorem take_all {σ : SS} {N : NN} {k g : Int} (hI : IV N k) (hg : 0 ≤ g ∧ g < N 3) (hH : RH σ 0 N) (hw : N (484 + g) < 4) : ∃ M : NN, s_take N g = (1, M, 0) ∧ IV M k ∧ RH (liftS σ g) 0 M ∧ M 0 = N 0 ∧ M 1 = N 1 ∧ ∀ j, (8 ≤ j ∧ j < 20) ∨ (68 ≤ j ∧ j < 132) → M j = N j := by
  obtain ⟨b0, b1, b2, b3, b4, b5⟩ := hI.n
  obtain ⟨-, -, -, w⟩ := hI.g hg.1 hg.2
  unfold wI at w
  by_cases h1 : N (484 + g) = 1
  · have z2 : (0 ≤ N (544 + g) ∧ N (544 + g) < N 1) ∧ (0 ≤ N (604 + g) ∧ N (604 + g) < N (100 + N (544 + g))) := by omega
    refine ⟨_, by unfold s_take; (repeat (first | rewrite [if_pos (by omega)] | rewrite [if_neg (by omega)])); rfl, IV_take1 hI hg h1, RH_take1 hI hg hH h1, ?_, ?_, fun j hj => ?_⟩ <;> (unfold liesN; repeat rw [uI_n (by omega)])
  · by_cases h2 : N (484 + g) = 2
    · refine ⟨_, by unfold s_take; (repeat (first | rewrite [if_pos (by omega)] | rewrite [if_neg (by omega)])); rfl, IV_take2 hI hg h2, RH_take2 hI hg hH h2, ?_, ?_, fun j hj => ?_⟩ <;> (unfold liesN; repeat rw [uI_n (by omega)])
    · refine ⟨_, by unfold s_take; (repeat (first | rewrite [if_pos (by omega)] | rewrite [if_neg (by omega)])); rfl, IV_take3 hI hg (by omega), RH_take3 hI hg hH (by omega), ?_, ?_, fun j hj => ?_⟩ <;> (unfold liesN; repeat rw [uI_n (by omega)])
theorem RG_lift {σ : SS} {b : Int} (hR : RG σ) (h : ∀ i, 0 ≤ σ 0 0 i 4 → inR (σ 0 0 i 4 - 1)) (h0 : 0 ≤ σ 0 0 (σ 5 0 b 3) 4 ∨ σ 5 0 b 2 = 1) : RG (liftS σ b) := by
  unfold liftS
  refine RG_up (RG_up ?_ ⟨by decide, by decide⟩) ⟨by decide, by decide⟩
  split
  · unfold outC
    split
    · exact hR
    · exact RG_up hR ⟨by decide, by decide⟩
  · rename_i q
    unfold outP
    split
    · exact hR
    · refine RG_up (RG_sK hR (fun j => ?_)) (h _ (by omega))
      unfold shf
      split <;> exact hR.1 _ _ _ _
theorem lift_o {σ : SS} {b : Int} {a : Nat} {t i : Int} (h : 10 ≤ a ∨ t ≠ 0) : liftS σ b a t i = σ a t i := by
  unfold liftS
  rw [up_o (by decide) h, up_o (by decide) h]
  split
  · unfold outC
    split
    · rfl
    · rw [up_o (by decide) h]
  · unfold outP
    split
    · rfl
    · rw [up_o (by decide) h, sK_o (by decide) h]
theorem lift_k {σ : SS} {b : Int} {a : Nat} (h : a ≠ 0) (h1 : a ≠ 1) (h3 : a ≠ 3) (h5 : a ≠ 5) : liftS σ b a = σ a := by
  funext t i j
  have hu : ∀ (τ : SS) (a' : Nat) (i' j' v : Int), a ≠ a' → up τ a' 0 i' j' v a t i j = τ a t i j := fun τ a' i' j' v hne => if_neg (fun q => hne q.1)
  unfold liftS
  rw [hu _ _ _ _ _ h5, hu _ _ _ _ _ h5]
  split
  · unfold outC
    split
    · rfl
    · rw [hu _ _ _ _ _ h3]
  · unfold outP
    split
    · rfl
    · rw [hu _ _ _ _ _ h, sK_n (Or.inl h1)]

set_option maxRecDepth 100000 in
theorem c_X6_take {g : GG} {kp : Bool} {σ : SS} (hR : RG σ) {N : NN} {kk : Int} (hI : IV N kk) (hH : RH σ 0 N) (hS : SM σ N) (h8 : ∀ i j, σ 8 0 i j ≤ 1000000) (h9 : 0 ≤ σ 9 0 0 0 ∧ σ 9 0 0 0 ≤ 1000000) (b : Int) (hb : inR b)  : TC g kp 3 mX6_take [rf g (ad 9 0 0), vi b] σ (fun r τ => r = some (vi (s_take N b).1) ∧ CR σ τ (s_take N b).2.1 (s_take N b).2.2) := by
  refine TC.of (by decide) (Nat.le_of_ble_eq_true rfl) rfl ?_
  obtain ⟨b0, b1, b2, b3, b4, b5⟩ := hI.n
  obtain ⟨n0, n1, n2, n3, n4⟩ := hH.n
  refine v_aload_n 0 dX6_take_0 (nx := 1) rfl rfl ?_
  refine t_get (a := 9) (p := 0) (T := TX6) dX6_take_1 (nx := 4) rfl (by decide) (ok_m 9 rfl) rfl rfl iU6 (by decide) fl_X6_10 rfl ?_
  refine v_iload_n 1 dX6_take_4 (nx := 5) rfl rfl ?_
  refine t_callVi (a := 7) (c_X3_hasBag hR _ (by first | assumption | exact hR.1 _ _ _ _ | exact ⟨by omega, by omega⟩)) dX6_take_5 (nx := 8) rfl kX3_hasBag ml_X6_132 (by decide) (ok_m 7 rfl) rfl rfl rfl rfl (Nat.le_of_ble_eq_true rfl) ⟨by decide, by decide⟩ ⟨by decide, by decide⟩ ?_
  refine v_ifB_ne dX6_take_8 (tgt := 17) (by decide) (nx := 11) rfl (fun c8 => ?_) (fun c8 => ?_)
  · obtain ⟨e0, e1, e2, e3, e4, e5⟩ := hH.g b (by omega) (by omega)
    refine v_aload_n 0 dX6_take_17 (nx := 18) rfl rfl ?_
    refine t_get (a := 9) (p := 0) (T := TX6) dX6_take_18 (nx := 21) rfl (by decide) (ok_m 9 rfl) rfl rfl iU6 (by decide) fl_X6_10 rfl ?_
    refine t_get (a := 7) (p := 3) (T := TX3) dX6_take_21 (nx := 24) rfl (by decide) (ok_m 7 rfl) rfl rfl iU3 (by decide) fl_X6_120 rfl ?_
    refine v_iload_n 1 dX6_take_24 (nx := 25) rfl rfl ?_
    refine t_ldG dX6_take_25 (nx := 26) rfl (ok_m 18 rfl) ⟨by omega, by omega⟩ ?_
    refine t_get (a := 5) (p := 2) (T := TX0) dX6_take_26 (nx := 29) rfl (by decide) (by first | assumption | exact ok_5 ⟨by omega, by omega⟩) rfl rfl iU0 (by decide) fl_X6_135 rfl ?_
    refine v_iconst dX6_take_29 (nx := 30) rfl ?_
    refine v_icmp_lt dX6_take_30 (tgt := 40) (by decide) (nx := 33) rfl (by first | assumption | exact hR.1 _ _ _ _ | exact ⟨by omega, by omega⟩) (by first | assumption | exact hR.1 _ _ _ _ | exact ⟨by omega, by omega⟩) (fun c30 => ?_) (fun c30 => ?_)
    · obtain ⟨-, -, -, hw⟩ := hI.g (g := b) (by omega) (by omega)
      unfold wI at hw
      obtain ⟨M, hst, hIM, hRH, hM0, hM1, hMj⟩ := take_all (g := b) hI ⟨by omega, by omega⟩ hH (by omega)
      have hrow : N (484 + b) ≠ 1 → 0 ≤ σ 0 0 (N (544 + b)) 4 ∧ σ 0 0 (N (544 + b)) 4 ≤ 60 := fun h => (hH.r _ (by omega) (by omega)).1
      refine v_aload_n 0 dX6_take_40 (nx := 41) rfl rfl ?_
      refine t_get (a := 9) (p := 0) (T := TX6) dX6_take_41 (nx := 44) rfl (by decide) (ok_m 9 rfl) rfl rfl iU6 (by decide) fl_X6_10 rfl ?_
      refine v_iload_n 1 dX6_take_44 (nx := 45) rfl rfl ?_
      refine t_callVv (a := 7) (c_X3_lift hR _ (by omega) (by omega) (by omega) (by omega) (fun h => by rw [e3]; have hz : (0 ≤ N (544 + b) ∧ N (544 + b) < N 1) := (by omega); obtain ⟨-, -, l1, -⟩ := hI.b hz.1 hz.2; obtain ⟨-, -, l2, -⟩ := hH.b _ hz.1 hz.2; omega) (fun h => by rw [e3]; have := hrow (by omega); omega)) dX6_take_45 (nx := 48) rfl kX3_lift ml_X6_138 (by decide) (ok_m 7 rfl) rfl rfl rfl rfl (Nat.le_of_ble_eq_true rfl) ⟨by decide, by decide⟩ ⟨by decide, by decide⟩ ?_
      refine v_iconst dX6_take_48 (nx := 49) rfl ?_
      exact t_iret dX6_take_49 rfl (by first | exact cfC hR hH hS h8 h9 (by unfold s_take fnd; (repeat (first | rewrite [if_pos (by omega)] | rewrite [if_neg (by omega)])); rfl) | exact cfA hst rfl ⟨hRH, SM.same hI hS (by rw [lift_k (by decide) (by decide) (by decide) (by decide)]) hM0 hM1 hMj, RG_lift hR (fun i hi => ⟨by omega, by have := (hR.1 0 0 i 4).2; omega⟩) (by by_cases h : N (484 + b) = 1; (right; omega); (left; rw [e3]; exact (hrow h).1)), by rw [lift_k (by decide) (by decide) (by decide) (by decide)]; exact h8, by rw [lift_k (by decide) (by decide) (by decide) (by decide)]; omega, fun a t i h => lift_o (h.imp id (fun q => q.1))⟩ | (exfalso; omega))
    · refine v_aload_n 0 dX6_take_33 (nx := 34) rfl rfl ?_
      refine v_bipush dX6_take_34 (nx := 36) rfl rfl ?_
      refine t_callVi (a := 9) (c_X6_finding _) dX6_take_36 (nx := 39) rfl kX6_finding ml_X6_38 (by decide) (ok_m 9 rfl) rfl rfl rfl rfl (Nat.le_of_ble_eq_true rfl) ⟨by decide, by decide⟩ ⟨by decide, by decide⟩ ?_
      exact t_iret dX6_take_39 rfl (by first | exact cfC hR hH hS h8 h9 (by unfold s_take fnd; (repeat (first | rewrite [if_pos (by omega)] | rewrite [if_neg (by omega)])); rfl) | exact cfA hst rfl ⟨hRH, SM.same hI hS (by rw [lift_k (by decide) (by decide) (by decide) (by decide)]) hM0 hM1 hMj, RG_lift hR (fun i hi => ⟨by omega, by have := (hR.1 0 0 i 4).2; omega⟩) (by by_cases h : N (484 + b) = 1; (right; omega); (left; rw [e3]; exact (hrow h).1)), by rw [lift_k (by decide) (by decide) (by decide) (by decide)]; exact h8, by rw [lift_k (by decide) (by decide) (by decide) (by decide)]; omega, fun a t i h => lift_o (h.imp id (fun q => q.1))⟩ | (exfalso; omega))
  · refine v_aload_n 0 dX6_take_11 (nx := 12) rfl rfl ?_
    refine v_iconst dX6_take_12 (nx := 13) rfl ?_
    refine t_callVi (a := 9) (c_X6_finding _) dX6_take_13 (nx := 16) rfl kX6_finding ml_X6_38 (by decide) (ok_m 9 rfl) rfl rfl rfl rfl (Nat.le_of_ble_eq_true rfl) ⟨by decide, by decide⟩ ⟨by decide, by decide⟩ ?_
    exact t_iret dX6_take_16 rfl (by first | exact cfC hR hH hS h8 h9 (by unfold s_take fnd; (repeat (first | rewrite [if_pos (by omega)] | rewrite [if_neg (by omega)])); rfl) | exact cfA hst rfl ⟨hRH, SM.same hI hS (by rw [lift_k (by decide) (by decide) (by decide) (by decide)]) hM0 hM1 hMj, RG_lift hR (fun i hi => ⟨by omega, by have := (hR.1 0 0 i 4).2; omega⟩) (by by_cases h : N (484 + b) = 1; (right; omega); (left; rw [e3]; exact (hrow h).1)), by rw [lift_k (by decide) (by decide) (by decide) (by decide)]; exact h8, by rw [lift_k (by decide) (by decide) (by decide) (by decide)]; omega, fun a t i h => lift_o (h.imp id (fun q => q.1))⟩ | (exfalso; omega))
