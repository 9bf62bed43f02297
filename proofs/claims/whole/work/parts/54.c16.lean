/-! ===== (3) of a tick in the class's hall ===== -/
def whA (N : NN) (p fl : Int) : Int := if N (8 + p) = 5 then (if N (340 + fl) ≠ p then 7 else if N 4 < N (356 + fl) then 5 else 6) else if N (8 + p) = 4 then 3 else 2
theorem rdy_cls {σ : SS} {N G : NN} {k b : Int} (hI : IV N k) (hG : GI N G) (hH : RH σ 0 N) (hF : FR σ N G) (hb : 0 ≤ b ∧ b < N 1) : (if σ 2 0 b 4 = 0 ∧ ¬ (¬ σ 2 0 b 5 = 0 ∧ σ 2 0 b 2 = 1) then σ 3 0 b (σ 2 0 b 2 - 1) else -1) = rdyN N G b := by
  obtain ⟨b0, b1, b2, b3, b4, b5⟩ := hI.n
  obtain ⟨-, -, l, l4, -⟩ := hI.b hb.1 hb.2
  obtain ⟨-, -, d2, -, d4⟩ := hH.b b hb.1 hb.2
  have hc := hH.c b (N (100 + b) - 1) hb.1 hb.2 (by omega) (by omega)
  have hcc := hI.c hb.1 hb.2 (show 0 ≤ N (100 + b) - 1 by omega) (by omega)
  unfold cI at hcc
  rw [show 148 + 12 * b + (N (100 + b) - 1) = 148 + 12 * b + N (100 + b) - 1 by omega] at hc hcc
  have hfr := hF b hb.1 hb.2
  have hg1 := hG.1 (N (148 + 12 * b + N (100 + b) - 1) - 1)
  have hg2 := hG.2.2 (N (148 + 12 * b + N (100 + b) - 1) - 1)
  rw [d2, d4, hc]
  unfold rdyN
  by_cases c : N (116 + b) = 1
  · rw [if_neg (by omega), if_pos c]
  · rw [if_neg c]
    by_cases l1 : N (100 + b) = 1
    · have ei : 148 + 12 * b + N (100 + b) - 1 = 148 + 12 * b := by omega
      rw [ei] at hc hcc hg1 hg2 ⊢
      by_cases f : σ 2 0 b 5 = 0
      · rw [if_pos (by omega)]
        split <;> omega
      · rw [if_neg (by omega), if_pos (by omega)]
    · rw [if_pos (by omega)]
      have : 1 ≤ N (148 + 12 * b + N (100 + b) - 1) → G (N (148 + 12 * b + N (100 + b) - 1) - 1) = 0 := by
        intro q
        rcases hg1 with z | z
        · exact z
        · have := hg2 (by omega) (by omega) (by omega)
          omega
      split <;> omega
/-- the class's hall when a bag comes off a belt -/
def tkS (σ : SS) (N : NN) (b g p w : Int) : SS := if N (8 + p) = 5 then (up (up (up (up σ 3 0 b (N (100 + b) - 1) (-1)) 5 0 g 2 w) 5 0 g 3 p) 5 0 g 4 (N 4)) else (up (up (up (up (up (up σ 3 0 b (N (100 + b) - 1) (-1)) 1 0 p (σ 0 0 p 4) g) 0 0 p 4 (σ 0 0 p 4 + 1)) 5 0 g 2 w) 5 0 g 3 p) 5 0 g 4 (N 4))
theorem RH_tk {σ : SS} {N : NN} {k g b p w : Int} (hI : IV N k) (hH : RH σ 0 N) (hg : 0 ≤ g ∧ g < N 3) (hp : 0 ≤ p ∧ p < N 0) (hb : 0 ≤ b ∧ b < N 1) (hw : N (484 + g) = 1) (hwp : (N (8 + p) = 5 ∧ 5 ≤ w ∧ w ≤ 7) ∨ (N (8 + p) ≠ 5 ∧ N (8 + p) ≠ 0 ∧ w = wcK (N (8 + p)) ∧ ∀ x, 0 ≤ x → x < N 3 → N (484 + x) = wcK (N (8 + p)) → N (544 + x) = p → N (604 + x) < N 4)) : RH (tkS σ N b g p w) 0 (tkC N b g p w) ∧ (N (8 + p) ≠ 5 → σ 0 0 p 4 < 60) := by
  obtain ⟨b0, b1, b2, b3, b4, b5⟩ := hI.n
  obtain ⟨-, -, l, -⟩ := hI.b hb.1 hb.2
  obtain ⟨w0, w1, w2, w3, w4, w5⟩ := hH.g g hg.1 hg.2
  have hlt : N (8 + p) ≠ 5 → σ 0 0 p 4 < 60 := fun h5 => row_lt hI (hH.r p hp.1 hp.2) h5 (Or.inr ⟨g, hg, fun h => wcK_n (Or.inl hw) _ h.1⟩)
  refine ⟨?_, hlt⟩
  have e : ∀ j, j ≠ 484 + g → j ≠ 544 + g → j ≠ 604 + g → j ≠ 148 + 12 * b + N (100 + b) - 1 → j ≠ 32 + p → tkC N b g p w j = N j := fun j q0 q1 q2 q3 q4 => tkC_e q0 q1 q2 q3 q4
  obtain ⟨v0, v1, v2⟩ := tkC_v (M := N) (b := b) (g := g) (p := p) (w := w) (by omega) hg.1
  have v3 : tkC N b g p w (148 + 12 * b + N (100 + b) - 1) = 0 := by
    unfold tkC liesN
    split
    · rw [uI_n (by omega), uI_n (by omega), uI_n (by omega), uI_n (by omega), uI_s]
    · rw [uI_n (by omega), uI_n (by omega), uI_n (by omega), uI_s]
  generalize tkC N b g p w = M at e v0 v1 v2 v3 ⊢
  have hcells : ∀ τ : SS, (∀ x c, τ 3 0 x c = if x = b ∧ c = N (100 + b) - 1 then -1 else σ 3 0 x c) → RHc τ 0 M := by
    intro τ ht x c c0 c1 c2 c3
    rw [e 1 (by omega) (by omega) (by omega) (by omega) (by omega)] at c1
    rw [ht]
    by_cases q : 148 + 12 * x + c = 148 + 12 * b + N (100 + b) - 1
    · rw [if_pos (by omega), q, v3]; omega
    · rw [if_neg (by omega), e _ (by omega) (by omega) (by omega) q (by omega)]
      exact hH.c x c c0 c1 c2 c3
  unfold tkS
  rcases hwp with ⟨k5, h57⟩ | ⟨k5, k0, hwk, hd⟩
  · rw [if_pos k5]
    refine hH.mv (g := g) ⟨e 0 (by omega) (by omega) (by omega) (by omega) (by omega), e 1 (by omega) (by omega) (by omega) (by omega) (by omega), e 2 (by omega) (by omega) (by omega) (by omega) (by omega), e 3 (by omega) (by omega) (by omega) (by omega) (by omega), e 4 (by omega) (by omega) (by omega) (by omega) (by omega)⟩ ⟨b0, b1, b2, b3⟩ (fun j _ hj => e j (by omega) (by omega) (by omega) (by omega) (by omega)) (fun x x0 x1 xn => e _ (by omega) (by omega) (by omega) (by omega) (by omega)) (fun x x0 x1 xn => ⟨e _ (by omega) (by omega) (by omega) (by omega) (by omega), e _ (by omega) (by omega) (by omega) (by omega) (by omega), e _ (by omega) (by omega) (by omega) (by omega) (by omega)⟩) rfl (fun i j hj => rfl) (fun x j hj => rfl) rfl (fun x hx => by funext j; exact (by unfold up; (repeat (first | rewrite [if_pos (by omega)] | rewrite [if_neg (by omega)] | dsimp only)); (try rfl))) rfl (hcells _ (fun x c => ?_)) (fun _ _ => ?_) ?_
    · by_cases q : x = b ∧ c = N (100 + b) - 1
      · rw [if_pos q]; obtain ⟨rfl, rfl⟩ := q; exact (by unfold up; (repeat (first | rewrite [if_pos (by omega)] | rewrite [if_neg (by omega)] | dsimp only)); (try rfl))
      · rw [if_neg q]; exact (by unfold up; (repeat (first | rewrite [if_pos (by omega)] | rewrite [if_neg (by omega)] | dsimp only)); (try rfl))
    · rw [v0, v1, v2, e (424 + g) (by omega) (by omega) (by omega) (by omega) (by omega), ← w1]
      exact ⟨(by unfold up; (repeat (first | rewrite [if_pos (by omega)] | rewrite [if_neg (by omega)] | dsimp only)); (try rfl)), (by unfold up; (repeat (first | rewrite [if_pos (by omega)] | rewrite [if_neg (by omega)] | dsimp only)); (try rfl)), (by unfold up; (repeat (first | rewrite [if_pos (by omega)] | rewrite [if_neg (by omega)] | dsimp only)); (try rfl)), (by unfold up; (repeat (first | rewrite [if_pos (by omega)] | rewrite [if_neg (by omega)] | dsimp only)); (try rfl)), fun _ _ => (by unfold up; (repeat (first | rewrite [if_pos (by omega)] | rewrite [if_neg (by omega)] | dsimp only)); (try rfl)), (by unfold up; (repeat (first | rewrite [if_pos (by omega)] | rewrite [if_neg (by omega)] | dsimp only)); (try rfl))⟩
    · exact hH.r.none (g := g) (fun _ => rfl) rfl (e 0 (by omega) (by omega) (by omega) (by omega) (by omega)) (e 3 (by omega) (by omega) (by omega) (by omega) (by omega)) (fun x x0 x1 => e _ (by omega) (by omega) (by omega) (by omega) (by omega)) (fun x x0 x1 xn => ⟨e _ (by omega) (by omega) (by omega) (by omega) (by omega), e _ (by omega) (by omega) (by omega) (by omega) (by omega), e _ (by omega) (by omega) (by omega) (by omega) (by omega)⟩) (Or.inl hw) (Or.inr (by omega))
  · rw [if_neg k5]
    refine hH.mv (g := g) ⟨e 0 (by omega) (by omega) (by omega) (by omega) (by omega), e 1 (by omega) (by omega) (by omega) (by omega) (by omega), e 2 (by omega) (by omega) (by omega) (by omega) (by omega), e 3 (by omega) (by omega) (by omega) (by omega) (by omega), e 4 (by omega) (by omega) (by omega) (by omega) (by omega)⟩ ⟨b0, b1, b2, b3⟩ (fun j _ hj => e j (by omega) (by omega) (by omega) (by omega) (by omega)) (fun x x0 x1 xn => e _ (by omega) (by omega) (by omega) (by omega) (by omega)) (fun x x0 x1 xn => ⟨e _ (by omega) (by omega) (by omega) (by omega) (by omega), e _ (by omega) (by omega) (by omega) (by omega) (by omega), e _ (by omega) (by omega) (by omega) (by omega) (by omega)⟩) rfl (fun i j hj => (by unfold up; (repeat (first | rewrite [if_pos (by omega)] | rewrite [if_neg (by omega)] | dsimp only)); (try rfl))) (fun x j hj => rfl) rfl (fun x hx => by funext j; exact (by unfold up; (repeat (first | rewrite [if_pos (by omega)] | rewrite [if_neg (by omega)] | dsimp only)); (try rfl))) rfl (hcells _ (fun x c => ?_)) (fun _ _ => ?_) ?_
    · by_cases q : x = b ∧ c = N (100 + b) - 1
      · rw [if_pos q]; obtain ⟨rfl, rfl⟩ := q; exact (by unfold up; (repeat (first | rewrite [if_pos (by omega)] | rewrite [if_neg (by omega)] | dsimp only)); (try rfl))
      · rw [if_neg q]; exact (by unfold up; (repeat (first | rewrite [if_pos (by omega)] | rewrite [if_neg (by omega)] | dsimp only)); (try rfl))
    · rw [v0, v1, v2, e (424 + g) (by omega) (by omega) (by omega) (by omega) (by omega), ← w1]
      exact ⟨(by unfold up; (repeat (first | rewrite [if_pos (by omega)] | rewrite [if_neg (by omega)] | dsimp only)); (try rfl)), (by unfold up; (repeat (first | rewrite [if_pos (by omega)] | rewrite [if_neg (by omega)] | dsimp only)); (try rfl)), (by unfold up; (repeat (first | rewrite [if_pos (by omega)] | rewrite [if_neg (by omega)] | dsimp only)); (try rfl)), (by unfold up; (repeat (first | rewrite [if_pos (by omega)] | rewrite [if_neg (by omega)] | dsimp only)); (try rfl)), fun _ _ => (by unfold up; (repeat (first | rewrite [if_pos (by omega)] | rewrite [if_neg (by omega)] | dsimp only)); (try rfl)), (by unfold up; (repeat (first | rewrite [if_pos (by omega)] | rewrite [if_neg (by omega)] | dsimp only)); (try rfl))⟩
    · refine hH.r.enter (g := g) (i := p) hp (hlt k5) (fun x => ?_) (fun x j => ?_) (e 0 (by omega) (by omega) (by omega) (by omega) (by omega)) (e 3 (by omega) (by omega) (by omega) (by omega) (by omega)) hg (fun x x0 x1 => e _ (by omega) (by omega) (by omega) (by omega) (by omega)) k5 (fun x x0 x1 xn => ⟨e _ (by omega) (by omega) (by omega) (by omega) (by omega), e _ (by omega) (by omega) (by omega) (by omega) (by omega), e _ (by omega) (by omega) (by omega) (by omega) (by omega)⟩) (Or.inl hw) ⟨by rw [v0, hwk], v1⟩ (fun x x0 x1 h1 h2 => by rw [v2]; exact hd x x0 x1 h1 h2)
      · by_cases q : x = p
        · rw [if_pos q]; subst q; exact (by unfold up; (repeat (first | rewrite [if_pos (by omega)] | rewrite [if_neg (by omega)] | dsimp only)); (try rfl))
        · rw [if_neg q]; exact (by unfold up; (repeat (first | rewrite [if_pos (by omega)] | rewrite [if_neg (by omega)] | dsimp only)); (try rfl))
      · by_cases q : x = p ∧ j = σ 0 0 p 4
        · rw [if_pos q]; obtain ⟨rfl, rfl⟩ := q; exact (by unfold up; (repeat (first | rewrite [if_pos (by omega)] | rewrite [if_neg (by omega)] | dsimp only)); (try rfl))
        · rw [if_neg q]; exact (by unfold up; (repeat (first | rewrite [if_pos (by omega)] | rewrite [if_neg (by omega)] | dsimp only)); (try rfl))
