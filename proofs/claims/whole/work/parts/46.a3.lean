theorem IV_put {N : NN} {k g b : Int} (hI : IV N k) (hg : 0 ≤ g ∧ g < N 3) (hb : 0 ≤ b ∧ b < N 1) (hc : N (148 + 12 * b) = 0) (hw : N (484 + g) = 0 ∨ N (484 + g) = 3) : IV (putN N g b) k := by
  obtain ⟨b0, b1, b2, b3, b4, b5⟩ := hI.n
  obtain ⟨-, -, -, w⟩ := hI.g hg.1 hg.2
  unfold wI at w
  have e : ∀ j, j ≠ 484 + g → j ≠ 544 + g → j ≠ 604 + g → j ≠ 148 + 12 * b → (putN N g b) j = N j := by
    intro j q0 q1 q2 q3
    unfold putN liesN uI; (repeat (first | rewrite [if_pos (by omega)] | rewrite [if_neg (by omega)] | dsimp only)); (try rfl)
  have v0 : (putN N g b) (484 + g) = 1 := by unfold putN liesN uI; (repeat (first | rewrite [if_pos (by omega)] | rewrite [if_neg (by omega)] | dsimp only)); (try rfl)
  have v1 : (putN N g b) (544 + g) = b := by unfold putN liesN uI; (repeat (first | rewrite [if_pos (by omega)] | rewrite [if_neg (by omega)] | dsimp only)); (try rfl)
  have v2 : (putN N g b) (604 + g) = 0 := by unfold putN liesN uI; (repeat (first | rewrite [if_pos (by omega)] | rewrite [if_neg (by omega)] | dsimp only)); (try rfl)
  have v3 : (putN N g b) (148 + 12 * b) = g + 1 := by unfold putN liesN uI; (repeat (first | rewrite [if_pos (by omega)] | rewrite [if_neg (by omega)] | dsimp only)); (try rfl)
  have hr : ∀ j, inR ((putN N g b) j) := (by unfold putN liesN; exact inR_uI (inR_uI (inR_uI (inR_uI hI.r ⟨by omega, by omega⟩) ⟨by omega, by omega⟩) ⟨by omega, by omega⟩) ⟨by omega, by omega⟩)
  generalize (putN N g b) = M at e v0 v1 v2 v3 hr ⊢
  have agr : ∀ j, j ≠ 5 → (j < 32 ∨ (44 ≤ j ∧ j < 148) ∨ (340 ≤ j ∧ j < 484) ∨ 664 ≤ j) → M j = N j := fun j _ hj => e j (by omega) (by omega) (by omega) (by omega) 
  have oth : ∀ x, 0 ≤ x → x < N 3 → x ≠ g → smB N M x := fun x x0 x1 xn => ⟨e _ (by omega) (by omega) (by omega) (by omega) , e _ (by omega) (by omega) (by omega) (by omega) , e _ (by omega) (by omega) (by omega) (by omega) ⟩
  refine hI.mv hg (fun j h1 h2 => agr j h1 (by omega)) (fun x x0 x1 => by rw [agr _ (by omega) (by omega)]; exact (hI.g x0 x1).2.1) oth (by rw [e 5 (by omega) (by omega) (by omega) (by omega) ]; omega) (fun p p0 p1 => Or.inl ⟨e _ (by omega) (by omega) (by omega) (by omega) , hold_ne hI p0 p1 (by omega) hg.1⟩) (fun x c d0 d1 d2 d3 => by
    by_cases q : 148 + 12 * x + c = 148 + 12 * b
    · have q1 : x = b := by omega
      have q2 : c = 0 := by omega
      rw [q]
      exact Or.inr (Or.inr ⟨v3, hc, v0, by rw [v1, q1], by rw [v2, q2]⟩)
    · exact Or.inl ⟨e _ (by omega) (by omega) (by omega) q, cell_ne hI d0 d1 d2 d3 (by omega) hg.1⟩) (by unfold wI; rw [v0, v1, v2, show 148 + 12 * b + 0 = 148 + 12 * b by omega, v3, agr 1 (by omega) (by omega), agr (100 + b) (by omega) (by omega)]; obtain ⟨-, -, l, -⟩ := hI.b hb.1 hb.2; exact Or.inr (Or.inl ⟨rfl, hb, ⟨by omega, by omega⟩, rfl⟩)) (fun x x0 x1 xn hz => by omega) hr

theorem IV_putH {N : NN} {k g b : Int} (hI : IV N k) (hg : 0 ≤ g ∧ g < N 3) (hb : 0 ≤ b ∧ b < N 1) (hc : N (148 + 12 * b) = 0) (hw : N (484 + g) = 2) : IV (uI (putN N g b) (32 + N (544 + g)) 0) k := by
  obtain ⟨b0, b1, b2, b3, b4, b5⟩ := hI.n
  obtain ⟨-, -, -, w⟩ := hI.g hg.1 hg.2
  unfold wI at w
  have z2 : (0 ≤ N (544 + g) ∧ N (544 + g) < N 0) ∧ N (32 + N (544 + g)) = g + 1 := by omega
  have e : ∀ j, j ≠ 484 + g → j ≠ 544 + g → j ≠ 604 + g → j ≠ 148 + 12 * b → j ≠ 32 + N (544 + g) → (uI (putN N g b) (32 + N (544 + g)) 0) j = N j := by
    intro j q0 q1 q2 q3 q4
    unfold putN liesN uI; (repeat (first | rewrite [if_pos (by omega)] | rewrite [if_neg (by omega)] | dsimp only)); (try rfl)
  have v0 : (uI (putN N g b) (32 + N (544 + g)) 0) (484 + g) = 1 := by unfold putN liesN uI; (repeat (first | rewrite [if_pos (by omega)] | rewrite [if_neg (by omega)] | dsimp only)); (try rfl)
  have v1 : (uI (putN N g b) (32 + N (544 + g)) 0) (544 + g) = b := by unfold putN liesN uI; (repeat (first | rewrite [if_pos (by omega)] | rewrite [if_neg (by omega)] | dsimp only)); (try rfl)
  have v2 : (uI (putN N g b) (32 + N (544 + g)) 0) (604 + g) = 0 := by unfold putN liesN uI; (repeat (first | rewrite [if_pos (by omega)] | rewrite [if_neg (by omega)] | dsimp only)); (try rfl)
  have v3 : (uI (putN N g b) (32 + N (544 + g)) 0) (148 + 12 * b) = g + 1 := by unfold putN liesN uI; (repeat (first | rewrite [if_pos (by omega)] | rewrite [if_neg (by omega)] | dsimp only)); (try rfl)
  have v4 : (uI (putN N g b) (32 + N (544 + g)) 0) (32 + N (544 + g)) = 0 := by unfold putN liesN uI; (repeat (first | rewrite [if_pos (by omega)] | rewrite [if_neg (by omega)] | dsimp only)); (try rfl)
  have hr : ∀ j, inR ((uI (putN N g b) (32 + N (544 + g)) 0) j) := (by unfold putN liesN; exact inR_uI (inR_uI (inR_uI (inR_uI (inR_uI hI.r ⟨by omega, by omega⟩) ⟨by omega, by omega⟩) ⟨by omega, by omega⟩) ⟨by omega, by omega⟩) ⟨by omega, by omega⟩)
  generalize (uI (putN N g b) (32 + N (544 + g)) 0) = M at e v0 v1 v2 v3 v4 hr ⊢
  have agr : ∀ j, j ≠ 5 → (j < 32 ∨ (44 ≤ j ∧ j < 148) ∨ (340 ≤ j ∧ j < 484) ∨ 664 ≤ j) → M j = N j := fun j _ hj => e j (by omega) (by omega) (by omega) (by omega) (by omega) 
  have oth : ∀ x, 0 ≤ x → x < N 3 → x ≠ g → smB N M x := fun x x0 x1 xn => ⟨e _ (by omega) (by omega) (by omega) (by omega) (by omega) , e _ (by omega) (by omega) (by omega) (by omega) (by omega) , e _ (by omega) (by omega) (by omega) (by omega) (by omega) ⟩
  refine hI.mv hg (fun j h1 h2 => agr j h1 (by omega)) (fun x x0 x1 => by rw [agr _ (by omega) (by omega)]; exact (hI.g x0 x1).2.1) oth (by rw [e 5 (by omega) (by omega) (by omega) (by omega) (by omega) ]; omega) (fun p p0 p1 => by
    by_cases q : p = N (544 + g)
    · rw [q]; exact Or.inr (Or.inl ⟨v4, Or.inr z2.2⟩)
    · exact Or.inl ⟨e _ (by omega) (by omega) (by omega) (by omega) (by omega) , hold_ne hI p0 p1 (by omega) hg.1⟩) (fun x c d0 d1 d2 d3 => by
    by_cases q : 148 + 12 * x + c = 148 + 12 * b
    · have q1 : x = b := by omega
      have q2 : c = 0 := by omega
      rw [q]
      exact Or.inr (Or.inr ⟨v3, hc, v0, by rw [v1, q1], by rw [v2, q2]⟩)
    · exact Or.inl ⟨e _ (by omega) (by omega) (by omega) q (by omega), cell_ne hI d0 d1 d2 d3 (by omega) hg.1⟩) (by unfold wI; rw [v0, v1, v2, show 148 + 12 * b + 0 = 148 + 12 * b by omega, v3, agr 1 (by omega) (by omega), agr (100 + b) (by omega) (by omega)]; obtain ⟨-, -, l, -⟩ := hI.b hb.1 hb.2; exact Or.inr (Or.inl ⟨rfl, hb, ⟨by omega, by omega⟩, rfl⟩)) (fun x x0 x1 xn hz => by omega) hr

theorem IV_mv1 {N : NN} {k g b : Int} (hI : IV N k) (hg : 0 ≤ g ∧ g < N 3) {c : Int} (hb : 0 ≤ b ∧ b < N 1) (hc : 0 ≤ c ∧ c + 1 < N (100 + b)) (hcell : N (148 + 12 * b + c) = g + 1) (hw : N (484 + g) = 1 ∧ N (544 + g) = b ∧ N (604 + g) = c) (he : N (148 + 12 * b + c + 1) = 0) : IV (uI (uI (uI N (148 + 12 * b + c + 1) (g + 1)) (148 + 12 * b + c) 0) (604 + g) (c + 1)) k := by
  obtain ⟨b0, b1, b2, b3, b4, b5⟩ := hI.n
  obtain ⟨-, -, l, -⟩ := hI.b hb.1 hb.2
  have e : ∀ j, j ≠ 604 + g → j ≠ 148 + 12 * b + c → j ≠ 148 + 12 * b + c + 1 → (uI (uI (uI N (148 + 12 * b + c + 1) (g + 1)) (148 + 12 * b + c) 0) (604 + g) (c + 1)) j = N j := by
    intro j q0 q1 q2
    unfold uI; (repeat (first | rewrite [if_pos (by omega)] | rewrite [if_neg (by omega)] | dsimp only)); (try rfl)
  have v0 : (uI (uI (uI N (148 + 12 * b + c + 1) (g + 1)) (148 + 12 * b + c) 0) (604 + g) (c + 1)) (604 + g) = c + 1 := by unfold uI; (repeat (first | rewrite [if_pos (by omega)] | rewrite [if_neg (by omega)] | dsimp only)); (try rfl)
  have v1 : (uI (uI (uI N (148 + 12 * b + c + 1) (g + 1)) (148 + 12 * b + c) 0) (604 + g) (c + 1)) (148 + 12 * b + c) = 0 := by unfold uI; (repeat (first | rewrite [if_pos (by omega)] | rewrite [if_neg (by omega)] | dsimp only)); (try rfl)
  have v2 : (uI (uI (uI N (148 + 12 * b + c + 1) (g + 1)) (148 + 12 * b + c) 0) (604 + g) (c + 1)) (148 + 12 * b + c + 1) = g + 1 := by unfold uI; (repeat (first | rewrite [if_pos (by omega)] | rewrite [if_neg (by omega)] | dsimp only)); (try rfl)
  have hr : ∀ j, inR ((uI (uI (uI N (148 + 12 * b + c + 1) (g + 1)) (148 + 12 * b + c) 0) (604 + g) (c + 1)) j) := (inR_uI (inR_uI (inR_uI hI.r ⟨by omega, by omega⟩) ⟨by omega, by omega⟩) ⟨by omega, by omega⟩)
  generalize (uI (uI (uI N (148 + 12 * b + c + 1) (g + 1)) (148 + 12 * b + c) 0) (604 + g) (c + 1)) = M at e v0 v1 v2 hr ⊢
  have agr : ∀ j, j ≠ 5 → (j < 32 ∨ (44 ≤ j ∧ j < 148) ∨ (340 ≤ j ∧ j < 484) ∨ 664 ≤ j) → M j = N j := fun j _ hj => e j (by omega) (by omega) (by omega) 
  have oth : ∀ x, 0 ≤ x → x < N 3 → x ≠ g → smB N M x := fun x x0 x1 xn => ⟨e _ (by omega) (by omega) (by omega) , e _ (by omega) (by omega) (by omega) , e _ (by omega) (by omega) (by omega) ⟩
  refine hI.mv hg (fun j h1 h2 => agr j h1 (by omega)) (fun x x0 x1 => by rw [agr _ (by omega) (by omega)]; exact (hI.g x0 x1).2.1) oth (by rw [e 5 (by omega) (by omega) (by omega) ]; omega) (fun p p0 p1 => Or.inl ⟨e _ (by omega) (by omega) (by omega) , hold_ne hI p0 p1 (by omega) hg.1⟩) (fun x y d0 d1 d2 d3 => by
    by_cases q : 148 + 12 * x + y = 148 + 12 * b + c
    · rw [q]; exact Or.inr (Or.inl ⟨v1, Or.inr hcell⟩)
    · by_cases q2 : 148 + 12 * x + y = 148 + 12 * b + c + 1
      · have q3 := cell_i (b := x) (c := y) (b' := b) (c' := c + 1) ⟨d2, d3⟩ ⟨by omega, by omega⟩ (by omega)
        rw [q2]
        exact Or.inr (Or.inr ⟨v2, he, by rw [e _ (by omega) (by omega) (by omega) ]; exact hw.1, by rw [e _ (by omega) (by omega) (by omega) , q3.1]; exact hw.2.1, by rw [v0, q3.2]⟩)
      · exact Or.inl ⟨e _ (by omega) q q2, cell_ne hI d0 d1 d2 d3 (fun z => q (by omega)) hg.1⟩) (by unfold wI; rw [e (484 + g) (by omega) (by omega) (by omega) , e (544 + g) (by omega) (by omega) (by omega) , v0, hw.1, hw.2.1, show 148 + 12 * b + (c + 1) = 148 + 12 * b + c + 1 by omega, v2, agr 1 (by omega) (by omega), agr (100 + b) (by omega) (by omega)]; exact Or.inr (Or.inl ⟨rfl, hb, ⟨by omega, by omega⟩, rfl⟩)) (fun x x0 x1 xn hz => by rw [e (484 + g) (by omega) (by omega) (by omega) ] at hz; omega) hr

theorem IV_tkC {N : NN} {k g b : Int} (hI : IV N k) (hg : 0 ≤ g ∧ g < N 3) {p w : Int} (hb : 0 ≤ b ∧ b < N 1) (hcell : N (148 + 12 * b + N (100 + b) - 1) = g + 1) (hw : N (484 + g) = 1 ∧ N (544 + g) = b ∧ N (604 + g) = N (100 + b) - 1) (hp : 0 ≤ p ∧ p < N 0) (hw5 : 5 ≤ w ∧ w ≤ 7) (hk : N (8 + p) = 5) : IV (liesN (uI N (148 + 12 * b + N (100 + b) - 1) 0) g w p (N 4)) k := by
  obtain ⟨b0, b1, b2, b3, b4, b5⟩ := hI.n
  obtain ⟨-, -, l, -⟩ := hI.b hb.1 hb.2
  have e : ∀ j, j ≠ 484 + g → j ≠ 544 + g → j ≠ 604 + g → j ≠ 148 + 12 * b + N (100 + b) - 1 → (liesN (uI N (148 + 12 * b + N (100 + b) - 1) 0) g w p (N 4)) j = N j := by
    intro j q0 q1 q2 q3
    unfold liesN uI; (repeat (first | rewrite [if_pos (by omega)] | rewrite [if_neg (by omega)] | dsimp only)); (try rfl)
  have v0 : (liesN (uI N (148 + 12 * b + N (100 + b) - 1) 0) g w p (N 4)) (484 + g) = w := by unfold liesN uI; (repeat (first | rewrite [if_pos (by omega)] | rewrite [if_neg (by omega)] | dsimp only)); (try rfl)
  have v1 : (liesN (uI N (148 + 12 * b + N (100 + b) - 1) 0) g w p (N 4)) (544 + g) = p := by unfold liesN uI; (repeat (first | rewrite [if_pos (by omega)] | rewrite [if_neg (by omega)] | dsimp only)); (try rfl)
  have v2 : (liesN (uI N (148 + 12 * b + N (100 + b) - 1) 0) g w p (N 4)) (604 + g) = N 4 := by unfold liesN uI; (repeat (first | rewrite [if_pos (by omega)] | rewrite [if_neg (by omega)] | dsimp only)); (try rfl)
  have v3 : (liesN (uI N (148 + 12 * b + N (100 + b) - 1) 0) g w p (N 4)) (148 + 12 * b + N (100 + b) - 1) = 0 := by unfold liesN uI; (repeat (first | rewrite [if_pos (by omega)] | rewrite [if_neg (by omega)] | dsimp only)); (try rfl)
  have hr : ∀ j, inR ((liesN (uI N (148 + 12 * b + N (100 + b) - 1) 0) g w p (N 4)) j) := (by unfold liesN; exact inR_uI (inR_uI (inR_uI (inR_uI hI.r ⟨by omega, by omega⟩) ⟨by omega, by omega⟩) ⟨by omega, by omega⟩) ⟨by omega, by omega⟩)
  generalize (liesN (uI N (148 + 12 * b + N (100 + b) - 1) 0) g w p (N 4)) = M at e v0 v1 v2 v3 hr ⊢
  have agr : ∀ j, j ≠ 5 → (j < 32 ∨ (44 ≤ j ∧ j < 148) ∨ (340 ≤ j ∧ j < 484) ∨ 664 ≤ j) → M j = N j := fun j _ hj => e j (by omega) (by omega) (by omega) (by omega) 
  have oth : ∀ x, 0 ≤ x → x < N 3 → x ≠ g → smB N M x := fun x x0 x1 xn => ⟨e _ (by omega) (by omega) (by omega) (by omega) , e _ (by omega) (by omega) (by omega) (by omega) , e _ (by omega) (by omega) (by omega) (by omega) ⟩
  refine hI.mv hg (fun j h1 h2 => agr j h1 (by omega)) (fun x x0 x1 => by rw [agr _ (by omega) (by omega)]; exact (hI.g x0 x1).2.1) oth (by rw [e 5 (by omega) (by omega) (by omega) (by omega) ]; omega) (fun x p0 p1 => Or.inl ⟨e _ (by omega) (by omega) (by omega) (by omega) , hold_ne hI p0 p1 (by omega) hg.1⟩) (fun x y d0 d1 d2 d3 => by
    by_cases q : 148 + 12 * x + y = 148 + 12 * b + N (100 + b) - 1
    · rw [q]; exact Or.inr (Or.inl ⟨v3, Or.inr hcell⟩)
    · exact Or.inl ⟨e _ (by omega) (by omega) (by omega) q, cell_ne hI d0 d1 d2 d3 (fun z => q (by omega)) hg.1⟩) (by unfold wI; rw [v0, v1, v2, agr 0 (by omega) (by omega), agr 4 (by omega) (by omega), agr (8 + p) (by omega) (by omega)]; exact Or.inr (Or.inr (Or.inr (Or.inr (Or.inr ⟨hw5, hp, hk, by omega, by omega⟩))))) (fun x x0 x1 xn hz => by omega) hr

theorem IV_tkS {N : NN} {k g b : Int} (hI : IV N k) (hg : 0 ≤ g ∧ g < N 3) {p : Int} (hb : 0 ≤ b ∧ b < N 1) (hcell : N (148 + 12 * b + N (100 + b) - 1) = g + 1) (hw : N (484 + g) = 1 ∧ N (544 + g) = b ∧ N (604 + g) = N (100 + b) - 1) (hp : 0 ≤ p ∧ p < N 0) (hk : N (8 + p) = 4) (hd : ∀ x, 0 ≤ x → x < N 3 → N (484 + x) = 3 → N (544 + x) = p → N (604 + x) < N 4) : IV (liesN (uI N (148 + 12 * b + N (100 + b) - 1) 0) g 3 p (N 4)) k := by
  obtain ⟨b0, b1, b2, b3, b4, b5⟩ := hI.n
  obtain ⟨-, -, l, -⟩ := hI.b hb.1 hb.2
  have e : ∀ j, j ≠ 484 + g → j ≠ 544 + g → j ≠ 604 + g → j ≠ 148 + 12 * b + N (100 + b) - 1 → (liesN (uI N (148 + 12 * b + N (100 + b) - 1) 0) g 3 p (N 4)) j = N j := by
    intro j q0 q1 q2 q3
    unfold liesN uI; (repeat (first | rewrite [if_pos (by omega)] | rewrite [if_neg (by omega)] | dsimp only)); (try rfl)
  have v0 : (liesN (uI N (148 + 12 * b + N (100 + b) - 1) 0) g 3 p (N 4)) (484 + g) = 3 := by unfold liesN uI; (repeat (first | rewrite [if_pos (by omega)] | rewrite [if_neg (by omega)] | dsimp only)); (try rfl)
  have v1 : (liesN (uI N (148 + 12 * b + N (100 + b) - 1) 0) g 3 p (N 4)) (544 + g) = p := by unfold liesN uI; (repeat (first | rewrite [if_pos (by omega)] | rewrite [if_neg (by omega)] | dsimp only)); (try rfl)
  have v2 : (liesN (uI N (148 + 12 * b + N (100 + b) - 1) 0) g 3 p (N 4)) (604 + g) = N 4 := by unfold liesN uI; (repeat (first | rewrite [if_pos (by omega)] | rewrite [if_neg (by omega)] | dsimp only)); (try rfl)
  have v3 : (liesN (uI N (148 + 12 * b + N (100 + b) - 1) 0) g 3 p (N 4)) (148 + 12 * b + N (100 + b) - 1) = 0 := by unfold liesN uI; (repeat (first | rewrite [if_pos (by omega)] | rewrite [if_neg (by omega)] | dsimp only)); (try rfl)
  have hr : ∀ j, inR ((liesN (uI N (148 + 12 * b + N (100 + b) - 1) 0) g 3 p (N 4)) j) := (by unfold liesN; exact inR_uI (inR_uI (inR_uI (inR_uI hI.r ⟨by omega, by omega⟩) ⟨by omega, by omega⟩) ⟨by omega, by omega⟩) ⟨by omega, by omega⟩)
  generalize (liesN (uI N (148 + 12 * b + N (100 + b) - 1) 0) g 3 p (N 4)) = M at e v0 v1 v2 v3 hr ⊢
  have agr : ∀ j, j ≠ 5 → (j < 32 ∨ (44 ≤ j ∧ j < 148) ∨ (340 ≤ j ∧ j < 484) ∨ 664 ≤ j) → M j = N j := fun j _ hj => e j (by omega) (by omega) (by omega) (by omega) 
  have oth : ∀ x, 0 ≤ x → x < N 3 → x ≠ g → smB N M x := fun x x0 x1 xn => ⟨e _ (by omega) (by omega) (by omega) (by omega) , e _ (by omega) (by omega) (by omega) (by omega) , e _ (by omega) (by omega) (by omega) (by omega) ⟩
  refine hI.mv hg (fun j h1 h2 => agr j h1 (by omega)) (fun x x0 x1 => by rw [agr _ (by omega) (by omega)]; exact (hI.g x0 x1).2.1) oth (by rw [e 5 (by omega) (by omega) (by omega) (by omega) ]; omega) (fun x p0 p1 => Or.inl ⟨e _ (by omega) (by omega) (by omega) (by omega) , hold_ne hI p0 p1 (by omega) hg.1⟩) (fun x y d0 d1 d2 d3 => by
    by_cases q : 148 + 12 * x + y = 148 + 12 * b + N (100 + b) - 1
    · rw [q]; exact Or.inr (Or.inl ⟨v3, Or.inr hcell⟩)
    · exact Or.inl ⟨e _ (by omega) (by omega) (by omega) q, cell_ne hI d0 d1 d2 d3 (fun z => q (by omega)) hg.1⟩) (by unfold wI; rw [v0, v1, v2, agr 0 (by omega) (by omega), agr 4 (by omega) (by omega), agr (8 + p) (by omega) (by omega)]; exact Or.inr (Or.inr (Or.inr (Or.inl ⟨rfl, hp, hk, by omega, by omega⟩)))) (fun x x0 x1 xn hz h1 h2 => by rw [v0] at h1; rw [v1] at h2; rw [v2]; have := hd x x0 x1 h1 h2; omega) hr

theorem IV_tkH {N : NN} {k g b : Int} (hI : IV N k) (hg : 0 ≤ g ∧ g < N 3) {p : Int} (hb : 0 ≤ b ∧ b < N 1) (hcell : N (148 + 12 * b + N (100 + b) - 1) = g + 1) (hw : N (484 + g) = 1 ∧ N (544 + g) = b ∧ N (604 + g) = N (100 + b) - 1) (hp : 0 ≤ p ∧ p < N 0) (hk : 1 ≤ N (8 + p) ∧ N (8 + p) ≤ 3) (h0 : N (32 + p) = 0) : IV (uI (liesN (uI N (148 + 12 * b + N (100 + b) - 1) 0) g 2 p (N 4)) (32 + p) (g + 1)) k := by
  obtain ⟨b0, b1, b2, b3, b4, b5⟩ := hI.n
  obtain ⟨-, -, l, -⟩ := hI.b hb.1 hb.2
  have e : ∀ j, j ≠ 484 + g → j ≠ 544 + g → j ≠ 604 + g → j ≠ 148 + 12 * b + N (100 + b) - 1 → j ≠ 32 + p → (uI (liesN (uI N (148 + 12 * b + N (100 + b) - 1) 0) g 2 p (N 4)) (32 + p) (g + 1)) j = N j := by
    intro j q0 q1 q2 q3 q4
    unfold liesN uI; (repeat (first | rewrite [if_pos (by omega)] | rewrite [if_neg (by omega)] | dsimp only)); (try rfl)
  have v0 : (uI (liesN (uI N (148 + 12 * b + N (100 + b) - 1) 0) g 2 p (N 4)) (32 + p) (g + 1)) (484 + g) = 2 := by unfold liesN uI; (repeat (first | rewrite [if_pos (by omega)] | rewrite [if_neg (by omega)] | dsimp only)); (try rfl)
  have v1 : (uI (liesN (uI N (148 + 12 * b + N (100 + b) - 1) 0) g 2 p (N 4)) (32 + p) (g + 1)) (544 + g) = p := by unfold liesN uI; (repeat (first | rewrite [if_pos (by omega)] | rewrite [if_neg (by omega)] | dsimp only)); (try rfl)
  have v2 : (uI (liesN (uI N (148 + 12 * b + N (100 + b) - 1) 0) g 2 p (N 4)) (32 + p) (g + 1)) (604 + g) = N 4 := by unfold liesN uI; (repeat (first | rewrite [if_pos (by omega)] | rewrite [if_neg (by omega)] | dsimp only)); (try rfl)
  have v3 : (uI (liesN (uI N (148 + 12 * b + N (100 + b) - 1) 0) g 2 p (N 4)) (32 + p) (g + 1)) (148 + 12 * b + N (100 + b) - 1) = 0 := by unfold liesN uI; (repeat (first | rewrite [if_pos (by omega)] | rewrite [if_neg (by omega)] | dsimp only)); (try rfl)
  have v4 : (uI (liesN (uI N (148 + 12 * b + N (100 + b) - 1) 0) g 2 p (N 4)) (32 + p) (g + 1)) (32 + p) = g + 1 := by unfold liesN uI; (repeat (first | rewrite [if_pos (by omega)] | rewrite [if_neg (by omega)] | dsimp only)); (try rfl)
  have hr : ∀ j, inR ((uI (liesN (uI N (148 + 12 * b + N (100 + b) - 1) 0) g 2 p (N 4)) (32 + p) (g + 1)) j) := (by unfold liesN; exact inR_uI (inR_uI (inR_uI (inR_uI (inR_uI hI.r ⟨by omega, by omega⟩) ⟨by omega, by omega⟩) ⟨by omega, by omega⟩) ⟨by omega, by omega⟩) ⟨by omega, by omega⟩)
  generalize (uI (liesN (uI N (148 + 12 * b + N (100 + b) - 1) 0) g 2 p (N 4)) (32 + p) (g + 1)) = M at e v0 v1 v2 v3 v4 hr ⊢
  have agr : ∀ j, j ≠ 5 → (j < 32 ∨ (44 ≤ j ∧ j < 148) ∨ (340 ≤ j ∧ j < 484) ∨ 664 ≤ j) → M j = N j := fun j _ hj => e j (by omega) (by omega) (by omega) (by omega) (by omega) 
  have oth : ∀ x, 0 ≤ x → x < N 3 → x ≠ g → smB N M x := fun x x0 x1 xn => ⟨e _ (by omega) (by omega) (by omega) (by omega) (by omega) , e _ (by omega) (by omega) (by omega) (by omega) (by omega) , e _ (by omega) (by omega) (by omega) (by omega) (by omega) ⟩
  refine hI.mv hg (fun j h1 h2 => agr j h1 (by omega)) (fun x x0 x1 => by rw [agr _ (by omega) (by omega)]; exact (hI.g x0 x1).2.1) oth (by rw [e 5 (by omega) (by omega) (by omega) (by omega) (by omega) ]; omega) (fun x p0 p1 => by
    by_cases q : x = p
    · subst q; exact Or.inr (Or.inr ⟨v4, h0, v0, v1⟩)
    · exact Or.inl ⟨e _ (by omega) (by omega) (by omega) (by omega) (by omega) , hold_ne hI p0 p1 (by omega) hg.1⟩) (fun x y d0 d1 d2 d3 => by
    by_cases q : 148 + 12 * x + y = 148 + 12 * b + N (100 + b) - 1
    · rw [q]; exact Or.inr (Or.inl ⟨v3, Or.inr hcell⟩)
    · exact Or.inl ⟨e _ (by omega) (by omega) (by omega) q (by omega), cell_ne hI d0 d1 d2 d3 (fun z => q (by omega)) hg.1⟩) (by unfold wI; rw [v0, v1, v2, v4, agr 0 (by omega) (by omega), agr 4 (by omega) (by omega), agr (8 + p) (by omega) (by omega)]; exact Or.inr (Or.inr (Or.inl ⟨rfl, hp, hk, rfl, by omega, by omega⟩))) (fun x x0 x1 xn hz => by omega) hr
