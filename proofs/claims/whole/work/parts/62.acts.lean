/-! ===== the invariant between calls, over the other acts ===== -/
def JN (N M : NN) : Prop := JI M ∧ M 4 = N 4 ∧ M 5 ≤ N 5 + 1
theorem JN.id {N : NN} (h : JI N) : JN N N := ⟨h, rfl, by omega⟩
theorem JN.mk {N M : NN} (h : JI N) (hI : IV M 0) (h3 : M 3 = N 3) (h4 : M 4 = N 4) (h5 : M 5 = N 5) (e : ∀ j, 484 ≤ j → M j = N j) : JN N M := by
  refine ⟨⟨hI, h.2.1.same h3 (fun j hj => e j (by omega)), fun x x0 x1 q1 q2 => ?_⟩, h4, by omega⟩
  rw [h3] at x1
  rw [e _ (by omega)] at q1 q2
  rw [e _ (by omega), h4]
  exact h.2.2 x x0 x1 q1 q2
theorem J_point {N : NN} {kd v : Int} (h : JI N) (hv : inR v) : JN N (s_point N kd v).2.1 := by
  obtain ⟨b0, b1, b2, b3, b4, b5⟩ := h.1.n
  unfold s_point fnd
  split
  · exact JN.id h
  · next c =>
    split
    · exact JN.id h
    · next c2 =>
      refine JN.mk h (IV_point h.1 (by omega) (by omega) (by omega) (by omega) hv) ?_ ?_ ?_ (fun j hj => ?_) <;> (dsimp only; repeat rw [uI_n (by omega)])
theorem J_flight {N : NN} {c o e : Int} (h : JI N) : JN N (s_flight N c o e).2.1 := by
  obtain ⟨b0, b1, b2, b3, b4, b5⟩ := h.1.n
  unfold s_flight fnd
  split
  · exact JN.id h
  · next c1 =>
    split
    · exact JN.id h
    · next c2 =>
      split
      · exact JN.id h
      · next c3 =>
        refine JN.mk h (IV_flight h.1 (by omega) (by omega) (by omega) (by omega) (by omega)) ?_ ?_ ?_ (fun j hj => ?_) <;> (dsimp only; repeat rw [uI_n (by omega)])
theorem J_fall {N : NN} {b on : Int} (h : JI N) (hon : on = 0 ∨ on = 1) : JN N (s_fall N b on).2.1 := by
  obtain ⟨b0, b1, b2, b3, b4, b5⟩ := h.1.n
  unfold s_fall fnd
  split
  · exact JN.id h
  · next c1 =>
    refine JN.mk h (IV_fall h.1 (by omega) hon) ?_ ?_ ?_ (fun j hj => ?_) <;> (dsimp only; repeat rw [uI_n (by omega)])
theorem J_turns {N : NN} {b v : Int} (h : JI N) : JN N (s_turns N b v).2.1 := by
  obtain ⟨b0, b1, b2, b3, b4, b5⟩ := h.1.n
  unfold s_turns fnd
  split
  · exact JN.id h
  · next c1 =>
    obtain ⟨-, y, -⟩ := h.1.b (b := b) (by omega) (by omega)
    split
    · exact JN.id h
    · split
      · refine JN.mk h (IV_turns1 h.1 (by omega) (by omega)) ?_ ?_ ?_ (fun j hj => ?_) <;> (dsimp only; repeat rw [uI_n (by omega)])
      · refine JN.mk h (IV_turns0 h.1 (by omega) (by omega)) ?_ ?_ ?_ (fun j hj => ?_) <;> (dsimp only; repeat rw [uI_n (by omega)])
theorem J_belt {N : NN} {fr to cs : Int} (h : JI N) : JN N (s_belt N fr to cs).2.1 := by
  obtain ⟨b0, b1, b2, b3, b4, b5⟩ := h.1.n
  unfold s_belt fnd
  split
  · exact JN.id h
  · next c1 =>
    split
    · exact JN.id h
    · split
      · exact JN.id h
      · split
        · exact JN.id h
        · split
          · unfold s_belt1
            refine JN.mk h (IV_beltA h.1 (by omega) (by omega) (by omega) (by omega) (by omega) (by omega)) ?_ ?_ ?_ (fun j hj => ?_) <;> (dsimp only; repeat (first | rw [uI_n (by omega)] | rw [clr_n (by omega)]))
          · unfold s_belt1
            refine JN.mk h (IV_beltB h.1 (by omega) (by omega) (by omega) (by omega) (by omega) (by omega) (by omega)) ?_ ?_ ?_ (fun j hj => ?_) <;> (dsimp only; repeat (first | rw [uI_n (by omega)] | rw [clr_n (by omega)]))
theorem J_bag {N : NN} {dk fl db : Int} (h : JI N) (h5 : N 5 < 1000000) (hdb : db = 0 ∨ db = 1) : JN N (s_bag N dk fl db).2.1 := by
  obtain ⟨b0, b1, b2, b3, b4, b5⟩ := h.1.n
  unfold s_bag fnd
  split
  · exact JN.id h
  · next c1 =>
    split
    · exact JN.id h
    · split
      · exact JN.id h
      · have i1 := IV_bag h.1 (by omega) h5 (by omega) (by omega) hdb (by omega) (dk := dk) (fl := fl)
        dsimp only
        unfold waitsN liesN at i1 ⊢
        have q5 : uI (uI (uI N (364 + N 3) fl) (424 + N 3) db) (664 + N 3) 0 5 = N 5 := by repeat rw [uI_n (by omega)]
        rw [q5] at i1 ⊢
        refine ⟨⟨i1, fun x i x0 x1 y0 y1 y2 => ?_, fun x x0 x1 q1 q2 => ?_⟩, ?_, ?_⟩
        · rw [uI_s] at x1
          by_cases q : x = N 3
          · subst q
            exfalso
            rw [uI_n (by omega), uI_n (by omega), uI_n (by omega), uI_n (by omega), uI_n (by omega), uI_s] at y1
            omega
          · have := h.2.1 x i x0 (by omega) y0
            repeat rw [uI_n (by omega)] at y1
            have := this y1 y2
            repeat rw [uI_n (by omega)]
            exact this
        · rw [uI_s] at x1
          by_cases q : x = N 3
          · subst q
            exfalso
            rw [uI_n (by omega), uI_n (by omega), uI_n (by omega), uI_n (by omega), uI_s] at q1
            omega
          · repeat rw [uI_n (by omega)] at q1
            repeat rw [uI_n (by omega)] at q2
            repeat rw [uI_n (by omega)]
            exact h.2.2 x x0 (by omega) q1 q2
        · repeat rw [uI_n (by omega)]
        · rw [uI_n (by omega), uI_s]; omega
theorem J_give {N : NN} {g dk db : Int} (h : JI N) (h5 : N 5 < 1000000) (hdb : db = 0 ∨ db = 1) : JN N (s_give N g dk db).2.1 := by
  obtain ⟨b0, b1, b2, b3, b4, b5⟩ := h.1.n
  unfold s_give fnd
  split
  · exact JN.id h
  · next c1 =>
    split
    · exact JN.id h
    · split
      · exact JN.id h
      · have i1 := IV_give h.1 (g := g) (by omega) h5 (by omega) hdb (by omega) (by omega) (dk := dk)
        dsimp only
        unfold waitsN liesN at i1 ⊢
        have q5 : uI N (424 + g) db 5 = N 5 := by repeat rw [uI_n (by omega)]
        rw [q5] at i1 ⊢
        refine ⟨⟨i1, fun x i x0 x1 y0 y1 y2 => ?_, fun x x0 x1 q1 q2 => ?_⟩, ?_, ?_⟩
        · repeat rw [uI_n (by omega)] at x1
          have := h.2.1 x i x0 (by omega) y0
          repeat rw [uI_n (by omega)] at y1
          have := this y1 y2
          repeat rw [uI_n (by omega)]
          exact this
        · repeat rw [uI_n (by omega)] at x1
          by_cases q : x = g
          · subst q
            exfalso
            rw [uI_n (by omega), uI_n (by omega), uI_n (by omega), uI_s] at q1
            omega
          · repeat rw [uI_n (by omega)] at q1
            repeat rw [uI_n (by omega)] at q2
            repeat rw [uI_n (by omega)]
            exact h.2.2 x x0 (by omega) q1 q2
        · repeat rw [uI_n (by omega)]
        · rw [uI_s]; omega
theorem J_take {σ : SS} {N : NN} {g : Int} (h : JI N) (hH : RH σ 0 N) : JN N (s_take N g).2.1 := by
  obtain ⟨b0, b1, b2, b3, b4, b5⟩ := h.1.n
  by_cases c : 0 ≤ g ∧ g < N 3 ∧ N (484 + g) < 4
  · obtain ⟨M, e1, e2, -⟩ := take_all h.1 ⟨c.1, c.2.1⟩ hH c.2.2
    have hM : M = (s_take N g).2.1 := by rw [e1]
    rw [← hM]
    obtain ⟨-, -, -, w⟩ := h.1.g c.1 c.2.1
    have e : ∀ j, j < 32 ∨ (484 ≤ j ∧ j ≠ 484 + g ∧ j ≠ 544 + g ∧ j ≠ 604 + g) → M j = N j := by
      intro j hj
      rw [hM]
      unfold s_take liesN
      rw [if_neg (by omega), if_neg (by omega)]
      unfold wI at w
      split
      · obtain ⟨-, -, l, -⟩ := h.1.b (b := N (544 + g)) (by omega) (by omega)
        dsimp only
        rw [uI_n (by omega), uI_n (by omega), uI_n (by omega), uI_n (by omega)]
      · split
        · dsimp only
          rw [uI_n (by omega), uI_n (by omega), uI_n (by omega), uI_n (by omega)]
        · dsimp only
          rw [uI_n (by omega), uI_n (by omega), uI_n (by omega)]
    have v : M (484 + g) = 4 := by
      rw [hM]
      unfold s_take liesN
      rw [if_neg (by omega), if_neg (by omega)]
      split
      · dsimp only; rw [uI_n (by omega), uI_n (by omega), uI_s]
      · split
        · dsimp only; rw [uI_n (by omega), uI_n (by omega), uI_s]
        · dsimp only; rw [uI_n (by omega), uI_n (by omega), uI_s]
    have m3 := e 3 (by omega)
    have m4 := e 4 (by omega)
    have m5 := e 5 (by omega)
    refine ⟨⟨e2, h.2.1.same m3 (fun j hj => e j (by omega)), fun x x0 x1 q1 q2 => ?_⟩, m4, by omega⟩
    rw [m3] at x1
    by_cases q : x = g
    · subst q; omega
    · rw [e _ (by omega)] at q1 q2
      rw [e _ (by omega), m4]
      exact h.2.2 x x0 x1 q1 q2
  · have : (s_take N g).2.1 = N := by
      unfold s_take fnd
      by_cases c1 : 0 ≤ g ∧ g < N 3
      · rw [if_neg (by omega), if_pos (by omega)]
      · rw [if_pos c1]
    rw [this]
    exact JN.id h
