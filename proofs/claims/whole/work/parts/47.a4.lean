theorem mn_P {P : Int → Bool} {K : NN} : ∀ n : Nat, 0 ≤ mn P K n → P (mn P K n) = true
  | 0, h => absurd h (show ¬ (0 : Int) ≤ -1 by decide)
  | n + 1, h => by
    unfold mn at h ⊢
    split
    · rename_i c; exact c.1
    · rename_i c
      rw [if_neg c] at h
      exact mn_P n h
theorem mnI_P {P : Int → Bool} {K : NN} {n : Int} (h : 0 ≤ mnI P K n) : P (mnI P K n) = true := mn_P n.toNat h
theorem WI.same {N M : NN} (h : WI N) (h3 : M 3 = N 3) (hm : ∀ j, 664 ≤ j → M j = N j) : WI M := by
  intro x i x0 x1 i0 i1 i2
  rw [h3] at x1
  rw [hm (664 + x) (by omega)] at i1
  rw [hm (724 + 30 * x + i) (by omega), hm (2524 + 30 * x + i) (by omega)]
  exact h x i x0 x1 i0 i1 i2
theorem WI.goes {N : NN} {g p : Int} (h : WI N) (hg : 0 ≤ g ∧ g < N 3) (h3 : N 3 ≤ 60) (hp : 0 ≤ p ∧ p < 12) (h4 : 0 ≤ N 4 ∧ N 4 ≤ 1000000) (hs : 0 ≤ N (664 + g)) : WI (goesN N g p) := by
  intro x i x0 x1 i0 i1 i2
  have e3 : goesN N g p 3 = N 3 := by
    unfold goesN
    rw [uI_n (by omega)]
    split
    · rw [uI_n (by omega), uI_n (by omega)]
    · rfl
  rw [e3] at x1
  by_cases q : x = g
  · subst q
    have e6 : goesN N x p (664 + x) = N (664 + x) + 1 := uI_s
    rw [e6] at i1
    by_cases c : i = N (664 + x)
    · have ea : goesN N x p (724 + 30 * x + i) = p := by unfold goesN uI; (repeat (first | rewrite [if_pos (by omega)] | rewrite [if_neg (by omega)] | dsimp only)); (try rfl)
      have eb : goesN N x p (2524 + 30 * x + i) = N 4 := by unfold goesN uI; (repeat (first | rewrite [if_pos (by omega)] | rewrite [if_neg (by omega)] | dsimp only)); (try rfl)
      rw [ea, eb]; exact ⟨hp, h4⟩
    · have hh := h x i x0 x1 i0 (by omega) i2
      by_cases c2 : N (664 + x) < 30
      · have ea : goesN N x p (724 + 30 * x + i) = N (724 + 30 * x + i) := by unfold goesN uI; (repeat (first | rewrite [if_pos (by omega)] | rewrite [if_neg (by omega)] | dsimp only)); (try rfl)
        have eb : goesN N x p (2524 + 30 * x + i) = N (2524 + 30 * x + i) := by unfold goesN uI; (repeat (first | rewrite [if_pos (by omega)] | rewrite [if_neg (by omega)] | dsimp only)); (try rfl)
        rw [ea, eb]; exact hh
      · have ea : goesN N x p (724 + 30 * x + i) = N (724 + 30 * x + i) := by unfold goesN; rw [uI_n (by omega), if_neg c2]
        have eb : goesN N x p (2524 + 30 * x + i) = N (2524 + 30 * x + i) := by unfold goesN; rw [uI_n (by omega), if_neg c2]
        rw [ea, eb]; exact hh
  · have e6 : goesN N g p (664 + x) = N (664 + x) := by
      unfold goesN
      rw [uI_n (by omega)]
      split
      · rw [uI_n (by omega), uI_n (by omega)]
      · rfl
    rw [e6] at i1
    have hh := h x i x0 x1 i0 i1 i2
    have ea : goesN N g p (724 + 30 * x + i) = N (724 + 30 * x + i) := by
      unfold goesN
      rw [uI_n (by omega)]
      split
      · rw [uI_n (by omega), uI_n (by omega)]
      · rfl
    have eb : goesN N g p (2524 + 30 * x + i) = N (2524 + 30 * x + i) := by
      unfold goesN
      rw [uI_n (by omega)]
      split
      · rw [uI_n (by omega), uI_n (by omega)]
      · rfl
    rw [ea, eb]; exact hh
/-- what stays over a stage of a tick -/
def FrT (N M : NN) : Prop := (∀ j, j < 32 → M j = N j) ∧ (∀ j, 68 ≤ j → j < 148 → M j = N j) ∧ (∀ j, 340 ≤ j → j < 484 → M j = N j)
theorem FrT.refl {N : NN} : FrT N N := ⟨fun _ _ => rfl, fun _ _ _ => rfl, fun _ _ _ => rfl⟩
theorem FrT.trans {N M P : NN} (h : FrT N M) (h2 : FrT M P) : FrT N P := ⟨fun j q => by rw [h2.1 j q, h.1 j q], fun j q r => by rw [h2.2.1 j q r, h.2.1 j q r], fun j q r => by rw [h2.2.2 j q r, h.2.2 j q r]⟩
/-- those in stores p, p+1 .. came before this tick -/
def SI (N : NN) (p : Int) : Prop := ∀ x, 0 ≤ x → x < N 3 → N (484 + x) = 3 → p ≤ N (544 + x) → N (604 + x) < N 4
/-- what holds all through a tick of N, k steps in, with G given, the stores from p on not yet asked -/
def TI (N M G : NN) (k p : Int) : Prop := IV M k ∧ WI M ∧ GI M G ∧ FrT N M ∧ SI M p
theorem put_e {N : NN} {g b j : Int} (q0 : j ≠ 484 + g) (q1 : j ≠ 544 + g) (q2 : j ≠ 604 + g) (q3 : j ≠ 148 + 12 * b) : putN N g b j = N j := by
  unfold putN liesN
  rw [uI_n q2, uI_n q1, uI_n q0, uI_n q3]
theorem put_v {N : NN} {g b : Int} : putN N g b (484 + g) = 1 ∧ putN N g b (544 + g) = b ∧ putN N g b (604 + g) = 0 := by
  unfold putN liesN
  exact ⟨by rw [uI_n (by omega), uI_n (by omega), uI_s], by rw [uI_n (by omega), uI_s], uI_s⟩
/-- a bag given: what is true then -/
theorem TI.give {N M M' G : NN} {k k' g b p : Int} (hT : TI N M G k p) (hI' : IV M' k') (hW' : WI M') (hg : 0 ≤ g ∧ g < M 3) (hb : 0 ≤ b ∧ b < M 1) (ha : ∀ j, j < 664 → j ≠ 484 + g → j ≠ 544 + g → j ≠ 604 + g → j ≠ 148 + 12 * b → (32 ≤ j → 44 ≤ j) → M' j = M j) (hv : M' (484 + g) = 1 ∧ M' (604 + g) = 0) : TI N M' (uI G g 1) k' p := by
  obtain ⟨hI, hW, hG, hF, hS⟩ := hT
  obtain ⟨b0, b1, b2, b3, b4, b5⟩ := hI.n
  have m3 : M' 3 = M 3 := ha 3 (by omega) (by omega) (by omega) (by omega) (by omega) (by omega)
  have m4 : M' 4 = M 4 := ha 4 (by omega) (by omega) (by omega) (by omega) (by omega) (by omega)
  refine ⟨hI', hW', ⟨fun x => ?_, fun x hx => ?_, fun x x0 x1 hx => ?_⟩, hF.trans ⟨fun j q => ha j (by omega) (by omega) (by omega) (by omega) (by omega) (by omega), fun j q r => ha j (by omega) (by omega) (by omega) (by omega) (by omega) (by omega), fun j q r => ha j (by omega) (by omega) (by omega) (by omega) (by omega) (by omega)⟩, fun x x0 x1 h1 h2 => ?_⟩
  · unfold uI
    split
    · exact Or.inr rfl
    · exact hG.1 x
  · rw [m3] at hx
    rw [uI_n (by omega)]
    exact hG.2.1 x hx
  · rw [m3] at x1
    by_cases c : x = g
    · subst c; exact hv
    · rw [uI_n c] at hx
      rw [ha _ (by omega) (by omega) (by omega) (by omega) (by omega) (by omega), ha _ (by omega) (by omega) (by omega) (by omega) (by omega) (by omega)]
      exact hG.2.2 x x0 x1 hx
  · rw [m3] at x1
    by_cases c : x = g
    · subst c; omega
    · rw [ha _ (by omega) (by omega) (by omega) (by omega) (by omega) (by omega)] at h1 h2
      rw [ha _ (by omega) (by omega) (by omega) (by omega) (by omega) (by omega), m4]
      exact hS x x0 x1 h1 h2
theorem outS_b {N : NN} {k p : Int} (hI : IV N k) (h : 0 ≤ outS N p) : outS N p < N 1 := by
  have := fstI_b (P := fun b => decide (N (68 + b) = p ∧ N (116 + b) = 0)) (lo := 0) (hi := N 1) (by omega) hI.n.2.1.1
  have e : outS N p = fstI (fun b => decide (N (68 + b) = p ∧ N (116 + b) = 0)) 0 (N 1) := rfl
  omega
theorem outA_b {N : NN} {k p w : Int} (hI : IV N k) : outA N p w < N 1 ∨ outA N p w = -1 := by
  have := fstI_b (P := fun b => decide (N (68 + b) = p) && decide (cntI (fun x => decide (N (68 + x) = p)) b = w)) (lo := 0) (hi := N 1) (by omega) hI.n.2.1.1
  have e : outA N p w = fstI (fun b => decide (N (68 + b) = p) && decide (cntI (fun x => decide (N (68 + x) = p)) b = w)) 0 (N 1) := rfl
  omega
theorem beltN_b {N : NN} {k p g : Int} (hI : IV N k) (h : 0 ≤ beltN N p g) : beltN N p g < N 1 := by
  have h1 := hI.n.2.1.1
  unfold beltN at h ⊢
  split at h
  · rename_i c; rw [if_pos c]; exact outS_b hI h
  · rename_i c
    rw [if_neg c]
    split at h
    · rename_i c2
      rw [if_pos c2]
      unfold scrN at h ⊢
      have a0 := outA_b (p := p) (w := 0) hI
      have a1 := outA_b (p := p) (w := 1) hI
      split at h
      · omega
      · rename_i c3
        rw [if_neg c3]
        split at h
        · rename_i c4; rw [if_pos c4]; omega
        · rename_i c4; rw [if_neg c4]; omega
    · rename_i c2
      rw [if_neg c2]
      unfold outF bestO at h ⊢
      have := mnI_b (P := fun b => decide (N (68 + b) = p ∧ N (116 + b) ≠ 1 ∧ 0 ≤ farS N (N (340 + N (364 + g))) (N (84 + b)))) (K := fun b => N (100 + b) + farS N (N (340 + N (364 + g))) (N (84 + b))) h1
      omega
theorem gv_ok {N M G : NN} {k p : Int} (hT : TI N M G k 0) (hp : 0 ≤ p ∧ p < M 0) (hk : k < 300) : TI N (gvN M G p).1 (gvN M G p).2 (k + 1) 0 := by
  have hTT := hT
  obtain ⟨hI, hW, hG, hF, hS⟩ := hTT
  obtain ⟨b0, b1, b2, b3, b4, b5⟩ := hI.n
  have hmore : TI N M G (k + 1) 0 := ⟨hI.more (by omega) (by omega), hW, hG, hF, hS⟩
  unfold gvN
  by_cases k0 : M (8 + p) = 0
  · rw [if_pos k0]
    by_cases c : 0 ≤ fstW M p ∧ freeB M (outS M p) = true
    · rw [if_pos c]
      have hb3 := mnI_b (P := wP M 0 p) (K := fun g => M (604 + g)) b3.1
      have hPP := of_decide_eq_true (mnI_P (P := wP M 0 p) (K := fun g => M (604 + g)) c.1)
      have ef : fstW M p = mnI (wP M 0 p) (fun g => M (604 + g)) (M 3) := rfl
      rw [← ef] at hb3 hPP
      have hfr := of_decide_eq_true c.2
      have hob := outS_b (p := p) hI hfr.1
      generalize fstW M p = g at *
      generalize outS M p = b at *
      have hg : 0 ≤ g ∧ g < M 3 := ⟨by omega, by omega⟩
      have i1 := IV_put hI hg ⟨hfr.1, hob⟩ hfr.2.2 (Or.inl hPP.1)
      have e3 : putN M g b 3 = M 3 := put_e (by omega) (by omega) (by omega) (by omega)
      have e4 : putN M g b 4 = M 4 := put_e (by omega) (by omega) (by omega) (by omega)
      have e6 : putN M g b (664 + g) = M (664 + g) := put_e (by omega) (by omega) (by omega) (by omega)
      have w1 : WI (putN M g b) := hW.same e3 (fun j hj => put_e (by omega) (by omega) (by omega) (by omega))
      obtain ⟨i2, a1, -, -⟩ := i1.goes (g := g) (p := p) (by rw [e3]; exact hg) ⟨hp.1, by omega⟩ hk
      have hs := (hI.g hg.1 hg.2).2.2.1.1
      dsimp only
      exact hT.give i2 (w1.goes (by rw [e3]; exact hg) (by omega) ⟨hp.1, by omega⟩ (by rw [e4]; exact b4) (by rw [e6]; exact hs)) hg ⟨hfr.1, hob⟩ (fun j q0 q1 q2 q3 q4 q5 => by rw [a1 j q0, put_e q1 q2 q3 q4]) ⟨by rw [a1 _ (by omega)]; exact put_v.1, by rw [a1 _ (by omega)]; exact put_v.2.2⟩
    · rw [if_neg c]; exact hmore
  · rw [if_neg k0]
    by_cases k4 : M (8 + p) = 4
    · rw [if_pos k4]
      by_cases c : 0 ≤ fstO M p ∧ freeB M (outS M p) = true
      · rw [if_pos c]
        have hb3 := mnI_b (P := fun g => decide ((M (484 + g) = 3 ∧ M (544 + g) = p) ∧ M (348 + M (364 + g)) ≤ M 4)) (K := fun g => M (604 + g)) b3.1
        have hPP := of_decide_eq_true (mnI_P (P := fun g => decide ((M (484 + g) = 3 ∧ M (544 + g) = p) ∧ M (348 + M (364 + g)) ≤ M 4)) (K := fun g => M (604 + g)) c.1)
        have ef : fstO M p = mnI (fun g => decide ((M (484 + g) = 3 ∧ M (544 + g) = p) ∧ M (348 + M (364 + g)) ≤ M 4)) (fun g => M (604 + g)) (M 3) := rfl
        rw [← ef] at hb3 hPP
        have hfr := of_decide_eq_true c.2
        have hob := outS_b (p := p) hI hfr.1
        generalize fstO M p = g at *
        generalize outS M p = b at *
        have hg : 0 ≤ g ∧ g < M 3 := ⟨by omega, by omega⟩
        have i1 := IV_put hI hg ⟨hfr.1, hob⟩ hfr.2.2 (Or.inr hPP.1.1)
        have e3 : putN M g b 3 = M 3 := put_e (by omega) (by omega) (by omega) (by omega)
        have w1 : WI (putN M g b) := hW.same e3 (fun j hj => put_e (by omega) (by omega) (by omega) (by omega))
        dsimp only
        exact hT.give (i1.more (by omega) (by omega)) w1 hg ⟨hfr.1, hob⟩ (fun j q0 q1 q2 q3 q4 q5 => put_e q1 q2 q3 q4) ⟨put_v.1, put_v.2.2⟩
      · rw [if_neg c]; exact hmore
    · rw [if_neg k4]
      by_cases c5 : M (8 + p) = 5 ∨ M (32 + p) - 1 < 0
      · rw [if_pos c5]; exact hmore
      · rw [if_neg c5]
        by_cases c : freeB M (beltN M p (M (32 + p) - 1)) = true
        · rw [if_pos c]
          have hfr := of_decide_eq_true c
          have hob := beltN_b (p := p) (g := M (32 + p) - 1) hI hfr.1
          obtain ⟨-, -, -, q4, -⟩ := hI.p hp.1 hp.2
          have q5 : (1 ≤ M (32 + p) ∧ M (32 + p) ≤ M 3) ∧ M (484 + (M (32 + p) - 1)) = 2 ∧ M (544 + (M (32 + p) - 1)) = p := by omega
          generalize beltN M p (M (32 + p) - 1) = b at *
          have hgm : M (32 + p) - 1 < M 3 := by omega
          generalize M (32 + p) - 1 = g at *
          have hg : 0 ≤ g ∧ g < M 3 := ⟨by omega, by omega⟩
          have i1 := IV_putH hI hg ⟨hfr.1, hob⟩ hfr.2.2 q5.2.1
          rw [q5.2.2] at i1
          have e3 : uI (putN M g b) (32 + p) 0 3 = M 3 := by rw [uI_n (by omega)]; exact put_e (by omega) (by omega) (by omega) (by omega)
          have w1 : WI (uI (putN M g b) (32 + p) 0) := hW.same e3 (fun j hj => by rw [uI_n (by omega)]; exact put_e (by omega) (by omega) (by omega) (by omega))
          dsimp only
          exact hT.give (i1.more (by omega) (by omega)) w1 hg ⟨hfr.1, hob⟩ (fun j q0 q1 q2 q3 q4 q5 => by rw [uI_n (by omega)]; exact put_e q1 q2 q3 q4) ⟨by rw [uI_n (by omega)]; exact put_v.1, by rw [uI_n (by omega)]; exact put_v.2.2⟩
        · rw [if_neg c]; exact hmore
