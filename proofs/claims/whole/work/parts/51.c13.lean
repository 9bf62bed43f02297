/-! ===== a step more, in the class's hall ===== -/
def adS (σ : SS) (g t p : Int) : SS := up (if σ 5 0 g 5 < 30 then up σ 6 0 g (σ 5 0 g 5) (t * 12 + p) else σ) 5 0 g 5 (σ 5 0 g 5 + 1)
theorem adS_n {σ : SS} {g t p : Int} {a : Nat} (h5 : a ≠ 5) (h6 : a ≠ 6) : adS σ g t p a = σ a := by
  funext t' i j
  unfold adS up
  rw [if_neg (fun q => h5 q.1)]
  split
  · exact if_neg (fun q => h6 q.1)
  · rfl
theorem adS_5 {σ : SS} {g t p x j : Int} : adS σ g t p 5 0 x j = if x = g ∧ j = 5 then σ 5 0 g 5 + 1 else σ 5 0 x j := by
  unfold adS up
  by_cases c : x = g ∧ j = 5
  · rw [if_pos c, if_pos ⟨rfl, rfl, c.1, c.2⟩]
  · rw [if_neg c, if_neg (fun q => c ⟨q.2.2.1, q.2.2.2⟩)]
    split
    · exact if_neg (fun q => absurd q.1 (by decide))
    · rfl
theorem adS_6 {σ : SS} {g t p x j : Int} : adS σ g t p 6 0 x j = if x = g ∧ j = σ 5 0 g 5 ∧ σ 5 0 g 5 < 30 then t * 12 + p else σ 6 0 x j := by
  unfold adS up
  rw [if_neg (fun q => absurd q.1 (by decide))]
  by_cases c : σ 5 0 g 5 < 30
  · rw [if_pos c]
    by_cases c2 : x = g ∧ j = σ 5 0 g 5
    · rw [if_pos ⟨rfl, rfl, c2.1, c2.2⟩, if_pos ⟨c2.1, c2.2, c⟩]
    · rw [if_neg (fun q => c2 ⟨q.2.2.1, q.2.2.2⟩), if_neg (fun q => c2 ⟨q.1, q.2.1⟩)]
  · rw [if_neg c, if_neg (fun q => c q.2.2)]
theorem adS_o {σ : SS} {g t p : Int} {a : Nat} {t' i : Int} (h : 10 ≤ a ∨ t' ≠ 0) : adS σ g t p a t' i = σ a t' i := by
  unfold adS
  rw [up_o (by decide) h]
  split
  · rw [up_o (by decide) h]
  · rfl
theorem RG_adS {σ : SS} {g t p : Int} (hR : RG σ) (h1 : inR (t * 12 + p)) (h2 : inR (σ 5 0 g 5 + 1)) : RG (adS σ g t p) := by
  unfold adS
  refine RG_up ?_ h2
  split
  · exact RG_up hR h1
  · exact hR
theorem RH_goes {σ : SS} {N : NN} {k g p : Int} (hI : IV N k) (hH : RH σ 0 N) (hg : 0 ≤ g ∧ g < N 3) (hp : 0 ≤ p ∧ p < 12) : RH (adS σ g (N 4) p) 0 (goesN N g p) := by
  obtain ⟨b0, b1, b2, b3, b4, b5⟩ := hI.n
  obtain ⟨-, -, q3, -⟩ := hI.g hg.1 hg.2
  have hs := q3.1
  obtain ⟨w0, w1, w2, w3, w4, w5⟩ := hH.g g hg.1 hg.2
  have e : ∀ j, j < 664 → goesN N g p j = N j := fun j hj => goes_e hj hg.1 hs
  have e6 : goesN N g p (664 + g) = N (664 + g) + 1 := uI_s
  have e6n : ∀ x, 0 ≤ x → x < 60 → x ≠ g → goesN N g p (664 + x) = N (664 + x) := by
    intro x x0 x1 xn
    unfold goesN
    rw [uI_n (by omega)]
    split
    · rw [uI_n (by omega), uI_n (by omega)]
    · rfl
  have ew : ∀ x i, 0 ≤ x → x < 60 → 0 ≤ i → i < 30 → (goesN N g p (2524 + 30 * x + i) = if x = g ∧ i = N (664 + g) then N 4 else N (2524 + 30 * x + i)) ∧ (goesN N g p (724 + 30 * x + i) = if x = g ∧ i = N (664 + g) then p else N (724 + 30 * x + i)) := by
    intro x i x0 x1 i0 i1
    unfold goesN
    rw [uI_n (by omega), uI_n (by omega)]
    by_cases c : x = g ∧ i = N (664 + g)
    · obtain ⟨rfl, rfl⟩ := c
      rw [if_pos (by omega), if_pos ⟨rfl, rfl⟩, if_pos ⟨rfl, rfl⟩, uI_s, uI_n (by omega), uI_s]
      exact ⟨rfl, rfl⟩
    · rw [if_neg c, if_neg c]
      split
      · rw [uI_n (by omega), uI_n (by omega), uI_n (by omega), uI_n (by omega)]
        exact ⟨rfl, rfl⟩
      · exact ⟨rfl, rfl⟩
  generalize goesN N g p = M at e e6 e6n ew ⊢
  refine ⟨?_, hH.p.same (fun i j _ => by rw [adS_n (by decide) (by decide)]) (e 0 (by omega)) (by omega) (fun j _ _ => e j (by omega)) (fun j _ _ => e j (by omega)), hH.b.same (by rw [adS_n (by decide) (by decide)]) (e 1 (by omega)) (by omega) (fun j _ _ => e j (by omega)), hH.c.same (by rw [adS_n (by decide) (by decide)]) (e 1 (by omega)) (by omega) (fun j _ _ => e j (by omega)), hH.f.same (by rw [adS_n (by decide) (by decide)]) (e 2 (by omega)) (by omega) (fun j _ _ => e j (by omega)), ?_, ?_, hH.r.same (fun i => by rw [adS_n (by decide) (by decide)]) (by rw [adS_n (by decide) (by decide)]) (e 0 (by omega)) (e 3 (by omega)) (by omega) (by omega) (fun j _ _ => e j (by omega)) (fun j _ _ => e j (by omega))⟩
  · unfold RHn
    rw [adS_n (by decide) (by decide), e 0 (by omega), e 1 (by omega), e 2 (by omega), e 3 (by omega), e 4 (by omega)]
    exact hH.n
  · intro x x0 x1
    rw [e 3 (by omega)] at x1
    obtain ⟨v0, v1, v2, v3, v4, v5⟩ := hH.g x x0 x1
    rw [e (364 + x) (by omega), e (424 + x) (by omega), e (484 + x) (by omega), e (544 + x) (by omega), e (604 + x) (by omega)]
    refine ⟨by rw [adS_5, if_neg (by omega)]; exact v0, by rw [adS_5, if_neg (by omega)]; exact v1, by rw [adS_5, if_neg (by omega)]; exact v2, by rw [adS_5, if_neg (by omega)]; exact v3, fun h1 h2 => by rw [adS_5, if_neg (by omega)]; exact v4 h1 h2, ?_⟩
    by_cases c : x = g
    · subst c; rw [adS_5, if_pos ⟨rfl, rfl⟩, e6]; omega
    · rw [adS_5, if_neg (fun q => c q.1), e6n x x0 (by omega) c]; exact v5
  · intro x i x0 x1 i0 i1 i2
    rw [e 3 (by omega)] at x1
    obtain ⟨a1, a2⟩ := ew x i x0 (by omega) i0 i2
    rw [a1, a2, adS_6, w5]
    by_cases c : x = g ∧ i = N (664 + g)
    · rw [if_pos ⟨c.1, c.2, by omega⟩, if_pos c, if_pos c]
    · rw [if_neg (fun q => c ⟨q.1, q.2.1⟩), if_neg c, if_neg c]
      refine hH.w x i x0 x1 i0 ?_ i2
      by_cases cx : x = g
      · subst cx; rw [e6] at i1; omega
      · rw [e6n x x0 (by omega) cx] at i1; exact i1

/-- a bag leaves a point's row for cell 0 of a belt -/
def sndS (σ : SS) (p l b g : Int) : SS := (up (up (up (up (rmS σ p l) 3 0 b 0 g) 2 0 b 5 1) 5 0 g 2 1) 5 0 g 3 b)
theorem RH_send {σ : SS} {N M : NN} {k g b p l : Int} (hI : IV N k) (hH : RH σ 0 N) (hg : 0 ≤ g ∧ g < N 3) (hp : 0 ≤ p ∧ p < N 0) (hb : 0 ≤ b ∧ b < N 1) (hl : 0 ≤ l ∧ l < σ 0 0 p 4 ∧ σ 1 0 p l = g) (hgp : N (544 + g) = p) (e : ∀ j, j ≠ 484 + g → j ≠ 544 + g → j ≠ 604 + g → j ≠ 148 + 12 * b → (32 ≤ j → 44 ≤ j) → M j = N j) (v0 : M (484 + g) = 1) (v1 : M (544 + g) = b) (v3 : M (148 + 12 * b) = g + 1) : RH (sndS σ p l b g) 0 M := by
  obtain ⟨b0, b1, b2, b3, b4, b5⟩ := hI.n
  obtain ⟨w0, w1, w2, w3, w4, w5⟩ := hH.g g hg.1 hg.2
  unfold sndS
  refine hH.mv (g := g) ⟨e 0 (by omega) (by omega) (by omega) (by omega) (by omega), e 1 (by omega) (by omega) (by omega) (by omega) (by omega), e 2 (by omega) (by omega) (by omega) (by omega) (by omega), e 3 (by omega) (by omega) (by omega) (by omega) (by omega), e 4 (by omega) (by omega) (by omega) (by omega) (by omega)⟩ ⟨b0, b1, b2, b3⟩ (fun j _ hj => e j (by omega) (by omega) (by omega) (by omega) (by omega)) (fun x x0 x1 xn => e _ (by omega) (by omega) (by omega) (by omega) (by omega)) (fun x x0 x1 xn => ⟨e _ (by omega) (by omega) (by omega) (by omega) (by omega), e _ (by omega) (by omega) (by omega) (by omega) (by omega), e _ (by omega) (by omega) (by omega) (by omega) (by omega)⟩) rfl (fun i j hj => (by unfold rmS up sK; (repeat (first | rewrite [if_pos (by omega)] | rewrite [if_neg (by omega)] | dsimp only)); (try rfl))) (fun x j hj => (by unfold rmS up sK; (repeat (first | rewrite [if_pos (by omega)] | rewrite [if_neg (by omega)] | dsimp only)); (try rfl))) rfl (fun x hx => by funext j; exact (by unfold rmS up sK; (repeat (first | rewrite [if_pos (by omega)] | rewrite [if_neg (by omega)] | dsimp only)); (try rfl))) rfl (fun x c c0 c1 c2 c3 => ?_) (fun _ _ => ?_) ?_
  · rw [e 1 (by omega) (by omega) (by omega) (by omega) (by omega)] at c1
    by_cases q : 148 + 12 * x + c = 148 + 12 * b
    · have q1 : x = b := by omega
      have q2 : c = 0 := by omega
      subst q1; subst q2
      rw [show 148 + 12 * x + 0 = 148 + 12 * x by omega, v3, show g + 1 - 1 = g by omega]
      exact (by unfold rmS up sK; (repeat (first | rewrite [if_pos (by omega)] | rewrite [if_neg (by omega)] | dsimp only)); (try rfl))
    · rw [e _ (by omega) (by omega) (by omega) q (by omega), ← hH.c x c c0 c1 c2 c3]
      exact (by unfold rmS up sK; (repeat (first | rewrite [if_pos (by omega)] | rewrite [if_neg (by omega)] | dsimp only)); (try rfl))
  · rw [v0, v1, e (424 + g) (by omega) (by omega) (by omega) (by omega) (by omega), ← w1]
    exact ⟨(by unfold rmS up sK; (repeat (first | rewrite [if_pos (by omega)] | rewrite [if_neg (by omega)] | dsimp only)); (try rfl)), (by unfold rmS up sK; (repeat (first | rewrite [if_pos (by omega)] | rewrite [if_neg (by omega)] | dsimp only)); (try rfl)), (by unfold rmS up sK; (repeat (first | rewrite [if_pos (by omega)] | rewrite [if_neg (by omega)] | dsimp only)); (try rfl)), (by unfold rmS up sK; (repeat (first | rewrite [if_pos (by omega)] | rewrite [if_neg (by omega)] | dsimp only)); (try rfl)), fun h => by omega, (by unfold rmS up sK; (repeat (first | rewrite [if_pos (by omega)] | rewrite [if_neg (by omega)] | dsimp only)); (try rfl))⟩
  · exact hH.r.leave (g := g) hp ⟨by omega, by omega⟩ hl hgp (fun _ => rfl) rfl (e 0 (by omega) (by omega) (by omega) (by omega) (by omega)) (e 3 (by omega) (by omega) (by omega) (by omega) (by omega)) (fun x x0 x1 => e _ (by omega) (by omega) (by omega) (by omega) (by omega)) (fun x x0 x1 xn => ⟨e _ (by omega) (by omega) (by omega) (by omega) (by omega), e _ (by omega) (by omega) (by omega) (by omega) (by omega), e _ (by omega) (by omega) (by omega) (by omega) (by omega)⟩) (Or.inl v0)
/-- fresh says that the bag in cell 0 was given in this tick -/
def FR (σ : SS) (M G : NN) : Prop := ∀ b, 0 ≤ b → b < M 1 → (σ 2 0 b 5 = 0 ∧ (M (148 + 12 * b) = 0 ∨ G (M (148 + 12 * b) - 1) = 0)) ∨ (σ 2 0 b 5 = 1 ∧ M (148 + 12 * b) ≠ 0 ∧ G (M (148 + 12 * b) - 1) = 1)
/-- what holds of the class's side in the middle of a tick -/
def TR (σ τ : SS) (M G : NN) : Prop := RH τ 0 M ∧ SM τ M ∧ RG τ ∧ (∀ i j, τ 8 0 i j ≤ 1000000) ∧ FR τ M G ∧ τ 9 0 0 0 = σ 9 0 0 0 ∧ ∀ (a : Nat) (t i : Int), 10 ≤ a ∨ (t ≠ 0 ∧ a ≠ 8) → τ a t i = σ a t i
def sdN (M : NN) (p g b : Int) : NN := if M (8 + p) = 0 then goesN (putN M g b) g p else if M (8 + p) = 4 then putN M g b else uI (putN M g b) (32 + p) 0
theorem fb_neg {N : NN} {b : Int} (h : b < 0) : freeB N b = false := decide_eq_false (by omega)
theorem gv_eq {M G : NN} {p : Int} (h : 0 ≤ M (8 + p) ∧ M (8 + p) ≤ 5) : gvN M G p = if 0 ≤ ntg M p ∧ freeB M (otf M p (ntg M p)) = true then (sdN M p (ntg M p) (otf M p (ntg M p)), uI G (ntg M p) 1) else (M, G) := by
  unfold gvN
  by_cases k0 : M (8 + p) = 0
  · have e1 : ntg M p = fstW M p := by unfold ntg; rw [if_neg (by omega), if_pos k0]
    have e2 : ∀ g, otf M p g = outS M p := fun g => by unfold otf; rw [if_neg (by omega), if_neg (by omega)]
    have e3 : ∀ g b, sdN M p g b = goesN (putN M g b) g p := fun g b => by unfold sdN; rw [if_pos k0]
    rw [if_pos k0, e1, e2, e3]
  · rw [if_neg k0]
    by_cases k4 : M (8 + p) = 4
    · have e1 : ntg M p = fstO M p := by unfold ntg; rw [if_pos k4]
      have e2 : ∀ g, otf M p g = outS M p := fun g => by unfold otf; rw [if_neg (by omega), if_neg (by omega)]
      have e3 : ∀ g b, sdN M p g b = putN M g b := fun g b => by unfold sdN; rw [if_neg k0, if_pos k4]
      rw [if_pos k4, e1, e2, e3]
    · rw [if_neg k4]
      have e3 : ∀ g b, sdN M p g b = uI (putN M g b) (32 + p) 0 := fun g b => by unfold sdN; rw [if_neg k0, if_neg k4]
      rw [e3]
      by_cases k5 : M (8 + p) = 5
      · have e1 : ntg M p = -1 := by unfold ntg; rw [if_neg k4, if_neg k0, if_pos k5]
        rw [if_pos (Or.inl k5), e1, if_neg (by omega)]
      · by_cases hneg : M (32 + p) - 1 < 0
        · have e1 : ntg M p < 0 := by
            unfold ntg
            rw [if_neg k4, if_neg k0, if_neg k5]
            split <;> omega
          rw [if_pos (Or.inr hneg), if_neg (by omega)]
        · rw [if_neg (by omega)]
          by_cases k2 : M (8 + p) = 2
          · by_cases c : M 4 < M (604 + (M (32 + p) - 1)) + M (20 + p)
            · have e1 : ntg M p = -1 := by unfold ntg; rw [if_neg k4, if_neg k0, if_neg k5, if_pos ⟨k2, by omega, c⟩]
              have e4 : beltN M p (M (32 + p) - 1) = -1 := by unfold beltN scrN; rw [if_neg (by omega), if_pos k2, if_pos c]
              rw [e1, e4, fb_neg (by omega), if_neg (by decide), if_neg (by omega)]
            · have e1 : ntg M p = M (32 + p) - 1 := by unfold ntg; rw [if_neg k4, if_neg k0, if_neg k5, if_neg (fun q => c q.2.2)]
              have e4 : beltN M p (M (32 + p) - 1) = otf M p (M (32 + p) - 1) := by unfold beltN scrN otf; rw [if_neg (by omega), if_pos k2, if_neg c, if_pos k2]
              rw [e1, e4]
              by_cases cc : freeB M (otf M p (M (32 + p) - 1)) = true
              · rw [if_pos cc, if_pos ⟨by omega, cc⟩]
              · rw [if_neg cc, if_neg (fun q => cc q.2)]
          · have e1 : ntg M p = M (32 + p) - 1 := by unfold ntg; rw [if_neg k4, if_neg k0, if_neg k5, if_neg (fun q => k2 q.1)]
            have e4 : beltN M p (M (32 + p) - 1) = otf M p (M (32 + p) - 1) := by
              unfold beltN otf
              by_cases k1 : M (8 + p) = 1
              · rw [if_pos k1, if_neg k2, if_neg (by omega)]
              · rw [if_neg k1, if_neg k2, if_neg k2, if_pos (show M (8 + p) = 3 by omega)]
            rw [e1, e4]
            by_cases cc : freeB M (otf M p (M (32 + p) - 1)) = true
            · rw [if_pos cc, if_pos ⟨by omega, cc⟩]
            · rw [if_neg cc, if_neg (fun q => cc q.2)]
