/-! ===== (2) and (3) of a tick keep the invariant ===== -/
theorem TI.take {N M M' G : NN} {k k' g q q' : Int} (hT : TI N M G k q) (hI' : IV M' k') (hW' : WI M') (hg : 0 ≤ g ∧ g < M 3) (hGg : G g = 0) (ha : ∀ j, j < 664 → j ≠ 484 + g → j ≠ 544 + g → j ≠ 604 + g → (j < 148 ∨ 340 ≤ j) → (32 ≤ j → 68 ≤ j) → M' j = M j) (hM : M' (484 + g) = 3 → M' (544 + g) < q' ∨ M' (604 + g) < M 4) (hq : q ≤ q') : TI N M' G k' q' := by
  obtain ⟨hI, hW, hG, hF, hS⟩ := hT
  obtain ⟨b0, b1, b2, b3, b4, b5⟩ := hI.n
  have m3 : M' 3 = M 3 := ha 3 (by omega) (by omega) (by omega) (by omega) (by omega) (by omega)
  have m4 : M' 4 = M 4 := ha 4 (by omega) (by omega) (by omega) (by omega) (by omega) (by omega)
  refine ⟨hI', hW', ⟨hG.1, fun x hx => hG.2.1 x (by rw [m3] at hx; exact hx), fun x x0 x1 hx => ?_⟩, hF.trans ⟨fun j q => ha j (by omega) (by omega) (by omega) (by omega) (by omega) (by omega), fun j q r => ha j (by omega) (by omega) (by omega) (by omega) (by omega) (by omega), fun j q r => ha j (by omega) (by omega) (by omega) (by omega) (by omega) (by omega)⟩, fun x x0 x1 h1 h2 => ?_⟩
  · rw [m3] at x1
    by_cases c : x = g
    · subst c; exact absurd hGg hx
    · rw [ha _ (by omega) (by omega) (by omega) (by omega) (by omega) (by omega), ha _ (by omega) (by omega) (by omega) (by omega) (by omega) (by omega)]
      exact hG.2.2 x x0 x1 hx
  · rw [m3] at x1
    by_cases c : x = g
    · subst c; have := hM h1; omega
    · rw [ha _ (by omega) (by omega) (by omega) (by omega) (by omega) (by omega)] at h1 h2
      rw [ha _ (by omega) (by omega) (by omega) (by omega) (by omega) (by omega), m4]
      exact hS x x0 x1 h1 (by omega)
theorem TI.later {N M G : NN} {k k' q q' : Int} (hT : TI N M G k q) (hk : k ≤ k') (h3 : k' ≤ 300) (hq : q ≤ q') : TI N M G k' q' := by
  obtain ⟨hI, hW, hG, hF, hS⟩ := hT
  exact ⟨hI.more hk h3, hW, hG, hF, fun x x0 x1 h1 h2 => hS x x0 x1 h1 (by omega)⟩
theorem mv1_ok {N M G : NN} {k b c : Int} (hT : TI N M G k 0) (hb : 0 ≤ b ∧ b < M 1) (hc : 0 ≤ c ∧ c + 1 < M (100 + b)) : TI N (mv1 M G b c) G k 0 := by
  obtain ⟨hI, hW, hG, hF, hS⟩ := id hT
  obtain ⟨b0, b1, b2, b3, b4, b5⟩ := hI.n
  obtain ⟨-, -, l, -⟩ := hI.b hb.1 hb.2
  unfold mv1
  by_cases q : M (148 + 12 * b + c) - 1 < 0 ∨ G (M (148 + 12 * b + c) - 1) ≠ 0 ∨ M (148 + 12 * b + c + 1) ≠ 0
  · rw [if_pos q]; exact hT
  · rw [if_neg q]
    have hcc := hI.c hb.1 hb.2 hc.1 (show c < 12 by omega)
    unfold cI at hcc
    have hc1 : (1 ≤ M (148 + 12 * b + c) ∧ M (148 + 12 * b + c) ≤ M 3) ∧ M (484 + (M (148 + 12 * b + c) - 1)) = 1 ∧ M (544 + (M (148 + 12 * b + c) - 1)) = b ∧ M (604 + (M (148 + 12 * b + c) - 1)) = c := by omega
    have hcell : M (148 + 12 * b + c) = (M (148 + 12 * b + c) - 1) + 1 := by omega
    have hG0 : G (M (148 + 12 * b + c) - 1) = 0 := by omega
    have hn : M (148 + 12 * b + c + 1) = 0 := by omega
    have hg : 0 ≤ M (148 + 12 * b + c) - 1 ∧ M (148 + 12 * b + c) - 1 < M 3 := by omega
    have hw := hc1.2
    generalize M (148 + 12 * b + c) - 1 = g at hcell hG0 hg hw ⊢
    have i1 := IV_mv1 hI hg hb hc hcell hw hn
    have e : ∀ j, j ≠ 604 + g → j ≠ 148 + 12 * b + c → j ≠ 148 + 12 * b + c + 1 → uI (uI (uI M (148 + 12 * b + c + 1) (g + 1)) (148 + 12 * b + c) 0) (604 + g) (c + 1) j = M j := fun j q0 q1 q2 => by rw [uI_n q0, uI_n q1, uI_n q2]
    exact hT.take i1 (hW.same (e 3 (by omega) (by omega) (by omega)) (fun j hj => e j (by omega) (by omega) (by omega))) hg hG0 (fun j q0 q1 q2 q3 q4 q5 => e j q3 (by omega) (by omega)) (fun h => by rw [e _ (by omega) (by omega) (by omega)] at h; omega) (Int.le_refl _)
theorem mvs_ok {N G : NN} {k b : Int} (hb : 0 ≤ b ∧ b < N 1) : ∀ (c : Nat) (M : NN), TI N M G k 0 → (c : Int) + 1 ≤ N (100 + b) → TI N (mvs G b c M) G k 0
  | 0, M, hT, _ => hT
  | c + 1, M, hT, hc => by
    have hF := hT.2.2.2.1
    have b1 := hT.1.n.2.1
    have e1 := hF.1 1 (by omega)
    have e2 := hF.2.1 (100 + b) (by omega) (by omega)
    exact mvs_ok hb c _ (mv1_ok hT (by omega) ⟨by omega, by omega⟩) (by omega)
theorem mvN_ok {N M G : NN} {k b : Int} (hT : TI N M G k 0) (hb : 0 ≤ b ∧ b < N 1) : TI N (mvN M G b) G k 0 := by
  have hF := hT.2.2.2.1
  have b1 := hT.1.n.2.1
  have e1 := hF.1 1 (by omega)
  have e2 := hF.2.1 (100 + b) (by omega) (by omega)
  obtain ⟨-, -, l, -⟩ := hT.1.b (b := b) hb.1 (by omega)
  unfold mvN
  split
  · exact hT
  · exact mvs_ok hb _ M hT (by omega)
theorem mvA_ok {N M G : NN} {k : Int} (hT : TI N M G k 0) : ∀ n : Nat, (n : Int) ≤ N 1 → TI N (mvA M G n) G k 0
  | 0, _ => hT
  | n + 1, hn => mvN_ok (mvA_ok hT n (by omega)) ⟨by omega, by omega⟩
/-- what an inlet has ready -/
theorem rdy_v {M G : NN} {k b : Int} (hI : IV M k) (hb : 0 ≤ b ∧ b < M 1) (h : 0 ≤ rdyN M G b) : (0 ≤ rdyN M G b ∧ rdyN M G b < M 3) ∧ M (148 + 12 * b + M (100 + b) - 1) = rdyN M G b + 1 ∧ G (rdyN M G b) = 0 ∧ M (484 + rdyN M G b) = 1 ∧ M (544 + rdyN M G b) = b ∧ M (604 + rdyN M G b) = M (100 + b) - 1 := by
  obtain ⟨-, -, l, -⟩ := hI.b hb.1 hb.2
  have hcc := hI.c hb.1 hb.2 (show 0 ≤ M (100 + b) - 1 by omega) (by omega)
  unfold cI at hcc
  rw [show 148 + 12 * b + (M (100 + b) - 1) = 148 + 12 * b + M (100 + b) - 1 by omega] at hcc
  unfold rdyN at h ⊢
  by_cases c : M (116 + b) = 1
  · rw [if_pos c] at h; omega
  · rw [if_neg c] at h ⊢
    by_cases c2 : M (148 + 12 * b + M (100 + b) - 1) - 1 < 0 ∨ G (M (148 + 12 * b + M (100 + b) - 1) - 1) ≠ 0
    · rw [if_pos c2] at h; omega
    · rw [if_neg c2] at h ⊢
      rcases hcc with q | ⟨q1, q2, q3, q4⟩
      · omega
      · exact ⟨by omega, by omega, by omega, q2, q3, q4⟩

theorem goes_e {A : NN} {g p j : Int} (h : j < 664) (hg : 0 ≤ g) (hs : 0 ≤ A (664 + g)) : goesN A g p j = A j := by
  unfold goesN
  rw [uI_n (by omega)]
  split
  · rw [uI_n (by omega), uI_n (by omega)]
  · rfl
def tkC (M : NN) (b g p w : Int) : NN := if w = 2 then uI (liesN (uI M (148 + 12 * b + M (100 + b) - 1) 0) g w p (M 4)) (32 + p) (g + 1) else liesN (uI M (148 + 12 * b + M (100 + b) - 1) 0) g w p (M 4)
theorem tkN_eq {M G : NN} {b p w : Int} : tkN M G b p w = goesN (tkC M b (rdyN M G b) p w) (rdyN M G b) p := rfl
theorem tkC_e {M : NN} {b g p w j : Int} (q0 : j ≠ 484 + g) (q1 : j ≠ 544 + g) (q2 : j ≠ 604 + g) (q3 : j ≠ 148 + 12 * b + M (100 + b) - 1) (q4 : j ≠ 32 + p) : tkC M b g p w j = M j := by
  unfold tkC liesN
  split
  · rw [uI_n q4, uI_n q2, uI_n q1, uI_n q0, uI_n q3]
  · rw [uI_n q2, uI_n q1, uI_n q0, uI_n q3]
theorem tkC_v {M : NN} {b g p w : Int} (hp : p < 12) (hg : 0 ≤ g) : tkC M b g p w (484 + g) = w ∧ tkC M b g p w (544 + g) = p ∧ tkC M b g p w (604 + g) = M 4 := by
  unfold tkC liesN
  split
  · exact ⟨by rw [uI_n (by omega), uI_n (by omega), uI_n (by omega), uI_s], by rw [uI_n (by omega), uI_n (by omega), uI_s], by rw [uI_n (by omega), uI_s]⟩
  · exact ⟨by rw [uI_n (by omega), uI_n (by omega), uI_s], by rw [uI_n (by omega), uI_s], uI_s⟩
theorem tk_ok {N M G : NN} {k q q' b p w : Int} (hT : TI N M G k q) (hq : q ≤ q') (hk3 : k < 300) (hb : 0 ≤ b ∧ b < M 1) (hp : 0 ≤ p ∧ p < M 0) (hr : 0 ≤ rdyN M G b) (hw : (w = 2 ∧ (1 ≤ M (8 + p) ∧ M (8 + p) ≤ 3) ∧ M (32 + p) = 0) ∨ (w = 3 ∧ M (8 + p) = 4 ∧ q ≤ p ∧ p < q') ∨ ((5 ≤ w ∧ w ≤ 7) ∧ M (8 + p) = 5)) : TI N (tkN M G b p w) G (k + 1) q' := by
  obtain ⟨hI, hW, hG, hF, hS⟩ := id hT
  obtain ⟨b0, b1, b2, b3, b4, b5⟩ := hI.n
  obtain ⟨-, -, l, -⟩ := hI.b hb.1 hb.2
  obtain ⟨r0, r1, r2, r3⟩ := rdy_v hI hb hr
  rw [tkN_eq]
  generalize rdyN M G b = g at r0 r1 r2 r3 ⊢
  have i1 : IV (tkC M b g p w) k := by
    unfold tkC
    rcases hw with ⟨w1, w2, w3⟩ | ⟨w1, w2, w3, w4⟩ | ⟨w1, w2⟩
    · rw [if_pos w1, w1]; exact IV_tkH hI r0 hb r1 r3 hp w2 w3
    · rw [if_neg (by omega), w1]; exact IV_tkS hI r0 hb r1 r3 hp w2 (fun x x0 x1 h1 h2 => hS x x0 x1 h1 (by omega))
    · rw [if_neg (by omega)]; exact IV_tkC hI r0 hb r1 r3 hp w1 w2
  have e3 : tkC M b g p w 3 = M 3 := tkC_e (by omega) (by omega) (by omega) (by omega) (by omega)
  have e4 : tkC M b g p w 4 = M 4 := tkC_e (by omega) (by omega) (by omega) (by omega) (by omega)
  have e6 : tkC M b g p w (664 + g) = M (664 + g) := tkC_e (by omega) (by omega) (by omega) (by omega) (by omega)
  have hs := (hI.g r0.1 r0.2).2.2.1.1
  obtain ⟨i2, a1, -, -⟩ := i1.goes (g := g) (p := p) (by rw [e3]; exact r0) ⟨hp.1, by omega⟩ hk3
  have w1 : WI (tkC M b g p w) := hW.same e3 (fun j hj => tkC_e (by omega) (by omega) (by omega) (by omega) (by omega))
  have hv := tkC_v (M := M) (b := b) (g := g) (p := p) (w := w) (by omega) r0.1
  refine hT.take i2 (w1.goes (by rw [e3]; exact r0) (by omega) ⟨hp.1, by omega⟩ (by rw [e4]; exact b4) (by rw [e6]; exact hs)) r0 r2 (fun j q0 q1 q2 q3 q4 q5 => by rw [a1 j q0]; exact tkC_e q1 q2 q3 (by omega) (by omega)) (fun h => ?_) hq
  rw [a1 _ (by omega), hv.1] at h
  rw [a1 _ (by omega), hv.2.1]
  left
  omega
theorem TI.set {N M G : NN} {k q p h l : Int} (hT : TI N M G k q) (hp : 0 ≤ p ∧ p < M 0) (hh : 1 ≤ h ∧ h ≤ M 1) (hin : M (84 + (h - 1)) = p) (hl : 0 ≤ l ∧ l ≤ 9) : TI N (uI (uI M (44 + p) h) (56 + p) l) G k q := by
  obtain ⟨hI, hW, hG, hF, hS⟩ := id hT
  obtain ⟨b0, b1, b2, b3, b4, b5⟩ := hI.n
  have e : ∀ j, j ≠ 44 + p → j ≠ 56 + p → uI (uI M (44 + p) h) (56 + p) l j = M j := fun j h1 h2 => by rw [uI_n h2, uI_n h1]
  have i1 := hI.hand hp hh hin hl
  generalize uI (uI M (44 + p) h) (56 + p) l = M' at e i1
  have m3 := e 3 (by omega) (by omega)
  have m4 := e 4 (by omega) (by omega)
  refine ⟨i1, hW.same m3 (fun j hj => e j (by omega) (by omega)), hG.of m3 (fun g g0 g1 => ⟨e _ (by omega) (by omega), e _ (by omega) (by omega)⟩), hF.trans ⟨fun j q => e j (by omega) (by omega), fun j q r => e j (by omega) (by omega), fun j q r => e j (by omega) (by omega)⟩, fun x x0 x1 h1 h2 => ?_⟩
  rw [m3] at x1
  rw [e _ (by omega) (by omega)] at h1 h2
  rw [e _ (by omega) (by omega), m4]
  exact hS x x0 x1 h1 h2
theorem mgs_ok {N G : NN} {k p : Int} (hk3 : k < 300) : ∀ (m : Nat) (M : NN), TI N M G k p → (0 ≤ p ∧ p < M 0) → M (8 + p) = 1 → M (32 + p) = 0 → (1 ≤ M (44 + p) ∧ M (84 + (M (44 + p) - 1)) = p) → TI N (mgs G p m M) G (k + 1) (p + 1)
  | 0, M, hT, _, _, _, _ => hT.later (by omega) (by omega) (by omega)
  | m + 1, M, hT, hp, h1, h32, h44 => by
    obtain ⟨b0, b1, b2, b3, b4, b5⟩ := hT.1.n
    obtain ⟨-, -, -, -, p5, p6, -⟩ := hT.1.p hp.1 hp.2
    unfold mgs
    by_cases c : 0 < M (56 + p) ∧ 0 ≤ rdyN M G (M (44 + p) - 1)
    · rw [if_pos c]
      have hT2 := hT.set (h := M (44 + p)) (l := M (56 + p) - 1) hp ⟨h44.1, by omega⟩ h44.2 ⟨by omega, by omega⟩
      rw [uI_id] at hT2
      obtain ⟨-, -, l, -⟩ := hT.1.b (b := M (44 + p) - 1) (by omega) (by omega)
      have hrd : rdyN (uI M (56 + p) (M (56 + p) - 1)) G (M (44 + p) - 1) = rdyN M G (M (44 + p) - 1) := rdy_eq (fun j j0 j1 => uI_n (by omega)) ⟨by omega, by omega⟩ l
      refine tk_ok hT2 (by omega) hk3 ⟨by omega, by rw [uI_n (by omega)]; omega⟩ ⟨hp.1, by rw [uI_n (by omega)]; exact hp.2⟩ (by rw [hrd]; exact c.2) (Or.inl ⟨rfl, by rw [uI_n (by omega)]; omega, by rw [uI_n (by omega)]; exact h32⟩)
    · rw [if_neg c]
      split
      · exact hT.later (by omega) (by omega) (by omega)
      · obtain ⟨i1, i2, i3⟩ := hT.1.pas hp h44
        obtain ⟨n1, n2, n3⟩ := nxt_in (b := M (44 + p) - 1) hT.1 (by omega) ⟨M (44 + p) - 1, by omega, by omega, h44.2⟩
        obtain ⟨-, -, -, -, l5, -⟩ := hT.1.b n1 n2
        have hT2 : TI N (pasN M p) G k p := hT.set (h := nxtI M p (M (44 + p) - 1) + 1) (l := M (132 + nxtI M p (M (44 + p) - 1))) hp ⟨by omega, by omega⟩ (by rw [show nxtI M p (M (44 + p) - 1) + 1 - 1 = nxtI M p (M (44 + p) - 1) by omega]; exact n3) l5
        exact mgs_ok hk3 m _ hT2 ⟨hp.1, by rw [i3 0 (by omega) (by omega)]; exact hp.2⟩ (by rw [i3 _ (by omega) (by omega)]; exact h1) (by rw [i3 _ (by omega) (by omega)]; exact h32) i2
theorem chs_ok {N M G : NN} {k p : Int} (hT : TI N M G k (p + 1)) (hp : 0 ≤ p ∧ p < M 0) (h5 : M (8 + p) = 5) (hk3 : k + M 1 ≤ 300) : ∀ n : Nat, (n : Int) ≤ M 1 → TI N (chs G p M n) G (k + n) (p + 1) ∧ FrT M (chs G p M n)
  | 0, _ => ⟨hT.later (by omega) (by omega) (by omega), FrT.refl⟩
  | n + 1, hn => by
    obtain ⟨ih, ihF⟩ := chs_ok hT hp h5 hk3 n (by omega)
    have b0 := hT.1.n.1
    show TI N (ch1 G p (chs G p M n) n) G (k + ((n + 1 : Nat) : Int)) (p + 1) ∧ FrT M (ch1 G p (chs G p M n) n)
    have e0 := ihF.1 0 (by omega)
    have e1 := ihF.1 1 (by omega)
    have e8 := ihF.1 (8 + p) (by omega)
    generalize chs G p M n = A at ih ihF e0 e1 e8 ⊢
    unfold ch1
    by_cases c : A (84 + (n : Int)) = p ∧ 0 ≤ rdyN A G n
    · rw [if_pos c]
      have hw : 5 ≤ chW A G n p ∧ chW A G n p ≤ 7 := by
        unfold chW
        split
        · omega
        · split <;> omega
      have h2 := tk_ok (q' := p + 1) ih (by omega) (by omega) (b := (n : Int)) ⟨by omega, by omega⟩ (p := p) ⟨hp.1, by omega⟩ c.2 (Or.inr (Or.inr ⟨hw, by omega⟩))
      refine ⟨h2.later (by omega) (by omega) (by omega), ?_⟩
      obtain ⟨iA, -, -, fA, -⟩ := ih
      obtain ⟨-, -, -, f2, -⟩ := h2
      have f0 : FrT N M := hT.2.2.2.1
      exact ⟨fun j q => by rw [f2.1 j q, f0.1 j q], fun j q r => by rw [f2.2.1 j q r, f0.2.1 j q r], fun j q r => by rw [f2.2.2 j q r, f0.2.2 j q r]⟩
    · rw [if_neg c]; exact ⟨ih.later (by omega) (by omega) (by omega), ihF⟩
theorem tkA_ok {N M G : NN} {k p : Int} (hT : TI N M G k p) (hp : 0 ≤ p ∧ p < M 0) (hk3 : k + 16 ≤ 300) : TI N (tkA M G p) G (k + 16) (p + 1) := by
  obtain ⟨hI, hW, hG, hF, hS⟩ := id hT
  obtain ⟨b0, b1, b2, b3, b4, b5⟩ := hI.n
  obtain ⟨p1, p2, p3, p4, p5, p6, p7⟩ := hI.p hp.1 hp.2
  have hsame := hT.later (k' := k + 16) (q' := p + 1) (by omega) (by omega) (by omega)
  have hri : 0 ≤ rdyI M G p → (0 ≤ rdyI M G p ∧ rdyI M G p < M 1) ∧ 0 ≤ rdyN M G (rdyI M G p) := by
    intro h
    have e : rdyI M G p = fstI (fun b => decide (M (84 + b) = p ∧ 0 ≤ rdyN M G b)) 0 (M 1) := rfl
    rcases fstI_is (P := fun b => decide (M (84 + b) = p ∧ 0 ≤ rdyN M G b)) (lo := 0) (hi := M 1) (by omega) b1.1 with ⟨h1, -⟩ | ⟨h1, h2, h3, -⟩
    · omega
    · rw [← e] at h1 h2 h3
      exact ⟨⟨h1, h2⟩, (of_decide_eq_true h3).2⟩
  unfold tkA
  by_cases k5 : M (8 + p) = 5
  · rw [if_pos k5]
    have h1 := (chs_ok (hT.later (q' := p + 1) (Int.le_refl _) (by omega) (by omega)) hp k5 (by omega) (M 1).toNat (by omega)).1
    exact h1.later (by omega) (by omega) (by omega)
  · rw [if_neg k5]
    by_cases k4 : M (8 + p) = 4
    · rw [if_pos k4]
      split
      · rename_i c
        obtain ⟨h1, h2⟩ := hri c.1
        exact (tk_ok (q' := p + 1) hT (by omega) (by omega) h1 hp h2 (Or.inr (Or.inl ⟨rfl, k4, by omega, by omega⟩))).later (by omega) (by omega) (by omega)
      · exact hsame
    · rw [if_neg k4]
      by_cases k0 : M (8 + p) = 0 ∨ M (32 + p) ≠ 0
      · rw [if_pos k0]; exact hsame
      · rw [if_neg k0]
        by_cases k1 : M (8 + p) = 1
        · rw [if_pos k1]
          unfold mgN
          split
          · rename_i c
            have h44 : 1 ≤ M (44 + p) ∧ M (84 + (M (44 + p) - 1)) = p := by
              rcases p7 k1 with ⟨q1, q2⟩ | q
              · exfalso
                have : cntI (inl M p) (M 1) = 0 := cnt_none _ (fun x x0 x1 => decide_eq_false (q2 x x0 (by omega)))
                omega
              · exact q
            exact (mgs_ok (by omega) _ M hT hp k1 (by omega) h44).later (by omega) (by omega) (by omega)
          · exact hsame
        · rw [if_neg k1]
          split
          · rename_i c
            obtain ⟨h1, h2⟩ := hri c
            exact (tk_ok (q' := p + 1) hT (by omega) (by omega) h1 hp h2 (Or.inl ⟨rfl, by omega, by omega⟩)).later (by omega) (by omega) (by omega)
          · exact hsame
theorem gvs_ok {N : NN} (hT : TI N N g0 0 0) : ∀ n : Nat, (n : Int) ≤ N 0 → TI N (gvs N g0 n).1 (gvs N g0 n).2 n 0
  | 0, _ => hT
  | n + 1, hn => by
    have ih := gvs_ok hT n (by omega)
    have b0 := hT.1.n.1
    have e0 := ih.2.2.2.1.1 0 (by omega)
    exact gv_ok ih ⟨by omega, by omega⟩ (by omega)
theorem tks_ok {N M G : NN} {k : Int} (hT : TI N M G k 0) (hk : k + 16 * N 0 ≤ 300) : ∀ n : Nat, (n : Int) ≤ N 0 → TI N (tks M G n) G (k + 16 * n) n
  | 0, _ => hT.later (by omega) (by omega) (by omega)
  | n + 1, hn => by
    have ih := tks_ok hT hk n (by omega)
    have e0 := ih.2.2.2.1.1 0 (by omega)
    have := tkA_ok ih ⟨by omega, by omega⟩ (by omega)
    exact this.later (by omega) (by omega) (by omega)
