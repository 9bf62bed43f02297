/-! ===== a point's row kept, shortened, made longer ===== -/
def smB (N M : NN) (x : Int) : Prop := M (484 + x) = N (484 + x) ∧ M (544 + x) = N (544 + x) ∧ M (604 + x) = N (604 + x)
theorem RHr1.keep {σ τ : SS} {t : Int} {N M : NN} {i : Int} (h : RHr1 σ t N i) (s4 : τ 0 t i 4 = σ 0 t i 4) (s1 : ∀ j, 0 ≤ j → j < σ 0 t i 4 → τ 1 t i j = σ 1 t i j) (k : M (8 + i) = N (8 + i)) (h3 : N 3 ≤ M 3)
    (hx : ∀ x, 0 ≤ x → x < M 3 → (x < N 3 ∧ smB N M x) ∨ (¬ (M (484 + x) = wcK (N (8 + i)) ∧ M (544 + x) = i) ∧ (x < N 3 → ¬ (N (484 + x) = wcK (N (8 + i)) ∧ N (544 + x) = i)))) : RHr1 τ t M i := by
  obtain ⟨a0, a1, a2, a3, a4⟩ := h
  have ex : ∀ j, 0 ≤ j → j < σ 0 t i 4 → smB N M (σ 1 t i j) := by
    intro j j0 j1
    obtain ⟨q1, q2, q3⟩ := a2 j j0 j1
    rcases hx _ q1.1 (by omega) with w | w
    · exact w.2
    · exact absurd ⟨q2, q3⟩ (w.2 q1.2)
  refine ⟨by rw [s4]; exact a0, by rw [k, s4]; exact a1, ?_, ?_, ?_⟩
  · intro j j0 j1
    rw [s4] at j1
    rw [s1 j j0 j1, k, (ex j j0 j1).1, (ex j j0 j1).2.1]
    obtain ⟨q1, q2, q3⟩ := a2 j j0 j1
    exact ⟨⟨q1.1, by omega⟩, q2, q3⟩
  · intro j l j0 jl l1
    rw [s4] at l1
    rw [s1 j j0 (by omega), s1 l (by omega) l1, (ex j j0 (by omega)).2.2, (ex l (by omega) l1).2.2]
    exact a3 j l j0 jl l1
  · rw [k, s4]
    intro h5 x x0 x1 x2 x3
    rcases hx x x0 x1 with w | w
    · obtain ⟨j, j0, j1, e⟩ := a4 h5 x x0 w.1 (by rw [← w.2.1]; exact x2) (by rw [← w.2.2.1]; exact x3)
      exact ⟨j, j0, j1, by rw [s1 j j0 j1]; exact e⟩
    · exact absurd ⟨x2, x3⟩ w.1
theorem RHr1.inj {σ : SS} {t : Int} {N : NN} {i : Int} (h : RHr1 σ t N i) {j l : Int} (j0 : 0 ≤ j) (j1 : j < σ 0 t i 4) (l0 : 0 ≤ l) (l1 : l < σ 0 t i 4) (e : σ 1 t i j = σ 1 t i l) : j = l := by
  obtain ⟨-, -, -, a3, -⟩ := h
  rcases Int.lt_trichotomy j l with q | q | q
  · have := a3 j l j0 q l1
    rw [e] at this; omega
  · exact q
  · have := a3 l j l0 q j1
    rw [e] at this; omega
theorem RHr1.leave {σ τ : SS} {t : Int} {N M : NN} {i g l : Int} (h : RHr1 σ t N i) (l0 : 0 ≤ l) (l1 : l < σ 0 t i 4) (hl : σ 1 t i l = g) (s4 : τ 0 t i 4 = σ 0 t i 4 - 1) (s1 : ∀ j, 0 ≤ j → j < σ 0 t i 4 - 1 → τ 1 t i j = if l ≤ j then σ 1 t i (j + 1) else σ 1 t i j) (k : M (8 + i) = N (8 + i)) (h3 : M 3 = N 3)
    (hx : ∀ x, 0 ≤ x → x < N 3 → x ≠ g → smB N M x) (hg : ¬ (M (484 + g) = wcK (N (8 + i)) ∧ M (544 + g) = i)) : RHr1 τ t M i := by
  have hinj := fun j j0 j1 e => h.inj (j := j) (l := l) j0 j1 l0 l1 e
  obtain ⟨a0, a1, a2, a3, a4⟩ := h
  have s1' : ∀ j, 0 ≤ j → j < σ 0 t i 4 - 1 → ∃ f, τ 1 t i j = σ 1 t i f ∧ 0 ≤ f ∧ f < σ 0 t i 4 ∧ f ≠ l ∧ f = (if l ≤ j then j + 1 else j) := by
    intro j j0 j1
    rw [s1 j j0 j1]
    by_cases e : l ≤ j
    · rw [if_pos e, if_pos e]; exact ⟨j + 1, rfl, by omega, by omega, by omega, rfl⟩
    · rw [if_neg e, if_neg e]; exact ⟨j, rfl, by omega, by omega, by omega, rfl⟩
  have ex : ∀ f, 0 ≤ f → f < σ 0 t i 4 → f ≠ l → smB N M (σ 1 t i f) := by
    intro f f0 f1 fn
    obtain ⟨q1, -⟩ := a2 f f0 f1
    exact hx _ q1.1 q1.2 (fun e => fn (hinj f f0 f1 (by rw [e, hl])))
  refine ⟨by rw [s4]; omega, by rw [k, s4]; intro q; have := a1 q; omega, ?_, ?_, ?_⟩
  · intro j j0 j1
    rw [s4] at j1
    obtain ⟨f, e, f0, f1, fn, -⟩ := s1' j j0 j1
    rw [e, k, (ex f f0 f1 fn).1, (ex f f0 f1 fn).2.1, h3]
    exact a2 f f0 f1
  · intro j l' j0 jl l1'
    rw [s4] at l1'
    obtain ⟨f, e, f0, f1, fn, fe⟩ := s1' j j0 (by omega)
    obtain ⟨f', e', f0', f1', fn', fe'⟩ := s1' l' (by omega) l1'
    rw [e, e', (ex f f0 f1 fn).2.2, (ex f' f0' f1' fn').2.2]
    refine a3 f f' f0 ?_ f1'
    rw [fe, fe']
    split <;> split <;> omega
  · rw [k, s4, h3]
    intro h5 x x0 x1 x2 x3
    have hxg : x ≠ g := fun e => hg (by rw [← e]; exact ⟨x2, x3⟩)
    obtain ⟨w1, w2, w3⟩ := hx x x0 x1 hxg
    obtain ⟨f, f0, f1, e⟩ := a4 h5 x x0 x1 (by rw [← w1]; exact x2) (by rw [← w2]; exact x3)
    have fn : f ≠ l := fun q => hxg (by rw [← e, q, hl])
    by_cases q : f < l
    · exact ⟨f, f0, by omega, by rw [s1 f f0 (by omega), if_neg (by omega)]; exact e⟩
    · refine ⟨f - 1, by omega, by omega, ?_⟩
      rw [s1 (f - 1) (by omega) (by omega), if_pos (by omega), show f - 1 + 1 = f by omega]
      exact e
theorem RHr1.join {σ τ : SS} {t : Int} {N M : NN} {i g : Int} (h : RHr1 σ t N i) (s4 : τ 0 t i 4 = σ 0 t i 4 + 1) (h60 : σ 0 t i 4 < 60) (s1 : ∀ j, 0 ≤ j → j < σ 0 t i 4 → τ 1 t i j = σ 1 t i j) (sg : τ 1 t i (σ 0 t i 4) = g) (k : M (8 + i) = N (8 + i)) (h5 : N (8 + i) ≠ 5) (h3 : N 3 ≤ M 3) (hg : 0 ≤ g ∧ g < M 3)
    (hgi : M (484 + g) = wcK (N (8 + i)) ∧ M (544 + g) = i) (hgn : g < N 3 → ¬ (N (484 + g) = wcK (N (8 + i)) ∧ N (544 + g) = i)) (hx : ∀ x, 0 ≤ x → x < M 3 → x ≠ g → x < N 3 ∧ smB N M x) (hk : ∀ x, 0 ≤ x → x < N 3 → N (484 + x) = wcK (N (8 + i)) → N (544 + x) = i → N (604 + x) < M (604 + g)) : RHr1 τ t M i := by
  obtain ⟨a0, a1, a2, a3, a4⟩ := h
  have ex : ∀ j, 0 ≤ j → j < σ 0 t i 4 → smB N M (σ 1 t i j) := by
    intro j j0 j1
    obtain ⟨q1, q2, q3⟩ := a2 j j0 j1
    exact (hx _ q1.1 (by omega) (fun e => by rw [e] at q1 q2 q3; exact hgn q1.2 ⟨q2, q3⟩)).2
  refine ⟨by rw [s4]; omega, by rw [k]; intro q; exact absurd q h5, ?_, ?_, ?_⟩
  · intro j j0 j1
    rw [s4] at j1
    by_cases e : j = σ 0 t i 4
    · rw [e, sg, k]; exact ⟨hg, hgi⟩
    · rw [s1 j j0 (by omega), k, (ex j j0 (by omega)).1, (ex j j0 (by omega)).2.1]
      obtain ⟨q1, q2, q3⟩ := a2 j j0 (by omega)
      exact ⟨⟨q1.1, by omega⟩, q2, q3⟩
  · intro j l j0 jl l1
    rw [s4] at l1
    rw [s1 j j0 (by omega), (ex j j0 (by omega)).2.2]
    by_cases e : l = σ 0 t i 4
    · rw [e, sg]
      obtain ⟨q1, q2, q3⟩ := a2 j j0 (by omega)
      exact hk _ q1.1 q1.2 q2 q3
    · rw [s1 l (by omega) (by omega), (ex l (by omega) (by omega)).2.2]
      exact a3 j l j0 jl (by omega)
  · rw [k, s4]
    intro h5 x x0 x1 x2 x3
    by_cases e : x = g
    · exact ⟨σ 0 t i 4, by omega, by omega, by rw [sg, e]⟩
    · obtain ⟨w0, w1, w2, w3⟩ := hx x x0 x1 e
      obtain ⟨j, j0, j1, e⟩ := a4 h5 x x0 w0 (by rw [← w1]; exact x2) (by rw [← w2]; exact x3)
      exact ⟨j, j0, by omega, by rw [s1 j j0 j1]; exact e⟩
/-- a row has room -/
theorem row_lt {σ : SS} {N : NN} {k i : Int} (hI : IV N k) (hr : RHr1 σ 0 N i) (h5 : N (8 + i) ≠ 5) (h : N 3 < 60 ∨ ∃ g, (0 ≤ g ∧ g < N 3) ∧ ¬ (N (484 + g) = wcK (N (8 + i)) ∧ N (544 + g) = i)) : σ 0 0 i 4 < 60 := by
  obtain ⟨b0, b1, b2, b3, b4, b5⟩ := hI.n
  have hs := (hr.srt h5 b3.1).all
  have hb := cntI_b (P := wP N (wcK (N (8 + i))) i) b3.1
  rcases h with h | ⟨g, hg, hn⟩
  · omega
  · have := cnt_lt (P := wP N (wcK (N (8 + i))) i) (Q := fun _ => true) (q := g) (N 3).toNat hg.1 (by omega) (decide_eq_false hn) rfl (fun _ _ _ _ => rfl)
    have h2 := cnt_b (fun _ => true) (N 3).toNat
    unfold cntI at hs
    omega
/-- one bag goes: what the class's hall must do -/
theorem RH.mv {σ τ : SS} {N M : NN} {g : Int} (hH : RH σ 0 N) (h012 : M 0 = N 0 ∧ M 1 = N 1 ∧ M 2 = N 2 ∧ M 3 = N 3 ∧ M 4 = N 4) (hn : (0 ≤ N 0 ∧ N 0 ≤ 12) ∧ (0 ≤ N 1 ∧ N 1 ≤ 16) ∧ (0 ≤ N 2 ∧ N 2 ≤ 8) ∧ (0 ≤ N 3 ∧ N 3 ≤ 60))
    (hA : ∀ j, j ≠ 5 → (j < 32 ∨ (44 ≤ j ∧ j < 148) ∨ (340 ≤ j ∧ j < 424) ∨ 664 ≤ j) → M j = N j)
    (hdb : ∀ x, 0 ≤ x → x < N 3 → x ≠ g → M (424 + x) = N (424 + x))
    (hB : ∀ x, 0 ≤ x → x < N 3 → x ≠ g → smB N M x)
    (s7 : τ 7 0 0 = σ 7 0 0) (sp : ∀ i j, j ≠ 4 → τ 0 0 i j = σ 0 0 i j) (sb : ∀ b j, j ≠ 5 → τ 2 0 b j = σ 2 0 b j) (sf : τ 4 0 = σ 4 0) (sg : ∀ x, x ≠ g → τ 5 0 x = σ 5 0 x) (sw : τ 6 0 = σ 6 0)
    (hc : RHc τ 0 M) (hgg : 0 ≤ g → g < N 3 → τ 5 0 g 0 = σ 5 0 g 0 ∧ τ 5 0 g 1 = M (424 + g) ∧ τ 5 0 g 2 = M (484 + g) ∧ τ 5 0 g 3 = M (544 + g) ∧ (2 ≤ M (484 + g) → M (484 + g) ≠ 4 → τ 5 0 g 4 = M (604 + g)) ∧ τ 5 0 g 5 = σ 5 0 g 5)
    (hr : RHr τ 0 M) : RH τ 0 M := by
  obtain ⟨m0, m1, m2, m3, m4⟩ := h012
  obtain ⟨b0, b1, b2, b3⟩ := hn
  refine ⟨?_, ?_, ?_, hc, ?_, ?_, ?_, hr⟩
  · unfold RHn
    rw [s7, m0, m1, m2, m3, m4]
    exact hH.n
  · intro i i0 i1
    rw [m0] at i1
    rw [sp i 0 (by decide), sp i 1 (by decide), sp i 2 (by decide), sp i 3 (by decide), hA (8 + i) (by omega) (by omega), hA (20 + i) (by omega) (by omega), hA (44 + i) (by omega) (by omega), hA (56 + i) (by omega) (by omega)]
    exact hH.p i i0 i1
  · intro b c0 c1
    rw [m1] at c1
    rw [sb b 0 (by decide), sb b 1 (by decide), sb b 2 (by decide), sb b 3 (by decide), sb b 4 (by decide), hA (68 + b) (by omega) (by omega), hA (84 + b) (by omega) (by omega), hA (100 + b) (by omega) (by omega), hA (116 + b) (by omega) (by omega), hA (132 + b) (by omega) (by omega)]
    exact hH.b b c0 c1
  · intro f c0 c1
    rw [m2] at c1
    rw [sf, hA (340 + f) (by omega) (by omega), hA (348 + f) (by omega) (by omega), hA (356 + f) (by omega) (by omega)]
    exact hH.f f c0 c1
  · intro x c0 c1
    rw [m3] at c1
    obtain ⟨e0, e1, e2, e3, e4, e5⟩ := hH.g x c0 c1
    rw [hA (364 + x) (by omega) (by omega), hA (664 + x) (by omega) (by omega)]
    by_cases e : x = g
    · subst e
      obtain ⟨g0, g1, g2, g3, g4, g5⟩ := hgg c0 c1
      exact ⟨by rw [g0]; exact e0, g1, g2, g3, g4, by rw [g5]; exact e5⟩
    · obtain ⟨w1, w2, w3⟩ := hB x c0 c1 e
      rw [sg x e, w1, w2, w3, hdb x c0 c1 e]
      exact ⟨e0, e1, e2, e3, e4, e5⟩
  · intro x j c0 c1 j0 j1 j2
    rw [m3] at c1
    rw [hA (664 + x) (by omega) (by omega)] at j1
    rw [sw, hA (2524 + 30 * x + j) (by omega) (by omega), hA (724 + 30 * x + j) (by omega) (by omega)]
    exact hH.w x j c0 c1 j0 j1 j2
