/-! ===== parts of the relation that an act leaves alone ===== -/
theorem RHb.same {σ τ : SS} {N M : NN} (h : RHb σ 0 N) (s : τ 2 0 = σ 2 0) (h1 : M 1 = N 1) (hn : N 1 ≤ 16) (hm : ∀ j, 68 ≤ j → j < 148 → M j = N j) : RHb τ 0 M := by
  intro b c0 c1
  rw [h1] at c1
  rw [s, hm (68 + b) (by omega) (by omega), hm (84 + b) (by omega) (by omega), hm (100 + b) (by omega) (by omega), hm (116 + b) (by omega) (by omega), hm (132 + b) (by omega) (by omega)]
  exact h b c0 c1
theorem RHc.same {σ τ : SS} {N M : NN} (h : RHc σ 0 N) (s : τ 3 0 = σ 3 0) (h1 : M 1 = N 1) (hn : N 1 ≤ 16) (hm : ∀ j, 148 ≤ j → j < 340 → M j = N j) : RHc τ 0 M := by
  intro b c c0 c1 c2 c3
  rw [h1] at c1
  rw [s, hm (148 + 12 * b + c) (by omega) (by omega)]
  exact h b c c0 c1 c2 c3
theorem RHf.same {σ τ : SS} {N M : NN} (h : RHf σ 0 N) (s : τ 4 0 = σ 4 0) (h2 : M 2 = N 2) (hn : N 2 ≤ 8) (hm : ∀ j, 340 ≤ j → j < 364 → M j = N j) : RHf τ 0 M := by
  intro b c0 c1
  rw [h2] at c1
  rw [s, hm (340 + b) (by omega) (by omega), hm (348 + b) (by omega) (by omega), hm (356 + b) (by omega) (by omega)]
  exact h b c0 c1
theorem RHg.same {σ τ : SS} {N M : NN} (h : RHg σ 0 N) (s : τ 5 0 = σ 5 0) (h3 : M 3 = N 3) (hn : N 3 ≤ 60) (hm : ∀ j, 364 ≤ j → j < 724 → M j = N j) : RHg τ 0 M := by
  intro b c0 c1
  rw [h3] at c1
  rw [s, hm (364 + b) (by omega) (by omega), hm (424 + b) (by omega) (by omega), hm (484 + b) (by omega) (by omega), hm (544 + b) (by omega) (by omega), hm (604 + b) (by omega) (by omega), hm (664 + b) (by omega) (by omega)]
  exact h b c0 c1
theorem RHw.same {σ τ : SS} {N M : NN} (h : RHw σ 0 N) (s : τ 6 0 = σ 6 0) (h3 : M 3 = N 3) (hn : N 3 ≤ 60) (hm : ∀ j, 664 ≤ j → M j = N j) : RHw τ 0 M := by
  intro x i c0 c1 i0 i1 i2
  rw [h3] at c1
  rw [hm (664 + x) (by omega)] at i1
  rw [s, hm (2524 + 30 * x + i) (by omega), hm (724 + 30 * x + i) (by omega)]
  exact h x i c0 c1 i0 i1 i2
theorem RHp.same {σ τ : SS} {N M : NN} (h : RHp σ 0 N) (s : ∀ i j, j ≠ 4 → τ 0 0 i j = σ 0 0 i j) (h0 : M 0 = N 0) (hn : N 0 ≤ 12) (hm : ∀ j, 8 ≤ j → j < 32 → M j = N j) (hm2 : ∀ j, 44 ≤ j → j < 68 → M j = N j) : RHp τ 0 M := by
  intro i c0 c1
  rw [h0] at c1
  rw [s i 0 (by decide), s i 1 (by decide), s i 2 (by decide), s i 3 (by decide), hm (8 + i) (by omega) (by omega), hm (20 + i) (by omega) (by omega), hm2 (44 + i) (by omega) (by omega), hm2 (56 + i) (by omega) (by omega)]
  exact h i c0 c1
theorem RHr.same {σ τ : SS} {N M : NN} (h : RHr σ 0 N) (s : ∀ i, τ 0 0 i 4 = σ 0 0 i 4) (s1 : τ 1 0 = σ 1 0) (h0 : M 0 = N 0) (h3 : M 3 = N 3) (hn : N 0 ≤ 12) (hn3 : N 3 ≤ 60) (hm : ∀ j, 8 ≤ j → j < 20 → M j = N j) (hm2 : ∀ j, 484 ≤ j → j < 664 → M j = N j) : RHr τ 0 M := by
  intro i c0 c1
  rw [h0] at c1
  refine (h i c0 c1).keep (s i) (fun j _ _ => by rw [s1]) (hm _ (by omega) (by omega)) (by omega) (fun x x0 x1 => Or.inl ⟨by omega, hm2 _ (by omega) (by omega), hm2 _ (by omega) (by omega), hm2 _ (by omega) (by omega)⟩)
/-! FAR is the same where belts and kinds are -/
theorem rlx_cong {N M : NN} {k ch : Int} (hI : IV N k) (h : ∀ j, (8 ≤ j ∧ j < 20) ∨ (68 ≤ j ∧ j < 132) → M j = N j) (F : NN) {b : Int} (b0 : 0 ≤ b) (b1 : b < N 1) : rlx M ch F b = rlx N ch F b := by
  obtain ⟨n0, n1, -⟩ := hI.n
  obtain ⟨q1, q2, -⟩ := hI.b b0 b1
  unfold rlx
  rw [h (116 + b) (by omega), h (84 + b) (by omega), h (68 + b) (by omega), h (100 + b) (by omega), h (8 + N (84 + b)) (by omega)]
theorem rnd_cong {N M : NN} {k ch : Int} (hI : IV N k) (h : ∀ j, (8 ≤ j ∧ j < 20) ∨ (68 ≤ j ∧ j < 132) → M j = N j) (F : NN) : ∀ n : Nat, (n : Int) ≤ N 1 → rnd M ch F n = rnd N ch F n
  | 0, _ => rfl
  | n + 1, hn => by
    show rlx M ch (rnd M ch F n) n = rlx N ch (rnd N ch F n) n
    rw [rnd_cong hI h F n (by omega), rlx_cong hI h _ (by omega) (by omega)]
theorem farI_cong {N M : NN} {k ch : Int} (hI : IV N k) (h1 : M 1 = N 1) (h : ∀ j, (8 ≤ j ∧ j < 20) ∨ (68 ≤ j ∧ j < 132) → M j = N j) : ∀ n : Nat, farI M ch n = farI N ch n
  | 0 => rfl
  | n + 1 => by
    obtain ⟨n0, n1, -⟩ := hI.n
    show rnd M ch (farI M ch n) (M 1).toNat = rnd N ch (farI N ch n) (N 1).toNat
    rw [farI_cong hI h1 h n, h1, rnd_cong hI h _ _ (by omega)]
theorem farS_cong {N M : NN} {k ch : Int} (hI : IV N k) (h1 : M 1 = N 1) (h : ∀ j, (8 ≤ j ∧ j < 20) ∨ (68 ≤ j ∧ j < 132) → M j = N j) : farS M ch = farS N ch := farI_cong hI h1 h 12
theorem SM.same {σ τ : SS} {N M : NN} {k : Int} (hI : IV N k) (hS : SM σ N) (s : τ 8 0 = σ 8 0) (h0 : M 0 = N 0) (h1 : M 1 = N 1) (h : ∀ j, (8 ≤ j ∧ j < 20) ∨ (68 ≤ j ∧ j < 132) → M j = N j) : SM τ M := by
  obtain ⟨n0, n1, -⟩ := hI.n
  intro ch c0 c1 c2 p p0 p1
  rw [h0] at c1
  rw [h (8 + ch) (by omega)] at c2
  rw [s, farS_cong hI h1 h]
  exact hS ch c0 c1 c2 p p0 p1
/-- what a call of the class leaves: the relation to the array M, df findings more, the rest as it was -/
def CR (σ τ : SS) (M : NN) (df : Int) : Prop := RH τ 0 M ∧ SM τ M ∧ RG τ ∧ (∀ i j, τ 8 0 i j ≤ 1000000) ∧ τ 9 0 0 0 = σ 9 0 0 0 + df ∧ ∀ (a : Nat) (t i : Int), 10 ≤ a ∨ (t ≠ 0 ∧ a ≠ 8) → τ a t i = σ a t i
theorem up_o {σ : SS} {a : Nat} {i j v : Int} {a' : Nat} {t' i' : Int} (ha : a < 10) (h : 10 ≤ a' ∨ t' ≠ 0) : up σ a 0 i j v a' t' i' = σ a' t' i' := by
  funext x
  unfold up
  rw [if_neg]
  rintro ⟨h1, h2, -⟩
  rcases h with h | h
  · omega
  · exact h h2
theorem sK_o {σ : SS} {a : Nat} {i : Int} {C : NN} {a' : Nat} {t' i' : Int} (ha : a < 10) (h : 10 ≤ a' ∨ t' ≠ 0) : sK σ a i C a' t' i' = σ a' t' i' := by
  funext x
  unfold sK
  rw [if_neg]
  rintro ⟨h1, h2, -⟩
  rcases h with h | h
  · omega
  · exact h h2
theorem RH.fd {σ : SS} {N : NN} {x : Int} (h : RH σ 0 N) : RH (fd σ x) 0 N := by
  obtain ⟨h1, h2, h3, h4, h5, h6, h7, h8⟩ := h
  exact ⟨h1, h2, h3, h4, h5, h6, h7, h8⟩
theorem CR.f1 {σ : SS} {N : NN} {x : Int} (hR : RG σ) (hH : RH σ 0 N) (hS : SM σ N) (h8 : ∀ i j, σ 8 0 i j ≤ 1000000) (h9 : 0 ≤ σ 9 0 0 0 ∧ σ 9 0 0 0 ≤ 1000000) (hx : 0 ≤ x ∧ x ≤ 1) : CR σ (fd σ x) N x :=
  ⟨hH.fd, hS, RG_up hR ⟨by omega, by omega⟩, h8, rfl, fun a t i h => up_o (by decide) (h.imp id (fun q => q.1))⟩
theorem RH.n8 {σ τ : SS} {M : NN} (h : ∀ (a : Nat) (t i : Int), a ≠ 8 → τ a t i = σ a t i) (hH : RH σ 0 M) : RH τ 0 M := by
  unfold RH RHn RHp RHb RHc RHf RHg RHw RHr RHr1 at hH ⊢
  simp only [h 0 _ _ (by decide), h 1 _ _ (by decide), h 2 _ _ (by decide), h 3 _ _ (by decide), h 4 _ _ (by decide), h 5 _ _ (by decide), h 6 _ _ (by decide), h 7 _ _ (by decide)]
  exact hH
theorem CR.ms {σ T τ : SS} {M : NN} (hH : RH T 0 M) (ho : ∀ (a : Nat) (t i : Int), 10 ≤ a ∨ (t ≠ 0 ∧ a ≠ 8) → T a t i = σ a t i) (h9 : T 9 0 0 0 = σ 9 0 0 0) (h8 : ∀ (a : Nat) (t i : Int), a ≠ 8 → τ a t i = T a t i) (hS : SM τ M) (hR : RG τ) (hb : ∀ i j, τ 8 0 i j ≤ 1000000) : CR σ τ M 0 := by
  refine ⟨hH.n8 h8, hS, hR, hb, by rw [h8 9 0 0 (by decide), h9]; omega, fun a t i h => ?_⟩
  rw [h8 a t i (by omega)]
  exact ho a t i h
theorem cfC {σ : SS} {N : NN} {s : RR} {x : Int} (hR : RG σ) (hH : RH σ 0 N) (hS : SM σ N) (h8 : ∀ i j, σ 8 0 i j ≤ 1000000) (h9 : 0 ≤ σ 9 0 0 0 ∧ σ 9 0 0 0 ≤ 1000000) (h : s = (x, N, 1)) : some (vi x) = some (vi s.1) ∧ CR σ (fd σ 1) s.2.1 s.2.2 := by
  subst h
  exact ⟨rfl, CR.f1 hR hH hS h8 h9 ⟨by decide, by decide⟩⟩
theorem cfA {σ τ : SS} {M : NN} {s : RR} {x y : Int} (h : s = (y, M, 0)) (hx : x = y) (hc : CR σ τ M 0) : some (vi x) = some (vi s.1) ∧ CR σ τ s.2.1 s.2.2 := by
  subst h
  subst hx
  exact ⟨rfl, hc⟩
theorem CR.id {σ : SS} {N : NN} (hR : RG σ) (hH : RH σ 0 N) (hS : SM σ N) (h8 : ∀ i j, σ 8 0 i j ≤ 1000000) : CR σ σ N 0 := ⟨hH, hS, hR, h8, by omega, fun _ _ _ _ => rfl⟩
