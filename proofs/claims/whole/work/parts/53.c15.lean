/-! ===== (2) of a tick in the class's hall ===== -/
theorem mc1_R {C : NN} {x : Int} (h : ∀ j, inR (C j)) (j : Int) : inR (mc1 C x j) := by
  unfold mc1
  split
  · exact inR_uI (inR_uI h (h _)) ⟨by decide, by decide⟩ j
  · exact h j
theorem mcs_R {lo : Int} : ∀ (n : Nat) (C : NN), (∀ j, inR (C j)) → ∀ j, inR (mcs lo n C j)
  | 0, C, h => h
  | n + 1, C, h => mcs_R n _ (mc1_R h)
def PPm (σ : SS) (b : Int) (N G : NN) (k : Int) (C M : NN) : Prop := RH (sK σ 3 b C) 0 M ∧ FR (sK σ 3 b C) M G ∧ TI N M G k 0
theorem mv1_rel {σ : SS} {N M G C : NN} {k b x : Int} (h : PPm σ b N G k C M) (hb : 0 ≤ b ∧ b < M 1) (hx : 0 ≤ x ∧ x + 1 < M (100 + b)) (hf : x = 0 → σ 2 0 b 5 = 0) : PPm σ b N G k (mc1 C x) (mv1 M G b x) := by
  obtain ⟨hH, hF, hT⟩ := id h
  have hT2 := mv1_ok hT hb hx
  obtain ⟨hI, hW, hG, -, -⟩ := hT
  obtain ⟨b0, b1, b2, b3, b4, b5⟩ := hI.n
  obtain ⟨-, -, l, -⟩ := hI.b hb.1 hb.2
  have hCc : ∀ c, 0 ≤ c → c < 12 → C c = M (148 + 12 * b + c) - 1 := by
    intro c c0 c1
    have := hH.c b c hb.1 hb.2 c0 c1
    rw [sK_s] at this
    exact this
  have c0 := hCc x hx.1 (by omega)
  have c1 := hCc (x + 1) (by omega) (by omega)
  rw [show 148 + 12 * b + (x + 1) = 148 + 12 * b + x + 1 by omega] at c1
  have hcv := hI.cv hb.1 hb.2 hx.1 (show x < 12 by omega)
  have hG0 : 1 ≤ M (148 + 12 * b + x) → G (M (148 + 12 * b + x) - 1) = 0 := by
    intro q
    have hcc := hI.c hb.1 hb.2 hx.1 (show x < 12 by omega)
    unfold cI at hcc
    by_cases x0 : x = 0
    · have f5 := hf x0
      have hfr := hF b hb.1 hb.2
      have s5 : sK σ 3 b C 2 0 b 5 = σ 2 0 b 5 := rfl
      rw [s5] at hfr
      rw [x0, show 148 + 12 * b + 0 = 148 + 12 * b by omega] at q ⊢
      omega
    · rcases hG.1 (M (148 + 12 * b + x) - 1) with z | z
      · exact z
      · have := hG.2.2 (M (148 + 12 * b + x) - 1) (by omega) (by omega) (by omega)
        omega
  by_cases q : M (148 + 12 * b + x) - 1 < 0 ∨ G (M (148 + 12 * b + x) - 1) ≠ 0 ∨ M (148 + 12 * b + x + 1) ≠ 0
  · have e1 : mv1 M G b x = M := by unfold mv1; rw [if_pos q]
    have e2 : mc1 C x = C := by
      unfold mc1
      by_cases z : C (x + 1) = -1
      · rw [if_pos z]
        have z2 : C x = -1 := by
          by_cases y : 1 ≤ M (148 + 12 * b + x)
          · have := hG0 y; omega
          · omega
        rw [z2]
        funext j
        unfold uI
        split
        · rename_i w; rw [w, z2]
        · split
          · rename_i w; rw [w, z]
          · rfl
      · rw [if_neg z]
    rw [e1, e2]
    exact h
  · have e1 : mv1 M G b x = uI (uI (uI M (148 + 12 * b + x + 1) (M (148 + 12 * b + x) - 1 + 1)) (148 + 12 * b + x) 0) (604 + (M (148 + 12 * b + x) - 1)) (x + 1) := by unfold mv1; rw [if_neg q]
    have e2 : mc1 C x = uI (uI C (x + 1) (C x)) x (-1) := by unfold mc1; rw [if_pos (by omega)]
    have hcc := hI.c hb.1 hb.2 hx.1 (show x < 12 by omega)
    unfold cI at hcc
    have hw : M (484 + (M (148 + 12 * b + x) - 1)) = 1 ∧ M (544 + (M (148 + 12 * b + x) - 1)) = b ∧ M (604 + (M (148 + 12 * b + x) - 1)) = x := by omega
    have hg : 0 ≤ M (148 + 12 * b + x) - 1 ∧ M (148 + 12 * b + x) - 1 < M 3 := by omega
    refine ⟨?_, ?_, hT2⟩
    · rw [e1, e2, c0]
      generalize hgg : M (148 + 12 * b + x) - 1 = g at hw hg ⊢
      have e : ∀ j, j ≠ 604 + g → j ≠ 148 + 12 * b + x → j ≠ 148 + 12 * b + x + 1 → uI (uI (uI M (148 + 12 * b + x + 1) (g + 1)) (148 + 12 * b + x) 0) (604 + g) (x + 1) j = M j := fun j q0 q1 q2 => by rw [uI_n q0, uI_n q1, uI_n q2]
      have v0 : uI (uI (uI M (148 + 12 * b + x + 1) (g + 1)) (148 + 12 * b + x) 0) (604 + g) (x + 1) (148 + 12 * b + x) = 0 := by rw [uI_n (by omega), uI_s]
      have v1 : uI (uI (uI M (148 + 12 * b + x + 1) (g + 1)) (148 + 12 * b + x) 0) (604 + g) (x + 1) (148 + 12 * b + x + 1) = g + 1 := by rw [uI_n (by omega), uI_n (by omega), uI_s]
      generalize uI (uI (uI M (148 + 12 * b + x + 1) (g + 1)) (148 + 12 * b + x) 0) (604 + g) (x + 1) = M' at e v0 v1 ⊢
      obtain ⟨w0, w1, w2, w3, w4, w5⟩ := hH.g g hg.1 hg.2
      refine hH.mv (g := g) ⟨e 0 (by omega) (by omega) (by omega), e 1 (by omega) (by omega) (by omega), e 2 (by omega) (by omega) (by omega), e 3 (by omega) (by omega) (by omega), e 4 (by omega) (by omega) (by omega)⟩ ⟨b0, b1, b2, b3⟩ (fun j _ hj => e j (by omega) (by omega) (by omega)) (fun y y0 y1 yn => e _ (by omega) (by omega) (by omega)) (fun y y0 y1 yn => ⟨e _ (by omega) (by omega) (by omega), e _ (by omega) (by omega) (by omega), e _ (by omega) (by omega) (by omega)⟩) rfl (fun i j hj => rfl) (fun i j hj => rfl) rfl (fun y hy => rfl) rfl (fun y c d0 d1 d2 d3 => ?_) (fun _ _ => ⟨rfl, by rw [e _ (by omega) (by omega) (by omega)]; exact w1, by rw [e _ (by omega) (by omega) (by omega)]; exact w2, by rw [e _ (by omega) (by omega) (by omega)]; exact w3, fun h1 => by rw [e _ (by omega) (by omega) (by omega), hw.1] at h1; omega, rfl⟩) (hH.r.none (g := g) (fun _ => rfl) rfl (e 0 (by omega) (by omega) (by omega)) (e 3 (by omega) (by omega) (by omega)) (fun y y0 y1 => e _ (by omega) (by omega) (by omega)) (fun y y0 y1 yn => ⟨e _ (by omega) (by omega) (by omega), e _ (by omega) (by omega) (by omega), e _ (by omega) (by omega) (by omega)⟩) (Or.inl hw.1) (Or.inl (by rw [e _ (by omega) (by omega) (by omega)]; exact hw.1)))
      rw [e 1 (by omega) (by omega) (by omega)] at d1
      by_cases yb : y = b
      · subst yb
        rw [sK_s]
        by_cases z1 : c = x
        · rw [z1, uI_s, v0]; omega
        · rw [uI_n z1]
          by_cases z2 : c = x + 1
          · rw [z2, uI_s, show 148 + 12 * y + (x + 1) = 148 + 12 * y + x + 1 by omega, v1]; omega
          · rw [uI_n z2, e _ (by omega) (by omega) (by omega)]
            exact hCc c d2 d3
      · rw [sK_n (Or.inr (Or.inr yb)), e _ (by omega) (by omega) (by omega)]
        have := hH.c y c d0 d1 d2 d3
        rw [sK_n (Or.inr (Or.inr yb))] at this
        exact this
    · rw [e1]
      intro y y0 y1
      rw [uI_n (by omega), uI_n (by omega), uI_n (by omega)] at y1
      have hfy := hF y y0 y1
      have s5 : ∀ D : NN, sK σ 3 b D 2 0 y 5 = σ 2 0 y 5 := fun D => rfl
      rw [s5] at hfy ⊢
      by_cases z : y = b ∧ x = 0
      · obtain ⟨rfl, rfl⟩ := z
        refine Or.inl ⟨hf rfl, Or.inl ?_⟩
        rw [uI_n (by omega)]
        exact if_pos (by omega)
      · rw [uI_n (by omega), uI_n (by omega), uI_n (by omega)]
        exact hfy
theorem mvs_rel0 {σ : SS} {N G : NN} {k b : Int} (hb : 0 ≤ b ∧ b < N 1) (hf : σ 2 0 b 5 = 0) : ∀ (n : Nat) (C M : NN), PPm σ b N G k C M → (n : Int) + 1 ≤ N (100 + b) → PPm σ b N G k (mcs 0 n C) (mvs G b n M)
  | 0, C, M, h, _ => h
  | n + 1, C, M, h, hn => by
    have hF := h.2.2.2.2.2.1
    have b1 := h.2.2.1.n.2.1
    have e1 := hF.1 1 (by omega)
    have e2 := hF.2.1 (100 + b) (by omega) (by omega)
    have := mv1_rel (x := (n : Int)) h (by omega) ⟨by omega, by omega⟩ (fun _ => hf)
    show PPm σ b N G k (mcs 0 n (mc1 C (0 + n))) (mvs G b n (mv1 M G b n))
    rw [Int.zero_add]
    exact mvs_rel0 hb hf n _ _ this (by omega)
theorem mvs_rel1 {σ : SS} {N G : NN} {k b : Int} (hb : 0 ≤ b ∧ b < N 1) (hf : σ 2 0 b 5 = 1) : ∀ (n : Nat) (C M : NN), PPm σ b N G k C M → (n : Int) + 2 ≤ N (100 + b) → PPm σ b N G k (mcs 1 n C) (mvs G b (n + 1) M)
  | 0, C, M, h, hn => by
    have hF := h.2.2.2.2.2.1
    have b1 := h.2.2.1.n.2.1
    have e1 := hF.1 1 (by omega)
    have hfr := h.2.1 b (by omega) (by omega)
    have s5 : sK σ 3 b C 2 0 b 5 = σ 2 0 b 5 := rfl
    rw [s5] at hfr
    have e : mvs G b (0 + 1) M = M := by
      show mv1 M G b ((0 : Nat) : Int) = M
      unfold mv1
      rw [if_pos]
      rw [show 148 + 12 * b + ((0 : Nat) : Int) = 148 + 12 * b by omega]
      omega
    rw [e]
    exact h
  | n + 1, C, M, h, hn => by
    have hF := h.2.2.2.2.2.1
    have b1 := h.2.2.1.n.2.1
    have e1 := hF.1 1 (by omega)
    have e2 := hF.2.1 (100 + b) (by omega) (by omega)
    have := mv1_rel (x := ((n + 1 : Nat) : Int)) h (by omega) ⟨by omega, by omega⟩ (fun q => by omega)
    show PPm σ b N G k (mcs 1 n (mc1 C (1 + n))) (mvs G b (n + 1) (mv1 M G b ((n + 1 : Nat) : Int)))
    rw [show (1 : Int) + n = ((n + 1 : Nat) : Int) by omega]
    exact mvs_rel1 hb hf n _ _ this (by omega)
theorem move_ok {σ τ : SS} {N M G : NN} {k b : Int} (hT : TI N M G k 0) (hR : TR σ τ M G) (hb : 0 ≤ b ∧ b < N 1) : TR σ (if τ 2 0 b 4 = 0 then sK τ 3 b (mcs (if τ 2 0 b 5 = 0 then 0 else 1) (τ 2 0 b 2 - 1 - (if τ 2 0 b 5 = 0 then 0 else 1)).toNat (τ 3 0 b)) else τ) (mvN M G b) G := by
  obtain ⟨hH, hS, hRG, h8, hFR, h9, ho⟩ := id hR
  have hF := hT.2.2.2.1
  obtain ⟨b0, b1, b2, b3, b4, b5⟩ := hT.1.n
  have e1 := hF.1 1 (by omega)
  have e2 := hF.2.1 (100 + b) (by omega) (by omega)
  obtain ⟨-, -, l, l4, -⟩ := hT.1.b (b := b) hb.1 (by omega)
  obtain ⟨-, -, d2, -, d4⟩ := hH.b b hb.1 (by omega)
  have hMF := mvN_ok hT hb
  unfold mvN at hMF ⊢
  by_cases c : M (116 + b) = 1
  · rw [if_pos c, if_neg (by omega)]; exact hR
  · rw [if_neg c] at hMF
    rw [if_neg c, if_pos (by omega), d2]
    have hP : PPm τ b N G k (τ 3 0 b) M := ⟨by rw [sK_id]; exact hH, by rw [sK_id]; exact hFR, hT⟩
    have fin : ∀ (C : NN), (∀ j, inR (C j)) → PPm τ b N G k C (mvs G b (M (100 + b) - 1).toNat M) → TR σ (sK τ 3 b C) (mvs G b (M (100 + b) - 1).toNat M) G := by
      intro C hC hq
      obtain ⟨q1, q2, q3⟩ := hq
      have f2 := q3.2.2.2.1
      refine ⟨q1, SM.same hT.1 hS rfl (by rw [f2.1 0 (by omega), hF.1 0 (by omega)]) (by rw [f2.1 1 (by omega), hF.1 1 (by omega)]) (fun j hj => by
        rcases hj with hj | hj
        · rw [f2.1 j (by omega), hF.1 j (by omega)]
        · rw [f2.2.1 j (by omega) (by omega), hF.2.1 j (by omega) (by omega)]), RG_sK hRG hC, h8, q2, h9, fun a t i h => ?_⟩
      rw [sK_o (by decide) (h.imp id (fun q => q.1))]
      exact ho a t i h
    rcases hFR b hb.1 (by omega) with ⟨f5, -⟩ | ⟨f5, -⟩
    · rw [if_pos f5, show M (100 + b) - 1 - 0 = M (100 + b) - 1 by omega]
      exact fin _ (mcs_R _ _ (fun j => hRG.1 _ _ _ _)) (mvs_rel0 hb f5 _ _ _ hP (by omega))
    · rw [if_neg (by omega)]
      by_cases l1 : M (100 + b) = 1
      · rw [l1]
        have := fin (τ 3 0 b) (fun j => hRG.1 _ _ _ _) (by rw [l1]; exact hP)
        rw [l1] at this
        exact this
      · have := fin _ (mcs_R (lo := 1) (M (100 + b) - 1 - 1).toNat (τ 3 0 b) (fun j => hRG.1 _ _ _ _)) (by
          have z := mvs_rel1 hb f5 (M (100 + b) - 1 - 1).toNat _ _ hP (by omega)
          rw [show (M (100 + b) - 1 - 1).toNat + 1 = (M (100 + b) - 1).toNat by omega] at z
          exact z)
        exact this
