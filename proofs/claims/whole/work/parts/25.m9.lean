/-- IV holds of an array that differs in whose turn it is -/
theorem IV.hand {N : NN} {kk p h l : Int} (hI : IV N kk) (hp : 0 ≤ p ∧ p < N 0) (hh : 1 ≤ h ∧ h ≤ N 1) (hin : N (84 + (h - 1)) = p) (hl : 0 ≤ l ∧ l ≤ 9) : IV (uI (uI N (44 + p) h) (56 + p) l) kk := by
  obtain ⟨b0, b1, b2, b3, b4, b5⟩ := hI.n
  have e : ∀ j, j ≠ 44 + p → j ≠ 56 + p → uI (uI N (44 + p) h) (56 + p) l j = N j := fun j h1 h2 => by rw [uI_n h2, uI_n h1]
  have e44 : uI (uI N (44 + p) h) (56 + p) l (44 + p) = h := by rw [uI_n (by omega), uI_s]
  have e56 : uI (uI N (44 + p) h) (56 + p) l (56 + p) = l := uI_s
  generalize uI (uI N (44 + p) h) (56 + p) l = M at e e44 e56
  have m0 : M 0 = N 0 := e 0 (by omega) (by omega)
  have m1 : M 1 = N 1 := e 1 (by omega) (by omega)
  have m2 : M 2 = N 2 := e 2 (by omega) (by omega)
  have m3 : M 3 = N 3 := e 3 (by omega) (by omega)
  have m4 : M 4 = N 4 := e 4 (by omega) (by omega)
  have m5 : M 5 = N 5 := e 5 (by omega) (by omega)
  refine ⟨by unfold nI4; rw [m0, m1, m2, m3, m4, m5]; exact ⟨b0, b1, b2, b3, b4, b5⟩, ?_, ?_, ?_, ?_, ?_, ?_, ?_, hI.k⟩
  · intro q q0 q1
    rw [m0] at q1
    obtain ⟨p1, p2, p3, p4, p5, p6, p7⟩ := hI.p q0 q1
    unfold pI
    rw [e (8 + q) (by omega) (by omega), e (20 + q) (by omega) (by omega), e (32 + q) (by omega) (by omega), m3, m1]
    refine ⟨p1, p2, p3, ?_, ?_, ?_, ?_⟩
    · rcases p4 with h | ⟨h1, h2, h3⟩
      · exact Or.inl h
      · rw [e _ (by omega) (by omega), e _ (by omega) (by omega)]
        exact Or.inr ⟨h1, h2, h3⟩
    · by_cases c : q = p
      · subst c; rw [e44]; omega
      · rw [e _ (by omega) (by omega)]; exact p5
    · by_cases c : q = p
      · subst c; rw [e56]; exact hl
      · rw [e _ (by omega) (by omega)]; exact p6
    · intro hk
      by_cases c : q = p
      · subst c
        rw [e44, e _ (by omega) (by omega)]
        exact Or.inr ⟨hh.1, hin⟩
      · rw [e (44 + q) (by omega) (by omega)]
        rcases p7 hk with ⟨h1, h2⟩ | ⟨h1, h2⟩
        · exact Or.inl ⟨h1, fun b c0 c1 => by rw [e _ (by omega) (by omega)]; exact h2 b c0 c1⟩
        · refine Or.inr ⟨h1, ?_⟩
          rw [e _ (by omega) (by omega)]
          exact h2
  · intro b c0 c1
    rw [m1] at c1
    obtain ⟨q1, q2, q3, q4, q5, q6, q7⟩ := hI.b c0 c1
    unfold bI2
    rw [e (68 + b) (by omega) (by omega), e (84 + b) (by omega) (by omega), e (100 + b) (by omega) (by omega), e (116 + b) (by omega) (by omega), e (132 + b) (by omega) (by omega), m0, e (8 + N (68 + b)) (by omega) (by omega), e (8 + N (84 + b)) (by omega) (by omega)]
    exact ⟨q1, q2, q3, q4, q5, q6, q7⟩
  · intro x c0 c1
    rw [m2] at c1
    obtain ⟨q1, q2, q3, q4⟩ := hI.f c0 c1
    unfold fI
    rw [e (340 + x) (by omega) (by omega), e (348 + x) (by omega) (by omega), e (356 + x) (by omega) (by omega), m0, e (8 + N (340 + x)) (by omega) (by omega)]
    exact ⟨q1, q2, q3, q4⟩
  · intro x c0 c1
    rw [m3] at c1
    obtain ⟨q1, q2, q3, q4⟩ := hI.g c0 c1
    unfold gI wI
    rw [e (364 + x) (by omega) (by omega), e (424 + x) (by omega) (by omega), e (664 + x) (by omega) (by omega), e (484 + x) (by omega) (by omega), e (544 + x) (by omega) (by omega), e (604 + x) (by omega) (by omega), m2, m4, m0, m1, m5]
    refine ⟨q1, q2, q3, ?_⟩
    rcases q4 with ⟨w, h1, h2, h3⟩ | ⟨w, h1, h2, h3⟩ | ⟨w, h1, h2, h3, h4⟩ | ⟨w, h1, h2, h3⟩ | ⟨w, h1⟩ | ⟨w, h1, h2, h3⟩
    · exact Or.inl ⟨w, h1, by rw [e _ (by omega) (by omega)]; exact h2, h3⟩
    · refine Or.inr (Or.inl ⟨w, h1, ?_, ?_⟩)
      · rw [e _ (by omega) (by omega)]; exact h2
      · rw [e _ (by omega) (by omega)]; exact h3
    · refine Or.inr (Or.inr (Or.inl ⟨w, h1, ?_, ?_, h4⟩))
      · rw [e _ (by omega) (by omega)]; exact h2
      · rw [e _ (by omega) (by omega)]; exact h3
    · exact Or.inr (Or.inr (Or.inr (Or.inl ⟨w, h1, by rw [e _ (by omega) (by omega)]; exact h2, h3⟩)))
    · exact Or.inr (Or.inr (Or.inr (Or.inr (Or.inl ⟨w, h1⟩))))
    · exact Or.inr (Or.inr (Or.inr (Or.inr (Or.inr ⟨w, h1, by rw [e _ (by omega) (by omega)]; exact h2, h3⟩))))
  · intro b c c0 c1 c2 c3
    rw [m1] at c1
    have hc := hI.c c0 c1 c2 c3
    unfold cI at hc ⊢
    rw [e (148 + 12 * b + c) (by omega) (by omega), m3]
    rcases hc with h | ⟨h1, h2, h3, h4⟩
    · exact Or.inl h
    · rw [e _ (by omega) (by omega), e _ (by omega) (by omega), e _ (by omega) (by omega)]
      exact Or.inr ⟨h1, h2, h3, h4⟩
  · intro x y x0 x1 y0 y1
    rw [m3] at x1 y1
    have hd := hI.d x0 x1 y0 y1
    unfold dI at hd ⊢
    rw [e (484 + x) (by omega) (by omega), e (484 + y) (by omega) (by omega), e (544 + x) (by omega) (by omega), e (544 + y) (by omega) (by omega), e (604 + x) (by omega) (by omega), e (604 + y) (by omega) (by omega)]
    exact hd
  · intro j
    by_cases c : j = 44 + p
    · subst c; rw [e44]; exact ⟨by omega, by omega⟩
    · by_cases c2 : j = 56 + p
      · subst c2; rw [e56]; exact ⟨by omega, by omega⟩
      · rw [e j c c2]; exact hI.r j
theorem GI.of {N M G : NN} (h : GI N G) (e3 : M 3 = N 3) (e : ∀ g, 0 ≤ g → g < N 3 → M (484 + g) = N (484 + g) ∧ M (604 + g) = N (604 + g)) : GI M G := by
  obtain ⟨h1, h2, h3⟩ := h
  refine ⟨h1, fun g q => h2 g (by rw [← e3]; exact q), fun g q0 q1 q2 => ?_⟩
  rw [e3] at q1
  rw [(e g q0 q1).1, (e g q0 q1).2]
  exact h3 g q0 q1 q2
theorem nxt_in {N : NN} {kk p b : Int} (hI : IV N kk) (hb : -1 ≤ b ∧ b < N 1) (hin : ∃ x, 0 ≤ x ∧ x < N 1 ∧ N (84 + x) = p) : 0 ≤ nxtI N p b ∧ nxtI N p b < N 1 ∧ N (84 + nxtI N p b) = p := by
  obtain ⟨b0, b1, b2, b3, b4, b5⟩ := hI.n
  unfold nxtI
  by_cases h : 0 ≤ fstI (inl N p) (b + 1) (N 1)
  · rw [if_pos h]
    rcases fstI_is (P := inl N p) (lo := b + 1) (hi := N 1) (by omega) (by omega) with ⟨h1, -⟩ | ⟨h1, h2, h3, -⟩
    · omega
    · exact ⟨h, h2, of_decide_eq_true h3⟩
  · rw [if_neg h]
    rcases fstI_is (P := inl N p) (lo := 0) (hi := N 1) (by omega) (by omega) with ⟨h1, h2⟩ | ⟨h1, h2, h3, -⟩
    · obtain ⟨x, x0, x1, x2⟩ := hin
      have := h2 x x0 x1
      rw [show inl N p x = true from decide_eq_true x2] at this
      cases this
    · exact ⟨h1, h2, of_decide_eq_true h3⟩
theorem IV.pas {N : NN} {kk p : Int} (hI : IV N kk) (hp : 0 ≤ p ∧ p < N 0) (hk : 1 ≤ N (44 + p) ∧ N (84 + (N (44 + p) - 1)) = p) : IV (pasN N p) kk ∧ (1 ≤ pasN N p (44 + p) ∧ pasN N p (84 + (pasN N p (44 + p) - 1)) = p) ∧ (∀ j, j ≠ 44 + p → j ≠ 56 + p → pasN N p j = N j) := by
  obtain ⟨b0, b1, b2, b3, b4, b5⟩ := hI.n
  obtain ⟨p1, p2, p3, p4, p5, p6, p7⟩ := hI.p hp.1 hp.2
  have hn := nxt_in (b := N (44 + p) - 1) hI (by omega) ⟨N (44 + p) - 1, by omega, by omega, hk.2⟩
  obtain ⟨q1, q2, q3, q4, q5, q6, q7⟩ := hI.b hn.1 hn.2.1
  unfold pasN
  have e44 : uI (uI N (44 + p) (nxtI N p (N (44 + p) - 1) + 1)) (56 + p) (N (132 + nxtI N p (N (44 + p) - 1))) (44 + p) = nxtI N p (N (44 + p) - 1) + 1 := by rw [uI_n (by omega), uI_s]
  refine ⟨hI.hand hp (by omega) (by rw [show nxtI N p (N (44 + p) - 1) + 1 - 1 = nxtI N p (N (44 + p) - 1) by omega]; exact hn.2.2) (by omega), ⟨by rw [e44]; omega, ?_⟩, fun j h1 h2 => by rw [uI_n h2, uI_n h1]⟩
  rw [e44, uI_n (by omega), uI_n (by omega), show nxtI N p (N (44 + p) - 1) + 1 - 1 = nxtI N p (N (44 + p) - 1) by omega]
  exact hn.2.2

theorem uI_id {M : NN} {j : Int} : uI M j (M j) = M := by
  funext x
  unfold uI
  by_cases e : x = j
  · rw [if_pos e, e]
  · rw [if_neg e]
theorem rdy_eq {M M' G : NN} {b : Int} (h : ∀ j, 100 ≤ j → j < 340 → M' j = M j) (hb : 0 ≤ b ∧ b < 16) (hl : 1 ≤ M (100 + b) ∧ M (100 + b) ≤ 12) : rdyN M' G b = rdyN M G b := by
  unfold rdyN
  rw [h (116 + b) (by omega) (by omega), h (100 + b) (by omega) (by omega), h (148 + 12 * b + M (100 + b) - 1) (by omega) (by omega)]

set_option maxRecDepth 100000 in
theorem l_X7_merge72 {g : GG} {kp : Bool} {σ : SS} {M K G F : NN} {k f kk : Int} (hI : IV M kk) (hG : ∀ g, G g = 0 ∨ G g = 1) (p c x : Int) (hp : 0 ≤ p ∧ p < 12) (hp0 : p < M 0) (hk : 1 ≤ M (44 + p) ∧ M (84 + (M (44 + p) - 1)) = p) (T : SS) (hhit : 0 < M (56 + p) → 0 ≤ rdyN M G (M (44 + p) - 1) → T = mkS σ (tkN (uI M (56 + p) (M (56 + p) - 1)) G (M (44 + p) - 1) p 2) K G F k f) (hnext : ¬ (0 < M (56 + p) ∧ 0 ≤ rdyN M G (M (44 + p) - 1)) → V g (rmD 2 0 0) mX7_merge (ZT g kp (fun r τ => r = none ∧ τ = T)) E0 8 [(0, rf g (ad 14 0 0)), (1, vi p), (2, vi c), (3, vi (x + 1))] [] (vw g kp (mkS σ M K G F k f)) (sz kp) 0 0) : V g (rmD 2 0 0) mX7_merge (ZT g kp (fun r τ => r = none ∧ τ = T)) E0 72 [(0, rf g (ad 14 0 0)), (1, vi p), (2, vi c), (3, vi x)] [] (vw g kp (mkS σ M K G F k f)) (sz kp) 0 0 := by
  obtain ⟨b0, b1, b2, b3, b4, b5⟩ := hI.n
  have hR := hI.r
  obtain ⟨p1, p2, p3, p4, p5, p6, p7⟩ := hI.p hp.1 hp0
  have hbl := hI.b (b := M (44 + p) - 1) (by omega) (by omega)
  have hln := hbl.2.2.1
  refine v_aload_n 0 dX7_merge_72 (nx := 73) rfl rfl ?_
  refine m_gA 10 (p := 0) dX7_merge_73 (nx := 76) rfl (by decide) fl_X7_9 rfl ?_
  refine v_bipush dX7_merge_76 (nx := 78) rfl rfl ?_
  refine v_iload_n 1 dX7_merge_78 (nx := 79) rfl rfl ?_
  refine v_iadd dX7_merge_79 (nx := 80) rfl ?_
  refine m_ald10 dX7_merge_80 (nx := 81) rfl ⟨by omega, by omega⟩ ?_
  refine v_iconst dX7_merge_81 (nx := 82) rfl ?_
  refine v_isub dX7_merge_82 (nx := 83) rfl ?_
  refine v_istore dX7_merge_83 (nx := 85) rfl rfl (by decide) ?_
  refine v_aload_n 0 dX7_merge_85 (nx := 86) rfl rfl ?_
  refine m_gA 10 (p := 0) dX7_merge_86 (nx := 89) rfl (by decide) fl_X7_9 rfl ?_
  refine v_bipush dX7_merge_89 (nx := 91) rfl rfl ?_
  refine v_iload_n 1 dX7_merge_91 (nx := 92) rfl rfl ?_
  refine v_iadd dX7_merge_92 (nx := 93) rfl ?_
  refine m_ald10 dX7_merge_93 (nx := 94) rfl ⟨by omega, by omega⟩ ?_
  refine v_if_le dX7_merge_94 (tgt := 128) (by decide) (nx := 97) rfl (by first | assumption | exact hR _ | exact ⟨by omega, by omega⟩) (fun c94 => ?_) (fun c94 => ?_)
  · refine v_iinc 3 dX7_merge_128 (nx := 131) rfl rfl rfl (by decide) ?_
    refine v_goto dX7_merge_131 (tgt := 8) (by decide) ?_
    exact V.lpick [0, 1, 2, 3] rfl ((hnext (by omega)))
  · have hrb := rdyN_b (G := G) hI (b := M (44 + p) - 1) (by omega)
    refine v_aload_n 0 dX7_merge_97 (nx := 98) rfl rfl ?_
    refine v_iload 4 dX7_merge_98 (nx := 100) rfl rfl ?_
    refine t_callVi (a := 14) (c_X7_ready hI hG _ (by omega)) dX7_merge_100 (nx := 103) rfl kX7_ready ml_X7_100 (by decide) (ok_m 14 rfl) rfl rfl rfl rfl (Nat.le_of_ble_eq_true rfl) ⟨by decide, by decide⟩ ⟨by decide, by decide⟩ ?_
    refine v_if_lt dX7_merge_103 (tgt := 128) (by decide) (nx := 106) rfl (by first | assumption | exact hR _ | exact ⟨by omega, by omega⟩) (fun c103 => ?_) (fun c103 => ?_)
    · refine v_iinc 3 dX7_merge_128 (nx := 131) rfl rfl rfl (by decide) ?_
      refine v_goto dX7_merge_131 (tgt := 8) (by decide) ?_
      exact V.lpick [0, 1, 2, 3] rfl ((hnext (by omega)))
    · have hI3 : IV (uI M (56 + p) (M (56 + p) - 1)) kk := by
        have := hI.hand (h := M (44 + p)) (l := M (56 + p) - 1) ⟨hp.1, hp0⟩ (by omega) hk.2 (by omega)
        rw [uI_id] at this
        exact this
      have hr3 : rdyN (uI M (56 + p) (M (56 + p) - 1)) G (M (44 + p) - 1) = rdyN M G (M (44 + p) - 1) := rdy_eq (fun j j0 j1 => uI_n (by omega)) (by omega) (by omega)
      refine v_aload_n 0 dX7_merge_106 (nx := 107) rfl rfl ?_
      refine m_gA 10 (p := 0) dX7_merge_107 (nx := 110) rfl (by decide) fl_X7_9 rfl ?_
      refine v_bipush dX7_merge_110 (nx := 112) rfl rfl ?_
      refine v_iload_n 1 dX7_merge_112 (nx := 113) rfl rfl ?_
      refine v_iadd dX7_merge_113 (nx := 114) rfl ?_
      refine v_dup2 dX7_merge_114 (nx := 115) rfl rfl rfl ?_
      refine m_ald10 dX7_merge_115 (nx := 116) rfl ⟨by omega, by omega⟩ ?_
      refine v_iconst dX7_merge_116 (nx := 117) rfl ?_
      refine v_isub dX7_merge_117 (nx := 118) rfl ?_
      refine m_ast10 dX7_merge_118 (nx := 119) rfl ⟨by omega, by omega⟩ ?_
      refine v_aload_n 0 dX7_merge_119 (nx := 120) rfl rfl ?_
      refine v_iload 4 dX7_merge_120 (nx := 122) rfl rfl ?_
      refine v_iload_n 1 dX7_merge_122 (nx := 123) rfl rfl ?_
      refine v_iconst dX7_merge_123 (nx := 124) rfl ?_
      refine t_callVv (a := 14) (c_X7_takeFrom hI3 hG _ _ _ (by rw [show uI M (56 + p) (M (56 + p) - 1) 1 = M 1 from uI_n (by omega)]; omega) (by omega) (by omega) (by rw [hr3]; omega)) dX7_merge_124 (nx := 127) rfl kX7_takeFrom ml_X7_109 (by decide) (ok_m 14 rfl) rfl rfl rfl rfl (Nat.le_of_ble_eq_true rfl) ⟨by decide, by decide⟩ ⟨by decide, by decide⟩ ?_
      exact t_ret dX7_merge_127 rfl ⟨rfl, (hhit (by omega) (by omega)).symm⟩

set_option maxRecDepth 100000 in
theorem l_X7_merge {g : GG} {kp : Bool} {σ : SS} {N K G F : Int → Int} {k f : Int} {kk : Int} (hG : ∀ g, G g = 0 ∨ G g = 1) (p c : Int) (hp : 0 ≤ p ∧ p < 12) (hc : 1 ≤ c ∧ c ≤ 16) : ∀ (m : Nat) (x : Int) (M : NN), (0 ≤ x ∧ x ≤ c + 1) → (c + 1 - x < m) → (IV M kk) → (p < M 0) → (1 ≤ M (44 + p) ∧ M (84 + (M (44 + p) - 1)) = p) → V g (rmD 2 0 0) mX7_merge (ZT g kp ((fun r τ => r = none ∧ τ = mkS σ (if x ≤ c then mgs G p (c + 1 - x).toNat (if 0 < x then pasN M p else M) else M) K G F k f))) E0 8 [(0, rf g (ad 14 0 0)), (1, vi p), (2, vi c), (3, vi x)] [] (vw g kp (mkS σ M K G F k f)) (sz kp) 0 0 := by
  intro m
  induction m with
  | zero => intro x M hx hm hI hp0 hk; exfalso; omega
  | succ m ih =>
    intro x M hx hm hI hp0 hk
    obtain ⟨b0, b1, b2, b3, b4, b5⟩ := hI.n
    have hR := hI.r
    obtain ⟨p1, p2, p3, p4, p5, p6, p7⟩ := hI.p hp.1 hp0
    refine v_iload_n 3 dX7_merge_8 (nx := 9) rfl rfl ?_
    refine v_iload_n 2 dX7_merge_9 (nx := 10) rfl rfl ?_
    refine v_icmp_gt dX7_merge_10 (tgt := 134) (by decide) (nx := 13) rfl (by first | assumption | exact hR _ | exact ⟨by omega, by omega⟩) (by first | assumption | exact hR _ | exact ⟨by omega, by omega⟩) (fun c10 => ?_) (fun c10 => ?_)
    · exact t_ret dX7_merge_134 rfl (by first | exact ⟨rfl, by rw [if_neg (by omega)]⟩ | (exfalso; omega))
    · refine v_iload_n 2 dX7_merge_13 (nx := 14) rfl rfl ?_
      refine v_if_le dX7_merge_14 (tgt := 134) (by decide) (nx := 17) rfl (by first | assumption | exact hR _ | exact ⟨by omega, by omega⟩) (fun c14 => ?_) (fun c14 => ?_)
      · exact t_ret dX7_merge_134 rfl (by first | exact ⟨rfl, by rw [if_neg (by omega)]⟩ | (exfalso; omega))
      · refine v_iload_n 3 dX7_merge_17 (nx := 18) rfl rfl ?_
        refine v_if_le dX7_merge_18 (tgt := 72) (by decide) (nx := 21) rfl (by first | assumption | exact hR _ | exact ⟨by omega, by omega⟩) (fun c18 => ?_) (fun c18 => ?_)
        · exact (by
    have hms : (if x ≤ c then mgs G p (c + 1 - x).toNat (if 0 < x then pasN M p else M) else M) = mgs G p ((c - x).toNat + 1) M := by
      rw [if_pos (by omega), if_neg (by omega), show (c + 1 - x).toNat = (c - x).toNat + 1 by omega]
    rw [hms]
    refine l_X7_merge72 (M := M) hI hG p c x hp hp0 hk _ (fun h1 h2 => ?_) (fun h => ?_)
    · show mkS σ (if _ then _ else _) K G F k f = _
      rw [if_pos ⟨h1, h2⟩]
    · have hih := ih (x + 1) M ⟨by omega, by omega⟩ (by omega) hI hp0 hk
      have e2 : mgs G p ((c - x).toNat + 1) M = (if x + 1 ≤ c then mgs G p (c + 1 - (x + 1)).toNat (if 0 < x + 1 then pasN (M) p else M) else M) := by
        show (if _ then _ else _) = _
        rw [if_neg h]
        by_cases q : x + 1 ≤ c
        · rw [if_pos q, if_pos (show 0 < x + 1 by omega), if_neg (show ¬ (c - x).toNat = 0 by omega), show (c + 1 - (x + 1)).toNat = (c - x).toNat by omega]
        · rw [if_neg q, if_pos (show (c - x).toNat = 0 by omega)]
      rw [e2]
      exact hih)
        · obtain ⟨hI2, hk2, he2⟩ := hI.pas ⟨hp.1, hp0⟩ hk
          have hnx := nxt_in (b := M (44 + p) - 1) hI (by omega) ⟨M (44 + p) - 1, by omega, by omega, hk.2⟩
          refine v_aload_n 0 dX7_merge_21 (nx := 22) rfl rfl ?_
          refine v_iload_n 1 dX7_merge_22 (nx := 23) rfl rfl ?_
          refine v_aload_n 0 dX7_merge_23 (nx := 24) rfl rfl ?_
          refine m_gA 10 (p := 0) dX7_merge_24 (nx := 27) rfl (by decide) fl_X7_9 rfl ?_
          refine v_bipush dX7_merge_27 (nx := 29) rfl rfl ?_
          refine v_iload_n 1 dX7_merge_29 (nx := 30) rfl rfl ?_
          refine v_iadd dX7_merge_30 (nx := 31) rfl ?_
          refine m_ald10 dX7_merge_31 (nx := 32) rfl ⟨by omega, by omega⟩ ?_
          refine v_iconst dX7_merge_32 (nx := 33) rfl ?_
          refine v_isub dX7_merge_33 (nx := 34) rfl ?_
          refine t_callVi (a := 14) (c_X7_nextInlet hR _ _ (by exact ⟨by omega, by omega⟩) b1 (by omega)) dX7_merge_34 (nx := 37) rfl kX7_nextInlet ml_X7_106 (by decide) (ok_m 14 rfl) rfl rfl rfl rfl (Nat.le_of_ble_eq_true rfl) ⟨by decide, by decide⟩ ⟨by decide, by decide⟩ ?_
          refine v_istore dX7_merge_37 (nx := 39) rfl rfl (by decide) ?_
          refine v_aload_n 0 dX7_merge_39 (nx := 40) rfl rfl ?_
          refine m_gA 10 (p := 0) dX7_merge_40 (nx := 43) rfl (by decide) fl_X7_9 rfl ?_
          refine v_bipush dX7_merge_43 (nx := 45) rfl rfl ?_
          refine v_iload_n 1 dX7_merge_45 (nx := 46) rfl rfl ?_
          refine v_iadd dX7_merge_46 (nx := 47) rfl ?_
          refine v_iload 4 dX7_merge_47 (nx := 49) rfl rfl ?_
          refine v_iconst dX7_merge_49 (nx := 50) rfl ?_
          refine v_iadd dX7_merge_50 (nx := 51) rfl ?_
          refine m_ast10 dX7_merge_51 (nx := 52) rfl ⟨by omega, by omega⟩ ?_
          refine v_aload_n 0 dX7_merge_52 (nx := 53) rfl rfl ?_
          refine m_gA 10 (p := 0) dX7_merge_53 (nx := 56) rfl (by decide) fl_X7_9 rfl ?_
          refine v_bipush dX7_merge_56 (nx := 58) rfl rfl ?_
          refine v_iload_n 1 dX7_merge_58 (nx := 59) rfl rfl ?_
          refine v_iadd dX7_merge_59 (nx := 60) rfl ?_
          refine v_aload_n 0 dX7_merge_60 (nx := 61) rfl rfl ?_
          refine m_gA 10 (p := 0) dX7_merge_61 (nx := 64) rfl (by decide) fl_X7_9 rfl ?_
          refine v_sipush dX7_merge_64 (nx := 67) rfl rfl ?_
          refine v_iload 4 dX7_merge_67 (nx := 69) rfl rfl ?_
          refine v_iadd dX7_merge_69 (nx := 70) rfl ?_
          refine m_ald10e (z := M (132 + nxtI M p (M (44 + p) - 1))) dX7_merge_70 (nx := 71) rfl ⟨by omega, by omega⟩ (by first | rfl | (repeat rw [uI_n (by omega)])) ?_
          refine m_ast10 dX7_merge_71 (nx := 72) rfl ⟨by omega, by omega⟩ ?_
          exact V.lpick [0, 1, 2, 3] rfl ((by
    have hms : (if x ≤ c then mgs G p (c + 1 - x).toNat (if 0 < x then pasN M p else M) else M) = mgs G p ((c - x).toNat + 1) (pasN M p) := by
      rw [if_pos (by omega), if_pos (by omega), show (c + 1 - x).toNat = (c - x).toNat + 1 by omega]
    rw [hms]
    refine l_X7_merge72 (M := pasN M p) hI2 hG p c x hp (by rw [he2 0 (by omega) (by omega)]; exact hp0) hk2 _ (fun h1 h2 => ?_) (fun h => ?_)
    · show mkS σ (if _ then _ else _) K G F k f = _
      rw [if_pos ⟨h1, h2⟩]
    · have hih := ih (x + 1) (pasN M p) ⟨by omega, by omega⟩ (by omega) hI2 (by rw [he2 0 (by omega) (by omega)]; exact hp0) hk2
      have e2 : mgs G p ((c - x).toNat + 1) (pasN M p) = (if x + 1 ≤ c then mgs G p (c + 1 - (x + 1)).toNat (if 0 < x + 1 then pasN (pasN M p) p else pasN M p) else pasN M p) := by
        show (if _ then _ else _) = _
        rw [if_neg h]
        by_cases q : x + 1 ≤ c
        · rw [if_pos q, if_pos (show 0 < x + 1 by omega), if_neg (show ¬ (c - x).toNat = 0 by omega), show (c + 1 - (x + 1)).toNat = (c - x).toNat by omega]
        · rw [if_neg q, if_pos (show (c - x).toNat = 0 by omega)]
      rw [e2]
      exact hih))

set_option maxRecDepth 100000 in
theorem c_X7_merge {g : GG} {kp : Bool} {σ : SS} {N K G F : Int → Int} {k f : Int} {kk : Int} (hI : IV N kk) (hG : ∀ g, G g = 0 ∨ G g = 1) (p : Int) (hp : 0 ≤ p ∧ p < N 0) (hkd : N (8 + p) = 1) : XC g kp 2 mX7_merge [rf g (ad 14 0 0), vi p] (mkS σ N K G F k f) none (mkS σ (mgN N G p) K G F k f) := by
  refine TC.of (by decide) (Nat.le_of_ble_eq_true rfl) rfl ?_
  obtain ⟨b0, b1, b2, b3, b4, b5⟩ := hI.n
  have hR := hI.r
  obtain ⟨p1, p2, p3, p4, p5, p6, p7⟩ := hI.p hp.1 hp.2
  have hcb := cntI_b (P := inl N p) b1.1
  refine v_aload_n 0 dX7_merge_0 (nx := 1) rfl rfl ?_
  refine v_iload_n 1 dX7_merge_1 (nx := 2) rfl rfl ?_
  refine t_callVi (a := 14) (c_X7_inlets hR _ (by exact ⟨by omega, by omega⟩) b1) dX7_merge_2 (nx := 5) rfl kX7_inlets ml_X7_103 (by decide) (ok_m 14 rfl) rfl rfl rfl rfl (Nat.le_of_ble_eq_true rfl) ⟨by decide, by decide⟩ ⟨by decide, by decide⟩ ?_
  refine v_istore_n dX7_merge_5 (nx := 6) rfl rfl (by decide) ?_
  refine v_iconst dX7_merge_6 (nx := 7) rfl ?_
  refine v_istore_n dX7_merge_7 (nx := 8) rfl rfl (by decide) ?_
  exact (by
    by_cases hz : 0 < cntI (inl N p) (N 1)
    · have hk : 1 ≤ N (44 + p) ∧ N (84 + (N (44 + p) - 1)) = p := by
        rcases p7 hkd with ⟨h1, h2⟩ | h
        · exfalso
          have hz0 : cnt (fun _ => false) (N 1).toNat = 0 := by
            have : ∀ n : Nat, cnt (fun _ => false) n = 0 := fun n => by
              induction n with
              | zero => rfl
              | succ n ih => show cnt _ n + _ = 0; rw [ih]; rfl
            exact this _
          have := cnt_cong (P := inl N p) (Q := fun _ => false) (N 1).toNat (fun x x0 x1 => decide_eq_false (h2 x x0 (by omega)))
          unfold cntI at hz
          omega
        · exact h
      have := l_X7_merge (g := g) (kp := kp) (σ := σ) (K := K) (F := F) (k := k) (f := f) (N := N) hG p (cntI (inl N p) (N 1)) (by omega) (by omega) (cntI (inl N p) (N 1) + 2).toNat 0 N ⟨by omega, by omega⟩ (by omega) hI hp.2 hk
      rw [if_pos (by omega), if_neg (by omega), Int.sub_zero] at this
      rw [show mgN N G p = mgs G p (cntI (inl N p) (N 1) + 1).toNat N by unfold mgN; rw [if_pos hz]]
      exact this
    · rw [show mgN N G p = N by unfold mgN; rw [if_neg hz]]
      refine v_iload_n 3 dX7_merge_8 (nx := 9) rfl rfl ?_
      refine v_iload_n 2 dX7_merge_9 (nx := 10) rfl rfl ?_
      refine v_icmp_gt dX7_merge_10 (tgt := 134) (by decide) (nx := 13) rfl ⟨by omega, by omega⟩ ⟨by omega, by omega⟩ (fun c10 => ?_) (fun c10 => ?_)
      · exfalso; omega
      · refine v_iload_n 2 dX7_merge_13 (nx := 14) rfl rfl ?_
        refine v_if_le dX7_merge_14 (tgt := 134) (by decide) (nx := 17) rfl ⟨by omega, by omega⟩ (fun c14 => ?_) (fun c14 => ?_)
        · exact t_ret dX7_merge_134 rfl ⟨rfl, rfl⟩
        · exfalso; omega)
