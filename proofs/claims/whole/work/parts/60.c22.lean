/-- what holds of the class's side between calls -/
def TS (σ τ : SS) (M : NN) : Prop := RH τ 0 M ∧ SM τ M ∧ RG τ ∧ (∀ i j, τ 8 0 i j ≤ 1000000) ∧ τ 9 0 0 0 = σ 9 0 0 0 ∧ ∀ (a : Nat) (t i : Int), 10 ≤ a ∨ (t ≠ 0 ∧ a ≠ 8) → τ a t i = σ a t i
theorem TS.trans {σ τ υ : SS} {M M' : NN} (h : TS σ τ M) (h2 : TS τ υ M') : TS σ υ M' := by
  obtain ⟨-, -, -, -, a1, a2⟩ := h
  obtain ⟨b1, b2, b3, b4, b6, b7⟩ := h2
  exact ⟨b1, b2, b3, b4, by rw [b6, a1], fun a t i q => by rw [b7 a t i q, a2 a t i q]⟩
theorem TS_up {σ τ : SS} {M G : NN} {k : Int} (hI : IV M k) (h : TR σ τ M G) (h4 : M 4 < 1000000) : TS σ (up τ 7 0 0 4 (M 4 + 1)) (uI M 4 (M 4 + 1)) := by
  obtain ⟨hH, hS, hR, h8, -, h9, ho⟩ := h
  obtain ⟨b0, b1, b2, b3, b4, b5⟩ := hI.n
  obtain ⟨w0, w1, w2, w3, w4⟩ := hH.n
  have e : ∀ j, j ≠ 4 → uI M 4 (M 4 + 1) j = M j := fun j h => uI_n h
  have v : uI M 4 (M 4 + 1) 4 = M 4 + 1 := uI_s
  have hk : ∀ a : Nat, a ≠ 7 → up τ 7 0 0 4 (M 4 + 1) a = τ a := fun a ha => by
    funext t i j
    exact if_neg (fun q => ha q.1)
  refine ⟨⟨⟨?_, ?_, ?_, ?_, ?_⟩, ?_, ?_, ?_, ?_, ?_, ?_, ?_⟩, SM.same hI hS (by rw [hk 8 (by decide)]) (e 0 (by omega)) (e 1 (by omega)) (fun j hj => e j (by omega)), RG_up hR ⟨by omega, by omega⟩, ?_, ?_, fun a t i q => ?_⟩
  · rw [e 0 (by omega), ← w0]; unfold up; rw [if_neg (by omega)]
  · rw [e 1 (by omega), ← w1]; unfold up; rw [if_neg (by omega)]
  · rw [e 2 (by omega), ← w2]; unfold up; rw [if_neg (by omega)]
  · rw [e 3 (by omega), ← w3]; unfold up; rw [if_neg (by omega)]
  · rw [v]; unfold up; rw [if_pos ⟨rfl, rfl, rfl, rfl⟩]
  · intro i i0 i1
    rw [e 0 (by omega)] at i1
    rw [hk 0 (by decide), e (8 + i) (by omega), e (20 + i) (by omega), e (44 + i) (by omega), e (56 + i) (by omega)]
    exact hH.p i i0 i1
  · intro i i0 i1
    rw [e 1 (by omega)] at i1
    rw [hk 2 (by decide), e (68 + i) (by omega), e (84 + i) (by omega), e (100 + i) (by omega), e (132 + i) (by omega), e (116 + i) (by omega)]
    exact hH.b i i0 i1
  · intro b c b0 b1 c0 c1
    rw [e 1 (by omega)] at b1
    rw [hk 3 (by decide), e _ (by omega)]
    exact hH.c b c b0 b1 c0 c1
  · intro i i0 i1
    rw [e 2 (by omega)] at i1
    rw [hk 4 (by decide), e (340 + i) (by omega), e (348 + i) (by omega), e (356 + i) (by omega)]
    exact hH.f i i0 i1
  · intro i i0 i1
    rw [e 3 (by omega)] at i1
    rw [hk 5 (by decide), e (364 + i) (by omega), e (424 + i) (by omega), e (484 + i) (by omega), e (544 + i) (by omega), e (604 + i) (by omega), e (664 + i) (by omega)]
    exact hH.g i i0 i1
  · intro x i x0 x1 i0 i1 i2
    rw [e 3 (by omega)] at x1
    rw [e _ (by omega)] at i1
    rw [hk 6 (by decide), e _ (by omega), e _ (by omega)]
    exact hH.w x i x0 x1 i0 i1 i2
  · exact hH.r.same (fun i => by rw [hk 0 (by decide)]) (by rw [hk 1 (by decide)]) (e 0 (by omega)) (e 3 (by omega)) (by omega) (by omega) (fun j _ _ => e j (by omega)) (fun j _ _ => e j (by omega))
  · rw [hk 8 (by decide)]; exact h8
  · rw [hk 9 (by decide)]; exact h9
  · rw [up_o (by decide) (q.imp id (fun z => z.1))]
    exact ho a t i q

set_option maxRecDepth 100000 in
theorem l_X6_tick4 {g : GG} {kp : Bool} {σ : SS} {N : NN} (hJ : JI N) (h4N : N 4 < 1000000) : ∀ (m : Nat) (x : Int) (M : NN) (A : NN) (B : NN) (τ : SS), (0 ≤ x ∧ x ≤ N 0) → (N 0 - x < m) → (A = (mvA (gvs N g0 (N 0).toNat).1 (gvs N g0 (N 0).toNat).2 (N 1).toNat)) → (B = (gvs N g0 (N 0).toNat).2) → (M = tks A B x.toNat) → (TR σ τ M B) → V g (rmD 5 0 0) mX6_goOneTick (ZT g kp ((fun r τ => r = none ∧ TS σ τ (tick1 N)))) E0 89 [(0, rf g (ad 9 0 0)), (1, vi x)] [] (vw g kp τ) (sz kp) 0 0 := by
  intro m
  induction m with
  | zero => intro x M A B τ hx hm hA hB hM hTR; exfalso; omega
  | succ m ih =>
    intro x M A B τ hx hm hA hB hM hTR
    obtain ⟨c0, c1, c2, c3, c4, c5⟩ := hJ.1.n
    have hT := hJ.start
    have g1 := fun n hn => gvs_ok hT n hn
    have g2 := g1 (N 0).toNat (by omega)
    have hz : (((N 0).toNat : Nat) : Int) = N 0 := by omega
    rw [hz] at g2
    have a2 := mvA_ok g2 (N 1).toNat (by omega)
    have t1 := tks_ok a2 (by omega) x.toNat (by omega)
    rw [← hA, ← hB, ← hM, show ((x.toNat : Nat) : Int) = x by omega] at t1
    have m0 := t1.2.2.2.1.1 0 (by omega)
    have m1 := t1.2.2.2.1.1 1 (by omega)
    have m4 := t1.2.2.2.1.1 4 (by omega)
    obtain ⟨hH, hS, hR, h8, hF, h9, ho⟩ := id hTR
    obtain ⟨n0, n1, n2, n3, n4⟩ := hH.n
    refine v_iload_n 1 dX6_goOneTick_89 (nx := 90) rfl rfl ?_
    refine v_aload_n 0 dX6_goOneTick_90 (nx := 91) rfl rfl ?_
    refine t_get (a := 9) (p := 0) (T := TX6) dX6_goOneTick_91 (nx := 94) rfl (by decide) (ok_m 9 rfl) rfl rfl iU6 (by decide) fl_X6_10 rfl ?_
    refine t_get (a := 7) (p := 4) (T := TX3) dX6_goOneTick_94 (nx := 97) rfl (by decide) (ok_m 7 rfl) rfl rfl iU3 (by decide) fl_X6_42 rfl ?_
    refine v_icmp_ge dX6_goOneTick_97 (tgt := 111) (by decide) (nx := 100) rfl (by first | assumption | exact hR.1 _ _ _ _ | exact ⟨by omega, by omega⟩) (by first | assumption | exact hR.1 _ _ _ _ | exact ⟨by omega, by omega⟩) (fun c97 => ?_) (fun c97 => ?_)
    · refine v_aload_n 0 dX6_goOneTick_111 (nx := 112) rfl rfl ?_
      refine t_get (a := 9) (p := 0) (T := TX6) dX6_goOneTick_112 (nx := 115) rfl (by decide) (ok_m 9 rfl) rfl rfl iU6 (by decide) fl_X6_10 rfl ?_
      refine v_dup dX6_goOneTick_115 (nx := 116) rfl rfl ?_
      refine t_get (a := 7) (p := 8) (T := TX3) dX6_goOneTick_116 (nx := 119) rfl (by decide) (ok_m 7 rfl) rfl rfl iU3 (by decide) fl_X6_171 rfl ?_
      refine v_top (z' := N 4) (by omega) ?_
      refine v_iconst dX6_goOneTick_119 (nx := 120) rfl ?_
      refine v_iadd dX6_goOneTick_120 (nx := 121) rfl ?_
      refine t_put (a := 7) (j := 4) (p := 8) (T := TX3) dX6_goOneTick_121 (nx := 124) rfl (by decide) (ok_m 7 rfl) rfl rfl iU3 tyX3 tyX3_ok nmX3 (by decide) fl_X6_171 rfl (Or.inl rfl) (Nat.le_of_ble_eq_true rfl) (by rfl) ?_
      exact t_ret dX6_goOneTick_124 rfl ⟨rfl, by
    have e : tick1 N = uI M 4 (M 4 + 1) := by
      unfold tick1; rw [← hA, ← hB, m4, hM, show x = N 0 by omega]
    rw [e]
    have h := TS_up t1.1 hTR (by omega)
    rw [m4] at h ⊢
    exact h⟩
    · refine v_aload_n 0 dX6_goOneTick_100 (nx := 101) rfl rfl ?_
      refine v_iload_n 1 dX6_goOneTick_101 (nx := 102) rfl rfl ?_
      refine t_callVvQ (a := 9) (c_X6_receiveAt x (N0 := N) (N := M) (G := B) (kk := N 0 + 16 * x) (by omega) t1 (by omega) (TR.refl hH hS hR h8 hF)) dX6_goOneTick_102 (nx := 105) rfl kX6_receiveAt ml_X6_229 (by decide) (ok_m 9 rfl) rfl rfl rfl rfl (Nat.le_of_ble_eq_true rfl) ⟨by decide, by decide⟩ ⟨by decide, by decide⟩ (fun τ hq => ?_)
      replace hq := hTR.trans hq
      refine v_iinc 1 dX6_goOneTick_105 (nx := 108) rfl rfl rfl (by decide) ?_
      refine v_goto dX6_goOneTick_108 (tgt := 89) (by decide) ?_
      exact (ih (x + 1) _ A B τ ⟨by omega, by omega⟩ (by omega) hA hB (by rw [tks_s hx.1, ← hM]) hq)

set_option maxRecDepth 100000 in
theorem l_X6_tick3 {g : GG} {kp : Bool} {σ : SS} {N : NN} (hJ : JI N) (h4N : N 4 < 1000000) : ∀ (m : Nat) (x : Int) (M : NN) (A : NN) (B : NN) (τ : SS), (0 ≤ x ∧ x ≤ N 1) → (N 1 - x < m) → (A = (gvs N g0 (N 0).toNat).1) → (B = (gvs N g0 (N 0).toNat).2) → (M = mvA A B x.toNat) → (TR σ τ M B) → V g (rmD 5 0 0) mX6_goOneTick (ZT g kp ((fun r τ => r = none ∧ TS σ τ (tick1 N)))) E0 58 [(0, rf g (ad 9 0 0)), (1, vi x)] [] (vw g kp τ) (sz kp) 0 0 := by
  intro m
  induction m with
  | zero => intro x M A B τ hx hm hA hB hM hTR; exfalso; omega
  | succ m ih =>
    intro x M A B τ hx hm hA hB hM hTR
    obtain ⟨c0, c1, c2, c3, c4, c5⟩ := hJ.1.n
    have hT := hJ.start
    have g1 := fun n hn => gvs_ok hT n hn
    have g2 := g1 (N 0).toNat (by omega)
    have hz : (((N 0).toNat : Nat) : Int) = N 0 := by omega
    rw [hz] at g2
    have a2 := mvA_ok g2 x.toNat (by omega)
    rw [← hA, ← hB, ← hM] at a2
    have m0 := a2.2.2.2.1.1 0 (by omega)
    have m1 := a2.2.2.2.1.1 1 (by omega)
    obtain ⟨hH, hS, hR, h8, hF, h9, ho⟩ := id hTR
    obtain ⟨n0, n1, n2, n3, n4⟩ := hH.n
    obtain ⟨b0, b1, b2, b3, b4, b5⟩ := a2.1.n
    refine v_iload_n 1 dX6_goOneTick_58 (nx := 59) rfl rfl ?_
    refine v_aload_n 0 dX6_goOneTick_59 (nx := 60) rfl rfl ?_
    refine t_get (a := 9) (p := 0) (T := TX6) dX6_goOneTick_60 (nx := 63) rfl (by decide) (ok_m 9 rfl) rfl rfl iU6 (by decide) fl_X6_10 rfl ?_
    refine t_get (a := 7) (p := 5) (T := TX3) dX6_goOneTick_63 (nx := 66) rfl (by decide) (ok_m 7 rfl) rfl rfl iU3 (by decide) fl_X6_69 rfl ?_
    refine v_icmp_ge dX6_goOneTick_66 (tgt := 87) (by decide) (nx := 69) rfl (by first | assumption | exact hR.1 _ _ _ _ | exact ⟨by omega, by omega⟩) (by first | assumption | exact hR.1 _ _ _ _ | exact ⟨by omega, by omega⟩) (fun c66 => ?_) (fun c66 => ?_)
    · refine v_iconst dX6_goOneTick_87 (nx := 88) rfl ?_
      refine v_istore_n dX6_goOneTick_88 (nx := 89) rfl rfl (by decide) ?_
      exact (l_X6_tick4 hJ h4N (N 0 + 1).toNat 0 M M B τ ⟨by omega, by omega⟩ (by omega) (by rw [hM, hA, hB, show x = N 1 by omega]) hB rfl hTR)
    · refine v_aload_n 0 dX6_goOneTick_69 (nx := 70) rfl rfl ?_
      refine t_get (a := 9) (p := 0) (T := TX6) dX6_goOneTick_70 (nx := 73) rfl (by decide) (ok_m 9 rfl) rfl rfl iU6 (by decide) fl_X6_10 rfl ?_
      refine t_get (a := 7) (p := 1) (T := TX3) dX6_goOneTick_73 (nx := 76) rfl (by decide) (ok_m 7 rfl) rfl rfl iU3 (by decide) fl_X6_72 rfl ?_
      refine v_iload_n 1 dX6_goOneTick_76 (nx := 77) rfl rfl ?_
      obtain ⟨-, -, l, -⟩ := a2.1.b (b := x) (by omega) (by omega)
      obtain ⟨-, -, d2, -⟩ := hH.b x (by omega) (by omega)
      refine t_ldB dX6_goOneTick_77 (nx := 78) rfl (ok_m 16 rfl) ⟨by omega, by omega⟩ ?_
      refine t_callVv (a := 2) (c_X1_moveOn hR _ (by omega) (by omega)) dX6_goOneTick_78 (nx := 81) rfl kX1_moveOn ml_X6_226 (by decide) (by first | assumption | exact ok_2 ⟨by omega, by omega⟩) rfl rfl rfl rfl (Nat.le_of_ble_eq_true rfl) ⟨by decide, by decide⟩ ⟨by decide, by decide⟩ ?_
      refine v_iinc 1 dX6_goOneTick_81 (nx := 84) rfl rfl rfl (by decide) ?_
      refine v_goto dX6_goOneTick_84 (tgt := 58) (by decide) ?_
      exact (ih (x + 1) _ A B _ ⟨by omega, by omega⟩ (by omega) hA hB (by rw [mvA_s hx.1, ← hM]) (move_ok a2 hTR ⟨by omega, by omega⟩))

set_option maxRecDepth 100000 in
theorem l_X6_tick2 {g : GG} {kp : Bool} {σ : SS} {N : NN} (hJ : JI N) (h4N : N 4 < 1000000) : ∀ (m : Nat) (x : Int) (M : NN) (B : NN) (τ : SS), (0 ≤ x ∧ x ≤ N 0) → (N 0 - x < m) → ((M, B) = gvs N g0 x.toNat) → (TR σ τ M B) → V g (rmD 5 0 0) mX6_goOneTick (ZT g kp ((fun r τ => r = none ∧ TS σ τ (tick1 N)))) E0 34 [(0, rf g (ad 9 0 0)), (1, vi x)] [] (vw g kp τ) (sz kp) 0 0 := by
  intro m
  induction m with
  | zero => intro x M B τ hx hm hM hTR; exfalso; omega
  | succ m ih =>
    intro x M B τ hx hm hM hTR
    obtain ⟨c0, c1, c2, c3, c4, c5⟩ := hJ.1.n
    have hT := hJ.start
    have g2 := gvs_ok hT x.toNat (by omega)
    rw [← hM] at g2
    dsimp only at g2
    have m0 := g2.2.2.2.1.1 0 (by omega)
    have m1 := g2.2.2.2.1.1 1 (by omega)
    obtain ⟨hH, hS, hR, h8, hF, h9, ho⟩ := id hTR
    obtain ⟨n0, n1, n2, n3, n4⟩ := hH.n
    refine v_iload_n 1 dX6_goOneTick_34 (nx := 35) rfl rfl ?_
    refine v_aload_n 0 dX6_goOneTick_35 (nx := 36) rfl rfl ?_
    refine t_get (a := 9) (p := 0) (T := TX6) dX6_goOneTick_36 (nx := 39) rfl (by decide) (ok_m 9 rfl) rfl rfl iU6 (by decide) fl_X6_10 rfl ?_
    refine t_get (a := 7) (p := 4) (T := TX3) dX6_goOneTick_39 (nx := 42) rfl (by decide) (ok_m 7 rfl) rfl rfl iU3 (by decide) fl_X6_42 rfl ?_
    refine v_icmp_ge dX6_goOneTick_42 (tgt := 56) (by decide) (nx := 45) rfl (by first | assumption | exact hR.1 _ _ _ _ | exact ⟨by omega, by omega⟩) (by first | assumption | exact hR.1 _ _ _ _ | exact ⟨by omega, by omega⟩) (fun c42 => ?_) (fun c42 => ?_)
    · refine v_iconst dX6_goOneTick_56 (nx := 57) rfl ?_
      refine v_istore_n dX6_goOneTick_57 (nx := 58) rfl rfl (by decide) ?_
      exact (l_X6_tick3 hJ h4N (N 1 + 1).toNat 0 M M B τ ⟨by omega, by omega⟩ (by omega) (by rw [show M = (M, B).1 from rfl, hM, show x = N 0 by omega]) (by rw [show B = (M, B).2 from rfl, hM, show x = N 0 by omega]) rfl hTR)
    · refine v_aload_n 0 dX6_goOneTick_45 (nx := 46) rfl rfl ?_
      refine v_iload_n 1 dX6_goOneTick_46 (nx := 47) rfl rfl ?_
      refine t_callVvQ (a := 9) (c_X6_sendFrom hR g2.1 hH hS h8 hF x (by omega)) dX6_goOneTick_47 (nx := 50) rfl kX6_sendFrom ml_X6_223 (by decide) (ok_m 9 rfl) rfl rfl rfl rfl (Nat.le_of_ble_eq_true rfl) ⟨by decide, by decide⟩ ⟨by decide, by decide⟩ (fun τ hq => ?_)
      replace hq := hTR.trans hq
      refine v_iinc 1 dX6_goOneTick_50 (nx := 53) rfl rfl rfl (by decide) ?_
      refine v_goto dX6_goOneTick_53 (tgt := 34) (by decide) ?_
      exact (ih (x + 1) _ _ τ ⟨by omega, by omega⟩ (by omega) (by rw [gvs_s hx.1, ← hM]) hq)

/-- the first x belts aren't fresh -/
def fz (σ : SS) (x : Int) : SS := fun a t i j => if a = 2 ∧ t = 0 ∧ j = 5 ∧ 0 ≤ i ∧ i < x then 0 else σ a t i j
theorem fz_0 {σ : SS} : fz σ 0 = σ := by
  funext a t i j
  exact if_neg (by omega)
theorem fz_s {σ : SS} {x : Int} (h : 0 ≤ x) : up (fz σ x) 2 0 x 5 0 = fz σ (x + 1) := by
  funext a t i j
  unfold up fz
  by_cases q : a = 2 ∧ t = 0 ∧ i = x ∧ j = 5
  · rw [if_pos q, if_pos (by omega)]
  · rw [if_neg q]
    by_cases q2 : a = 2 ∧ t = 0 ∧ j = 5 ∧ 0 ≤ i ∧ i < x
    · rw [if_pos q2, if_pos (by omega)]
    · rw [if_neg q2, if_neg (by omega)]
theorem fz_n {σ : SS} {x : Int} {a : Nat} {t i j : Int} (h : a ≠ 2 ∨ t ≠ 0 ∨ j ≠ 5) : fz σ x a t i j = σ a t i j := if_neg (by omega)
theorem fz_a {σ : SS} {x : Int} {a : Nat} (h : a ≠ 2) : fz σ x a = σ a := by
  funext t i j
  exact fz_n (Or.inl h)
theorem TR_fz {σ : SS} {N : NN} {k : Int} (hI : IV N k) (hH : RH σ 0 N) (hS : SM σ N) (hR : RG σ) (h8 : ∀ i j, σ 8 0 i j ≤ 1000000) : TR σ (fz σ (N 1)) N g0 := by
  obtain ⟨b0, b1, b2, b3, b4, b5⟩ := hI.n
  refine ⟨⟨?_, ?_, ?_, ?_, ?_, ?_, ?_, ?_⟩, SM.same hI hS (by rw [fz_a (by decide)]) rfl rfl (fun _ _ => rfl), ⟨fun a t i j => ?_, fun a t i j q => ?_⟩, by rw [fz_a (by decide)]; exact h8, fun b y0 y1 => Or.inl ⟨if_pos ⟨rfl, rfl, rfl, y0, y1⟩, ?_⟩, by rw [fz_a (by decide)], fun a t i q => ?_⟩
  · unfold RHn; rw [fz_a (by decide)]; exact hH.n
  · unfold RHp; rw [fz_a (by decide)]; exact hH.p
  · intro b y0 y1
    rw [fz_n (by omega), fz_n (by omega), fz_n (by omega), fz_n (by omega), fz_n (by omega)]; exact hH.b b y0 y1
  · unfold RHc; rw [fz_a (by decide)]; exact hH.c
  · unfold RHf; rw [fz_a (by decide)]; exact hH.f
  · unfold RHg; rw [fz_a (by decide)]; exact hH.g
  · unfold RHw; rw [fz_a (by decide)]; exact hH.w
  · unfold RHr RHr1; rw [fz_a (a := 0) (by decide), fz_a (a := 1) (by decide)]; exact hH.r
  · unfold fz
    split
    · exact ⟨by decide, by decide⟩
    · exact hR.1 a t i j
  · unfold fz
    split
    · exact Or.inl rfl
    · exact hR.2 a t i j q
  · exact Or.inr rfl
  · funext j
    exact fz_n (by omega)

set_option maxRecDepth 100000 in
theorem l_X6_tick1 {g : GG} {kp : Bool} {σ : SS} (hR : RG σ) {N : NN} {kk : Int} (hI : IV N kk) (hH : RH σ 0 N) (hJ : JI N) (h4N : N 4 < 1000000) (hS : SM σ N) (h8 : ∀ i j, σ 8 0 i j ≤ 1000000) : ∀ (m : Nat) (x : Int), (0 ≤ x ∧ x ≤ N 1) → (N 1 - x < m) → V g (rmD 5 0 0) mX6_goOneTick (ZT g kp ((fun r τ => r = none ∧ TS σ τ (tick1 N)))) E0 2 [(0, rf g (ad 9 0 0)), (1, vi x)] [] (vw g kp (fz σ x)) (sz kp) 0 0 := by
  intro m
  induction m with
  | zero => intro x hx hm; exfalso; omega
  | succ m ih =>
    intro x hx hm
    obtain ⟨b0, b1, b2, b3, b4, b5⟩ := hI.n
    obtain ⟨n0, n1, n2, n3, n4⟩ := hH.n
    refine v_iload_n 1 dX6_goOneTick_2 (nx := 3) rfl rfl ?_
    refine v_aload_n 0 dX6_goOneTick_3 (nx := 4) rfl rfl ?_
    refine t_get (a := 9) (p := 0) (T := TX6) dX6_goOneTick_4 (nx := 7) rfl (by decide) (ok_m 9 rfl) rfl rfl iU6 (by decide) fl_X6_10 rfl ?_
    refine t_get (a := 7) (p := 5) (T := TX3) (v := vi (σ 7 0 0 1)) dX6_goOneTick_7 (nx := 10) rfl (by decide) (ok_m 7 rfl) rfl rfl iU3 (by decide) fl_X6_69 rfl ?_
    refine v_icmp_ge dX6_goOneTick_10 (tgt := 32) (by decide) (nx := 13) rfl (by first | assumption | exact hR.1 _ _ _ _ | exact ⟨by omega, by omega⟩) (by first | assumption | exact hR.1 _ _ _ _ | exact ⟨by omega, by omega⟩) (fun c10 => ?_) (fun c10 => ?_)
    · refine v_iconst dX6_goOneTick_32 (nx := 33) rfl ?_
      refine v_istore_n dX6_goOneTick_33 (nx := 34) rfl rfl (by decide) ?_
      exact (by rw [show x = N 1 by omega]; exact l_X6_tick2 hJ h4N (N 0 + 1).toNat 0 N g0 _ ⟨by omega, by omega⟩ (by omega) rfl (TR_fz hI hH hS hR h8))
    · refine v_aload_n 0 dX6_goOneTick_13 (nx := 14) rfl rfl ?_
      refine t_get (a := 9) (p := 0) (T := TX6) dX6_goOneTick_14 (nx := 17) rfl (by decide) (ok_m 9 rfl) rfl rfl iU6 (by decide) fl_X6_10 rfl ?_
      refine t_get (a := 7) (p := 1) (T := TX3) dX6_goOneTick_17 (nx := 20) rfl (by decide) (ok_m 7 rfl) rfl rfl iU3 (by decide) fl_X6_72 rfl ?_
      refine v_iload_n 1 dX6_goOneTick_20 (nx := 21) rfl rfl ?_
      refine t_ldB dX6_goOneTick_21 (nx := 22) rfl (ok_m 16 rfl) ⟨by omega, by omega⟩ ?_
      refine v_iconst dX6_goOneTick_22 (nx := 23) rfl ?_
      refine t_put (a := 2) (j := 5) (p := 5) (T := TX1) dX6_goOneTick_23 (nx := 26) rfl (by decide) (by first | assumption | exact ok_2 ⟨by omega, by omega⟩) rfl rfl iU1 tyX1 tyX1_ok nmX1 (by decide) fl_X6_220 rfl (Or.inr ⟨rfl, by first | assumption | exact Or.inl rfl | exact Or.inr rfl | omega⟩) (Nat.le_of_ble_eq_true rfl) (by rfl) ?_
      refine v_iinc 1 dX6_goOneTick_26 (nx := 29) rfl rfl rfl (by decide) ?_
      refine v_goto dX6_goOneTick_29 (tgt := 2) (by decide) ?_
      exact (by rw [fz_s hx.1]; exact ih (x + 1) ⟨by omega, by omega⟩ (by omega))

set_option maxRecDepth 100000 in
theorem c_X6_goOneTick {g : GG} {kp : Bool} {σ : SS} (hR : RG σ) {N : NN} {kk : Int} (hI : IV N kk) (hH : RH σ 0 N) (hJ : JI N) (h4N : N 4 < 1000000) (hS : SM σ N) (h8 : ∀ i j, σ 8 0 i j ≤ 1000000) : TC g kp 5 mX6_goOneTick [rf g (ad 9 0 0)] σ (fun r τ => r = none ∧ TS σ τ (tick1 N)) := by
  refine TC.of (by decide) (Nat.le_of_ble_eq_true rfl) rfl ?_
  obtain ⟨b0, b1, b2, b3, b4, b5⟩ := hI.n
  refine v_iconst dX6_goOneTick_0 (nx := 1) rfl ?_
  refine v_istore_n dX6_goOneTick_1 (nx := 2) rfl rfl (by decide) ?_
  exact (by
    have := l_X6_tick1 (g := g) (kp := kp) hR hI hH hJ h4N hS h8 (N 1 + 1).toNat 0 ⟨by omega, by omega⟩ (by omega)
    rw [fz_0] at this
    exact this)
