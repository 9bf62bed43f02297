theorem TS.cr {σ τ : SS} {M : NN} (h : TS σ τ M) : CR σ τ M 0 := ⟨h.1, h.2.1, h.2.2.1, h.2.2.2.1, by rw [h.2.2.2.2.1]; omega, h.2.2.2.2.2⟩
theorem CR.js {σ τ : SS} {M : NN} (h : CR σ τ M 0) : TS σ τ M := ⟨h.1, h.2.1, h.2.2.1, h.2.2.2.1, by rw [h.2.2.2.2.1]; omega, h.2.2.2.2.2⟩

set_option maxRecDepth 100000 in
theorem l_X6_tick {g : GG} {kp : Bool} {σ : SS} {N : NN} (hJ : JI N) (n : Int) (hn : 1 ≤ n ∧ n ≤ 100) (h4N : N 4 + n ≤ 1000000) : ∀ (m : Nat) (x : Int) (M : NN) (τ : SS), (0 ≤ x ∧ x ≤ n) → (n - x < m) → (M = ticks N x.toNat) → (TS σ τ M) → V g (rmD 6 0 0) mX6_tick (ZT g kp ((fun r τ => r = some (vi (s_tick N n).1) ∧ CR σ τ (s_tick N n).2.1 (s_tick N n).2.2))) E0 18 [(0, rf g (ad 9 0 0)), (1, vi n), (2, vi x)] [] (vw g kp τ) (sz kp) 0 0 := by
  intro m
  induction m with
  | zero => intro x M τ hx hm hM hTS; exfalso; omega
  | succ m ih =>
    intro x M τ hx hm hM hTS
    obtain ⟨j1, j2, j3⟩ := hJ.tickn x.toNat (by omega)
    rw [← hM] at j1 j2
    obtain ⟨hH, hS, hR, h8, h9, ho⟩ := id hTS
    obtain ⟨n0, n1, n2, n3, n4⟩ := hH.n
    refine v_iload_n 2 dX6_tick_18 (nx := 19) rfl rfl ?_
    refine v_iload_n 1 dX6_tick_19 (nx := 20) rfl rfl ?_
    refine v_icmp_ge dX6_tick_20 (tgt := 33) (by decide) (nx := 23) rfl (by first | assumption | exact hR.1 _ _ _ _ | exact ⟨by omega, by omega⟩) (by first | assumption | exact hR.1 _ _ _ _ | exact ⟨by omega, by omega⟩) (fun c20 => ?_) (fun c20 => ?_)
    · refine v_aload_n 0 dX6_tick_33 (nx := 34) rfl rfl ?_
      refine t_get (a := 9) (p := 0) (T := TX6) dX6_tick_34 (nx := 37) rfl (by decide) (ok_m 9 rfl) rfl rfl iU6 (by decide) fl_X6_10 rfl ?_
      refine t_get (a := 7) (p := 8) (T := TX3) dX6_tick_37 (nx := 40) rfl (by decide) (ok_m 7 rfl) rfl rfl iU3 (by decide) fl_X6_171 rfl ?_
      exact t_iret dX6_tick_40 rfl (by rw [show s_tick N n = (M 4, M, 0) by unfold s_tick; rw [if_neg (by omega), hM, show x = n by omega]]; exact ⟨by rw [n4], hTS.cr⟩)
    · refine v_aload_n 0 dX6_tick_23 (nx := 24) rfl rfl ?_
      refine t_callVvQ (a := 9) (c_X6_goOneTick hR j1.1 hH j1 (by omega) hS h8) dX6_tick_24 (nx := 27) rfl kX6_goOneTick ml_X6_168 (by decide) (ok_m 9 rfl) rfl rfl rfl rfl (Nat.le_of_ble_eq_true rfl) ⟨by decide, by decide⟩ ⟨by decide, by decide⟩ (fun τ hq => ?_)
      replace hq := hTS.trans hq
      refine v_iinc 2 dX6_tick_27 (nx := 30) rfl rfl rfl (by decide) ?_
      refine v_goto dX6_tick_30 (tgt := 18) (by decide) ?_
      exact (ih (x + 1) _ τ ⟨by omega, by omega⟩ (by omega) (by rw [ticks_s hx.1, ← hM]) hq)

set_option maxRecDepth 100000 in
theorem c_X6_tick {g : GG} {kp : Bool} {σ : SS} (hR : RG σ) {N : NN} {kk : Int} (hI : IV N kk) (hH : RH σ 0 N) (hS : SM σ N) (h8 : ∀ i j, σ 8 0 i j ≤ 1000000) (h9 : 0 ≤ σ 9 0 0 0 ∧ σ 9 0 0 0 ≤ 1000000) (hJ : JI N) (n : Int) (hn : inR n) (h4N : N 4 + 100 ≤ 1000000) : TC g kp 6 mX6_tick [rf g (ad 9 0 0), vi n] σ (fun r τ => r = some (vi (s_tick N n).1) ∧ CR σ τ (s_tick N n).2.1 (s_tick N n).2.2) := by
  refine TC.of (by decide) (Nat.le_of_ble_eq_true rfl) rfl ?_
  refine v_iload_n 1 dX6_tick_0 (nx := 1) rfl rfl ?_
  refine v_iconst dX6_tick_1 (nx := 2) rfl ?_
  refine v_bipush dX6_tick_2 (nx := 4) rfl rfl ?_
  refine t_callSi (c_X6_within _ _ _ (by first | assumption | exact hR.1 _ _ _ _ | exact ⟨by omega, by omega⟩) (by first | assumption | exact hR.1 _ _ _ _ | exact ⟨by omega, by omega⟩) (by first | assumption | exact hR.1 _ _ _ _ | exact ⟨by omega, by omega⟩)) dX6_tick_4 (nx := 7) rfl kX6_within ml_X6_62 rfl rfl (Nat.le_of_ble_eq_true rfl) ⟨by decide, by decide⟩ ⟨by decide, by decide⟩ ?_
  refine v_ifB_ne dX6_tick_7 (tgt := 16) (by decide) (nx := 10) rfl (fun c7 => ?_) (fun c7 => ?_)
  · refine v_iconst dX6_tick_16 (nx := 17) rfl ?_
    refine v_istore_n dX6_tick_17 (nx := 18) rfl rfl (by decide) ?_
    exact (l_X6_tick hJ n (by omega) (by omega) (n + 1).toNat 0 N σ ⟨by omega, by omega⟩ (by omega) rfl (CR.js (CR.id hR hH hS h8)))
  · refine v_aload_n 0 dX6_tick_10 (nx := 11) rfl rfl ?_
    refine v_iconst dX6_tick_11 (nx := 12) rfl ?_
    refine t_callVi (a := 9) (c_X6_finding _) dX6_tick_12 (nx := 15) rfl kX6_finding ml_X6_38 (by decide) (ok_m 9 rfl) rfl rfl rfl rfl (Nat.le_of_ble_eq_true rfl) ⟨by decide, by decide⟩ ⟨by decide, by decide⟩ ?_
    exact t_iret dX6_tick_15 rfl (by first | (exact cfC hR hH hS h8 h9 (by unfold s_tick fnd; rw [if_pos (by omega)])) | (exfalso; omega))
