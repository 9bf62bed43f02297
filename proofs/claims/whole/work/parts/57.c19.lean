theorem RH_set {σ : SS} {N : NN} {k p h t : Int} (hI : IV N k) (hH : RH σ 0 N) (hp : 0 ≤ p ∧ p < N 0) : RH (up (up σ 0 0 p 2 (h - 1)) 0 0 p 3 t) 0 (uI (uI N (44 + p) (h)) (56 + p) (t)) := by
  obtain ⟨b0, b1, b2, b3, b4, b5⟩ := hI.n
  obtain ⟨n0, n1, n2, n3, n4⟩ := hH.n
  have e : ∀ j, j ≠ 44 + p → j ≠ 56 + p → (uI (uI N (44 + p) (h)) (56 + p) (t)) j = N j := by
    intro j q0 q1
    rw [uI_n q1, uI_n q0]
  have v0 : (uI (uI N (44 + p) (h)) (56 + p) (t)) (44 + p) = h := by unfold uI; (repeat (first | rewrite [if_pos (by omega)] | rewrite [if_neg (by omega)] | dsimp only)); (try rfl)
  have v1 : (uI (uI N (44 + p) (h)) (56 + p) (t)) (56 + p) = t := by unfold uI; (repeat (first | rewrite [if_pos (by omega)] | rewrite [if_neg (by omega)] | dsimp only)); (try rfl)
  refine ⟨?_, ?_, hH.b.same rfl (e 1 (by omega) (by omega) ) (by omega) (fun j _ _ => e j (by omega) (by omega) ), hH.c.same rfl (e 1 (by omega) (by omega) ) (by omega) (fun j _ _ => e j (by omega) (by omega) ), hH.f.same rfl (e 2 (by omega) (by omega) ) (by omega) (fun j _ _ => e j (by omega) (by omega) ), hH.g.same rfl (e 3 (by omega) (by omega) ) (by omega) (fun j _ _ => e j (by omega) (by omega) ), hH.w.same rfl (e 3 (by omega) (by omega) ) (by omega) (fun j _ => e j (by omega) (by omega) ), hH.r.same (fun i => (by unfold up; (repeat (first | rewrite [if_pos (by omega)] | rewrite [if_neg (by omega)] | dsimp only)); (try rfl))) rfl (e 0 (by omega) (by omega) ) (e 3 (by omega) (by omega) ) (by omega) (by omega) (fun j _ _ => e j (by omega) (by omega) ) (fun j _ _ => e j (by omega) (by omega) )⟩
  · exact ⟨by rw [e 0 (by omega) (by omega) , ← n0]; exact (by unfold up; (repeat (first | rewrite [if_pos (by omega)] | rewrite [if_neg (by omega)] | dsimp only)); (try rfl)), by rw [e 1 (by omega) (by omega) , ← n1]; exact (by unfold up; (repeat (first | rewrite [if_pos (by omega)] | rewrite [if_neg (by omega)] | dsimp only)); (try rfl)), by rw [e 2 (by omega) (by omega) , ← n2]; exact (by unfold up; (repeat (first | rewrite [if_pos (by omega)] | rewrite [if_neg (by omega)] | dsimp only)); (try rfl)), by rw [e 3 (by omega) (by omega) , ← n3]; exact (by unfold up; (repeat (first | rewrite [if_pos (by omega)] | rewrite [if_neg (by omega)] | dsimp only)); (try rfl)), by rw [e 4 (by omega) (by omega) , ← n4]; exact (by unfold up; (repeat (first | rewrite [if_pos (by omega)] | rewrite [if_neg (by omega)] | dsimp only)); (try rfl))⟩
  · intro i c0 c1
    rw [e 0 (by omega) (by omega) ] at c1
    obtain ⟨w0, w1, w2⟩ := hH.p i c0 c1
    rw [e (8 + i) (by omega) (by omega) , e (20 + i) (by omega) (by omega) ]
    refine ⟨by rw [← w0]; exact (by unfold up; (repeat (first | rewrite [if_pos (by omega)] | rewrite [if_neg (by omega)] | dsimp only)); (try rfl)), by rw [← w1]; exact (by unfold up; (repeat (first | rewrite [if_pos (by omega)] | rewrite [if_neg (by omega)] | dsimp only)); (try rfl)), fun h1 => ?_⟩
    by_cases q : i = p
    · subst q; rw [v0, v1]; exact ⟨(by unfold up; (repeat (first | rewrite [if_pos (by omega)] | rewrite [if_neg (by omega)] | dsimp only)); (try rfl)), (by unfold up; (repeat (first | rewrite [if_pos (by omega)] | rewrite [if_neg (by omega)] | dsimp only)); (try rfl))⟩
    · obtain ⟨w3, w4⟩ := w2 h1
      rw [e (44 + i) (by omega) (by omega) , e (56 + i) (by omega) (by omega) , ← w3, ← w4]; exact ⟨(by unfold up; (repeat (first | rewrite [if_pos (by omega)] | rewrite [if_neg (by omega)] | dsimp only)); (try rfl)), (by unfold up; (repeat (first | rewrite [if_pos (by omega)] | rewrite [if_neg (by omega)] | dsimp only)); (try rfl))⟩

set_option maxRecDepth 100000 in
theorem c_X6_passTurn {g : GG} {kp : Bool} {σ : SS} (hR : RG σ) {N : NN} {kk : Int} (hI : IV N kk) (hH : RH σ 0 N) {G : NN} (hS : SM σ N) (h8 : ∀ i j, σ 8 0 i j ≤ 1000000) (hF : FR σ N G) (p : Int) (hp : 0 ≤ p ∧ p < N 0) (hk : N (8 + p) = 1) (h44 : 1 ≤ N (44 + p) ∧ N (84 + (N (44 + p) - 1)) = p) : TC g kp 1 mX6_passTurn [rf g (ad 9 0 0), vi p] σ (fun r τ => r = none ∧ TR σ τ (pasN N p) G) := by
  refine TC.of (by decide) (Nat.le_of_ble_eq_true rfl) rfl ?_
  obtain ⟨b0, b1, b2, b3, b4, b5⟩ := hI.n
  obtain ⟨n0, n1, n2, n3, n4⟩ := hH.n
  obtain ⟨e0, e1, e2⟩ := hH.p p (by omega) (by omega)
  obtain ⟨y7, y8⟩ := e2 hk
  obtain ⟨-, -, -, -, y5, y6, -⟩ := hI.p hp.1 hp.2
  obtain ⟨n5, n6, n7⟩ := nxt_in (b := N (44 + p) - 1) hI (by omega) ⟨N (44 + p) - 1, by omega, by omega, h44.2⟩
  obtain ⟨-, -, -, d3, -⟩ := hH.b (nxtI N p (N (44 + p) - 1)) n5 n6
  obtain ⟨-, -, -, -, l5, -⟩ := hI.b n5 n6
  have hRH := RH_set (h := nxtI N p (N (44 + p) - 1) + 1) (t := N (132 + nxtI N p (N (44 + p) - 1))) hI hH hp
  rw [show nxtI N p (N (44 + p) - 1) + 1 - 1 = nxtI N p (N (44 + p) - 1) by omega] at hRH
  refine v_aload_n 0 dX6_passTurn_0 (nx := 1) rfl rfl ?_
  refine t_get (a := 9) (p := 0) (T := TX6) dX6_passTurn_1 (nx := 4) rfl (by decide) (ok_m 9 rfl) rfl rfl iU6 (by decide) fl_X6_10 rfl ?_
  refine v_aload_n 0 dX6_passTurn_4 (nx := 5) rfl rfl ?_
  refine t_get (a := 9) (p := 0) (T := TX6) dX6_passTurn_5 (nx := 8) rfl (by decide) (ok_m 9 rfl) rfl rfl iU6 (by decide) fl_X6_10 rfl ?_
  refine t_get (a := 7) (p := 0) (T := TX3) dX6_passTurn_8 (nx := 11) rfl (by decide) (ok_m 7 rfl) rfl rfl iU3 (by decide) fl_X6_45 rfl ?_
  refine v_iload_n 1 dX6_passTurn_11 (nx := 12) rfl rfl ?_
  refine t_ldP dX6_passTurn_12 (nx := 13) rfl (ok_m 15 rfl) ⟨by omega, by omega⟩ ?_
  refine t_get (a := 0) (p := 2) (T := TX4) dX6_passTurn_13 (nx := 16) rfl (by decide) (by first | assumption | exact ok_0 ⟨by omega, by omega⟩) rfl rfl iU4 (by decide) fl_X6_300 rfl ?_
  refine v_top y7 ?_
  refine v_iload_n 1 dX6_passTurn_16 (nx := 17) rfl rfl ?_
  refine t_callVi (a := 7) (c_X3_inletBehind hR hI hH.n hH.b _ _ (by omega) (by first | assumption | exact hR.1 _ _ _ _ | exact ⟨by omega, by omega⟩)) dX6_passTurn_17 (nx := 20) rfl kX3_inletBehind ml_X6_303 (by decide) (ok_m 7 rfl) rfl rfl rfl rfl (Nat.le_of_ble_eq_true rfl) ⟨by decide, by decide⟩ ⟨by decide, by decide⟩ ?_
  refine v_istore_n dX6_passTurn_20 (nx := 21) rfl rfl (by decide) ?_
  refine v_aload_n 0 dX6_passTurn_21 (nx := 22) rfl rfl ?_
  refine t_get (a := 9) (p := 0) (T := TX6) dX6_passTurn_22 (nx := 25) rfl (by decide) (ok_m 9 rfl) rfl rfl iU6 (by decide) fl_X6_10 rfl ?_
  refine v_iload_n 2 dX6_passTurn_25 (nx := 26) rfl rfl ?_
  refine t_callVi (a := 7) (c_X3_hasBelt hR _ (by first | assumption | exact hR.1 _ _ _ _ | exact ⟨by omega, by omega⟩)) dX6_passTurn_26 (nx := 29) rfl kX3_hasBelt ml_X6_85 (by decide) (ok_m 7 rfl) rfl rfl rfl rfl (Nat.le_of_ble_eq_true rfl) ⟨by decide, by decide⟩ ⟨by decide, by decide⟩ ?_
  refine v_ifB_eq dX6_passTurn_29 (tgt := 57) (by decide) (nx := 32) rfl (fun c29 => ?_) (fun c29 => ?_)
  · exact t_ret dX6_passTurn_57 rfl (by first | (exfalso; omega) | exact ⟨rfl, hRH, SM.same hI hS rfl (by unfold pasN; rw [uI_n (by omega), uI_n (by omega)]) (by unfold pasN; rw [uI_n (by omega), uI_n (by omega)]) (fun j hj => by unfold pasN; rw [uI_n (by omega), uI_n (by omega)]), RG_up (RG_up hR ⟨by omega, by omega⟩) ⟨by omega, by omega⟩, h8, fun x x0 x1 => by (unfold pasN at x1 ⊢; rw [uI_n (by omega), uI_n (by omega)] at x1; rw [uI_n (by omega), uI_n (by omega)]; exact hF x x0 x1), rfl, (fun a t i h => (by have h2 : 10 ≤ a ∨ t ≠ 0 := h.imp id (fun q => q.1); (repeat (first | rw [up_o (by decide) h2] | rw [sK_o (by decide) h2]))))⟩)
  · refine v_aload_n 0 dX6_passTurn_32 (nx := 33) rfl rfl ?_
    refine t_get (a := 9) (p := 0) (T := TX6) dX6_passTurn_33 (nx := 36) rfl (by decide) (ok_m 9 rfl) rfl rfl iU6 (by decide) fl_X6_10 rfl ?_
    refine t_get (a := 7) (p := 0) (T := TX3) dX6_passTurn_36 (nx := 39) rfl (by decide) (ok_m 7 rfl) rfl rfl iU3 (by decide) fl_X6_45 rfl ?_
    refine v_iload_n 1 dX6_passTurn_39 (nx := 40) rfl rfl ?_
    refine t_ldP dX6_passTurn_40 (nx := 41) rfl (ok_m 15 rfl) ⟨by omega, by omega⟩ ?_
    refine v_iload_n 2 dX6_passTurn_41 (nx := 42) rfl rfl ?_
    refine v_aload_n 0 dX6_passTurn_42 (nx := 43) rfl rfl ?_
    refine t_get (a := 9) (p := 0) (T := TX6) dX6_passTurn_43 (nx := 46) rfl (by decide) (ok_m 9 rfl) rfl rfl iU6 (by decide) fl_X6_10 rfl ?_
    refine t_get (a := 7) (p := 1) (T := TX3) dX6_passTurn_46 (nx := 49) rfl (by decide) (ok_m 7 rfl) rfl rfl iU3 (by decide) fl_X6_72 rfl ?_
    refine v_iload_n 2 dX6_passTurn_49 (nx := 50) rfl rfl ?_
    refine t_ldB dX6_passTurn_50 (nx := 51) rfl (ok_m 16 rfl) ⟨by omega, by omega⟩ ?_
    refine t_get (a := 2) (p := 3) (T := TX1) dX6_passTurn_51 (nx := 54) rfl (by decide) (by first | assumption | exact ok_2 ⟨by omega, by omega⟩) rfl rfl iU1 (by decide) fl_X6_94 rfl ?_
    refine v_top d3 ?_
    refine t_callVv (a := 0) (c_X4_putAtHand _ (by omega) _ _) dX6_passTurn_54 (nx := 57) rfl kX4_putAtHand ml_X6_306 (by decide) (by first | assumption | exact ok_0 ⟨by omega, by omega⟩) rfl rfl rfl rfl (Nat.le_of_ble_eq_true rfl) ⟨by decide, by decide⟩ ⟨by decide, by decide⟩ ?_
    exact t_ret dX6_passTurn_57 rfl (by first | (exfalso; omega) | exact ⟨rfl, hRH, SM.same hI hS rfl (by unfold pasN; rw [uI_n (by omega), uI_n (by omega)]) (by unfold pasN; rw [uI_n (by omega), uI_n (by omega)]) (fun j hj => by unfold pasN; rw [uI_n (by omega), uI_n (by omega)]), RG_up (RG_up hR ⟨by omega, by omega⟩) ⟨by omega, by omega⟩, h8, fun x x0 x1 => by (unfold pasN at x1 ⊢; rw [uI_n (by omega), uI_n (by omega)] at x1; rw [uI_n (by omega), uI_n (by omega)]; exact hF x x0 x1), rfl, (fun a t i h => (by have h2 : 10 ≤ a ∨ t ≠ 0 := h.imp id (fun q => q.1); (repeat (first | rw [up_o (by decide) h2] | rw [sK_o (by decide) h2]))))⟩)
