theorem RH_fall {σ : SS} {N : NN} {k b on : Int} (hI : IV N k) (hb : 0 ≤ b ∧ b < N 1) (hon : on = 0 ∨ on = 1) (hH : RH σ 0 N) : RH (up σ 2 0 b 4 on) 0 (uI N (116 + b) (on)) := by
  obtain ⟨b0, b1, b2, b3, b4, b5⟩ := hI.n
  obtain ⟨n0, n1, n2, n3, n4⟩ := hH.n
  have e : ∀ j, j ≠ 116 + b → (uI N (116 + b) (on)) j = N j := by
    intro j q0
    rw [uI_n q0]
  have v0 : (uI N (116 + b) (on)) (116 + b) = on := by unfold uI; (repeat (first | rewrite [if_pos (by omega)] | rewrite [if_neg (by omega)] | dsimp only)); (try rfl)
  have hr : ∀ j, inR ((uI N (116 + b) (on)) j) := (inR_uI hI.r ⟨by omega, by omega⟩)
  refine ⟨?_, hH.p.same (fun _ _ _ => rfl) (e 0 (by omega) ) (by omega) (fun j _ _ => e j (by omega) ) (fun j _ _ => e j (by omega) ), ?_, hH.c.same rfl (e 1 (by omega) ) (by omega) (fun j _ _ => e j (by omega) ), hH.f.same rfl (e 2 (by omega) ) (by omega) (fun j _ _ => e j (by omega) ), hH.g.same rfl (e 3 (by omega) ) (by omega) (fun j _ _ => e j (by omega) ), hH.w.same rfl (e 3 (by omega) ) (by omega) (fun j _ => e j (by omega) ), hH.r.same (fun _ => rfl) rfl (e 0 (by omega) ) (e 3 (by omega) ) (by omega) (by omega) (fun j _ _ => e j (by omega) ) (fun j _ _ => e j (by omega) )⟩
  · exact ⟨by rw [e 0 (by omega) , ← n0]; exact (by unfold up; (repeat (first | rewrite [if_pos (by omega)] | rewrite [if_neg (by omega)] | dsimp only)); (try rfl)), by rw [e 1 (by omega) , ← n1]; exact (by unfold up; (repeat (first | rewrite [if_pos (by omega)] | rewrite [if_neg (by omega)] | dsimp only)); (try rfl)), by rw [e 2 (by omega) , ← n2]; exact (by unfold up; (repeat (first | rewrite [if_pos (by omega)] | rewrite [if_neg (by omega)] | dsimp only)); (try rfl)), by rw [e 3 (by omega) , ← n3]; exact (by unfold up; (repeat (first | rewrite [if_pos (by omega)] | rewrite [if_neg (by omega)] | dsimp only)); (try rfl)), by rw [e 4 (by omega) , ← n4]; exact (by unfold up; (repeat (first | rewrite [if_pos (by omega)] | rewrite [if_neg (by omega)] | dsimp only)); (try rfl))⟩
  · intro x c0 c1
    rw [e 1 (by omega) ] at c1
    obtain ⟨w0, w1, w2, w3, w4⟩ := hH.b x c0 c1
    rw [e (68 + x) (by omega) , e (84 + x) (by omega) , e (100 + x) (by omega) , e (132 + x) (by omega) , ← w0, ← w1, ← w2, ← w3]
    by_cases q : x = b
    · subst q; rw [v0]; exact ⟨(by unfold up; (repeat (first | rewrite [if_pos (by omega)] | rewrite [if_neg (by omega)] | dsimp only)); (try rfl)), (by unfold up; (repeat (first | rewrite [if_pos (by omega)] | rewrite [if_neg (by omega)] | dsimp only)); (try rfl)), (by unfold up; (repeat (first | rewrite [if_pos (by omega)] | rewrite [if_neg (by omega)] | dsimp only)); (try rfl)), (by unfold up; (repeat (first | rewrite [if_pos (by omega)] | rewrite [if_neg (by omega)] | dsimp only)); (try rfl)), (by unfold up; (repeat (first | rewrite [if_pos (by omega)] | rewrite [if_neg (by omega)] | dsimp only)); (try rfl))⟩
    · rw [e (116 + x) (by omega) , ← w4]; exact ⟨(by unfold up; (repeat (first | rewrite [if_pos (by omega)] | rewrite [if_neg (by omega)] | dsimp only)); (try rfl)), (by unfold up; (repeat (first | rewrite [if_pos (by omega)] | rewrite [if_neg (by omega)] | dsimp only)); (try rfl)), (by unfold up; (repeat (first | rewrite [if_pos (by omega)] | rewrite [if_neg (by omega)] | dsimp only)); (try rfl)), (by unfold up; (repeat (first | rewrite [if_pos (by omega)] | rewrite [if_neg (by omega)] | dsimp only)); (try rfl)), (by unfold up; (repeat (first | rewrite [if_pos (by omega)] | rewrite [if_neg (by omega)] | dsimp only)); (try rfl))⟩

set_option maxRecDepth 100000 in
theorem c_X6_fall {g : GG} {kp : Bool} {σ : SS} (hR : RG σ) {N : NN} {kk : Int} (hI : IV N kk) (hH : RH σ 0 N) (hS : SM σ N) (h8 : ∀ i j, σ 8 0 i j ≤ 1000000) (h9 : 0 ≤ σ 9 0 0 0 ∧ σ 9 0 0 0 ≤ 1000000) (b : Int) (hb : inR b) (on : Int) (hon : inR on) (h01 : on = 0 ∨ on = 1) : TC g kp 4 mX6_fall [rf g (ad 9 0 0), vi b, vi on] σ (fun r τ => r = some (vi (s_fall N b on).1) ∧ CR σ τ (s_fall N b on).2.1 (s_fall N b on).2.2) := by
  refine TC.of (by decide) (Nat.le_of_ble_eq_true rfl) rfl ?_
  obtain ⟨b0, b1, b2, b3, b4, b5⟩ := hI.n
  obtain ⟨n0, n1, n2, n3, n4⟩ := hH.n
  refine v_aload_n 0 dX6_fall_0 (nx := 1) rfl rfl ?_
  refine t_get (a := 9) (p := 0) (T := TX6) dX6_fall_1 (nx := 4) rfl (by decide) (ok_m 9 rfl) rfl rfl iU6 (by decide) fl_X6_10 rfl ?_
  refine v_iload_n 1 dX6_fall_4 (nx := 5) rfl rfl ?_
  refine t_callVi (a := 7) (c_X3_hasBelt hR _ (by first | assumption | exact hR.1 _ _ _ _ | exact ⟨by omega, by omega⟩)) dX6_fall_5 (nx := 8) rfl kX3_hasBelt ml_X6_85 (by decide) (ok_m 7 rfl) rfl rfl rfl rfl (Nat.le_of_ble_eq_true rfl) ⟨by decide, by decide⟩ ⟨by decide, by decide⟩ ?_
  refine v_ifB_ne dX6_fall_8 (tgt := 17) (by decide) (nx := 11) rfl (fun c8 => ?_) (fun c8 => ?_)
  · obtain ⟨e0, e1, e2, e3, e4⟩ := hH.b b (by omega) (by omega)
    obtain ⟨-, -, -, l4, -⟩ := hI.b (b := b) (by omega) (by omega)
    refine v_aload_n 0 dX6_fall_17 (nx := 18) rfl rfl ?_
    refine t_get (a := 9) (p := 0) (T := TX6) dX6_fall_18 (nx := 21) rfl (by decide) (ok_m 9 rfl) rfl rfl iU6 (by decide) fl_X6_10 rfl ?_
    refine t_get (a := 7) (p := 1) (T := TX3) dX6_fall_21 (nx := 24) rfl (by decide) (ok_m 7 rfl) rfl rfl iU3 (by decide) fl_X6_72 rfl ?_
    refine v_iload_n 1 dX6_fall_24 (nx := 25) rfl rfl ?_
    refine t_ldB dX6_fall_25 (nx := 26) rfl (ok_m 16 rfl) ⟨by omega, by omega⟩ ?_
    refine t_get (a := 2) (p := 4) (T := TX1) dX6_fall_26 (nx := 29) rfl (by decide) (by first | assumption | exact ok_2 ⟨by omega, by omega⟩) rfl rfl iU1 (by decide) fl_X6_110 rfl ?_
    refine v_iload_n 2 dX6_fall_29 (nx := 30) rfl rfl ?_
    refine v_icmp_ne dX6_fall_30 (tgt := 35) (by decide) (nx := 33) rfl (by first | assumption | exact hR.1 _ _ _ _ | exact ⟨by omega, by omega⟩) (by first | assumption | exact hR.1 _ _ _ _ | exact ⟨by omega, by omega⟩) (fun c30 => ?_) (fun c30 => ?_)
    · refine v_aload_n 0 dX6_fall_35 (nx := 36) rfl rfl ?_
      refine t_get (a := 9) (p := 0) (T := TX6) dX6_fall_36 (nx := 39) rfl (by decide) (ok_m 9 rfl) rfl rfl iU6 (by decide) fl_X6_10 rfl ?_
      refine t_get (a := 7) (p := 1) (T := TX3) dX6_fall_39 (nx := 42) rfl (by decide) (ok_m 7 rfl) rfl rfl iU3 (by decide) fl_X6_72 rfl ?_
      refine v_iload_n 1 dX6_fall_42 (nx := 43) rfl rfl ?_
      refine t_ldB dX6_fall_43 (nx := 44) rfl (ok_m 16 rfl) ⟨by omega, by omega⟩ ?_
      refine v_iload_n 2 dX6_fall_44 (nx := 45) rfl rfl ?_
      refine t_put (a := 2) (j := 4) (p := 4) (T := TX1) dX6_fall_45 (nx := 48) rfl (by decide) (by first | assumption | exact ok_2 ⟨by omega, by omega⟩) rfl rfl iU1 tyX1 tyX1_ok nmX1 (by decide) fl_X6_110 rfl (Or.inr ⟨rfl, by first | assumption | exact Or.inl rfl | exact Or.inr rfl | omega⟩) (Nat.le_of_ble_eq_true rfl) (by rfl) ?_
      have hRH := RH_fall (b := b) (on := on) hI ⟨by omega, by omega⟩ h01 hH
      have hIM := IV_fall (on := on) (b := b) hI ⟨by omega, by omega⟩ h01
      refine v_aload_n 0 dX6_fall_48 (nx := 49) rfl rfl ?_
      refine t_get (a := 9) (p := 1) (T := TX6) dX6_fall_49 (nx := 52) rfl (by decide) (ok_m 9 rfl) rfl rfl iU6 (by decide) fl_X6_19 rfl ?_
      refine v_aload_n 0 dX6_fall_52 (nx := 53) rfl rfl ?_
      refine t_get (a := 9) (p := 0) (T := TX6) dX6_fall_53 (nx := 56) rfl (by decide) (ok_m 9 rfl) rfl rfl iU6 (by decide) fl_X6_10 rfl ?_
      refine t_callVvQ (a := 19) (c_X5_measure (RG_up hR hon) hIM hRH.n hRH.b hRH.p h8) dX6_fall_56 (nx := 59) rfl kX5_measure ml_X6_55 (by decide) (ok_m 19 rfl) rfl rfl rfl rfl (Nat.le_of_ble_eq_true rfl) ⟨by decide, by decide⟩ ⟨by decide, by decide⟩ (fun τ hq => ?_)
      obtain ⟨k8, kS, kR, kb⟩ := hq
      refine v_iconst dX6_fall_59 (nx := 60) rfl ?_
      exact t_iret dX6_fall_60 rfl (by first | exact cfC hR hH hS h8 h9 (by unfold s_fall fnd; (repeat (first | rewrite [if_pos (by omega)] | rewrite [if_neg (by omega)])); rfl) | exact cfA (by unfold s_fall; (repeat (first | rewrite [if_pos (by omega)] | rewrite [if_neg (by omega)])); rfl) rfl (CR.ms hRH (fun a t i h => (by have h2 : 10 ≤ a ∨ t ≠ 0 := h.imp id (fun q => q.1); (repeat (first | rw [up_o (by decide) h2] | rw [sK_o (by decide) h2])))) rfl k8 kS kR kb) | exact cfA (by unfold s_fall; (repeat (first | rewrite [if_pos (by omega)] | rewrite [if_neg (by omega)])); rfl) rfl (by rw [show on = N (116 + b) by omega, uI_id]; exact CR.id hR hH hS h8) | (exfalso; omega))
    · refine v_iconst dX6_fall_33 (nx := 34) rfl ?_
      exact t_iret dX6_fall_34 rfl (by first | exact cfC hR hH hS h8 h9 (by unfold s_fall fnd; (repeat (first | rewrite [if_pos (by omega)] | rewrite [if_neg (by omega)])); rfl) | exact cfA (by unfold s_fall; (repeat (first | rewrite [if_pos (by omega)] | rewrite [if_neg (by omega)])); rfl) rfl (CR.ms hRH (fun a t i h => (by have h2 : 10 ≤ a ∨ t ≠ 0 := h.imp id (fun q => q.1); (repeat (first | rw [up_o (by decide) h2] | rw [sK_o (by decide) h2])))) rfl k8 kS kR kb) | exact cfA (by unfold s_fall; (repeat (first | rewrite [if_pos (by omega)] | rewrite [if_neg (by omega)])); rfl) rfl (by rw [show on = N (116 + b) by omega, uI_id]; exact CR.id hR hH hS h8) | (exfalso; omega))
  · refine v_aload_n 0 dX6_fall_11 (nx := 12) rfl rfl ?_
    refine v_iconst dX6_fall_12 (nx := 13) rfl ?_
    refine t_callVi (a := 9) (c_X6_finding _) dX6_fall_13 (nx := 16) rfl kX6_finding ml_X6_38 (by decide) (ok_m 9 rfl) rfl rfl rfl rfl (Nat.le_of_ble_eq_true rfl) ⟨by decide, by decide⟩ ⟨by decide, by decide⟩ ?_
    exact t_iret dX6_fall_16 rfl (by first | exact cfC hR hH hS h8 h9 (by unfold s_fall fnd; (repeat (first | rewrite [if_pos (by omega)] | rewrite [if_neg (by omega)])); rfl) | exact cfA (by unfold s_fall; (repeat (first | rewrite [if_pos (by omega)] | rewrite [if_neg (by omega)])); rfl) rfl (CR.ms hRH (fun a t i h => (by have h2 : 10 ≤ a ∨ t ≠ 0 := h.imp id (fun q => q.1); (repeat (first | rw [up_o (by decide) h2] | rw [sK_o (by decide) h2])))) rfl k8 kS kR kb) | exact cfA (by unfold s_fall; (repeat (first | rewrite [if_pos (by omega)] | rewrite [if_neg (by omega)])); rfl) rfl (by rw [show on = N (116 + b) by omega, uI_id]; exact CR.id hR hH hS h8) | (exfalso; omega))

theorem lim_id {σ : SS} {i v : Int} (h : ¬ v < σ 0 0 i 3) : up σ 0 0 i 3 (if v < σ 0 0 i 3 then v else σ 0 0 i 3) = σ := by
  rw [if_neg h]
  funext a t x j
  unfold up
  split
  · rename_i q; obtain ⟨rfl, rfl, rfl, rfl⟩ := q; rfl
  · rfl

theorem RH_turns0 {σ : SS} {N : NN} {k b v : Int} (hI : IV N k) (hb : 0 ≤ b ∧ b < N 1) (hv : 0 ≤ v ∧ v ≤ 9) (hH : RH σ 0 N) : RH (up σ 2 0 b 3 v) 0 (uI N (132 + b) (v)) := by
  obtain ⟨b0, b1, b2, b3, b4, b5⟩ := hI.n
  obtain ⟨n0, n1, n2, n3, n4⟩ := hH.n
  obtain ⟨z1, z2, z3, -⟩ := hI.b hb.1 hb.2
  have e : ∀ j, j ≠ 132 + b → (uI N (132 + b) (v)) j = N j := by
    intro j q0
    rw [uI_n q0]
  have v0 : (uI N (132 + b) (v)) (132 + b) = v := by unfold uI; (repeat (first | rewrite [if_pos (by omega)] | rewrite [if_neg (by omega)] | dsimp only)); (try rfl)
  have hr : ∀ j, inR ((uI N (132 + b) (v)) j) := (inR_uI hI.r ⟨by omega, by omega⟩)
  refine ⟨?_, hH.p.same (fun _ _ _ => rfl) (e 0 (by omega) ) (by omega) (fun j _ _ => e j (by omega) ) (fun j _ _ => e j (by omega) ), ?_, hH.c.same rfl (e 1 (by omega) ) (by omega) (fun j _ _ => e j (by omega) ), hH.f.same rfl (e 2 (by omega) ) (by omega) (fun j _ _ => e j (by omega) ), hH.g.same rfl (e 3 (by omega) ) (by omega) (fun j _ _ => e j (by omega) ), hH.w.same rfl (e 3 (by omega) ) (by omega) (fun j _ => e j (by omega) ), hH.r.same (fun _ => rfl) rfl (e 0 (by omega) ) (e 3 (by omega) ) (by omega) (by omega) (fun j _ _ => e j (by omega) ) (fun j _ _ => e j (by omega) )⟩
  · exact ⟨by rw [e 0 (by omega) , ← n0]; exact (by unfold up; (repeat (first | rewrite [if_pos (by omega)] | rewrite [if_neg (by omega)] | dsimp only)); (try rfl)), by rw [e 1 (by omega) , ← n1]; exact (by unfold up; (repeat (first | rewrite [if_pos (by omega)] | rewrite [if_neg (by omega)] | dsimp only)); (try rfl)), by rw [e 2 (by omega) , ← n2]; exact (by unfold up; (repeat (first | rewrite [if_pos (by omega)] | rewrite [if_neg (by omega)] | dsimp only)); (try rfl)), by rw [e 3 (by omega) , ← n3]; exact (by unfold up; (repeat (first | rewrite [if_pos (by omega)] | rewrite [if_neg (by omega)] | dsimp only)); (try rfl)), by rw [e 4 (by omega) , ← n4]; exact (by unfold up; (repeat (first | rewrite [if_pos (by omega)] | rewrite [if_neg (by omega)] | dsimp only)); (try rfl))⟩
  · intro x c0 c1
    rw [e 1 (by omega) ] at c1
    obtain ⟨w0, w1, w2, w3, w4⟩ := hH.b x c0 c1
    rw [e (68 + x) (by omega) , e (84 + x) (by omega) , e (100 + x) (by omega) , e (116 + x) (by omega) , ← w0, ← w1, ← w2, ← w4]
    by_cases q : x = b
    · subst q; rw [v0]; exact ⟨(by unfold up; (repeat (first | rewrite [if_pos (by omega)] | rewrite [if_neg (by omega)] | dsimp only)); (try rfl)), (by unfold up; (repeat (first | rewrite [if_pos (by omega)] | rewrite [if_neg (by omega)] | dsimp only)); (try rfl)), (by unfold up; (repeat (first | rewrite [if_pos (by omega)] | rewrite [if_neg (by omega)] | dsimp only)); (try rfl)), (by unfold up; (repeat (first | rewrite [if_pos (by omega)] | rewrite [if_neg (by omega)] | dsimp only)); (try rfl)), (by unfold up; (repeat (first | rewrite [if_pos (by omega)] | rewrite [if_neg (by omega)] | dsimp only)); (try rfl))⟩
    · rw [e (132 + x) (by omega) , ← w3]; exact ⟨(by unfold up; (repeat (first | rewrite [if_pos (by omega)] | rewrite [if_neg (by omega)] | dsimp only)); (try rfl)), (by unfold up; (repeat (first | rewrite [if_pos (by omega)] | rewrite [if_neg (by omega)] | dsimp only)); (try rfl)), (by unfold up; (repeat (first | rewrite [if_pos (by omega)] | rewrite [if_neg (by omega)] | dsimp only)); (try rfl)), (by unfold up; (repeat (first | rewrite [if_pos (by omega)] | rewrite [if_neg (by omega)] | dsimp only)); (try rfl)), (by unfold up; (repeat (first | rewrite [if_pos (by omega)] | rewrite [if_neg (by omega)] | dsimp only)); (try rfl))⟩

theorem RH_turns1 {σ : SS} {N : NN} {k b v : Int} (hI : IV N k) (hb : 0 ≤ b ∧ b < N 1) (hv : 0 ≤ v ∧ v ≤ 9) (hH : RH σ 0 N) : RH (up (up σ 2 0 b 3 v) 0 0 (N (84 + b)) 3 v) 0 (uI (uI N (132 + b) (v)) (56 + N (84 + b)) (v)) := by
  obtain ⟨b0, b1, b2, b3, b4, b5⟩ := hI.n
  obtain ⟨n0, n1, n2, n3, n4⟩ := hH.n
  obtain ⟨z1, z2, z3, -⟩ := hI.b hb.1 hb.2
  have e : ∀ j, j ≠ 132 + b → j ≠ 56 + N (84 + b) → (uI (uI N (132 + b) (v)) (56 + N (84 + b)) (v)) j = N j := by
    intro j q0 q1
    rw [uI_n q1, uI_n q0]
  have v0 : (uI (uI N (132 + b) (v)) (56 + N (84 + b)) (v)) (132 + b) = v := by unfold uI; (repeat (first | rewrite [if_pos (by omega)] | rewrite [if_neg (by omega)] | dsimp only)); (try rfl)
  have v1 : (uI (uI N (132 + b) (v)) (56 + N (84 + b)) (v)) (56 + N (84 + b)) = v := by unfold uI; (repeat (first | rewrite [if_pos (by omega)] | rewrite [if_neg (by omega)] | dsimp only)); (try rfl)
  have hr : ∀ j, inR ((uI (uI N (132 + b) (v)) (56 + N (84 + b)) (v)) j) := (inR_uI (inR_uI hI.r ⟨by omega, by omega⟩) ⟨by omega, by omega⟩)
  refine ⟨?_, ?_, ?_, hH.c.same rfl (e 1 (by omega) (by omega) ) (by omega) (fun j _ _ => e j (by omega) (by omega) ), hH.f.same rfl (e 2 (by omega) (by omega) ) (by omega) (fun j _ _ => e j (by omega) (by omega) ), hH.g.same rfl (e 3 (by omega) (by omega) ) (by omega) (fun j _ _ => e j (by omega) (by omega) ), hH.w.same rfl (e 3 (by omega) (by omega) ) (by omega) (fun j _ => e j (by omega) (by omega) ), hH.r.same (fun i => (by unfold up; (repeat (first | rewrite [if_pos (by omega)] | rewrite [if_neg (by omega)] | dsimp only)); (try rfl))) rfl (e 0 (by omega) (by omega) ) (e 3 (by omega) (by omega) ) (by omega) (by omega) (fun j _ _ => e j (by omega) (by omega) ) (fun j _ _ => e j (by omega) (by omega) )⟩
  · exact ⟨by rw [e 0 (by omega) (by omega) , ← n0]; exact (by unfold up; (repeat (first | rewrite [if_pos (by omega)] | rewrite [if_neg (by omega)] | dsimp only)); (try rfl)), by rw [e 1 (by omega) (by omega) , ← n1]; exact (by unfold up; (repeat (first | rewrite [if_pos (by omega)] | rewrite [if_neg (by omega)] | dsimp only)); (try rfl)), by rw [e 2 (by omega) (by omega) , ← n2]; exact (by unfold up; (repeat (first | rewrite [if_pos (by omega)] | rewrite [if_neg (by omega)] | dsimp only)); (try rfl)), by rw [e 3 (by omega) (by omega) , ← n3]; exact (by unfold up; (repeat (first | rewrite [if_pos (by omega)] | rewrite [if_neg (by omega)] | dsimp only)); (try rfl)), by rw [e 4 (by omega) (by omega) , ← n4]; exact (by unfold up; (repeat (first | rewrite [if_pos (by omega)] | rewrite [if_neg (by omega)] | dsimp only)); (try rfl))⟩
  · intro i c0 c1
    rw [e 0 (by omega) (by omega) ] at c1
    obtain ⟨w0, w1, w2⟩ := hH.p i c0 c1
    rw [e (8 + i) (by omega) (by omega) , e (20 + i) (by omega) (by omega) , e (44 + i) (by omega) (by omega) ]
    refine ⟨by rw [← w0]; exact (by unfold up; (repeat (first | rewrite [if_pos (by omega)] | rewrite [if_neg (by omega)] | dsimp only)); (try rfl)), by rw [← w1]; exact (by unfold up; (repeat (first | rewrite [if_pos (by omega)] | rewrite [if_neg (by omega)] | dsimp only)); (try rfl)), fun h1 => ?_⟩
    obtain ⟨w3, w4⟩ := w2 h1
    rw [← w3]
    refine ⟨(by unfold up; (repeat (first | rewrite [if_pos (by omega)] | rewrite [if_neg (by omega)] | dsimp only)); (try rfl)), ?_⟩
    by_cases q : i = N (84 + b)
    · rw [q, v1]; exact (by unfold up; (repeat (first | rewrite [if_pos (by omega)] | rewrite [if_neg (by omega)] | dsimp only)); (try rfl))
    · rw [e (56 + i) (by omega) (by omega) , ← w4]; exact (by unfold up; (repeat (first | rewrite [if_pos (by omega)] | rewrite [if_neg (by omega)] | dsimp only)); (try rfl))
  · intro x c0 c1
    rw [e 1 (by omega) (by omega) ] at c1
    obtain ⟨w0, w1, w2, w3, w4⟩ := hH.b x c0 c1
    rw [e (68 + x) (by omega) (by omega) , e (84 + x) (by omega) (by omega) , e (100 + x) (by omega) (by omega) , e (116 + x) (by omega) (by omega) , ← w0, ← w1, ← w2, ← w4]
    by_cases q : x = b
    · subst q; rw [v0]; exact ⟨(by unfold up; (repeat (first | rewrite [if_pos (by omega)] | rewrite [if_neg (by omega)] | dsimp only)); (try rfl)), (by unfold up; (repeat (first | rewrite [if_pos (by omega)] | rewrite [if_neg (by omega)] | dsimp only)); (try rfl)), (by unfold up; (repeat (first | rewrite [if_pos (by omega)] | rewrite [if_neg (by omega)] | dsimp only)); (try rfl)), (by unfold up; (repeat (first | rewrite [if_pos (by omega)] | rewrite [if_neg (by omega)] | dsimp only)); (try rfl)), (by unfold up; (repeat (first | rewrite [if_pos (by omega)] | rewrite [if_neg (by omega)] | dsimp only)); (try rfl))⟩
    · rw [e (132 + x) (by omega) (by omega) , ← w3]; exact ⟨(by unfold up; (repeat (first | rewrite [if_pos (by omega)] | rewrite [if_neg (by omega)] | dsimp only)); (try rfl)), (by unfold up; (repeat (first | rewrite [if_pos (by omega)] | rewrite [if_neg (by omega)] | dsimp only)); (try rfl)), (by unfold up; (repeat (first | rewrite [if_pos (by omega)] | rewrite [if_neg (by omega)] | dsimp only)); (try rfl)), (by unfold up; (repeat (first | rewrite [if_pos (by omega)] | rewrite [if_neg (by omega)] | dsimp only)); (try rfl)), (by unfold up; (repeat (first | rewrite [if_pos (by omega)] | rewrite [if_neg (by omega)] | dsimp only)); (try rfl))⟩

set_option maxRecDepth 100000 in
theorem c_X6_turns {g : GG} {kp : Bool} {σ : SS} (hR : RG σ) {N : NN} {kk : Int} (hI : IV N kk) (hH : RH σ 0 N) (hS : SM σ N) (h8 : ∀ i j, σ 8 0 i j ≤ 1000000) (h9 : 0 ≤ σ 9 0 0 0 ∧ σ 9 0 0 0 ≤ 1000000) (b : Int) (hb : inR b) (v : Int) (hv : inR v)  : TC g kp 2 mX6_turns [rf g (ad 9 0 0), vi b, vi v] σ (fun r τ => r = some (vi (s_turns N b v).1) ∧ CR σ τ (s_turns N b v).2.1 (s_turns N b v).2.2) := by
  refine TC.of (by decide) (Nat.le_of_ble_eq_true rfl) rfl ?_
  obtain ⟨b0, b1, b2, b3, b4, b5⟩ := hI.n
  obtain ⟨n0, n1, n2, n3, n4⟩ := hH.n
  refine v_aload_n 0 dX6_turns_0 (nx := 1) rfl rfl ?_
  refine t_get (a := 9) (p := 0) (T := TX6) dX6_turns_1 (nx := 4) rfl (by decide) (ok_m 9 rfl) rfl rfl iU6 (by decide) fl_X6_10 rfl ?_
  refine v_iload_n 1 dX6_turns_4 (nx := 5) rfl rfl ?_
  refine t_callVi (a := 7) (c_X3_hasBelt hR _ (by first | assumption | exact hR.1 _ _ _ _ | exact ⟨by omega, by omega⟩)) dX6_turns_5 (nx := 8) rfl kX3_hasBelt ml_X6_85 (by decide) (ok_m 7 rfl) rfl rfl rfl rfl (Nat.le_of_ble_eq_true rfl) ⟨by decide, by decide⟩ ⟨by decide, by decide⟩ ?_
  refine v_ifB_eq dX6_turns_8 (tgt := 21) (by decide) (nx := 11) rfl (fun c8 => ?_) (fun c8 => ?_)
  · refine v_aload_n 0 dX6_turns_21 (nx := 22) rfl rfl ?_
    refine v_iconst dX6_turns_22 (nx := 23) rfl ?_
    refine t_callVi (a := 9) (c_X6_finding _) dX6_turns_23 (nx := 26) rfl kX6_finding ml_X6_38 (by decide) (ok_m 9 rfl) rfl rfl rfl rfl (Nat.le_of_ble_eq_true rfl) ⟨by decide, by decide⟩ ⟨by decide, by decide⟩ ?_
    exact t_iret dX6_turns_26 rfl (by first | exact cfC hR hH hS h8 h9 (by unfold s_turns fnd; (repeat (first | rewrite [if_pos (by omega)] | rewrite [if_neg (by omega)])); rfl) | (by_cases q : N (44 + N (84 + b)) = b + 1 ∧ v < N (56 + N (84 + b)); (rw [if_pos q]; exact cfA (by unfold s_turns; (repeat (first | rewrite [if_pos (by omega)] | rewrite [if_neg (by omega)])); rfl) l3 ⟨RH_turns1 hI ⟨by omega, by omega⟩ ⟨by omega, by omega⟩ hH, SM.same hI hS rfl (by repeat rw [uI_n (by omega)]) (by repeat rw [uI_n (by omega)]) (fun j hj => by repeat rw [uI_n (by omega)]), RG_up (RG_up hR hv) hv, h8, by show σ 9 0 0 0 = _; omega, (fun a t i h => (by have h2 : 10 ≤ a ∨ t ≠ 0 := h.imp id (fun q => q.1); (repeat (first | rw [up_o (by decide) h2] | rw [sK_o (by decide) h2]))))⟩); (rw [if_neg q]; exact cfA (by unfold s_turns; (repeat (first | rewrite [if_pos (by omega)] | rewrite [if_neg (by omega)])); rfl) l3 ⟨RH_turns0 hI ⟨by omega, by omega⟩ ⟨by omega, by omega⟩ hH, SM.same hI hS rfl (by repeat rw [uI_n (by omega)]) (by repeat rw [uI_n (by omega)]) (fun j hj => by repeat rw [uI_n (by omega)]), RG_up hR hv, h8, by show σ 9 0 0 0 = _; omega, (fun a t i h => (by have h2 : 10 ≤ a ∨ t ≠ 0 := h.imp id (fun q => q.1); (repeat (first | rw [up_o (by decide) h2] | rw [sK_o (by decide) h2]))))⟩)) | (exfalso; omega))
  · refine v_iload_n 2 dX6_turns_11 (nx := 12) rfl rfl ?_
    refine v_iconst dX6_turns_12 (nx := 13) rfl ?_
    refine v_bipush dX6_turns_13 (nx := 15) rfl rfl ?_
    refine t_callSi (c_X6_within _ _ _ (by first | assumption | exact hR.1 _ _ _ _ | exact ⟨by omega, by omega⟩) (by first | assumption | exact hR.1 _ _ _ _ | exact ⟨by omega, by omega⟩) (by first | assumption | exact hR.1 _ _ _ _ | exact ⟨by omega, by omega⟩)) dX6_turns_15 (nx := 18) rfl kX6_within ml_X6_62 rfl rfl (Nat.le_of_ble_eq_true rfl) ⟨by decide, by decide⟩ ⟨by decide, by decide⟩ ?_
    refine v_ifB_ne dX6_turns_18 (tgt := 27) (by decide) (nx := 21) rfl (fun c18 => ?_) (fun c18 => ?_)
    · obtain ⟨l0, l1, l2, l3, l4⟩ := hH.b b (by omega) (by omega)
      obtain ⟨z1, z2, z3, z4, z5, -⟩ := hI.b (b := b) (by omega) (by omega)
      obtain ⟨e0, e1, e2⟩ := hH.p (N (84 + b)) (by omega) (by omega)
      obtain ⟨-, -, -, -, y5, y6, -⟩ := hI.p (p := N (84 + b)) (by omega) (by omega)
      refine v_aload_n 0 dX6_turns_27 (nx := 28) rfl rfl ?_
      refine t_get (a := 9) (p := 0) (T := TX6) dX6_turns_28 (nx := 31) rfl (by decide) (ok_m 9 rfl) rfl rfl iU6 (by decide) fl_X6_10 rfl ?_
      refine t_get (a := 7) (p := 1) (T := TX3) dX6_turns_31 (nx := 34) rfl (by decide) (ok_m 7 rfl) rfl rfl iU3 (by decide) fl_X6_72 rfl ?_
      refine v_iload_n 1 dX6_turns_34 (nx := 35) rfl rfl ?_
      refine t_ldB dX6_turns_35 (nx := 36) rfl (ok_m 16 rfl) ⟨by omega, by omega⟩ ?_
      refine v_astore_n dX6_turns_36 (nx := 37) rfl rfl (by decide) ?_
      refine v_aload_n 0 dX6_turns_37 (nx := 38) rfl rfl ?_
      refine t_get (a := 9) (p := 0) (T := TX6) dX6_turns_38 (nx := 41) rfl (by decide) (ok_m 9 rfl) rfl rfl iU6 (by decide) fl_X6_10 rfl ?_
      refine v_aload_n 3 dX6_turns_41 (nx := 42) rfl rfl ?_
      refine t_get (a := 2) (p := 1) (T := TX1) dX6_turns_42 (nx := 45) rfl (by decide) (by first | assumption | exact ok_2 ⟨by omega, by omega⟩) rfl rfl iU1 (by decide) fl_X6_88 rfl ?_
      refine v_top l1 ?_
      refine v_iconst dX6_turns_45 (nx := 46) rfl ?_
      refine t_callVi (a := 7) (c_X3_isOfKind hR _ 1 (by first | assumption | exact hR.1 _ _ _ _ | exact ⟨by omega, by omega⟩) (by first | assumption | exact hR.1 _ _ _ _ | exact ⟨by omega, by omega⟩) (by omega)) dX6_turns_46 (nx := 49) rfl kX3_isOfKind ml_X6_91 (by decide) (ok_m 7 rfl) rfl rfl rfl rfl (Nat.le_of_ble_eq_true rfl) ⟨by decide, by decide⟩ ⟨by decide, by decide⟩ ?_
      refine v_ifB_ne dX6_turns_49 (tgt := 59) (by decide) (nx := 52) rfl (fun c49 => ?_) (fun c49 => ?_)
      · obtain ⟨y7, y8⟩ := e2 (by omega)
        refine v_aload_n 3 dX6_turns_59 (nx := 60) rfl rfl ?_
        refine t_get (a := 2) (p := 3) (T := TX1) dX6_turns_60 (nx := 63) rfl (by decide) (by first | assumption | exact ok_2 ⟨by omega, by omega⟩) rfl rfl iU1 (by decide) fl_X6_94 rfl ?_
        refine v_istore dX6_turns_63 (nx := 65) rfl rfl (by decide) ?_
        refine v_aload_n 3 dX6_turns_65 (nx := 66) rfl rfl ?_
        refine v_iload_n 2 dX6_turns_66 (nx := 67) rfl rfl ?_
        refine t_put (a := 2) (j := 3) (p := 3) (T := TX1) dX6_turns_67 (nx := 70) rfl (by decide) (by first | assumption | exact ok_2 ⟨by omega, by omega⟩) rfl rfl iU1 tyX1 tyX1_ok nmX1 (by decide) fl_X6_94 rfl (Or.inl rfl) (Nat.le_of_ble_eq_true rfl) (by rfl) ?_
        refine v_aload_n 0 dX6_turns_70 (nx := 71) rfl rfl ?_
        refine t_get (a := 9) (p := 0) (T := TX6) dX6_turns_71 (nx := 74) rfl (by decide) (ok_m 9 rfl) rfl rfl iU6 (by decide) fl_X6_10 rfl ?_
        refine t_get (a := 7) (p := 0) (T := TX3) dX6_turns_74 (nx := 77) rfl (by decide) (ok_m 7 rfl) rfl rfl iU3 (by decide) fl_X6_45 rfl ?_
        refine v_aload_n 3 dX6_turns_77 (nx := 78) rfl rfl ?_
        refine t_get (a := 2) (p := 1) (T := TX1) dX6_turns_78 (nx := 81) rfl (by decide) (by first | assumption | exact ok_2 ⟨by omega, by omega⟩) rfl rfl iU1 (by decide) fl_X6_88 rfl ?_
        refine v_top (z' := N (84 + b)) (by unfold up; rw [if_neg (by omega)]; exact l1) ?_
        refine t_ldP dX6_turns_81 (nx := 82) rfl (ok_m 15 rfl) ⟨by omega, by omega⟩ ?_
        refine v_iload_n 1 dX6_turns_82 (nx := 83) rfl rfl ?_
        refine v_iload_n 2 dX6_turns_83 (nx := 84) rfl rfl ?_
        refine t_callVv (a := 0) (c_X4_limitLeft (RG_up hR hv) _ (by omega) _ _ (by first | assumption | exact hR.1 _ _ _ _ | exact ⟨by omega, by omega⟩) (by first | assumption | exact hR.1 _ _ _ _ | exact ⟨by omega, by omega⟩)) dX6_turns_84 (nx := 87) rfl kX4_limitLeft ml_X6_97 (by decide) (by first | assumption | exact ok_0 ⟨by omega, by omega⟩) rfl rfl rfl rfl (Nat.le_of_ble_eq_true rfl) ⟨by decide, by decide⟩ ⟨by decide, by decide⟩ ?_
        have hT : (if up σ 2 0 b 3 v 0 0 (N (84 + b)) 2 = b then up (up σ 2 0 b 3 v) 0 0 (N (84 + b)) 3 (if v < up σ 2 0 b 3 v 0 0 (N (84 + b)) 3 then v else up σ 2 0 b 3 v 0 0 (N (84 + b)) 3) else up σ 2 0 b 3 v) = (if N (44 + N (84 + b)) = b + 1 ∧ v < N (56 + N (84 + b)) then (up (up σ 2 0 b 3 v) 0 0 (N (84 + b)) 3 v) else (up σ 2 0 b 3 v)) := by
          have x2 : up σ 2 0 b 3 v 0 0 (N (84 + b)) 2 = N (44 + N (84 + b)) - 1 := y7
          have x3 : up σ 2 0 b 3 v 0 0 (N (84 + b)) 3 = N (56 + N (84 + b)) := y8
          by_cases q1 : N (44 + N (84 + b)) = b + 1
          · rw [if_pos (by omega)]
            by_cases q2 : v < N (56 + N (84 + b))
            · rw [if_pos (show v < up σ 2 0 b 3 v 0 0 (N (84 + b)) 3 by omega), if_pos ⟨q1, q2⟩]
            · rw [lim_id (by omega), if_neg (by omega)]
          · rw [if_neg (by omega), if_neg (by omega)]
        rw [hT]
        refine v_iload 4 dX6_turns_87 (nx := 89) rfl rfl ?_
        exact t_iret dX6_turns_89 rfl (by first | exact cfC hR hH hS h8 h9 (by unfold s_turns fnd; (repeat (first | rewrite [if_pos (by omega)] | rewrite [if_neg (by omega)])); rfl) | (by_cases q : N (44 + N (84 + b)) = b + 1 ∧ v < N (56 + N (84 + b)); (rw [if_pos q]; exact cfA (by unfold s_turns; (repeat (first | rewrite [if_pos (by omega)] | rewrite [if_neg (by omega)])); rfl) l3 ⟨RH_turns1 hI ⟨by omega, by omega⟩ ⟨by omega, by omega⟩ hH, SM.same hI hS rfl (by repeat rw [uI_n (by omega)]) (by repeat rw [uI_n (by omega)]) (fun j hj => by repeat rw [uI_n (by omega)]), RG_up (RG_up hR hv) hv, h8, by show σ 9 0 0 0 = _; omega, (fun a t i h => (by have h2 : 10 ≤ a ∨ t ≠ 0 := h.imp id (fun q => q.1); (repeat (first | rw [up_o (by decide) h2] | rw [sK_o (by decide) h2]))))⟩); (rw [if_neg q]; exact cfA (by unfold s_turns; (repeat (first | rewrite [if_pos (by omega)] | rewrite [if_neg (by omega)])); rfl) l3 ⟨RH_turns0 hI ⟨by omega, by omega⟩ ⟨by omega, by omega⟩ hH, SM.same hI hS rfl (by repeat rw [uI_n (by omega)]) (by repeat rw [uI_n (by omega)]) (fun j hj => by repeat rw [uI_n (by omega)]), RG_up hR hv, h8, by show σ 9 0 0 0 = _; omega, (fun a t i h => (by have h2 : 10 ≤ a ∨ t ≠ 0 := h.imp id (fun q => q.1); (repeat (first | rw [up_o (by decide) h2] | rw [sK_o (by decide) h2]))))⟩)) | (exfalso; omega))
      · refine v_aload_n 0 dX6_turns_52 (nx := 53) rfl rfl ?_
        refine v_bipush dX6_turns_53 (nx := 55) rfl rfl ?_
        refine t_callVi (a := 9) (c_X6_finding _) dX6_turns_55 (nx := 58) rfl kX6_finding ml_X6_38 (by decide) (ok_m 9 rfl) rfl rfl rfl rfl (Nat.le_of_ble_eq_true rfl) ⟨by decide, by decide⟩ ⟨by decide, by decide⟩ ?_
        exact t_iret dX6_turns_58 rfl (by first | exact cfC hR hH hS h8 h9 (by unfold s_turns fnd; (repeat (first | rewrite [if_pos (by omega)] | rewrite [if_neg (by omega)])); rfl) | (by_cases q : N (44 + N (84 + b)) = b + 1 ∧ v < N (56 + N (84 + b)); (rw [if_pos q]; exact cfA (by unfold s_turns; (repeat (first | rewrite [if_pos (by omega)] | rewrite [if_neg (by omega)])); rfl) l3 ⟨RH_turns1 hI ⟨by omega, by omega⟩ ⟨by omega, by omega⟩ hH, SM.same hI hS rfl (by repeat rw [uI_n (by omega)]) (by repeat rw [uI_n (by omega)]) (fun j hj => by repeat rw [uI_n (by omega)]), RG_up (RG_up hR hv) hv, h8, by show σ 9 0 0 0 = _; omega, (fun a t i h => (by have h2 : 10 ≤ a ∨ t ≠ 0 := h.imp id (fun q => q.1); (repeat (first | rw [up_o (by decide) h2] | rw [sK_o (by decide) h2]))))⟩); (rw [if_neg q]; exact cfA (by unfold s_turns; (repeat (first | rewrite [if_pos (by omega)] | rewrite [if_neg (by omega)])); rfl) l3 ⟨RH_turns0 hI ⟨by omega, by omega⟩ ⟨by omega, by omega⟩ hH, SM.same hI hS rfl (by repeat rw [uI_n (by omega)]) (by repeat rw [uI_n (by omega)]) (fun j hj => by repeat rw [uI_n (by omega)]), RG_up hR hv, h8, by show σ 9 0 0 0 = _; omega, (fun a t i h => (by have h2 : 10 ≤ a ∨ t ≠ 0 := h.imp id (fun q => q.1); (repeat (first | rw [up_o (by decide) h2] | rw [sK_o (by decide) h2]))))⟩)) | (exfalso; omega))
    · refine v_aload_n 0 dX6_turns_21 (nx := 22) rfl rfl ?_
      refine v_iconst dX6_turns_22 (nx := 23) rfl ?_
      refine t_callVi (a := 9) (c_X6_finding _) dX6_turns_23 (nx := 26) rfl kX6_finding ml_X6_38 (by decide) (ok_m 9 rfl) rfl rfl rfl rfl (Nat.le_of_ble_eq_true rfl) ⟨by decide, by decide⟩ ⟨by decide, by decide⟩ ?_
      exact t_iret dX6_turns_26 rfl (by first | exact cfC hR hH hS h8 h9 (by unfold s_turns fnd; (repeat (first | rewrite [if_pos (by omega)] | rewrite [if_neg (by omega)])); rfl) | (by_cases q : N (44 + N (84 + b)) = b + 1 ∧ v < N (56 + N (84 + b)); (rw [if_pos q]; exact cfA (by unfold s_turns; (repeat (first | rewrite [if_pos (by omega)] | rewrite [if_neg (by omega)])); rfl) l3 ⟨RH_turns1 hI ⟨by omega, by omega⟩ ⟨by omega, by omega⟩ hH, SM.same hI hS rfl (by repeat rw [uI_n (by omega)]) (by repeat rw [uI_n (by omega)]) (fun j hj => by repeat rw [uI_n (by omega)]), RG_up (RG_up hR hv) hv, h8, by show σ 9 0 0 0 = _; omega, (fun a t i h => (by have h2 : 10 ≤ a ∨ t ≠ 0 := h.imp id (fun q => q.1); (repeat (first | rw [up_o (by decide) h2] | rw [sK_o (by decide) h2]))))⟩); (rw [if_neg q]; exact cfA (by unfold s_turns; (repeat (first | rewrite [if_pos (by omega)] | rewrite [if_neg (by omega)])); rfl) l3 ⟨RH_turns0 hI ⟨by omega, by omega⟩ ⟨by omega, by omega⟩ hH, SM.same hI hS rfl (by repeat rw [uI_n (by omega)]) (by repeat rw [uI_n (by omega)]) (fun j hj => by repeat rw [uI_n (by omega)]), RG_up hR hv, h8, by show σ 9 0 0 0 = _; omega, (fun a t i h => (by have h2 : 10 ≤ a ∨ t ≠ 0 := h.imp id (fun q => q.1); (repeat (first | rw [up_o (by decide) h2] | rw [sK_o (by decide) h2]))))⟩)) | (exfalso; omega))
