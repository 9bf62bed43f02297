theorem wcK_c (k : Int) : wcK k = 0 ∨ wcK k = 2 ∨ wcK k = 3 := by
  unfold wcK
  split
  · exact Or.inl rfl
  · split
    · exact Or.inr (Or.inr rfl)
    · exact Or.inr (Or.inl rfl)
/-- no bag is at a point that isn't there -/
theorem no_at {N : NN} {k x p : Int} (hI : IV N k) (x0 : 0 ≤ x) (x1 : x < N 3) (hp : N 0 ≤ p) (kd : Int) : ¬ (N (484 + x) = wcK kd ∧ N (544 + x) = p) := by
  rintro ⟨h1, h2⟩
  obtain ⟨b0, -⟩ := hI.n
  obtain ⟨-, -, -, w⟩ := hI.g x0 x1
  unfold wI at w
  rcases wcK_c kd with q | q | q <;> rw [q] at h1 <;> omega

theorem RH_point {σ : SS} {N : NN} {k kd v : Int} (hI : IV N k) (h12 : N 0 < 12) (hkd : 0 ≤ kd ∧ kd ≤ 5) (h2 : kd = 2 → 1 ≤ v ∧ v ≤ 9) (h4 : kd = 4 → 1 ≤ v ∧ v ≤ 20) (hv : inR v) (hH : RH σ 0 N) : RH (up (up (up (up (up (up σ 0 0 (σ 7 0 0 0) 0 kd) 0 0 (σ 7 0 0 0) 1 v) 0 0 (σ 7 0 0 0) 2 (-1)) 0 0 (σ 7 0 0 0) 3 0) 0 0 (σ 7 0 0 0) 4 0) 7 0 0 0 (σ 7 0 0 0 + 1)) 0 (uI (uI (uI (uI (uI (uI N (8 + N 0) (kd)) (20 + N 0) (v)) (32 + N 0) (0)) (44 + N 0) (0)) (56 + N 0) (0)) (0) (N 0 + 1)) := by
  obtain ⟨b0, b1, b2, b3, b4, b5⟩ := hI.n
  obtain ⟨n0, n1, n2, n3, n4⟩ := hH.n
  have e : ∀ j, j ≠ 8 + N 0 → j ≠ 20 + N 0 → j ≠ 32 + N 0 → j ≠ 44 + N 0 → j ≠ 56 + N 0 → j ≠ 0 → (uI (uI (uI (uI (uI (uI N (8 + N 0) (kd)) (20 + N 0) (v)) (32 + N 0) (0)) (44 + N 0) (0)) (56 + N 0) (0)) (0) (N 0 + 1)) j = N j := by
    intro j q0 q1 q2 q3 q4 q5
    rw [uI_n q5, uI_n q4, uI_n q3, uI_n q2, uI_n q1, uI_n q0]
  have v0 : (uI (uI (uI (uI (uI (uI N (8 + N 0) (kd)) (20 + N 0) (v)) (32 + N 0) (0)) (44 + N 0) (0)) (56 + N 0) (0)) (0) (N 0 + 1)) (8 + N 0) = kd := by unfold uI; (repeat (first | rewrite [if_pos (by omega)] | rewrite [if_neg (by omega)] | dsimp only)); (try rfl)
  have v1 : (uI (uI (uI (uI (uI (uI N (8 + N 0) (kd)) (20 + N 0) (v)) (32 + N 0) (0)) (44 + N 0) (0)) (56 + N 0) (0)) (0) (N 0 + 1)) (20 + N 0) = v := by unfold uI; (repeat (first | rewrite [if_pos (by omega)] | rewrite [if_neg (by omega)] | dsimp only)); (try rfl)
  have v2 : (uI (uI (uI (uI (uI (uI N (8 + N 0) (kd)) (20 + N 0) (v)) (32 + N 0) (0)) (44 + N 0) (0)) (56 + N 0) (0)) (0) (N 0 + 1)) (32 + N 0) = 0 := by unfold uI; (repeat (first | rewrite [if_pos (by omega)] | rewrite [if_neg (by omega)] | dsimp only)); (try rfl)
  have v3 : (uI (uI (uI (uI (uI (uI N (8 + N 0) (kd)) (20 + N 0) (v)) (32 + N 0) (0)) (44 + N 0) (0)) (56 + N 0) (0)) (0) (N 0 + 1)) (44 + N 0) = 0 := by unfold uI; (repeat (first | rewrite [if_pos (by omega)] | rewrite [if_neg (by omega)] | dsimp only)); (try rfl)
  have v4 : (uI (uI (uI (uI (uI (uI N (8 + N 0) (kd)) (20 + N 0) (v)) (32 + N 0) (0)) (44 + N 0) (0)) (56 + N 0) (0)) (0) (N 0 + 1)) (56 + N 0) = 0 := by unfold uI; (repeat (first | rewrite [if_pos (by omega)] | rewrite [if_neg (by omega)] | dsimp only)); (try rfl)
  have v5 : (uI (uI (uI (uI (uI (uI N (8 + N 0) (kd)) (20 + N 0) (v)) (32 + N 0) (0)) (44 + N 0) (0)) (56 + N 0) (0)) (0) (N 0 + 1)) (0) = N 0 + 1 := by unfold uI; (repeat (first | rewrite [if_pos (by omega)] | rewrite [if_neg (by omega)] | dsimp only)); (try rfl)
  have hr : ∀ j, inR ((uI (uI (uI (uI (uI (uI N (8 + N 0) (kd)) (20 + N 0) (v)) (32 + N 0) (0)) (44 + N 0) (0)) (56 + N 0) (0)) (0) (N 0 + 1)) j) := (inR_uI (inR_uI (inR_uI (inR_uI (inR_uI (inR_uI hI.r ⟨by omega, by omega⟩) hv) ⟨by omega, by omega⟩) ⟨by omega, by omega⟩) ⟨by omega, by omega⟩) ⟨by omega, by omega⟩)
  refine ⟨?_, ?_, hH.b.same rfl (e 1 (by omega) (by omega) (by omega) (by omega) (by omega) (by omega) ) (by omega) (fun j _ _ => e j (by omega) (by omega) (by omega) (by omega) (by omega) (by omega) ), hH.c.same rfl (e 1 (by omega) (by omega) (by omega) (by omega) (by omega) (by omega) ) (by omega) (fun j _ _ => e j (by omega) (by omega) (by omega) (by omega) (by omega) (by omega) ), hH.f.same rfl (e 2 (by omega) (by omega) (by omega) (by omega) (by omega) (by omega) ) (by omega) (fun j _ _ => e j (by omega) (by omega) (by omega) (by omega) (by omega) (by omega) ), hH.g.same rfl (e 3 (by omega) (by omega) (by omega) (by omega) (by omega) (by omega) ) (by omega) (fun j _ _ => e j (by omega) (by omega) (by omega) (by omega) (by omega) (by omega) ), hH.w.same rfl (e 3 (by omega) (by omega) (by omega) (by omega) (by omega) (by omega) ) (by omega) (fun j _ => e j (by omega) (by omega) (by omega) (by omega) (by omega) (by omega) ), ?_⟩
  · exact ⟨by rw [v5, ← n0]; exact (by unfold up; (repeat (first | rewrite [if_pos (by omega)] | rewrite [if_neg (by omega)] | dsimp only)); (try rfl)), by rw [e 1 (by omega) (by omega) (by omega) (by omega) (by omega) (by omega) , ← n1]; exact (by unfold up; (repeat (first | rewrite [if_pos (by omega)] | rewrite [if_neg (by omega)] | dsimp only)); (try rfl)), by rw [e 2 (by omega) (by omega) (by omega) (by omega) (by omega) (by omega) , ← n2]; exact (by unfold up; (repeat (first | rewrite [if_pos (by omega)] | rewrite [if_neg (by omega)] | dsimp only)); (try rfl)), by rw [e 3 (by omega) (by omega) (by omega) (by omega) (by omega) (by omega) , ← n3]; exact (by unfold up; (repeat (first | rewrite [if_pos (by omega)] | rewrite [if_neg (by omega)] | dsimp only)); (try rfl)), by rw [e 4 (by omega) (by omega) (by omega) (by omega) (by omega) (by omega) , ← n4]; exact (by unfold up; (repeat (first | rewrite [if_pos (by omega)] | rewrite [if_neg (by omega)] | dsimp only)); (try rfl))⟩
  · intro i c0 c1
    rw [v5] at c1
    by_cases q : i = N 0
    · subst q
      rw [v0, v1, v3, v4]
      exact ⟨(by unfold up; (repeat (first | rewrite [if_pos (by omega)] | rewrite [if_neg (by omega)] | dsimp only)); (try rfl)), (by unfold up; (repeat (first | rewrite [if_pos (by omega)] | rewrite [if_neg (by omega)] | dsimp only)); (try rfl)), fun _ => ⟨(by unfold up; (repeat (first | rewrite [if_pos (by omega)] | rewrite [if_neg (by omega)] | dsimp only)); (try rfl)), (by unfold up; (repeat (first | rewrite [if_pos (by omega)] | rewrite [if_neg (by omega)] | dsimp only)); (try rfl))⟩⟩
    · obtain ⟨w0, w1, w2⟩ := hH.p i c0 (by omega)
      rw [e (8 + i) (by omega) (by omega) (by omega) (by omega) (by omega) (by omega) , e (20 + i) (by omega) (by omega) (by omega) (by omega) (by omega) (by omega) , e (44 + i) (by omega) (by omega) (by omega) (by omega) (by omega) (by omega) , e (56 + i) (by omega) (by omega) (by omega) (by omega) (by omega) (by omega) ]
      refine ⟨by rw [← w0]; exact (by unfold up; (repeat (first | rewrite [if_pos (by omega)] | rewrite [if_neg (by omega)] | dsimp only)); (try rfl)), by rw [← w1]; exact (by unfold up; (repeat (first | rewrite [if_pos (by omega)] | rewrite [if_neg (by omega)] | dsimp only)); (try rfl)), fun h1 => ?_⟩
      obtain ⟨w3, w4⟩ := w2 h1
      rw [← w3, ← w4]
      exact ⟨(by unfold up; (repeat (first | rewrite [if_pos (by omega)] | rewrite [if_neg (by omega)] | dsimp only)); (try rfl)), (by unfold up; (repeat (first | rewrite [if_pos (by omega)] | rewrite [if_neg (by omega)] | dsimp only)); (try rfl))⟩
  · intro i c0 c1
    rw [v5] at c1
    by_cases q : i = N 0
    · subst q
      have s4 : (up (up (up (up (up (up σ 0 0 (σ 7 0 0 0) 0 kd) 0 0 (σ 7 0 0 0) 1 v) 0 0 (σ 7 0 0 0) 2 (-1)) 0 0 (σ 7 0 0 0) 3 0) 0 0 (σ 7 0 0 0) 4 0) 7 0 0 0 (σ 7 0 0 0 + 1)) 0 0 (N 0) 4 = 0 := (by unfold up; (repeat (first | rewrite [if_pos (by omega)] | rewrite [if_neg (by omega)] | dsimp only)); (try rfl))
      unfold RHr1
      rw [s4, v0, e 3 (by omega) (by omega) (by omega) (by omega) (by omega) (by omega) ]
      refine ⟨⟨by omega, by omega⟩, fun _ => rfl, fun j j0 j1 => by omega, fun j l j0 j1 j2 => by omega, fun _ x x0 x1 x2 x3 => ?_⟩
      rw [e (484 + x) (by omega) (by omega) (by omega) (by omega) (by omega) (by omega) ] at x2
      rw [e (544 + x) (by omega) (by omega) (by omega) (by omega) (by omega) (by omega) ] at x3
      exact absurd ⟨x2, x3⟩ (no_at hI x0 x1 (Int.le_refl _) kd)
    · refine (hH.r i c0 (by omega)).keep (by unfold up; (repeat (first | rewrite [if_pos (by omega)] | rewrite [if_neg (by omega)] | dsimp only)); (try rfl)) (fun j _ _ => rfl) (e _ (by omega) (by omega) (by omega) (by omega) (by omega) (by omega) ) (by rw [e 3 (by omega) (by omega) (by omega) (by omega) (by omega) (by omega) ]; omega) (fun x x0 x1 => ?_)
      rw [e 3 (by omega) (by omega) (by omega) (by omega) (by omega) (by omega) ] at x1
      exact Or.inl ⟨x1, e _ (by omega) (by omega) (by omega) (by omega) (by omega) (by omega) , e _ (by omega) (by omega) (by omega) (by omega) (by omega) (by omega) , e _ (by omega) (by omega) (by omega) (by omega) (by omega) (by omega) ⟩

set_option maxRecDepth 100000 in
theorem c_X6_point {g : GG} {kp : Bool} {σ : SS} (hR : RG σ) {N : NN} {kk : Int} (hI : IV N kk) (hH : RH σ 0 N) (hS : SM σ N) (h8 : ∀ i j, σ 8 0 i j ≤ 1000000) (h9 : 0 ≤ σ 9 0 0 0 ∧ σ 9 0 0 0 ≤ 1000000) (kd : Int) (hkd : inR kd) (v : Int) (hv : inR v)  : TC g kp 4 mX6_point [rf g (ad 9 0 0), vi kd, vi v] σ (fun r τ => r = some (vi (s_point N kd v).1) ∧ CR σ τ (s_point N kd v).2.1 (s_point N kd v).2.2) := by
  refine TC.of (by decide) (Nat.le_of_ble_eq_true rfl) rfl ?_
  obtain ⟨b0, b1, b2, b3, b4, b5⟩ := hI.n
  obtain ⟨n0, n1, n2, n3, n4⟩ := hH.n
  refine v_iload_n 1 dX6_point_0 (nx := 1) rfl rfl ?_
  refine t_callSi (c_X6_isKind _ (by first | assumption | exact hR.1 _ _ _ _ | exact ⟨by omega, by omega⟩)) dX6_point_1 (nx := 4) rfl kX6_isKind ml_X6_30 rfl rfl (Nat.le_of_ble_eq_true rfl) ⟨by decide, by decide⟩ ⟨by decide, by decide⟩ ?_
  refine v_ifB_eq dX6_point_4 (tgt := 15) (by decide) (nx := 7) rfl (fun c4 => ?_) (fun c4 => ?_)
  · refine v_aload_n 0 dX6_point_15 (nx := 16) rfl rfl ?_
    refine v_iconst dX6_point_16 (nx := 17) rfl ?_
    refine t_callVi (a := 9) (c_X6_finding _) dX6_point_17 (nx := 20) rfl kX6_finding ml_X6_38 (by decide) (ok_m 9 rfl) rfl rfl rfl rfl (Nat.le_of_ble_eq_true rfl) ⟨by decide, by decide⟩ ⟨by decide, by decide⟩ ?_
    exact t_iret dX6_point_20 rfl (by first | exact cfC hR hH hS h8 h9 (by unfold s_point fnd; (repeat (first | rewrite [if_pos (by omega)] | rewrite [if_neg (by omega)])); rfl) | exact cfA (by unfold s_point; (repeat (first | rewrite [if_pos (by omega)] | rewrite [if_neg (by omega)])); rfl) n0 (CR.ms hRH (fun a t i h => (by have h2 : 10 ≤ a ∨ t ≠ 0 := h.imp id (fun q => q.1); (repeat (first | rw [up_o (by decide) h2] | rw [sK_o (by decide) h2])))) rfl k8 kS kR kb) | (exfalso; omega))
  · refine v_iload_n 1 dX6_point_7 (nx := 8) rfl rfl ?_
    refine v_iload_n 2 dX6_point_8 (nx := 9) rfl rfl ?_
    refine t_callSi (c_X6_suits _ _ (by first | assumption | exact hR.1 _ _ _ _ | exact ⟨by omega, by omega⟩) (by first | assumption | exact hR.1 _ _ _ _ | exact ⟨by omega, by omega⟩)) dX6_point_9 (nx := 12) rfl kX6_suits ml_X6_34 rfl rfl (Nat.le_of_ble_eq_true rfl) ⟨by decide, by decide⟩ ⟨by decide, by decide⟩ ?_
    refine v_ifB_ne dX6_point_12 (tgt := 21) (by decide) (nx := 15) rfl (fun c12 => ?_) (fun c12 => ?_)
    · refine v_aload_n 0 dX6_point_21 (nx := 22) rfl rfl ?_
      refine t_get (a := 9) (p := 0) (T := TX6) dX6_point_22 (nx := 25) rfl (by decide) (ok_m 9 rfl) rfl rfl iU6 (by decide) fl_X6_10 rfl ?_
      refine t_get (a := 7) (p := 4) (T := TX3) dX6_point_25 (nx := 28) rfl (by decide) (ok_m 7 rfl) rfl rfl iU3 (by decide) fl_X6_42 rfl ?_
      refine v_bipush dX6_point_28 (nx := 30) rfl rfl ?_
      refine v_icmp_lt dX6_point_30 (tgt := 40) (by decide) (nx := 33) rfl (by first | assumption | exact hR.1 _ _ _ _ | exact ⟨by omega, by omega⟩) (by first | assumption | exact hR.1 _ _ _ _ | exact ⟨by omega, by omega⟩) (fun c30 => ?_) (fun c30 => ?_)
      · refine v_aload_n 0 dX6_point_40 (nx := 41) rfl rfl ?_
        refine t_get (a := 9) (p := 0) (T := TX6) dX6_point_41 (nx := 44) rfl (by decide) (ok_m 9 rfl) rfl rfl iU6 (by decide) fl_X6_10 rfl ?_
        refine t_get (a := 7) (p := 4) (T := TX3) dX6_point_44 (nx := 47) rfl (by decide) (ok_m 7 rfl) rfl rfl iU3 (by decide) fl_X6_42 rfl ?_
        refine v_istore_n dX6_point_47 (nx := 48) rfl rfl (by decide) ?_
        refine v_aload_n 0 dX6_point_48 (nx := 49) rfl rfl ?_
        refine t_get (a := 9) (p := 0) (T := TX6) dX6_point_49 (nx := 52) rfl (by decide) (ok_m 9 rfl) rfl rfl iU6 (by decide) fl_X6_10 rfl ?_
        refine t_get (a := 7) (p := 0) (T := TX3) dX6_point_52 (nx := 55) rfl (by decide) (ok_m 7 rfl) rfl rfl iU3 (by decide) fl_X6_45 rfl ?_
        refine v_iload_n 3 dX6_point_55 (nx := 56) rfl rfl ?_
        refine t_ldP dX6_point_56 (nx := 57) rfl (ok_m 15 rfl) ⟨by omega, by omega⟩ ?_
        refine v_iload_n 1 dX6_point_57 (nx := 58) rfl rfl ?_
        refine v_iload_n 2 dX6_point_58 (nx := 59) rfl rfl ?_
        refine t_callVv (a := 0) (c_X4_begin _ (by omega) _ _) dX6_point_59 (nx := 62) rfl kX4_begin ml_X6_49 (by decide) (by first | assumption | exact ok_0 ⟨by omega, by omega⟩) rfl rfl rfl rfl (Nat.le_of_ble_eq_true rfl) ⟨by decide, by decide⟩ ⟨by decide, by decide⟩ ?_
        refine v_aload_n 0 dX6_point_62 (nx := 63) rfl rfl ?_
        refine t_get (a := 9) (p := 0) (T := TX6) dX6_point_63 (nx := 66) rfl (by decide) (ok_m 9 rfl) rfl rfl iU6 (by decide) fl_X6_10 rfl ?_
        refine v_dup dX6_point_66 (nx := 67) rfl rfl ?_
        refine t_get (a := 7) (p := 4) (T := TX3) (v := vi (σ 7 0 0 0)) dX6_point_67 (nx := 70) rfl (by decide) (ok_m 7 rfl) rfl rfl iU3 (by decide) fl_X6_42 rfl ?_
        refine v_iconst dX6_point_70 (nx := 71) rfl ?_
        refine v_iadd dX6_point_71 (nx := 72) rfl ?_
        refine t_put (a := 7) (j := 0) (p := 4) (T := TX3) dX6_point_72 (nx := 75) rfl (by decide) (ok_m 7 rfl) rfl rfl iU3 tyX3 tyX3_ok nmX3 (by decide) fl_X6_42 rfl (Or.inl rfl) (Nat.le_of_ble_eq_true rfl) (by rfl) ?_
        have hRH := RH_point (kd := kd) (v := v) hI (by omega) (by omega) (by omega) (by omega) hv hH
        have hIM := IV_point (kd := kd) (v := v) hI (by omega) (by omega) (by omega) (by omega) hv
        refine v_aload_n 0 dX6_point_75 (nx := 76) rfl rfl ?_
        refine t_get (a := 9) (p := 1) (T := TX6) dX6_point_76 (nx := 79) rfl (by decide) (ok_m 9 rfl) rfl rfl iU6 (by decide) fl_X6_19 rfl ?_
        refine v_aload_n 0 dX6_point_79 (nx := 80) rfl rfl ?_
        refine t_get (a := 9) (p := 0) (T := TX6) dX6_point_80 (nx := 83) rfl (by decide) (ok_m 9 rfl) rfl rfl iU6 (by decide) fl_X6_10 rfl ?_
        refine t_callVvQ (a := 19) (c_X5_measure (RG_up (RG_up (RG_up (RG_up (RG_up (RG_up hR hkd) hv) ⟨by decide, by decide⟩) ⟨by decide, by decide⟩) ⟨by decide, by decide⟩) ⟨by omega, by omega⟩) hIM hRH.n hRH.b hRH.p h8) dX6_point_83 (nx := 86) rfl kX5_measure ml_X6_55 (by decide) (ok_m 19 rfl) rfl rfl rfl rfl (Nat.le_of_ble_eq_true rfl) ⟨by decide, by decide⟩ ⟨by decide, by decide⟩ (fun τ hq => ?_)
        obtain ⟨k8, kS, kR, kb⟩ := hq
        refine v_iload_n 3 dX6_point_86 (nx := 87) rfl rfl ?_
        exact t_iret dX6_point_87 rfl (by first | exact cfC hR hH hS h8 h9 (by unfold s_point fnd; (repeat (first | rewrite [if_pos (by omega)] | rewrite [if_neg (by omega)])); rfl) | exact cfA (by unfold s_point; (repeat (first | rewrite [if_pos (by omega)] | rewrite [if_neg (by omega)])); rfl) n0 (CR.ms hRH (fun a t i h => (by have h2 : 10 ≤ a ∨ t ≠ 0 := h.imp id (fun q => q.1); (repeat (first | rw [up_o (by decide) h2] | rw [sK_o (by decide) h2])))) rfl k8 kS kR kb) | (exfalso; omega))
      · refine v_aload_n 0 dX6_point_33 (nx := 34) rfl rfl ?_
        refine v_bipush dX6_point_34 (nx := 36) rfl rfl ?_
        refine t_callVi (a := 9) (c_X6_finding _) dX6_point_36 (nx := 39) rfl kX6_finding ml_X6_38 (by decide) (ok_m 9 rfl) rfl rfl rfl rfl (Nat.le_of_ble_eq_true rfl) ⟨by decide, by decide⟩ ⟨by decide, by decide⟩ ?_
        exact t_iret dX6_point_39 rfl (by first | exact cfC hR hH hS h8 h9 (by unfold s_point fnd; (repeat (first | rewrite [if_pos (by omega)] | rewrite [if_neg (by omega)])); rfl) | exact cfA (by unfold s_point; (repeat (first | rewrite [if_pos (by omega)] | rewrite [if_neg (by omega)])); rfl) n0 (CR.ms hRH (fun a t i h => (by have h2 : 10 ≤ a ∨ t ≠ 0 := h.imp id (fun q => q.1); (repeat (first | rw [up_o (by decide) h2] | rw [sK_o (by decide) h2])))) rfl k8 kS kR kb) | (exfalso; omega))
    · refine v_aload_n 0 dX6_point_15 (nx := 16) rfl rfl ?_
      refine v_iconst dX6_point_16 (nx := 17) rfl ?_
      refine t_callVi (a := 9) (c_X6_finding _) dX6_point_17 (nx := 20) rfl kX6_finding ml_X6_38 (by decide) (ok_m 9 rfl) rfl rfl rfl rfl (Nat.le_of_ble_eq_true rfl) ⟨by decide, by decide⟩ ⟨by decide, by decide⟩ ?_
      exact t_iret dX6_point_20 rfl (by first | exact cfC hR hH hS h8 h9 (by unfold s_point fnd; (repeat (first | rewrite [if_pos (by omega)] | rewrite [if_neg (by omega)])); rfl) | exact cfA (by unfold s_point; (repeat (first | rewrite [if_pos (by omega)] | rewrite [if_neg (by omega)])); rfl) n0 (CR.ms hRH (fun a t i h => (by have h2 : 10 ≤ a ∨ t ≠ 0 := h.imp id (fun q => q.1); (repeat (first | rw [up_o (by decide) h2] | rw [sK_o (by decide) h2])))) rfl k8 kS kR kb) | (exfalso; omega))
