theorem RH_flight {σ : SS} {N : NN} {k c op cl : Int} (hI : IV N k) (h8 : N 2 < 8) (hc : 0 ≤ c ∧ c < N 0) (h5 : N (8 + c) = 5) (ho : 0 ≤ op ∧ op ≤ 5000) (he : 0 ≤ cl ∧ cl ≤ 5000) (hH : RH σ 0 N) : RH (up (up (up (up σ 4 0 (σ 7 0 0 2) 0 c) 4 0 (σ 7 0 0 2) 1 op) 4 0 (σ 7 0 0 2) 2 cl) 7 0 0 2 (σ 7 0 0 2 + 1)) 0 (uI (uI (uI (uI N (340 + N 2) (c)) (348 + N 2) (op)) (356 + N 2) (cl)) (2) (N 2 + 1)) := by
  obtain ⟨b0, b1, b2, b3, b4, b5⟩ := hI.n
  obtain ⟨n0, n1, n2, n3, n4⟩ := hH.n
  have e : ∀ j, j ≠ 340 + N 2 → j ≠ 348 + N 2 → j ≠ 356 + N 2 → j ≠ 2 → (uI (uI (uI (uI N (340 + N 2) (c)) (348 + N 2) (op)) (356 + N 2) (cl)) (2) (N 2 + 1)) j = N j := by
    intro j q0 q1 q2 q3
    rw [uI_n q3, uI_n q2, uI_n q1, uI_n q0]
  have v0 : (uI (uI (uI (uI N (340 + N 2) (c)) (348 + N 2) (op)) (356 + N 2) (cl)) (2) (N 2 + 1)) (340 + N 2) = c := by unfold uI; (repeat (first | rewrite [if_pos (by omega)] | rewrite [if_neg (by omega)] | dsimp only)); (try rfl)
  have v1 : (uI (uI (uI (uI N (340 + N 2) (c)) (348 + N 2) (op)) (356 + N 2) (cl)) (2) (N 2 + 1)) (348 + N 2) = op := by unfold uI; (repeat (first | rewrite [if_pos (by omega)] | rewrite [if_neg (by omega)] | dsimp only)); (try rfl)
  have v2 : (uI (uI (uI (uI N (340 + N 2) (c)) (348 + N 2) (op)) (356 + N 2) (cl)) (2) (N 2 + 1)) (356 + N 2) = cl := by unfold uI; (repeat (first | rewrite [if_pos (by omega)] | rewrite [if_neg (by omega)] | dsimp only)); (try rfl)
  have v3 : (uI (uI (uI (uI N (340 + N 2) (c)) (348 + N 2) (op)) (356 + N 2) (cl)) (2) (N 2 + 1)) (2) = N 2 + 1 := by unfold uI; (repeat (first | rewrite [if_pos (by omega)] | rewrite [if_neg (by omega)] | dsimp only)); (try rfl)
  have hr : ∀ j, inR ((uI (uI (uI (uI N (340 + N 2) (c)) (348 + N 2) (op)) (356 + N 2) (cl)) (2) (N 2 + 1)) j) := (inR_uI (inR_uI (inR_uI (inR_uI hI.r ⟨by omega, by omega⟩) ⟨by omega, by omega⟩) ⟨by omega, by omega⟩) ⟨by omega, by omega⟩)
  refine ⟨⟨?_, ?_, ?_, ?_, ?_⟩, hH.p.same (fun _ _ _ => rfl) (e 0 (by omega) (by omega) (by omega) (by omega) ) (by omega) (fun j _ _ => e j (by omega) (by omega) (by omega) (by omega) ) (fun j _ _ => e j (by omega) (by omega) (by omega) (by omega) ), hH.b.same rfl (e 1 (by omega) (by omega) (by omega) (by omega) ) (by omega) (fun j _ _ => e j (by omega) (by omega) (by omega) (by omega) ), hH.c.same rfl (e 1 (by omega) (by omega) (by omega) (by omega) ) (by omega) (fun j _ _ => e j (by omega) (by omega) (by omega) (by omega) ), ?_, hH.g.same rfl (e 3 (by omega) (by omega) (by omega) (by omega) ) (by omega) (fun j _ _ => e j (by omega) (by omega) (by omega) (by omega) ), hH.w.same rfl (e 3 (by omega) (by omega) (by omega) (by omega) ) (by omega) (fun j _ => e j (by omega) (by omega) (by omega) (by omega) ), hH.r.same (fun _ => rfl) rfl (e 0 (by omega) (by omega) (by omega) (by omega) ) (e 3 (by omega) (by omega) (by omega) (by omega) ) (by omega) (by omega) (fun j _ _ => e j (by omega) (by omega) (by omega) (by omega) ) (fun j _ _ => e j (by omega) (by omega) (by omega) (by omega) )⟩
  · rw [e 0 (by omega) (by omega) (by omega) (by omega) , ← n0]; exact (by unfold up; (repeat (first | rewrite [if_pos (by omega)] | rewrite [if_neg (by omega)] | dsimp only)); (try rfl))
  · rw [e 1 (by omega) (by omega) (by omega) (by omega) , ← n1]; exact (by unfold up; (repeat (first | rewrite [if_pos (by omega)] | rewrite [if_neg (by omega)] | dsimp only)); (try rfl))
  · rw [v3, ← n2]; exact (by unfold up; (repeat (first | rewrite [if_pos (by omega)] | rewrite [if_neg (by omega)] | dsimp only)); (try rfl))
  · rw [e 3 (by omega) (by omega) (by omega) (by omega) , ← n3]; exact (by unfold up; (repeat (first | rewrite [if_pos (by omega)] | rewrite [if_neg (by omega)] | dsimp only)); (try rfl))
  · rw [e 4 (by omega) (by omega) (by omega) (by omega) , ← n4]; exact (by unfold up; (repeat (first | rewrite [if_pos (by omega)] | rewrite [if_neg (by omega)] | dsimp only)); (try rfl))
  · intro f f0 f1
    rw [v3] at f1
    by_cases q : f = N 2
    · subst q
      rw [v0, v1, v2]
      exact ⟨(by unfold up; (repeat (first | rewrite [if_pos (by omega)] | rewrite [if_neg (by omega)] | dsimp only)); (try rfl)), (by unfold up; (repeat (first | rewrite [if_pos (by omega)] | rewrite [if_neg (by omega)] | dsimp only)); (try rfl)), (by unfold up; (repeat (first | rewrite [if_pos (by omega)] | rewrite [if_neg (by omega)] | dsimp only)); (try rfl))⟩
    · rw [e _ (by omega) (by omega) (by omega) (by omega) , e _ (by omega) (by omega) (by omega) (by omega) , e _ (by omega) (by omega) (by omega) (by omega) ]
      obtain ⟨w1, w2, w3⟩ := hH.f f f0 (by omega)
      rw [← w1, ← w2, ← w3]
      exact ⟨(by unfold up; (repeat (first | rewrite [if_pos (by omega)] | rewrite [if_neg (by omega)] | dsimp only)); (try rfl)), (by unfold up; (repeat (first | rewrite [if_pos (by omega)] | rewrite [if_neg (by omega)] | dsimp only)); (try rfl)), (by unfold up; (repeat (first | rewrite [if_pos (by omega)] | rewrite [if_neg (by omega)] | dsimp only)); (try rfl))⟩

set_option maxRecDepth 100000 in
theorem c_X6_flight {g : GG} {kp : Bool} {σ : SS} (hR : RG σ) {N : NN} {kk : Int} (hI : IV N kk) (hH : RH σ 0 N) (hS : SM σ N) (h8 : ∀ i j, σ 8 0 i j ≤ 1000000) (h9 : 0 ≤ σ 9 0 0 0 ∧ σ 9 0 0 0 ≤ 1000000) (c : Int) (hc : inR c) (op : Int) (hop : inR op) (cl : Int) (hcl : inR cl)  : TC g kp 2 mX6_flight [rf g (ad 9 0 0), vi c, vi op, vi cl] σ (fun r τ => r = some (vi (s_flight N c op cl).1) ∧ CR σ τ (s_flight N c op cl).2.1 (s_flight N c op cl).2.2) := by
  refine TC.of (by decide) (Nat.le_of_ble_eq_true rfl) rfl ?_
  obtain ⟨b0, b1, b2, b3, b4, b5⟩ := hI.n
  obtain ⟨n0, n1, n2, n3, n4⟩ := hH.n
  refine v_aload_n 0 dX6_flight_0 (nx := 1) rfl rfl ?_
  refine t_get (a := 9) (p := 0) (T := TX6) dX6_flight_1 (nx := 4) rfl (by decide) (ok_m 9 rfl) rfl rfl iU6 (by decide) fl_X6_10 rfl ?_
  refine v_iload_n 1 dX6_flight_4 (nx := 5) rfl rfl ?_
  refine t_callVi (a := 7) (c_X3_hasPoint hR _ (by first | assumption | exact hR.1 _ _ _ _ | exact ⟨by omega, by omega⟩)) dX6_flight_5 (nx := 8) rfl kX3_hasPoint ml_X6_59 (by decide) (ok_m 7 rfl) rfl rfl rfl rfl (Nat.le_of_ble_eq_true rfl) ⟨by decide, by decide⟩ ⟨by decide, by decide⟩ ?_
  refine v_ifB_eq dX6_flight_8 (tgt := 33) (by decide) (nx := 11) rfl (fun c8 => ?_) (fun c8 => ?_)
  · refine v_aload_n 0 dX6_flight_33 (nx := 34) rfl rfl ?_
    refine v_iconst dX6_flight_34 (nx := 35) rfl ?_
    refine t_callVi (a := 9) (c_X6_finding _) dX6_flight_35 (nx := 38) rfl kX6_finding ml_X6_38 (by decide) (ok_m 9 rfl) rfl rfl rfl rfl (Nat.le_of_ble_eq_true rfl) ⟨by decide, by decide⟩ ⟨by decide, by decide⟩ ?_
    exact t_iret dX6_flight_38 rfl (by first | exact cfC hR hH hS h8 h9 (by unfold s_flight fnd; (repeat (first | rewrite [if_pos (by omega)] | rewrite [if_neg (by omega)])); rfl) | exact cfA (by unfold s_flight; (repeat (first | rewrite [if_pos (by omega)] | rewrite [if_neg (by omega)])); rfl) n2 ⟨RH_flight hI (by omega) ⟨by omega, by omega⟩ (by omega) ⟨by omega, by omega⟩ ⟨by omega, by omega⟩ hH, SM.same hI hS rfl (by repeat rw [uI_n (by omega)]) (by repeat rw [uI_n (by omega)]) (fun j hj => by repeat rw [uI_n (by omega)]), RG_up (RG_up (RG_up (RG_up hR hc) hop) hcl) ⟨by omega, by omega⟩, h8, by show σ 9 0 0 0 = _; omega, (fun a t i h => (by have h2 : 10 ≤ a ∨ t ≠ 0 := h.imp id (fun q => q.1); (repeat (first | rw [up_o (by decide) h2] | rw [sK_o (by decide) h2]))))⟩ | (exfalso; omega))
  · refine v_iload_n 2 dX6_flight_11 (nx := 12) rfl rfl ?_
    refine v_iconst dX6_flight_12 (nx := 13) rfl ?_
    refine v_sipush dX6_flight_13 (nx := 16) rfl rfl ?_
    refine t_callSi (c_X6_within _ _ _ (by first | assumption | exact hR.1 _ _ _ _ | exact ⟨by omega, by omega⟩) (by first | assumption | exact hR.1 _ _ _ _ | exact ⟨by omega, by omega⟩) (by first | assumption | exact hR.1 _ _ _ _ | exact ⟨by omega, by omega⟩)) dX6_flight_16 (nx := 19) rfl kX6_within ml_X6_62 rfl rfl (Nat.le_of_ble_eq_true rfl) ⟨by decide, by decide⟩ ⟨by decide, by decide⟩ ?_
    refine v_ifB_eq dX6_flight_19 (tgt := 33) (by decide) (nx := 22) rfl (fun c19 => ?_) (fun c19 => ?_)
    · refine v_aload_n 0 dX6_flight_33 (nx := 34) rfl rfl ?_
      refine v_iconst dX6_flight_34 (nx := 35) rfl ?_
      refine t_callVi (a := 9) (c_X6_finding _) dX6_flight_35 (nx := 38) rfl kX6_finding ml_X6_38 (by decide) (ok_m 9 rfl) rfl rfl rfl rfl (Nat.le_of_ble_eq_true rfl) ⟨by decide, by decide⟩ ⟨by decide, by decide⟩ ?_
      exact t_iret dX6_flight_38 rfl (by first | exact cfC hR hH hS h8 h9 (by unfold s_flight fnd; (repeat (first | rewrite [if_pos (by omega)] | rewrite [if_neg (by omega)])); rfl) | exact cfA (by unfold s_flight; (repeat (first | rewrite [if_pos (by omega)] | rewrite [if_neg (by omega)])); rfl) n2 ⟨RH_flight hI (by omega) ⟨by omega, by omega⟩ (by omega) ⟨by omega, by omega⟩ ⟨by omega, by omega⟩ hH, SM.same hI hS rfl (by repeat rw [uI_n (by omega)]) (by repeat rw [uI_n (by omega)]) (fun j hj => by repeat rw [uI_n (by omega)]), RG_up (RG_up (RG_up (RG_up hR hc) hop) hcl) ⟨by omega, by omega⟩, h8, by show σ 9 0 0 0 = _; omega, (fun a t i h => (by have h2 : 10 ≤ a ∨ t ≠ 0 := h.imp id (fun q => q.1); (repeat (first | rw [up_o (by decide) h2] | rw [sK_o (by decide) h2]))))⟩ | (exfalso; omega))
    · refine v_iload_n 3 dX6_flight_22 (nx := 23) rfl rfl ?_
      refine v_iload_n 2 dX6_flight_23 (nx := 24) rfl rfl ?_
      refine v_sipush dX6_flight_24 (nx := 27) rfl rfl ?_
      refine t_callSi (c_X6_within _ _ _ (by first | assumption | exact hR.1 _ _ _ _ | exact ⟨by omega, by omega⟩) (by first | assumption | exact hR.1 _ _ _ _ | exact ⟨by omega, by omega⟩) (by first | assumption | exact hR.1 _ _ _ _ | exact ⟨by omega, by omega⟩)) dX6_flight_27 (nx := 30) rfl kX6_within ml_X6_62 rfl rfl (Nat.le_of_ble_eq_true rfl) ⟨by decide, by decide⟩ ⟨by decide, by decide⟩ ?_
      refine v_ifB_ne dX6_flight_30 (tgt := 39) (by decide) (nx := 33) rfl (fun c30 => ?_) (fun c30 => ?_)
      · obtain ⟨e0, e1, e2⟩ := hH.p c (by omega) (by omega)
        refine v_aload_n 0 dX6_flight_39 (nx := 40) rfl rfl ?_
        refine t_get (a := 9) (p := 0) (T := TX6) dX6_flight_40 (nx := 43) rfl (by decide) (ok_m 9 rfl) rfl rfl iU6 (by decide) fl_X6_10 rfl ?_
        refine t_get (a := 7) (p := 0) (T := TX3) dX6_flight_43 (nx := 46) rfl (by decide) (ok_m 7 rfl) rfl rfl iU3 (by decide) fl_X6_45 rfl ?_
        refine v_iload_n 1 dX6_flight_46 (nx := 47) rfl rfl ?_
        refine t_ldP dX6_flight_47 (nx := 48) rfl (ok_m 15 rfl) ⟨by omega, by omega⟩ ?_
        refine t_get (a := 0) (p := 0) (T := TX4) dX6_flight_48 (nx := 51) rfl (by decide) (by first | assumption | exact ok_0 ⟨by omega, by omega⟩) rfl rfl iU4 (by decide) fl_X6_66 rfl ?_
        refine v_iconst dX6_flight_51 (nx := 52) rfl ?_
        refine v_icmp_eq dX6_flight_52 (tgt := 62) (by decide) (nx := 55) rfl (by first | assumption | exact hR.1 _ _ _ _ | exact ⟨by omega, by omega⟩) (by first | assumption | exact hR.1 _ _ _ _ | exact ⟨by omega, by omega⟩) (fun c52 => ?_) (fun c52 => ?_)
        · refine v_aload_n 0 dX6_flight_62 (nx := 63) rfl rfl ?_
          refine t_get (a := 9) (p := 0) (T := TX6) dX6_flight_63 (nx := 66) rfl (by decide) (ok_m 9 rfl) rfl rfl iU6 (by decide) fl_X6_10 rfl ?_
          refine t_get (a := 7) (p := 6) (T := TX3) dX6_flight_66 (nx := 69) rfl (by decide) (ok_m 7 rfl) rfl rfl iU3 (by decide) fl_X6_100 rfl ?_
          refine v_bipush dX6_flight_69 (nx := 71) rfl rfl ?_
          refine v_icmp_lt dX6_flight_71 (tgt := 81) (by decide) (nx := 74) rfl (by first | assumption | exact hR.1 _ _ _ _ | exact ⟨by omega, by omega⟩) (by first | assumption | exact hR.1 _ _ _ _ | exact ⟨by omega, by omega⟩) (fun c71 => ?_) (fun c71 => ?_)
          · refine v_aload_n 0 dX6_flight_81 (nx := 82) rfl rfl ?_
            refine t_get (a := 9) (p := 0) (T := TX6) dX6_flight_82 (nx := 85) rfl (by decide) (ok_m 9 rfl) rfl rfl iU6 (by decide) fl_X6_10 rfl ?_
            refine t_get (a := 7) (p := 6) (T := TX3) dX6_flight_85 (nx := 88) rfl (by decide) (ok_m 7 rfl) rfl rfl iU3 (by decide) fl_X6_100 rfl ?_
            refine v_istore dX6_flight_88 (nx := 90) rfl rfl (by decide) ?_
            refine v_aload_n 0 dX6_flight_90 (nx := 91) rfl rfl ?_
            refine t_get (a := 9) (p := 0) (T := TX6) dX6_flight_91 (nx := 94) rfl (by decide) (ok_m 9 rfl) rfl rfl iU6 (by decide) fl_X6_10 rfl ?_
            refine t_get (a := 7) (p := 2) (T := TX3) dX6_flight_94 (nx := 97) rfl (by decide) (ok_m 7 rfl) rfl rfl iU3 (by decide) fl_X6_103 rfl ?_
            refine v_iload 4 dX6_flight_97 (nx := 99) rfl rfl ?_
            refine t_ldF dX6_flight_99 (nx := 100) rfl (ok_m 17 rfl) ⟨by omega, by omega⟩ ?_
            refine v_iload_n 1 dX6_flight_100 (nx := 101) rfl rfl ?_
            refine v_iload_n 2 dX6_flight_101 (nx := 102) rfl rfl ?_
            refine v_iload_n 3 dX6_flight_102 (nx := 103) rfl rfl ?_
            refine t_callVv (a := 4) (c_X2_begin _ (by omega) _ _ _) dX6_flight_103 (nx := 106) rfl kX2_begin ml_X6_107 (by decide) (by first | assumption | exact ok_4 ⟨by omega, by omega⟩) rfl rfl rfl rfl (Nat.le_of_ble_eq_true rfl) ⟨by decide, by decide⟩ ⟨by decide, by decide⟩ ?_
            refine v_aload_n 0 dX6_flight_106 (nx := 107) rfl rfl ?_
            refine t_get (a := 9) (p := 0) (T := TX6) dX6_flight_107 (nx := 110) rfl (by decide) (ok_m 9 rfl) rfl rfl iU6 (by decide) fl_X6_10 rfl ?_
            refine v_dup dX6_flight_110 (nx := 111) rfl rfl ?_
            refine t_get (a := 7) (p := 6) (T := TX3) (v := vi (σ 7 0 0 2)) dX6_flight_111 (nx := 114) rfl (by decide) (ok_m 7 rfl) rfl rfl iU3 (by decide) fl_X6_100 rfl ?_
            refine v_iconst dX6_flight_114 (nx := 115) rfl ?_
            refine v_iadd dX6_flight_115 (nx := 116) rfl ?_
            refine t_put (a := 7) (j := 2) (p := 6) (T := TX3) dX6_flight_116 (nx := 119) rfl (by decide) (ok_m 7 rfl) rfl rfl iU3 tyX3 tyX3_ok nmX3 (by decide) fl_X6_100 rfl (Or.inl rfl) (Nat.le_of_ble_eq_true rfl) (by rfl) ?_
            refine v_iload 4 dX6_flight_119 (nx := 121) rfl rfl ?_
            exact t_iret dX6_flight_121 rfl (by first | exact cfC hR hH hS h8 h9 (by unfold s_flight fnd; (repeat (first | rewrite [if_pos (by omega)] | rewrite [if_neg (by omega)])); rfl) | exact cfA (by unfold s_flight; (repeat (first | rewrite [if_pos (by omega)] | rewrite [if_neg (by omega)])); rfl) n2 ⟨RH_flight hI (by omega) ⟨by omega, by omega⟩ (by omega) ⟨by omega, by omega⟩ ⟨by omega, by omega⟩ hH, SM.same hI hS rfl (by repeat rw [uI_n (by omega)]) (by repeat rw [uI_n (by omega)]) (fun j hj => by repeat rw [uI_n (by omega)]), RG_up (RG_up (RG_up (RG_up hR hc) hop) hcl) ⟨by omega, by omega⟩, h8, by show σ 9 0 0 0 = _; omega, (fun a t i h => (by have h2 : 10 ≤ a ∨ t ≠ 0 := h.imp id (fun q => q.1); (repeat (first | rw [up_o (by decide) h2] | rw [sK_o (by decide) h2]))))⟩ | (exfalso; omega))
          · refine v_aload_n 0 dX6_flight_74 (nx := 75) rfl rfl ?_
            refine v_bipush dX6_flight_75 (nx := 77) rfl rfl ?_
            refine t_callVi (a := 9) (c_X6_finding _) dX6_flight_77 (nx := 80) rfl kX6_finding ml_X6_38 (by decide) (ok_m 9 rfl) rfl rfl rfl rfl (Nat.le_of_ble_eq_true rfl) ⟨by decide, by decide⟩ ⟨by decide, by decide⟩ ?_
            exact t_iret dX6_flight_80 rfl (by first | exact cfC hR hH hS h8 h9 (by unfold s_flight fnd; (repeat (first | rewrite [if_pos (by omega)] | rewrite [if_neg (by omega)])); rfl) | exact cfA (by unfold s_flight; (repeat (first | rewrite [if_pos (by omega)] | rewrite [if_neg (by omega)])); rfl) n2 ⟨RH_flight hI (by omega) ⟨by omega, by omega⟩ (by omega) ⟨by omega, by omega⟩ ⟨by omega, by omega⟩ hH, SM.same hI hS rfl (by repeat rw [uI_n (by omega)]) (by repeat rw [uI_n (by omega)]) (fun j hj => by repeat rw [uI_n (by omega)]), RG_up (RG_up (RG_up (RG_up hR hc) hop) hcl) ⟨by omega, by omega⟩, h8, by show σ 9 0 0 0 = _; omega, (fun a t i h => (by have h2 : 10 ≤ a ∨ t ≠ 0 := h.imp id (fun q => q.1); (repeat (first | rw [up_o (by decide) h2] | rw [sK_o (by decide) h2]))))⟩ | (exfalso; omega))
        · refine v_aload_n 0 dX6_flight_55 (nx := 56) rfl rfl ?_
          refine v_bipush dX6_flight_56 (nx := 58) rfl rfl ?_
          refine t_callVi (a := 9) (c_X6_finding _) dX6_flight_58 (nx := 61) rfl kX6_finding ml_X6_38 (by decide) (ok_m 9 rfl) rfl rfl rfl rfl (Nat.le_of_ble_eq_true rfl) ⟨by decide, by decide⟩ ⟨by decide, by decide⟩ ?_
          exact t_iret dX6_flight_61 rfl (by first | exact cfC hR hH hS h8 h9 (by unfold s_flight fnd; (repeat (first | rewrite [if_pos (by omega)] | rewrite [if_neg (by omega)])); rfl) | exact cfA (by unfold s_flight; (repeat (first | rewrite [if_pos (by omega)] | rewrite [if_neg (by omega)])); rfl) n2 ⟨RH_flight hI (by omega) ⟨by omega, by omega⟩ (by omega) ⟨by omega, by omega⟩ ⟨by omega, by omega⟩ hH, SM.same hI hS rfl (by repeat rw [uI_n (by omega)]) (by repeat rw [uI_n (by omega)]) (fun j hj => by repeat rw [uI_n (by omega)]), RG_up (RG_up (RG_up (RG_up hR hc) hop) hcl) ⟨by omega, by omega⟩, h8, by show σ 9 0 0 0 = _; omega, (fun a t i h => (by have h2 : 10 ≤ a ∨ t ≠ 0 := h.imp id (fun q => q.1); (repeat (first | rw [up_o (by decide) h2] | rw [sK_o (by decide) h2]))))⟩ | (exfalso; omega))
      · refine v_aload_n 0 dX6_flight_33 (nx := 34) rfl rfl ?_
        refine v_iconst dX6_flight_34 (nx := 35) rfl ?_
        refine t_callVi (a := 9) (c_X6_finding _) dX6_flight_35 (nx := 38) rfl kX6_finding ml_X6_38 (by decide) (ok_m 9 rfl) rfl rfl rfl rfl (Nat.le_of_ble_eq_true rfl) ⟨by decide, by decide⟩ ⟨by decide, by decide⟩ ?_
        exact t_iret dX6_flight_38 rfl (by first | exact cfC hR hH hS h8 h9 (by unfold s_flight fnd; (repeat (first | rewrite [if_pos (by omega)] | rewrite [if_neg (by omega)])); rfl) | exact cfA (by unfold s_flight; (repeat (first | rewrite [if_pos (by omega)] | rewrite [if_neg (by omega)])); rfl) n2 ⟨RH_flight hI (by omega) ⟨by omega, by omega⟩ (by omega) ⟨by omega, by omega⟩ ⟨by omega, by omega⟩ hH, SM.same hI hS rfl (by repeat rw [uI_n (by omega)]) (by repeat rw [uI_n (by omega)]) (fun j hj => by repeat rw [uI_n (by omega)]), RG_up (RG_up (RG_up (RG_up hR hc) hop) hcl) ⟨by omega, by omega⟩, h8, by show σ 9 0 0 0 = _; omega, (fun a t i h => (by have h2 : 10 ≤ a ∨ t ≠ 0 := h.imp id (fun q => q.1); (repeat (first | rw [up_o (by decide) h2] | rw [sK_o (by decide) h2]))))⟩ | (exfalso; omega))
