theorem RH_bag {σ : SS} {N : NN} {k dk fl db : Int} (hI : IV N k) (h60 : N 3 < 60) (h5 : N 5 < 1000000) (hdk : 0 ≤ dk ∧ dk < N 0) (hfl : 0 ≤ fl ∧ fl < N 2) (hdb : db = 0 ∨ db = 1) (hk : N (8 + dk) = 0) (hH : RH σ 0 N) : RH (up (up (up (up (up (up (up (up (up (up (up (up σ 5 0 (σ 7 0 0 3) 0 fl) 5 0 (σ 7 0 0 3) 1 0) 5 0 (σ 7 0 0 3) 5 0) 5 0 (σ 7 0 0 3) 4 0) 5 0 (σ 7 0 0 3) 2 4) 5 0 (σ 7 0 0 3) 3 (-100)) 7 0 0 3 (σ 7 0 0 3 + 1)) 5 0 (σ 7 0 0 3) 1 db) 5 0 (σ 7 0 0 3) 2 0) 5 0 (σ 7 0 0 3) 3 dk) 1 0 dk (σ 0 0 dk 4) (σ 7 0 0 3)) 0 0 dk 4 (σ 0 0 dk 4 + 1)) 0 (uI (waitsN (uI (uI (uI N (364 + N 3) fl) (424 + N 3) db) (664 + N 3) 0) (N 3) dk) 3 (N 3 + 1)) := by
  obtain ⟨b0, b1, b2, b3, b4, b5⟩ := hI.n
  obtain ⟨n0, n1, n2, n3, n4⟩ := hH.n
  have e : ∀ j, j ≠ 364 + N 3 → j ≠ 424 + N 3 → j ≠ 484 + N 3 → j ≠ 544 + N 3 → j ≠ 604 + N 3 → j ≠ 664 + N 3 → j ≠ 3 → j ≠ 5 → (uI (waitsN (uI (uI (uI N (364 + N 3) fl) (424 + N 3) db) (664 + N 3) 0) (N 3) dk) 3 (N 3 + 1)) j = N j := by
    intro j q0 q1 q2 q3 q4 q5 q6 q7
    unfold waitsN liesN uI; (repeat (first | rewrite [if_pos (by omega)] | rewrite [if_neg (by omega)] | dsimp only)); (try rfl)
  have v0 : (uI (waitsN (uI (uI (uI N (364 + N 3) fl) (424 + N 3) db) (664 + N 3) 0) (N 3) dk) 3 (N 3 + 1)) (364 + N 3) = fl := by unfold waitsN liesN uI; (repeat (first | rewrite [if_pos (by omega)] | rewrite [if_neg (by omega)] | dsimp only)); (try rfl)
  have v1 : (uI (waitsN (uI (uI (uI N (364 + N 3) fl) (424 + N 3) db) (664 + N 3) 0) (N 3) dk) 3 (N 3 + 1)) (424 + N 3) = db := by unfold waitsN liesN uI; (repeat (first | rewrite [if_pos (by omega)] | rewrite [if_neg (by omega)] | dsimp only)); (try rfl)
  have v2 : (uI (waitsN (uI (uI (uI N (364 + N 3) fl) (424 + N 3) db) (664 + N 3) 0) (N 3) dk) 3 (N 3 + 1)) (484 + N 3) = 0 := by unfold waitsN liesN uI; (repeat (first | rewrite [if_pos (by omega)] | rewrite [if_neg (by omega)] | dsimp only)); (try rfl)
  have v3 : (uI (waitsN (uI (uI (uI N (364 + N 3) fl) (424 + N 3) db) (664 + N 3) 0) (N 3) dk) 3 (N 3 + 1)) (544 + N 3) = dk := by unfold waitsN liesN uI; (repeat (first | rewrite [if_pos (by omega)] | rewrite [if_neg (by omega)] | dsimp only)); (try rfl)
  have v4 : (uI (waitsN (uI (uI (uI N (364 + N 3) fl) (424 + N 3) db) (664 + N 3) 0) (N 3) dk) 3 (N 3 + 1)) (604 + N 3) = N 5 := by unfold waitsN liesN uI; (repeat (first | rewrite [if_pos (by omega)] | rewrite [if_neg (by omega)] | dsimp only)); (try rfl)
  have v5 : (uI (waitsN (uI (uI (uI N (364 + N 3) fl) (424 + N 3) db) (664 + N 3) 0) (N 3) dk) 3 (N 3 + 1)) (664 + N 3) = 0 := by unfold waitsN liesN uI; (repeat (first | rewrite [if_pos (by omega)] | rewrite [if_neg (by omega)] | dsimp only)); (try rfl)
  have v6 : (uI (waitsN (uI (uI (uI N (364 + N 3) fl) (424 + N 3) db) (664 + N 3) 0) (N 3) dk) 3 (N 3 + 1)) (3) = N 3 + 1 := by unfold waitsN liesN uI; (repeat (first | rewrite [if_pos (by omega)] | rewrite [if_neg (by omega)] | dsimp only)); (try rfl)
  have v7 : (uI (waitsN (uI (uI (uI N (364 + N 3) fl) (424 + N 3) db) (664 + N 3) 0) (N 3) dk) 3 (N 3 + 1)) (5) = N 5 + 1 := by unfold waitsN liesN uI; (repeat (first | rewrite [if_pos (by omega)] | rewrite [if_neg (by omega)] | dsimp only)); (try rfl)
  generalize (uI (waitsN (uI (uI (uI N (364 + N 3) fl) (424 + N 3) db) (664 + N 3) 0) (N 3) dk) 3 (N 3 + 1)) = M at e v0 v1 v2 v3 v4 v5 v6 v7 ⊢
  refine ⟨?_, hH.p.same (fun i j hj => (by unfold up; (repeat (first | rewrite [if_pos (by omega)] | rewrite [if_neg (by omega)] | dsimp only)); (try rfl))) (e 0 (by omega) (by omega) (by omega) (by omega) (by omega) (by omega) (by omega) (by omega) ) (by omega) (fun j _ _ => e j (by omega) (by omega) (by omega) (by omega) (by omega) (by omega) (by omega) (by omega) ) (fun j _ _ => e j (by omega) (by omega) (by omega) (by omega) (by omega) (by omega) (by omega) (by omega) ), hH.b.same rfl (e 1 (by omega) (by omega) (by omega) (by omega) (by omega) (by omega) (by omega) (by omega) ) (by omega) (fun j _ _ => e j (by omega) (by omega) (by omega) (by omega) (by omega) (by omega) (by omega) (by omega) ), hH.c.same rfl (e 1 (by omega) (by omega) (by omega) (by omega) (by omega) (by omega) (by omega) (by omega) ) (by omega) (fun j _ _ => e j (by omega) (by omega) (by omega) (by omega) (by omega) (by omega) (by omega) (by omega) ), hH.f.same rfl (e 2 (by omega) (by omega) (by omega) (by omega) (by omega) (by omega) (by omega) (by omega) ) (by omega) (fun j _ _ => e j (by omega) (by omega) (by omega) (by omega) (by omega) (by omega) (by omega) (by omega) ), ?_, ?_, ?_⟩
  · exact ⟨by rw [e 0 (by omega) (by omega) (by omega) (by omega) (by omega) (by omega) (by omega) (by omega) , ← n0]; exact (by unfold up; (repeat (first | rewrite [if_pos (by omega)] | rewrite [if_neg (by omega)] | dsimp only)); (try rfl)), by rw [e 1 (by omega) (by omega) (by omega) (by omega) (by omega) (by omega) (by omega) (by omega) , ← n1]; exact (by unfold up; (repeat (first | rewrite [if_pos (by omega)] | rewrite [if_neg (by omega)] | dsimp only)); (try rfl)), by rw [e 2 (by omega) (by omega) (by omega) (by omega) (by omega) (by omega) (by omega) (by omega) , ← n2]; exact (by unfold up; (repeat (first | rewrite [if_pos (by omega)] | rewrite [if_neg (by omega)] | dsimp only)); (try rfl)), by rw [v6, ← n3]; exact (by unfold up; (repeat (first | rewrite [if_pos (by omega)] | rewrite [if_neg (by omega)] | dsimp only)); (try rfl)), by rw [e 4 (by omega) (by omega) (by omega) (by omega) (by omega) (by omega) (by omega) (by omega) , ← n4]; exact (by unfold up; (repeat (first | rewrite [if_pos (by omega)] | rewrite [if_neg (by omega)] | dsimp only)); (try rfl))⟩
  · intro x c0 c1
    rw [v6] at c1
    by_cases q : x = N 3
    · subst q
      rw [v0, v1, v2, v3, v5]
      exact ⟨(by unfold up; (repeat (first | rewrite [if_pos (by omega)] | rewrite [if_neg (by omega)] | dsimp only)); (try rfl)), (by unfold up; (repeat (first | rewrite [if_pos (by omega)] | rewrite [if_neg (by omega)] | dsimp only)); (try rfl)), (by unfold up; (repeat (first | rewrite [if_pos (by omega)] | rewrite [if_neg (by omega)] | dsimp only)); (try rfl)), (by unfold up; (repeat (first | rewrite [if_pos (by omega)] | rewrite [if_neg (by omega)] | dsimp only)); (try rfl)), fun h => by omega, (by unfold up; (repeat (first | rewrite [if_pos (by omega)] | rewrite [if_neg (by omega)] | dsimp only)); (try rfl))⟩
    · obtain ⟨w0, w1, w2, w3, w4, w5⟩ := hH.g x c0 (by omega)
      rw [e (364 + x) (by omega) (by omega) (by omega) (by omega) (by omega) (by omega) (by omega) (by omega) , e (424 + x) (by omega) (by omega) (by omega) (by omega) (by omega) (by omega) (by omega) (by omega) , e (484 + x) (by omega) (by omega) (by omega) (by omega) (by omega) (by omega) (by omega) (by omega) , e (544 + x) (by omega) (by omega) (by omega) (by omega) (by omega) (by omega) (by omega) (by omega) , e (604 + x) (by omega) (by omega) (by omega) (by omega) (by omega) (by omega) (by omega) (by omega) , e (664 + x) (by omega) (by omega) (by omega) (by omega) (by omega) (by omega) (by omega) (by omega) ]
      exact ⟨by rw [← w0]; exact (by unfold up; (repeat (first | rewrite [if_pos (by omega)] | rewrite [if_neg (by omega)] | dsimp only)); (try rfl)), by rw [← w1]; exact (by unfold up; (repeat (first | rewrite [if_pos (by omega)] | rewrite [if_neg (by omega)] | dsimp only)); (try rfl)), by rw [← w2]; exact (by unfold up; (repeat (first | rewrite [if_pos (by omega)] | rewrite [if_neg (by omega)] | dsimp only)); (try rfl)), by rw [← w3]; exact (by unfold up; (repeat (first | rewrite [if_pos (by omega)] | rewrite [if_neg (by omega)] | dsimp only)); (try rfl)), fun h1 h2 => by rw [← w4 h1 h2]; exact (by unfold up; (repeat (first | rewrite [if_pos (by omega)] | rewrite [if_neg (by omega)] | dsimp only)); (try rfl)), by rw [← w5]; exact (by unfold up; (repeat (first | rewrite [if_pos (by omega)] | rewrite [if_neg (by omega)] | dsimp only)); (try rfl))⟩
  · intro x j c0 c1 j0 j1 j2
    rw [v6] at c1
    by_cases q : x = N 3
    · subst q
      rw [v5] at j1; omega
    · rw [e (664 + x) (by omega) (by omega) (by omega) (by omega) (by omega) (by omega) (by omega) (by omega) ] at j1
      rw [e (2524 + 30 * x + j) (by omega) (by omega) (by omega) (by omega) (by omega) (by omega) (by omega) (by omega) , e (724 + 30 * x + j) (by omega) (by omega) (by omega) (by omega) (by omega) (by omega) (by omega) (by omega) ]
      exact hH.w x j c0 (by omega) j0 j1 j2
  · intro i c0 c1
    rw [e 0 (by omega) (by omega) (by omega) (by omega) (by omega) (by omega) (by omega) (by omega) ] at c1
    by_cases q : i = dk
    · subst q
      have hlt := row_lt hI (hH.r i c0 c1) (by omega) (Or.inl h60)
      refine (hH.r i c0 c1).join (by unfold up; (repeat (first | rewrite [if_pos (by omega)] | rewrite [if_neg (by omega)] | dsimp only)); (try rfl)) hlt (fun j j0 j1 => (by unfold up; (repeat (first | rewrite [if_pos (by omega)] | rewrite [if_neg (by omega)] | dsimp only)); (try rfl))) (by rw [← n3]; exact (by unfold up; (repeat (first | rewrite [if_pos (by omega)] | rewrite [if_neg (by omega)] | dsimp only)); (try rfl))) (e _ (by omega) (by omega) (by omega) (by omega) (by omega) (by omega) (by omega) (by omega) ) (by omega) (by omega) ⟨by omega, by omega⟩ ⟨by rw [v2, wcK0 hk], v3⟩ (fun h => by omega) (fun x x0 x1 xn => ⟨by omega, e _ (by omega) (by omega) (by omega) (by omega) (by omega) (by omega) (by omega) (by omega) , e _ (by omega) (by omega) (by omega) (by omega) (by omega) (by omega) (by omega) (by omega) , e _ (by omega) (by omega) (by omega) (by omega) (by omega) (by omega) (by omega) (by omega) ⟩) (fun x x0 x1 x2 x3 => ?_)
      rw [wcK0 hk] at x2
      rw [v4]
      obtain ⟨-, -, -, w⟩ := hI.g x0 x1
      unfold wI at w
      omega
    · refine (hH.r i c0 c1).keep (by unfold up; (repeat (first | rewrite [if_pos (by omega)] | rewrite [if_neg (by omega)] | dsimp only)); (try rfl)) (fun j j0 j1 => (by unfold up; (repeat (first | rewrite [if_pos (by omega)] | rewrite [if_neg (by omega)] | dsimp only)); (try rfl))) (e _ (by omega) (by omega) (by omega) (by omega) (by omega) (by omega) (by omega) (by omega) ) (by omega) (fun x x0 x1 => ?_)
      by_cases qx : x = N 3
      · subst qx
        exact Or.inr ⟨fun h => by rw [v3] at h; omega, fun h => by omega⟩
      · exact Or.inl ⟨by omega, e _ (by omega) (by omega) (by omega) (by omega) (by omega) (by omega) (by omega) (by omega) , e _ (by omega) (by omega) (by omega) (by omega) (by omega) (by omega) (by omega) (by omega) , e _ (by omega) (by omega) (by omega) (by omega) (by omega) (by omega) (by omega) (by omega) ⟩

set_option maxRecDepth 100000 in
theorem c_X6_bag {g : GG} {kp : Bool} {σ : SS} (hR : RG σ) {N : NN} {kk : Int} (hI : IV N kk) (hH : RH σ 0 N) (hS : SM σ N) (h8 : ∀ i j, σ 8 0 i j ≤ 1000000) (h9 : 0 ≤ σ 9 0 0 0 ∧ σ 9 0 0 0 ≤ 1000000) (dk : Int) (hdk : inR dk) (fl : Int) (hfl : inR fl) (db : Int) (hdb : inR db) (h01 : db = 0 ∨ db = 1) (h5 : N 5 < 1000000) : TC g kp 3 mX6_bag [rf g (ad 9 0 0), vi dk, vi fl, vi db] σ (fun r τ => r = some (vi (s_bag N dk fl db).1) ∧ CR σ τ (s_bag N dk fl db).2.1 (s_bag N dk fl db).2.2) := by
  refine TC.of (by decide) (Nat.le_of_ble_eq_true rfl) rfl ?_
  obtain ⟨b0, b1, b2, b3, b4, b5⟩ := hI.n
  obtain ⟨n0, n1, n2, n3, n4⟩ := hH.n
  refine v_aload_n 0 dX6_bag_0 (nx := 1) rfl rfl ?_
  refine t_get (a := 9) (p := 0) (T := TX6) dX6_bag_1 (nx := 4) rfl (by decide) (ok_m 9 rfl) rfl rfl iU6 (by decide) fl_X6_10 rfl ?_
  refine v_iload_n 1 dX6_bag_4 (nx := 5) rfl rfl ?_
  refine t_callVi (a := 7) (c_X3_hasPoint hR _ (by first | assumption | exact hR.1 _ _ _ _ | exact ⟨by omega, by omega⟩)) dX6_bag_5 (nx := 8) rfl kX3_hasPoint ml_X6_59 (by decide) (ok_m 7 rfl) rfl rfl rfl rfl (Nat.le_of_ble_eq_true rfl) ⟨by decide, by decide⟩ ⟨by decide, by decide⟩ ?_
  refine v_ifB_eq dX6_bag_8 (tgt := 22) (by decide) (nx := 11) rfl (fun c8 => ?_) (fun c8 => ?_)
  · refine v_aload_n 0 dX6_bag_22 (nx := 23) rfl rfl ?_
    refine v_iconst dX6_bag_23 (nx := 24) rfl ?_
    refine t_callVi (a := 9) (c_X6_finding _) dX6_bag_24 (nx := 27) rfl kX6_finding ml_X6_38 (by decide) (ok_m 9 rfl) rfl rfl rfl rfl (Nat.le_of_ble_eq_true rfl) ⟨by decide, by decide⟩ ⟨by decide, by decide⟩ ?_
    exact t_iret dX6_bag_27 rfl (by first | exact cfC hR hH hS h8 h9 (by unfold s_bag fnd; (repeat (first | rewrite [if_pos (by omega)] | rewrite [if_neg (by omega)])); rfl) | exact cfA (by unfold s_bag; (repeat (first | rewrite [if_pos (by omega)] | rewrite [if_neg (by omega)])); rfl) n3 ⟨RH_bag hI (by omega) h5 ⟨by omega, by omega⟩ ⟨by omega, by omega⟩ h01 (by omega) hH, SM.same hI hS rfl (by unfold waitsN liesN; repeat rw [uI_n (by omega)]) (by unfold waitsN liesN; repeat rw [uI_n (by omega)]) (fun j hj => by unfold waitsN liesN; repeat rw [uI_n (by omega)]), (RG_up (RG_up (RG_up (RG_up (RG_up (RG_up (RG_up (RG_up (RG_up (RG_up (RG_up (RG_up hR hfl) ⟨by decide, by decide⟩) ⟨by decide, by decide⟩) ⟨by decide, by decide⟩) ⟨by decide, by decide⟩) ⟨by decide, by decide⟩) ⟨by omega, by omega⟩) hdb) ⟨by decide, by decide⟩) hdk) ⟨by omega, by omega⟩) (show inR (σ 0 0 dk 4 + 1) from ⟨by omega, by omega⟩)), h8, by show σ 9 0 0 0 = _; omega, (fun a t i h => (by have h2 : 10 ≤ a ∨ t ≠ 0 := h.imp id (fun q => q.1); (repeat (first | rw [up_o (by decide) h2] | rw [sK_o (by decide) h2]))))⟩ | (exfalso; omega))
  · refine v_aload_n 0 dX6_bag_11 (nx := 12) rfl rfl ?_
    refine t_get (a := 9) (p := 0) (T := TX6) dX6_bag_12 (nx := 15) rfl (by decide) (ok_m 9 rfl) rfl rfl iU6 (by decide) fl_X6_10 rfl ?_
    refine v_iload_n 2 dX6_bag_15 (nx := 16) rfl rfl ?_
    refine t_callVi (a := 7) (c_X3_hasFlight hR _ (by first | assumption | exact hR.1 _ _ _ _ | exact ⟨by omega, by omega⟩)) dX6_bag_16 (nx := 19) rfl kX3_hasFlight ml_X6_114 (by decide) (ok_m 7 rfl) rfl rfl rfl rfl (Nat.le_of_ble_eq_true rfl) ⟨by decide, by decide⟩ ⟨by decide, by decide⟩ ?_
    refine v_ifB_ne dX6_bag_19 (tgt := 28) (by decide) (nx := 22) rfl (fun c19 => ?_) (fun c19 => ?_)
    · obtain ⟨e0, e1, e2⟩ := hH.p dk (by omega) (by omega)
      refine v_aload_n 0 dX6_bag_28 (nx := 29) rfl rfl ?_
      refine t_get (a := 9) (p := 0) (T := TX6) dX6_bag_29 (nx := 32) rfl (by decide) (ok_m 9 rfl) rfl rfl iU6 (by decide) fl_X6_10 rfl ?_
      refine t_get (a := 7) (p := 0) (T := TX3) dX6_bag_32 (nx := 35) rfl (by decide) (ok_m 7 rfl) rfl rfl iU3 (by decide) fl_X6_45 rfl ?_
      refine v_iload_n 1 dX6_bag_35 (nx := 36) rfl rfl ?_
      refine t_ldP dX6_bag_36 (nx := 37) rfl (ok_m 15 rfl) ⟨by omega, by omega⟩ ?_
      refine t_get (a := 0) (p := 0) (T := TX4) dX6_bag_37 (nx := 40) rfl (by decide) (by first | assumption | exact ok_0 ⟨by omega, by omega⟩) rfl rfl iU4 (by decide) fl_X6_66 rfl ?_
      refine v_if_eq dX6_bag_40 (tgt := 50) (by decide) (nx := 43) rfl (by first | assumption | exact hR.1 _ _ _ _ | exact ⟨by omega, by omega⟩) (fun c40 => ?_) (fun c40 => ?_)
      · refine v_aload_n 0 dX6_bag_50 (nx := 51) rfl rfl ?_
        refine t_get (a := 9) (p := 0) (T := TX6) dX6_bag_51 (nx := 54) rfl (by decide) (ok_m 9 rfl) rfl rfl iU6 (by decide) fl_X6_10 rfl ?_
        refine t_get (a := 7) (p := 7) (T := TX3) dX6_bag_54 (nx := 57) rfl (by decide) (ok_m 7 rfl) rfl rfl iU3 (by decide) fl_X6_117 rfl ?_
        refine v_bipush dX6_bag_57 (nx := 59) rfl rfl ?_
        refine v_icmp_lt dX6_bag_59 (tgt := 69) (by decide) (nx := 62) rfl (by first | assumption | exact hR.1 _ _ _ _ | exact ⟨by omega, by omega⟩) (by first | assumption | exact hR.1 _ _ _ _ | exact ⟨by omega, by omega⟩) (fun c59 => ?_) (fun c59 => ?_)
        · obtain ⟨z1, -⟩ := hH.r dk (by omega) (by omega)
          have hlt := row_lt hI (hH.r dk (by omega) (by omega)) (by omega) (Or.inl (by omega))
          refine v_aload_n 0 dX6_bag_69 (nx := 70) rfl rfl ?_
          refine t_get (a := 9) (p := 0) (T := TX6) dX6_bag_70 (nx := 73) rfl (by decide) (ok_m 9 rfl) rfl rfl iU6 (by decide) fl_X6_10 rfl ?_
          refine t_get (a := 7) (p := 7) (T := TX3) dX6_bag_73 (nx := 76) rfl (by decide) (ok_m 7 rfl) rfl rfl iU3 (by decide) fl_X6_117 rfl ?_
          refine v_istore dX6_bag_76 (nx := 78) rfl rfl (by decide) ?_
          refine v_aload_n 0 dX6_bag_78 (nx := 79) rfl rfl ?_
          refine t_get (a := 9) (p := 0) (T := TX6) dX6_bag_79 (nx := 82) rfl (by decide) (ok_m 9 rfl) rfl rfl iU6 (by decide) fl_X6_10 rfl ?_
          refine t_get (a := 7) (p := 3) (T := TX3) dX6_bag_82 (nx := 85) rfl (by decide) (ok_m 7 rfl) rfl rfl iU3 (by decide) fl_X6_120 rfl ?_
          refine v_iload 4 dX6_bag_85 (nx := 87) rfl rfl ?_
          refine t_ldG dX6_bag_87 (nx := 88) rfl (ok_m 18 rfl) ⟨by omega, by omega⟩ ?_
          refine v_iload_n 2 dX6_bag_88 (nx := 89) rfl rfl ?_
          refine t_callVv (a := 5) (c_X0_begin _ (by omega) _) dX6_bag_89 (nx := 92) rfl kX0_begin ml_X6_124 (by decide) (by first | assumption | exact ok_5 ⟨by omega, by omega⟩) rfl rfl rfl rfl (Nat.le_of_ble_eq_true rfl) ⟨by decide, by decide⟩ ⟨by decide, by decide⟩ ?_
          refine v_aload_n 0 dX6_bag_92 (nx := 93) rfl rfl ?_
          refine t_get (a := 9) (p := 0) (T := TX6) dX6_bag_93 (nx := 96) rfl (by decide) (ok_m 9 rfl) rfl rfl iU6 (by decide) fl_X6_10 rfl ?_
          refine v_dup dX6_bag_96 (nx := 97) rfl rfl ?_
          refine t_get (a := 7) (p := 7) (T := TX3) (v := vi (σ 7 0 0 3)) dX6_bag_97 (nx := 100) rfl (by decide) (ok_m 7 rfl) rfl rfl iU3 (by decide) fl_X6_117 rfl ?_
          refine v_iconst dX6_bag_100 (nx := 101) rfl ?_
          refine v_iadd dX6_bag_101 (nx := 102) rfl ?_
          refine t_put (a := 7) (j := 3) (p := 7) (T := TX3) dX6_bag_102 (nx := 105) rfl (by decide) (ok_m 7 rfl) rfl rfl iU3 tyX3 tyX3_ok nmX3 (by decide) fl_X6_117 rfl (Or.inl rfl) (Nat.le_of_ble_eq_true rfl) (by rfl) ?_
          refine v_aload_n 0 dX6_bag_105 (nx := 106) rfl rfl ?_
          refine t_get (a := 9) (p := 0) (T := TX6) dX6_bag_106 (nx := 109) rfl (by decide) (ok_m 9 rfl) rfl rfl iU6 (by decide) fl_X6_10 rfl ?_
          refine v_iload 4 dX6_bag_109 (nx := 111) rfl rfl ?_
          refine v_iload_n 1 dX6_bag_111 (nx := 112) rfl rfl ?_
          refine v_iload_n 3 dX6_bag_112 (nx := 113) rfl rfl ?_
          refine t_callVv (a := 7) (c_X3_queue (RG_up (RG_up (RG_up (RG_up (RG_up (RG_up (RG_up hR hfl) ⟨by decide, by decide⟩) ⟨by decide, by decide⟩) ⟨by decide, by decide⟩) ⟨by decide, by decide⟩) ⟨by decide, by decide⟩) ⟨by omega, by omega⟩) _ dk db (by exact ⟨by omega, by show _ < σ 7 0 0 3 + 1; omega⟩) (by exact ⟨by omega, by show _ < σ 7 0 0 0; omega⟩) (by show σ 7 0 0 3 + 1 ≤ 60; omega) (by show σ 7 0 0 0 ≤ 12; omega) h01 (by exact ⟨z1.1, hlt⟩)) dX6_bag_113 (nx := 116) rfl kX3_queue ml_X6_128 (by decide) (ok_m 7 rfl) rfl rfl rfl rfl (Nat.le_of_ble_eq_true rfl) ⟨by decide, by decide⟩ ⟨by decide, by decide⟩ ?_
          refine v_iload 4 dX6_bag_116 (nx := 118) rfl rfl ?_
          exact t_iret dX6_bag_118 rfl (by first | exact cfC hR hH hS h8 h9 (by unfold s_bag fnd; (repeat (first | rewrite [if_pos (by omega)] | rewrite [if_neg (by omega)])); rfl) | exact cfA (by unfold s_bag; (repeat (first | rewrite [if_pos (by omega)] | rewrite [if_neg (by omega)])); rfl) n3 ⟨RH_bag hI (by omega) h5 ⟨by omega, by omega⟩ ⟨by omega, by omega⟩ h01 (by omega) hH, SM.same hI hS rfl (by unfold waitsN liesN; repeat rw [uI_n (by omega)]) (by unfold waitsN liesN; repeat rw [uI_n (by omega)]) (fun j hj => by unfold waitsN liesN; repeat rw [uI_n (by omega)]), (RG_up (RG_up (RG_up (RG_up (RG_up (RG_up (RG_up (RG_up (RG_up (RG_up (RG_up (RG_up hR hfl) ⟨by decide, by decide⟩) ⟨by decide, by decide⟩) ⟨by decide, by decide⟩) ⟨by decide, by decide⟩) ⟨by decide, by decide⟩) ⟨by omega, by omega⟩) hdb) ⟨by decide, by decide⟩) hdk) ⟨by omega, by omega⟩) (show inR (σ 0 0 dk 4 + 1) from ⟨by omega, by omega⟩)), h8, by show σ 9 0 0 0 = _; omega, (fun a t i h => (by have h2 : 10 ≤ a ∨ t ≠ 0 := h.imp id (fun q => q.1); (repeat (first | rw [up_o (by decide) h2] | rw [sK_o (by decide) h2]))))⟩ | (exfalso; omega))
        · refine v_aload_n 0 dX6_bag_62 (nx := 63) rfl rfl ?_
          refine v_bipush dX6_bag_63 (nx := 65) rfl rfl ?_
          refine t_callVi (a := 9) (c_X6_finding _) dX6_bag_65 (nx := 68) rfl kX6_finding ml_X6_38 (by decide) (ok_m 9 rfl) rfl rfl rfl rfl (Nat.le_of_ble_eq_true rfl) ⟨by decide, by decide⟩ ⟨by decide, by decide⟩ ?_
          exact t_iret dX6_bag_68 rfl (by first | exact cfC hR hH hS h8 h9 (by unfold s_bag fnd; (repeat (first | rewrite [if_pos (by omega)] | rewrite [if_neg (by omega)])); rfl) | exact cfA (by unfold s_bag; (repeat (first | rewrite [if_pos (by omega)] | rewrite [if_neg (by omega)])); rfl) n3 ⟨RH_bag hI (by omega) h5 ⟨by omega, by omega⟩ ⟨by omega, by omega⟩ h01 (by omega) hH, SM.same hI hS rfl (by unfold waitsN liesN; repeat rw [uI_n (by omega)]) (by unfold waitsN liesN; repeat rw [uI_n (by omega)]) (fun j hj => by unfold waitsN liesN; repeat rw [uI_n (by omega)]), (RG_up (RG_up (RG_up (RG_up (RG_up (RG_up (RG_up (RG_up (RG_up (RG_up (RG_up (RG_up hR hfl) ⟨by decide, by decide⟩) ⟨by decide, by decide⟩) ⟨by decide, by decide⟩) ⟨by decide, by decide⟩) ⟨by decide, by decide⟩) ⟨by omega, by omega⟩) hdb) ⟨by decide, by decide⟩) hdk) ⟨by omega, by omega⟩) (show inR (σ 0 0 dk 4 + 1) from ⟨by omega, by omega⟩)), h8, by show σ 9 0 0 0 = _; omega, (fun a t i h => (by have h2 : 10 ≤ a ∨ t ≠ 0 := h.imp id (fun q => q.1); (repeat (first | rw [up_o (by decide) h2] | rw [sK_o (by decide) h2]))))⟩ | (exfalso; omega))
      · refine v_aload_n 0 dX6_bag_43 (nx := 44) rfl rfl ?_
        refine v_bipush dX6_bag_44 (nx := 46) rfl rfl ?_
        refine t_callVi (a := 9) (c_X6_finding _) dX6_bag_46 (nx := 49) rfl kX6_finding ml_X6_38 (by decide) (ok_m 9 rfl) rfl rfl rfl rfl (Nat.le_of_ble_eq_true rfl) ⟨by decide, by decide⟩ ⟨by decide, by decide⟩ ?_
        exact t_iret dX6_bag_49 rfl (by first | exact cfC hR hH hS h8 h9 (by unfold s_bag fnd; (repeat (first | rewrite [if_pos (by omega)] | rewrite [if_neg (by omega)])); rfl) | exact cfA (by unfold s_bag; (repeat (first | rewrite [if_pos (by omega)] | rewrite [if_neg (by omega)])); rfl) n3 ⟨RH_bag hI (by omega) h5 ⟨by omega, by omega⟩ ⟨by omega, by omega⟩ h01 (by omega) hH, SM.same hI hS rfl (by unfold waitsN liesN; repeat rw [uI_n (by omega)]) (by unfold waitsN liesN; repeat rw [uI_n (by omega)]) (fun j hj => by unfold waitsN liesN; repeat rw [uI_n (by omega)]), (RG_up (RG_up (RG_up (RG_up (RG_up (RG_up (RG_up (RG_up (RG_up (RG_up (RG_up (RG_up hR hfl) ⟨by decide, by decide⟩) ⟨by decide, by decide⟩) ⟨by decide, by decide⟩) ⟨by decide, by decide⟩) ⟨by decide, by decide⟩) ⟨by omega, by omega⟩) hdb) ⟨by decide, by decide⟩) hdk) ⟨by omega, by omega⟩) (show inR (σ 0 0 dk 4 + 1) from ⟨by omega, by omega⟩)), h8, by show σ 9 0 0 0 = _; omega, (fun a t i h => (by have h2 : 10 ≤ a ∨ t ≠ 0 := h.imp id (fun q => q.1); (repeat (first | rw [up_o (by decide) h2] | rw [sK_o (by decide) h2]))))⟩ | (exfalso; omega))
    · refine v_aload_n 0 dX6_bag_22 (nx := 23) rfl rfl ?_
      refine v_iconst dX6_bag_23 (nx := 24) rfl ?_
      refine t_callVi (a := 9) (c_X6_finding _) dX6_bag_24 (nx := 27) rfl kX6_finding ml_X6_38 (by decide) (ok_m 9 rfl) rfl rfl rfl rfl (Nat.le_of_ble_eq_true rfl) ⟨by decide, by decide⟩ ⟨by decide, by decide⟩ ?_
      exact t_iret dX6_bag_27 rfl (by first | exact cfC hR hH hS h8 h9 (by unfold s_bag fnd; (repeat (first | rewrite [if_pos (by omega)] | rewrite [if_neg (by omega)])); rfl) | exact cfA (by unfold s_bag; (repeat (first | rewrite [if_pos (by omega)] | rewrite [if_neg (by omega)])); rfl) n3 ⟨RH_bag hI (by omega) h5 ⟨by omega, by omega⟩ ⟨by omega, by omega⟩ h01 (by omega) hH, SM.same hI hS rfl (by unfold waitsN liesN; repeat rw [uI_n (by omega)]) (by unfold waitsN liesN; repeat rw [uI_n (by omega)]) (fun j hj => by unfold waitsN liesN; repeat rw [uI_n (by omega)]), (RG_up (RG_up (RG_up (RG_up (RG_up (RG_up (RG_up (RG_up (RG_up (RG_up (RG_up (RG_up hR hfl) ⟨by decide, by decide⟩) ⟨by decide, by decide⟩) ⟨by decide, by decide⟩) ⟨by decide, by decide⟩) ⟨by decide, by decide⟩) ⟨by omega, by omega⟩) hdb) ⟨by decide, by decide⟩) hdk) ⟨by omega, by omega⟩) (show inR (σ 0 0 dk 4 + 1) from ⟨by omega, by omega⟩)), h8, by show σ 9 0 0 0 = _; omega, (fun a t i h => (by have h2 : 10 ≤ a ∨ t ≠ 0 := h.imp id (fun q => q.1); (repeat (first | rw [up_o (by decide) h2] | rw [sK_o (by decide) h2]))))⟩ | (exfalso; omega))

theorem RH_give {σ : SS} {N : NN} {k g dk db : Int} (hI : IV N k) (hg : 0 ≤ g ∧ g < N 3) (h5 : N 5 < 1000000) (hdk : 0 ≤ dk ∧ dk < N 0) (hdb : db = 0 ∨ db = 1) (hk : N (8 + dk) = 0) (hw : N (484 + g) = 4) (hH : RH σ 0 N) : RH (up (up (up (up (up σ 5 0 g 1 db) 5 0 g 2 0) 5 0 g 3 dk) 1 0 dk (σ 0 0 dk 4) g) 0 0 dk 4 (σ 0 0 dk 4 + 1)) 0 (waitsN (uI N (424 + g) db) g dk) := by
  obtain ⟨b0, b1, b2, b3, b4, b5⟩ := hI.n
  obtain ⟨n0, n1, n2, n3, n4⟩ := hH.n
  obtain ⟨w0, w1, w2, w3, w4, w5⟩ := hH.g g hg.1 hg.2
  have e : ∀ j, j ≠ 484 + g → j ≠ 544 + g → j ≠ 604 + g → j ≠ 424 + g → j ≠ 5 → (waitsN (uI N (424 + g) db) g dk) j = N j := by
    intro j q0 q1 q2 q3 q4
    unfold waitsN liesN uI; (repeat (first | rewrite [if_pos (by omega)] | rewrite [if_neg (by omega)] | dsimp only)); (try rfl)
  have v0 : (waitsN (uI N (424 + g) db) g dk) (484 + g) = 0 := by unfold waitsN liesN uI; (repeat (first | rewrite [if_pos (by omega)] | rewrite [if_neg (by omega)] | dsimp only)); (try rfl)
  have v1 : (waitsN (uI N (424 + g) db) g dk) (544 + g) = dk := by unfold waitsN liesN uI; (repeat (first | rewrite [if_pos (by omega)] | rewrite [if_neg (by omega)] | dsimp only)); (try rfl)
  have v2 : (waitsN (uI N (424 + g) db) g dk) (604 + g) = N 5 := by unfold waitsN liesN uI; (repeat (first | rewrite [if_pos (by omega)] | rewrite [if_neg (by omega)] | dsimp only)); (try rfl)
  have v3 : (waitsN (uI N (424 + g) db) g dk) (424 + g) = db := by unfold waitsN liesN uI; (repeat (first | rewrite [if_pos (by omega)] | rewrite [if_neg (by omega)] | dsimp only)); (try rfl)
  have v4 : (waitsN (uI N (424 + g) db) g dk) (5) = N 5 + 1 := by unfold waitsN liesN uI; (repeat (first | rewrite [if_pos (by omega)] | rewrite [if_neg (by omega)] | dsimp only)); (try rfl)
  generalize (waitsN (uI N (424 + g) db) g dk) = M at e v0 v1 v2 v3 v4 ⊢
  refine hH.mv (g := g) ⟨e 0 (by omega) (by omega) (by omega) (by omega) (by omega) , e 1 (by omega) (by omega) (by omega) (by omega) (by omega) , e 2 (by omega) (by omega) (by omega) (by omega) (by omega) , e 3 (by omega) (by omega) (by omega) (by omega) (by omega) , e 4 (by omega) (by omega) (by omega) (by omega) (by omega) ⟩ ⟨b0, b1, b2, b3⟩ (fun j _ hj => e j (by omega) (by omega) (by omega) (by omega) (by omega) ) (fun x x0 x1 xn => e _ (by omega) (by omega) (by omega) (by omega) (by omega) ) (fun x x0 x1 xn => ⟨e _ (by omega) (by omega) (by omega) (by omega) (by omega) , e _ (by omega) (by omega) (by omega) (by omega) (by omega) , e _ (by omega) (by omega) (by omega) (by omega) (by omega) ⟩) rfl (fun i j hj => (by unfold up; (repeat (first | rewrite [if_pos (by omega)] | rewrite [if_neg (by omega)] | dsimp only)); (try rfl))) (fun b j hj => (by unfold up; (repeat (first | rewrite [if_pos (by omega)] | rewrite [if_neg (by omega)] | dsimp only)); (try rfl))) rfl (fun x hx => by funext j; exact (by unfold up; (repeat (first | rewrite [if_pos (by omega)] | rewrite [if_neg (by omega)] | dsimp only)); (try rfl))) rfl (hH.c.same rfl (e 1 (by omega) (by omega) (by omega) (by omega) (by omega) ) (by omega) (fun j _ _ => e j (by omega) (by omega) (by omega) (by omega) (by omega) )) (fun _ _ => by rw [v0, v1, v2, v3]; exact ⟨(by unfold up; (repeat (first | rewrite [if_pos (by omega)] | rewrite [if_neg (by omega)] | dsimp only)); (try rfl)), (by unfold up; (repeat (first | rewrite [if_pos (by omega)] | rewrite [if_neg (by omega)] | dsimp only)); (try rfl)), (by unfold up; (repeat (first | rewrite [if_pos (by omega)] | rewrite [if_neg (by omega)] | dsimp only)); (try rfl)), (by unfold up; (repeat (first | rewrite [if_pos (by omega)] | rewrite [if_neg (by omega)] | dsimp only)); (try rfl)), fun h => by omega, (by unfold up; (repeat (first | rewrite [if_pos (by omega)] | rewrite [if_neg (by omega)] | dsimp only)); (try rfl))⟩) ?_
  intro i c0 c1
  rw [e 0 (by omega) (by omega) (by omega) (by omega) (by omega) ] at c1
  by_cases q : i = dk
  · subst q
    have hlt := row_lt hI (hH.r i c0 c1) (by omega) (Or.inr ⟨g, hg, fun h => by rw [wcK0 hk] at h; omega⟩)
    refine (hH.r i c0 c1).join (by unfold up; (repeat (first | rewrite [if_pos (by omega)] | rewrite [if_neg (by omega)] | dsimp only)); (try rfl)) hlt (fun j j0 j1 => (by unfold up; (repeat (first | rewrite [if_pos (by omega)] | rewrite [if_neg (by omega)] | dsimp only)); (try rfl))) (by unfold up; (repeat (first | rewrite [if_pos (by omega)] | rewrite [if_neg (by omega)] | dsimp only)); (try rfl)) (e _ (by omega) (by omega) (by omega) (by omega) (by omega) ) (by omega) (by rw [e 3 (by omega) (by omega) (by omega) (by omega) (by omega) ]; omega) ⟨by omega, by rw [e 3 (by omega) (by omega) (by omega) (by omega) (by omega) ]; omega⟩ ⟨by rw [v0, wcK0 hk], v1⟩ (fun _ h => by rw [wcK0 hk] at h; omega) (fun x x0 x1 xn => ?_) (fun x x0 x1 x2 x3 => ?_)
    · rw [e 3 (by omega) (by omega) (by omega) (by omega) (by omega) ] at x1
      exact ⟨x1, e _ (by omega) (by omega) (by omega) (by omega) (by omega) , e _ (by omega) (by omega) (by omega) (by omega) (by omega) , e _ (by omega) (by omega) (by omega) (by omega) (by omega) ⟩
    · rw [wcK0 hk] at x2
      rw [v2]
      obtain ⟨-, -, -, w⟩ := hI.g x0 x1
      unfold wI at w
      omega
  · refine (hH.r i c0 c1).keep (by unfold up; (repeat (first | rewrite [if_pos (by omega)] | rewrite [if_neg (by omega)] | dsimp only)); (try rfl)) (fun j j0 j1 => (by unfold up; (repeat (first | rewrite [if_pos (by omega)] | rewrite [if_neg (by omega)] | dsimp only)); (try rfl))) (e _ (by omega) (by omega) (by omega) (by omega) (by omega) ) (by rw [e 3 (by omega) (by omega) (by omega) (by omega) (by omega) ]; omega) (fun x x0 x1 => ?_)
    rw [e 3 (by omega) (by omega) (by omega) (by omega) (by omega) ] at x1
    by_cases qx : x = g
    · subst qx
      exact Or.inr ⟨fun h => by rw [v1] at h; omega, fun _ h => by rcases wcK_c (N (8 + i)) with z | z | z <;> rw [z] at h <;> omega⟩
    · exact Or.inl ⟨x1, e _ (by omega) (by omega) (by omega) (by omega) (by omega) , e _ (by omega) (by omega) (by omega) (by omega) (by omega) , e _ (by omega) (by omega) (by omega) (by omega) (by omega) ⟩

set_option maxRecDepth 100000 in
theorem c_X6_give {g : GG} {kp : Bool} {σ : SS} (hR : RG σ) {N : NN} {kk : Int} (hI : IV N kk) (hH : RH σ 0 N) (hS : SM σ N) (h8 : ∀ i j, σ 8 0 i j ≤ 1000000) (h9 : 0 ≤ σ 9 0 0 0 ∧ σ 9 0 0 0 ≤ 1000000) (b : Int) (hb : inR b) (dk : Int) (hdk : inR dk) (db : Int) (hdb : inR db) (h01 : db = 0 ∨ db = 1) (h5 : N 5 < 1000000) : TC g kp 2 mX6_give [rf g (ad 9 0 0), vi b, vi dk, vi db] σ (fun r τ => r = some (vi (s_give N b dk db).1) ∧ CR σ τ (s_give N b dk db).2.1 (s_give N b dk db).2.2) := by
  refine TC.of (by decide) (Nat.le_of_ble_eq_true rfl) rfl ?_
  obtain ⟨b0, b1, b2, b3, b4, b5⟩ := hI.n
  obtain ⟨n0, n1, n2, n3, n4⟩ := hH.n
  refine v_aload_n 0 dX6_give_0 (nx := 1) rfl rfl ?_
  refine t_get (a := 9) (p := 0) (T := TX6) dX6_give_1 (nx := 4) rfl (by decide) (ok_m 9 rfl) rfl rfl iU6 (by decide) fl_X6_10 rfl ?_
  refine v_iload_n 1 dX6_give_4 (nx := 5) rfl rfl ?_
  refine t_callVi (a := 7) (c_X3_hasBag hR _ (by first | assumption | exact hR.1 _ _ _ _ | exact ⟨by omega, by omega⟩)) dX6_give_5 (nx := 8) rfl kX3_hasBag ml_X6_132 (by decide) (ok_m 7 rfl) rfl rfl rfl rfl (Nat.le_of_ble_eq_true rfl) ⟨by decide, by decide⟩ ⟨by decide, by decide⟩ ?_
  refine v_ifB_eq dX6_give_8 (tgt := 22) (by decide) (nx := 11) rfl (fun c8 => ?_) (fun c8 => ?_)
  · refine v_aload_n 0 dX6_give_22 (nx := 23) rfl rfl ?_
    refine v_iconst dX6_give_23 (nx := 24) rfl ?_
    refine t_callVi (a := 9) (c_X6_finding _) dX6_give_24 (nx := 27) rfl kX6_finding ml_X6_38 (by decide) (ok_m 9 rfl) rfl rfl rfl rfl (Nat.le_of_ble_eq_true rfl) ⟨by decide, by decide⟩ ⟨by decide, by decide⟩ ?_
    exact t_iret dX6_give_27 rfl (by first | exact cfC hR hH hS h8 h9 (by unfold s_give fnd; (repeat (first | rewrite [if_pos (by omega)] | rewrite [if_neg (by omega)])); rfl) | exact cfA (by unfold s_give; (repeat (first | rewrite [if_pos (by omega)] | rewrite [if_neg (by omega)])); rfl) hs1.symm ⟨hRH, SM.same hI hS rfl (by unfold waitsN liesN; repeat rw [uI_n (by omega)]) (by unfold waitsN liesN; repeat rw [uI_n (by omega)]) (fun j hj => by unfold waitsN liesN; repeat rw [uI_n (by omega)]), (RG_up (RG_up (RG_up (RG_up (RG_up hR hdb) ⟨by decide, by decide⟩) hdk) ⟨by omega, by omega⟩) ⟨by omega, by omega⟩), h8, by show σ 9 0 0 0 = _; omega, (fun a t i h => (by have h2 : 10 ≤ a ∨ t ≠ 0 := h.imp id (fun q => q.1); (repeat (first | rw [up_o (by decide) h2] | rw [sK_o (by decide) h2]))))⟩ | (exfalso; omega))
  · refine v_aload_n 0 dX6_give_11 (nx := 12) rfl rfl ?_
    refine t_get (a := 9) (p := 0) (T := TX6) dX6_give_12 (nx := 15) rfl (by decide) (ok_m 9 rfl) rfl rfl iU6 (by decide) fl_X6_10 rfl ?_
    refine v_iload_n 2 dX6_give_15 (nx := 16) rfl rfl ?_
    refine t_callVi (a := 7) (c_X3_hasPoint hR _ (by first | assumption | exact hR.1 _ _ _ _ | exact ⟨by omega, by omega⟩)) dX6_give_16 (nx := 19) rfl kX3_hasPoint ml_X6_59 (by decide) (ok_m 7 rfl) rfl rfl rfl rfl (Nat.le_of_ble_eq_true rfl) ⟨by decide, by decide⟩ ⟨by decide, by decide⟩ ?_
    refine v_ifB_ne dX6_give_19 (tgt := 28) (by decide) (nx := 22) rfl (fun c19 => ?_) (fun c19 => ?_)
    · obtain ⟨p0, p1, p2⟩ := hH.p dk (by omega) (by omega)
      obtain ⟨z1, -⟩ := hH.r dk (by omega) (by omega)
      refine v_aload_n 0 dX6_give_28 (nx := 29) rfl rfl ?_
      refine t_get (a := 9) (p := 0) (T := TX6) dX6_give_29 (nx := 32) rfl (by decide) (ok_m 9 rfl) rfl rfl iU6 (by decide) fl_X6_10 rfl ?_
      refine t_get (a := 7) (p := 0) (T := TX3) dX6_give_32 (nx := 35) rfl (by decide) (ok_m 7 rfl) rfl rfl iU3 (by decide) fl_X6_45 rfl ?_
      refine v_iload_n 2 dX6_give_35 (nx := 36) rfl rfl ?_
      refine t_ldP dX6_give_36 (nx := 37) rfl (ok_m 15 rfl) ⟨by omega, by omega⟩ ?_
      refine t_get (a := 0) (p := 0) (T := TX4) dX6_give_37 (nx := 40) rfl (by decide) (by first | assumption | exact ok_0 ⟨by omega, by omega⟩) rfl rfl iU4 (by decide) fl_X6_66 rfl ?_
      refine v_if_eq dX6_give_40 (tgt := 50) (by decide) (nx := 43) rfl (by first | assumption | exact hR.1 _ _ _ _ | exact ⟨by omega, by omega⟩) (fun c40 => ?_) (fun c40 => ?_)
      · obtain ⟨e0, e1, e2, e3, e4, e5⟩ := hH.g b (by omega) (by omega)
        refine v_aload_n 0 dX6_give_50 (nx := 51) rfl rfl ?_
        refine t_get (a := 9) (p := 0) (T := TX6) dX6_give_51 (nx := 54) rfl (by decide) (ok_m 9 rfl) rfl rfl iU6 (by decide) fl_X6_10 rfl ?_
        refine t_get (a := 7) (p := 3) (T := TX3) dX6_give_54 (nx := 57) rfl (by decide) (ok_m 7 rfl) rfl rfl iU3 (by decide) fl_X6_120 rfl ?_
        refine v_iload_n 1 dX6_give_57 (nx := 58) rfl rfl ?_
        refine t_ldG dX6_give_58 (nx := 59) rfl (ok_m 18 rfl) ⟨by omega, by omega⟩ ?_
        refine t_get (a := 5) (p := 2) (T := TX0) dX6_give_59 (nx := 62) rfl (by decide) (by first | assumption | exact ok_5 ⟨by omega, by omega⟩) rfl rfl iU0 (by decide) fl_X6_135 rfl ?_
        refine v_iconst dX6_give_62 (nx := 63) rfl ?_
        refine v_icmp_eq dX6_give_63 (tgt := 73) (by decide) (nx := 66) rfl (by first | assumption | exact hR.1 _ _ _ _ | exact ⟨by omega, by omega⟩) (by first | assumption | exact hR.1 _ _ _ _ | exact ⟨by omega, by omega⟩) (fun c63 => ?_) (fun c63 => ?_)
        · have hlt := row_lt hI (hH.r dk (by omega) (by omega)) (by omega) (Or.inr ⟨b, ⟨by omega, by omega⟩, fun h => by rw [wcK0 (by omega)] at h; omega⟩)
          have hRH := RH_give (g := b) (dk := dk) (db := db) hI ⟨by omega, by omega⟩ h5 ⟨by omega, by omega⟩ h01 (by omega) (by omega) hH
          have hIM := IV_give (g := b) (dk := dk) (db := db) hI ⟨by omega, by omega⟩ h5 ⟨by omega, by omega⟩ h01 (by omega) (by omega)
          refine v_aload_n 0 dX6_give_73 (nx := 74) rfl rfl ?_
          refine t_get (a := 9) (p := 0) (T := TX6) dX6_give_74 (nx := 77) rfl (by decide) (ok_m 9 rfl) rfl rfl iU6 (by decide) fl_X6_10 rfl ?_
          refine v_iload_n 1 dX6_give_77 (nx := 78) rfl rfl ?_
          refine v_iload_n 2 dX6_give_78 (nx := 79) rfl rfl ?_
          refine v_iload_n 3 dX6_give_79 (nx := 80) rfl rfl ?_
          refine t_callVv (a := 7) (c_X3_queue hR _ dk db (by omega) (by omega) (by omega) (by omega) h01 (by exact ⟨z1.1, hlt⟩)) dX6_give_80 (nx := 83) rfl kX3_queue ml_X6_128 (by decide) (ok_m 7 rfl) rfl rfl rfl rfl (Nat.le_of_ble_eq_true rfl) ⟨by decide, by decide⟩ ⟨by decide, by decide⟩ ?_
          refine v_aload_n 0 dX6_give_83 (nx := 84) rfl rfl ?_
          refine t_get (a := 9) (p := 0) (T := TX6) dX6_give_84 (nx := 87) rfl (by decide) (ok_m 9 rfl) rfl rfl iU6 (by decide) fl_X6_10 rfl ?_
          refine t_get (a := 7) (p := 0) (T := TX3) dX6_give_87 (nx := 90) rfl (by decide) (ok_m 7 rfl) rfl rfl iU3 (by decide) fl_X6_45 rfl ?_
          refine v_iload_n 2 dX6_give_90 (nx := 91) rfl rfl ?_
          refine t_ldP dX6_give_91 (nx := 92) rfl (ok_m 15 rfl) ⟨by omega, by omega⟩ ?_
          refine t_get (a := 0) (p := 4) (T := TX4) dX6_give_92 (nx := 95) rfl (by decide) (by first | assumption | exact ok_0 ⟨by omega, by omega⟩) rfl rfl iU4 (by decide) fl_X6_141 rfl ?_
          have hs1 := ((hRH.r dk (by omega) (by unfold waitsN liesN; (repeat rw [uI_n (by omega)]); omega)).srt (by unfold waitsN liesN; (repeat rw [uI_n (by omega)]); omega) (by unfold waitsN liesN; (repeat rw [uI_n (by omega)]); omega)).all
          rw [wcK0 (by unfold waitsN liesN; (repeat rw [uI_n (by omega)]); omega)] at hs1
          rw [show (waitsN (uI N (424 + b) db) b dk) 3 = N 3 from (by unfold waitsN liesN; repeat rw [uI_n (by omega)])] at hs1
          exact t_iret dX6_give_95 rfl (by first | exact cfC hR hH hS h8 h9 (by unfold s_give fnd; (repeat (first | rewrite [if_pos (by omega)] | rewrite [if_neg (by omega)])); rfl) | exact cfA (by unfold s_give; (repeat (first | rewrite [if_pos (by omega)] | rewrite [if_neg (by omega)])); rfl) hs1.symm ⟨hRH, SM.same hI hS rfl (by unfold waitsN liesN; repeat rw [uI_n (by omega)]) (by unfold waitsN liesN; repeat rw [uI_n (by omega)]) (fun j hj => by unfold waitsN liesN; repeat rw [uI_n (by omega)]), (RG_up (RG_up (RG_up (RG_up (RG_up hR hdb) ⟨by decide, by decide⟩) hdk) ⟨by omega, by omega⟩) ⟨by omega, by omega⟩), h8, by show σ 9 0 0 0 = _; omega, (fun a t i h => (by have h2 : 10 ≤ a ∨ t ≠ 0 := h.imp id (fun q => q.1); (repeat (first | rw [up_o (by decide) h2] | rw [sK_o (by decide) h2]))))⟩ | (exfalso; omega))
        · refine v_aload_n 0 dX6_give_66 (nx := 67) rfl rfl ?_
          refine v_bipush dX6_give_67 (nx := 69) rfl rfl ?_
          refine t_callVi (a := 9) (c_X6_finding _) dX6_give_69 (nx := 72) rfl kX6_finding ml_X6_38 (by decide) (ok_m 9 rfl) rfl rfl rfl rfl (Nat.le_of_ble_eq_true rfl) ⟨by decide, by decide⟩ ⟨by decide, by decide⟩ ?_
          exact t_iret dX6_give_72 rfl (by first | exact cfC hR hH hS h8 h9 (by unfold s_give fnd; (repeat (first | rewrite [if_pos (by omega)] | rewrite [if_neg (by omega)])); rfl) | exact cfA (by unfold s_give; (repeat (first | rewrite [if_pos (by omega)] | rewrite [if_neg (by omega)])); rfl) hs1.symm ⟨hRH, SM.same hI hS rfl (by unfold waitsN liesN; repeat rw [uI_n (by omega)]) (by unfold waitsN liesN; repeat rw [uI_n (by omega)]) (fun j hj => by unfold waitsN liesN; repeat rw [uI_n (by omega)]), (RG_up (RG_up (RG_up (RG_up (RG_up hR hdb) ⟨by decide, by decide⟩) hdk) ⟨by omega, by omega⟩) ⟨by omega, by omega⟩), h8, by show σ 9 0 0 0 = _; omega, (fun a t i h => (by have h2 : 10 ≤ a ∨ t ≠ 0 := h.imp id (fun q => q.1); (repeat (first | rw [up_o (by decide) h2] | rw [sK_o (by decide) h2]))))⟩ | (exfalso; omega))
      · refine v_aload_n 0 dX6_give_43 (nx := 44) rfl rfl ?_
        refine v_bipush dX6_give_44 (nx := 46) rfl rfl ?_
        refine t_callVi (a := 9) (c_X6_finding _) dX6_give_46 (nx := 49) rfl kX6_finding ml_X6_38 (by decide) (ok_m 9 rfl) rfl rfl rfl rfl (Nat.le_of_ble_eq_true rfl) ⟨by decide, by decide⟩ ⟨by decide, by decide⟩ ?_
        exact t_iret dX6_give_49 rfl (by first | exact cfC hR hH hS h8 h9 (by unfold s_give fnd; (repeat (first | rewrite [if_pos (by omega)] | rewrite [if_neg (by omega)])); rfl) | exact cfA (by unfold s_give; (repeat (first | rewrite [if_pos (by omega)] | rewrite [if_neg (by omega)])); rfl) hs1.symm ⟨hRH, SM.same hI hS rfl (by unfold waitsN liesN; repeat rw [uI_n (by omega)]) (by unfold waitsN liesN; repeat rw [uI_n (by omega)]) (fun j hj => by unfold waitsN liesN; repeat rw [uI_n (by omega)]), (RG_up (RG_up (RG_up (RG_up (RG_up hR hdb) ⟨by decide, by decide⟩) hdk) ⟨by omega, by omega⟩) ⟨by omega, by omega⟩), h8, by show σ 9 0 0 0 = _; omega, (fun a t i h => (by have h2 : 10 ≤ a ∨ t ≠ 0 := h.imp id (fun q => q.1); (repeat (first | rw [up_o (by decide) h2] | rw [sK_o (by decide) h2]))))⟩ | (exfalso; omega))
    · refine v_aload_n 0 dX6_give_22 (nx := 23) rfl rfl ?_
      refine v_iconst dX6_give_23 (nx := 24) rfl ?_
      refine t_callVi (a := 9) (c_X6_finding _) dX6_give_24 (nx := 27) rfl kX6_finding ml_X6_38 (by decide) (ok_m 9 rfl) rfl rfl rfl rfl (Nat.le_of_ble_eq_true rfl) ⟨by decide, by decide⟩ ⟨by decide, by decide⟩ ?_
      exact t_iret dX6_give_27 rfl (by first | exact cfC hR hH hS h8 h9 (by unfold s_give fnd; (repeat (first | rewrite [if_pos (by omega)] | rewrite [if_neg (by omega)])); rfl) | exact cfA (by unfold s_give; (repeat (first | rewrite [if_pos (by omega)] | rewrite [if_neg (by omega)])); rfl) hs1.symm ⟨hRH, SM.same hI hS rfl (by unfold waitsN liesN; repeat rw [uI_n (by omega)]) (by unfold waitsN liesN; repeat rw [uI_n (by omega)]) (fun j hj => by unfold waitsN liesN; repeat rw [uI_n (by omega)]), (RG_up (RG_up (RG_up (RG_up (RG_up hR hdb) ⟨by decide, by decide⟩) hdk) ⟨by omega, by omega⟩) ⟨by omega, by omega⟩), h8, by show σ 9 0 0 0 = _; omega, (fun a t i h => (by have h2 : 10 ≤ a ∨ t ≠ 0 := h.imp id (fun q => q.1); (repeat (first | rw [up_o (by decide) h2] | rw [sK_o (by decide) h2]))))⟩ | (exfalso; omega))
