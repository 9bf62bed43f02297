theorem wh_eq {S : SS} {N : NN} {p fl : Int} (h0 : S 0 0 p 0 = N (8 + p)) (h2 : S 7 0 0 2 = N 2) (h4 : S 7 0 0 4 = N 4) (f0 : S 4 0 fl 0 = N (340 + fl)) (f2 : S 4 0 fl 2 = N (356 + fl)) (hf : 0 ≤ fl ∧ fl < N 2) : (if S 0 0 p 0 = 5 then (if ¬ (0 ≤ fl ∧ fl < S 7 0 0 2) ∨ S 4 0 fl 0 ≠ p then 7 else if S 7 0 0 4 < S 4 0 fl 2 then 5 else 6) else if S 0 0 p 0 = 4 then 3 else 2) = whA N p fl := by
  unfold whA
  rw [h0, h2, h4, f0, f2]
  by_cases c : N (340 + fl) = p
  · rw [if_neg (show ¬ (¬ (0 ≤ fl ∧ fl < N 2) ∨ N (340 + fl) ≠ p) by omega), if_neg (show ¬ N (340 + fl) ≠ p by omega)]
  · rw [if_pos (show ¬ (0 ≤ fl ∧ fl < N 2) ∨ N (340 + fl) ≠ p by omega), if_pos c]

set_option maxRecDepth 100000 in
theorem c_X6_receiveFrom {g : GG} {kp : Bool} {σ : SS} (hR : RG σ) {N : NN} {kk : Int} (hI : IV N kk) (hH : RH σ 0 N) {G : NN} (hS : SM σ N) (h8 : ∀ i j, σ 8 0 i j ≤ 1000000) (hF : FR σ N G) (hG : GI N G) (b p : Int) (hb : 0 ≤ b ∧ b < N 1) (hp : 0 ≤ p ∧ p < N 0) (hw : 0 ≤ rdyN N G b → tkW N p (whA N p (N (364 + rdyN N G b)))) : TC g kp 2 mX6_receiveFrom [rf g (ad 9 0 0), vi b, vi p] σ (fun r τ => r = some (vi (if 0 ≤ rdyN N G b then 1 else 0)) ∧ TR σ τ (if 0 ≤ rdyN N G b then tkN N G b p (whA N p (N (364 + rdyN N G b))) else N) G) := by
  refine TC.of (by decide) (Nat.le_of_ble_eq_true rfl) rfl ?_
  obtain ⟨b0, b1, b2, b3, b4, b5⟩ := hI.n
  obtain ⟨n0, n1, n2, n3, n4⟩ := hH.n
  obtain ⟨e0, e1, e2⟩ := hH.p p (by omega) (by omega)
  obtain ⟨k1, -⟩ := hI.p hp.1 hp.2
  obtain ⟨-, -, l1, l4, -⟩ := hI.b hb.1 hb.2
  obtain ⟨-, -, d2, -, d4⟩ := hH.b b hb.1 hb.2
  have hrd := rdy_cls hI hG hH hF hb
  have hrv := fun h => rdy_v (G := G) hI hb h
  obtain ⟨r0, r1, -⟩ := hH.r p hp.1 hp.2
  have hrR : inR (rdyN N G b) := by
    rw [← hrd]
    split
    · exact hR.1 _ _ _ _
    · exact ⟨by decide, by decide⟩
  refine v_aload_n 0 dX6_receiveFrom_0 (nx := 1) rfl rfl ?_
  refine t_get (a := 9) (p := 0) (T := TX6) dX6_receiveFrom_1 (nx := 4) rfl (by decide) (ok_m 9 rfl) rfl rfl iU6 (by decide) fl_X6_10 rfl ?_
  refine v_iload_n 1 dX6_receiveFrom_4 (nx := 5) rfl rfl ?_
  refine t_callVi (a := 7) (c_X3_hasBelt hR _ (by first | assumption | exact hR.1 _ _ _ _ | exact ⟨by omega, by omega⟩)) dX6_receiveFrom_5 (nx := 8) rfl kX3_hasBelt ml_X6_85 (by decide) (ok_m 7 rfl) rfl rfl rfl rfl (Nat.le_of_ble_eq_true rfl) ⟨by decide, by decide⟩ ⟨by decide, by decide⟩ ?_
  refine v_ifB_ne dX6_receiveFrom_8 (tgt := 13) (by decide) (nx := 11) rfl (fun c8 => ?_) (fun c8 => ?_)
  · refine v_aload_n 0 dX6_receiveFrom_13 (nx := 14) rfl rfl ?_
    refine t_get (a := 9) (p := 0) (T := TX6) dX6_receiveFrom_14 (nx := 17) rfl (by decide) (ok_m 9 rfl) rfl rfl iU6 (by decide) fl_X6_10 rfl ?_
    refine t_get (a := 7) (p := 1) (T := TX3) dX6_receiveFrom_17 (nx := 20) rfl (by decide) (ok_m 7 rfl) rfl rfl iU3 (by decide) fl_X6_72 rfl ?_
    refine v_iload_n 1 dX6_receiveFrom_20 (nx := 21) rfl rfl ?_
    refine t_ldB dX6_receiveFrom_21 (nx := 22) rfl (ok_m 16 rfl) ⟨by omega, by omega⟩ ?_
    refine t_callVi (a := 2) (c_X1_readyBag hR _ (by omega) (by omega)) dX6_receiveFrom_22 (nx := 25) rfl kX1_readyBag ml_X6_309 (by decide) (by first | assumption | exact ok_2 ⟨by omega, by omega⟩) rfl rfl rfl rfl (Nat.le_of_ble_eq_true rfl) ⟨by decide, by decide⟩ ⟨by decide, by decide⟩ ?_
    refine v_top hrd ?_
    refine v_istore_n dX6_receiveFrom_25 (nx := 26) rfl rfl (by decide) ?_
    refine v_aload_n 0 dX6_receiveFrom_26 (nx := 27) rfl rfl ?_
    refine t_get (a := 9) (p := 0) (T := TX6) dX6_receiveFrom_27 (nx := 30) rfl (by decide) (ok_m 9 rfl) rfl rfl iU6 (by decide) fl_X6_10 rfl ?_
    refine v_iload_n 3 dX6_receiveFrom_30 (nx := 31) rfl rfl ?_
    refine t_callVi (a := 7) (c_X3_hasBag hR _ (by first | assumption | exact hR.1 _ _ _ _ | exact ⟨by omega, by omega⟩)) dX6_receiveFrom_31 (nx := 34) rfl kX3_hasBag ml_X6_132 (by decide) (ok_m 7 rfl) rfl rfl rfl rfl (Nat.le_of_ble_eq_true rfl) ⟨by decide, by decide⟩ ⟨by decide, by decide⟩ ?_
    refine v_ifB_ne dX6_receiveFrom_34 (tgt := 39) (by decide) (nx := 37) rfl (fun c34 => ?_) (fun c34 => ?_)
    · have hr : 0 ≤ rdyN N G b := by omega
      obtain ⟨hg, q1, q2, q3, q4, q5⟩ := hrv hr
      obtain ⟨w0, w1, w2, w3, w4, w5⟩ := hH.g (rdyN N G b) hg.1 hg.2
      obtain ⟨z1, -, gs, -⟩ := hI.g hg.1 hg.2
      obtain ⟨f0, f1, f2⟩ := hH.f (N (364 + rdyN N G b)) z1.1 z1.2
      have hcell := cell_of hI hH.c hH.b hg q3
      rw [q4, q5] at hcell
      have htk := tk_cls hI hH hS hR h8 hF hp hb hr (hw hr)
      have hwR : inR (whA N p (N (364 + rdyN N G b))) := by
        unfold whA
        split
        · split
          · exact ⟨by decide, by decide⟩
          · split <;> exact ⟨by decide, by decide⟩
        · split <;> exact ⟨by decide, by decide⟩
      have hlt : N (8 + p) ≠ 5 → σ 0 0 p 4 < 60 := fun h5 => row_lt hI (hH.r p hp.1 hp.2) h5 (Or.inr ⟨rdyN N G b, hg, fun h => wcK_n (Or.inl q3) _ h.1⟩)
      refine v_aload_n 0 dX6_receiveFrom_39 (nx := 40) rfl rfl ?_
      refine t_get (a := 9) (p := 0) (T := TX6) dX6_receiveFrom_40 (nx := 43) rfl (by decide) (ok_m 9 rfl) rfl rfl iU6 (by decide) fl_X6_10 rfl ?_
      refine t_get (a := 7) (p := 1) (T := TX3) dX6_receiveFrom_43 (nx := 46) rfl (by decide) (ok_m 7 rfl) rfl rfl iU3 (by decide) fl_X6_72 rfl ?_
      refine v_iload_n 1 dX6_receiveFrom_46 (nx := 47) rfl rfl ?_
      refine t_ldB dX6_receiveFrom_47 (nx := 48) rfl (ok_m 16 rfl) ⟨by omega, by omega⟩ ?_
      refine v_iload_n 3 dX6_receiveFrom_48 (nx := 49) rfl rfl ?_
      refine t_callVv (a := 2) ((by have h := c_X1_leave (g := g) (kp := kp) hR b (by omega) (rdyN N G b) hrR (by omega); rw [hcell, if_neg (by omega)] at h; exact h)) dX6_receiveFrom_49 (nx := 52) rfl kX1_leave ml_X6_312 (by decide) (by first | assumption | exact ok_2 ⟨by omega, by omega⟩) rfl rfl rfl rfl (Nat.le_of_ble_eq_true rfl) ⟨by decide, by decide⟩ ⟨by decide, by decide⟩ ?_
      refine v_aload_n 0 dX6_receiveFrom_52 (nx := 53) rfl rfl ?_
      refine t_get (a := 9) (p := 0) (T := TX6) dX6_receiveFrom_53 (nx := 56) rfl (by decide) (ok_m 9 rfl) rfl rfl iU6 (by decide) fl_X6_10 rfl ?_
      refine t_get (a := 7) (p := 0) (T := TX3) dX6_receiveFrom_56 (nx := 59) rfl (by decide) (ok_m 7 rfl) rfl rfl iU3 (by decide) fl_X6_45 rfl ?_
      refine v_iload_n 2 dX6_receiveFrom_59 (nx := 60) rfl rfl ?_
      refine t_ldP dX6_receiveFrom_60 (nx := 61) rfl (ok_m 15 rfl) ⟨by omega, by omega⟩ ?_
      refine t_get (a := 0) (p := 0) (T := TX4) (v := vi (σ 0 0 p 0)) dX6_receiveFrom_61 (nx := 64) rfl (by decide) (by first | assumption | exact ok_0 ⟨by omega, by omega⟩) rfl rfl iU4 (by decide) fl_X6_66 rfl ?_
      refine v_iconst dX6_receiveFrom_64 (nx := 65) rfl ?_
      refine v_icmp_eq dX6_receiveFrom_65 (tgt := 81) (by decide) (nx := 68) rfl (by first | assumption | exact hR.1 _ _ _ _ | exact ⟨by omega, by omega⟩) (by first | assumption | exact hR.1 _ _ _ _ | exact ⟨by omega, by omega⟩) (fun c65 => ?_) (fun c65 => ?_)
      · refine v_aload_n 0 dX6_receiveFrom_81 (nx := 82) rfl rfl ?_
        refine t_get (a := 9) (p := 0) (T := TX6) dX6_receiveFrom_82 (nx := 85) rfl (by decide) (ok_m 9 rfl) rfl rfl iU6 (by decide) fl_X6_10 rfl ?_
        refine t_get (a := 7) (p := 3) (T := TX3) dX6_receiveFrom_85 (nx := 88) rfl (by decide) (ok_m 7 rfl) rfl rfl iU3 (by decide) fl_X6_120 rfl ?_
        refine v_iload_n 3 dX6_receiveFrom_88 (nx := 89) rfl rfl ?_
        refine t_ldG dX6_receiveFrom_89 (nx := 90) rfl (ok_m 18 rfl) ⟨by omega, by omega⟩ ?_
        refine v_astore dX6_receiveFrom_90 (nx := 92) rfl rfl (by decide) ?_
        refine v_aload 4 dX6_receiveFrom_92 (nx := 94) rfl rfl ?_
        refine v_aload_n 0 dX6_receiveFrom_94 (nx := 95) rfl rfl ?_
        refine v_iload_n 2 dX6_receiveFrom_95 (nx := 96) rfl rfl ?_
        refine v_aload 4 dX6_receiveFrom_96 (nx := 98) rfl rfl ?_
        refine t_get (a := 5) (p := 0) (T := TX0) dX6_receiveFrom_98 (nx := 101) rfl (by decide) (by first | assumption | exact ok_5 ⟨by omega, by omega⟩) rfl rfl iU0 (by decide) fl_X6_262 rfl ?_
        refine v_top (z' := N (364 + rdyN N G b)) w0 ?_
        refine t_callVi (a := 9) (c_X6_whereAt (RG_up hR ⟨by decide, by decide⟩) p _ (by omega) ⟨by omega, by omega⟩ (by show σ 7 0 0 2 ≤ 8; omega)) dX6_receiveFrom_101 (nx := 104) rfl kX6_whereAt ml_X6_316 (by decide) (ok_m 9 rfl) rfl rfl rfl rfl (Nat.le_of_ble_eq_true rfl) ⟨by decide, by decide⟩ ⟨by decide, by decide⟩ ?_
        refine v_top (z' := whA N p (N (364 + rdyN N G b))) (wh_eq (by rw [← e0]; first | rfl | exact (by unfold up; (repeat (first | rewrite [if_pos (by omega)] | rewrite [if_neg (by omega)] | dsimp only)); (try rfl))) n2 n4 f0 f2 z1) ?_
        refine v_iload_n 2 dX6_receiveFrom_104 (nx := 105) rfl rfl ?_
        refine t_callVv (a := 5) (c_X0_put _ (by omega) _ _) dX6_receiveFrom_105 (nx := 108) rfl kX0_put ml_X6_250 (by decide) (by first | assumption | exact ok_5 ⟨by omega, by omega⟩) rfl rfl rfl rfl (Nat.le_of_ble_eq_true rfl) ⟨by decide, by decide⟩ ⟨by decide, by decide⟩ ?_
        refine v_aload 4 dX6_receiveFrom_108 (nx := 110) rfl rfl ?_
        refine v_aload_n 0 dX6_receiveFrom_110 (nx := 111) rfl rfl ?_
        refine t_get (a := 9) (p := 0) (T := TX6) dX6_receiveFrom_111 (nx := 114) rfl (by decide) (ok_m 9 rfl) rfl rfl iU6 (by decide) fl_X6_10 rfl ?_
        refine t_get (a := 7) (p := 8) (T := TX3) dX6_receiveFrom_114 (nx := 117) rfl (by decide) (ok_m 7 rfl) rfl rfl iU3 (by decide) fl_X6_171 rfl ?_
        refine v_top (z' := N 4) n4 ?_
        refine t_put (a := 5) (j := 4) (p := 4) (T := TX0) dX6_receiveFrom_117 (nx := 120) rfl (by decide) (by first | assumption | exact ok_5 ⟨by omega, by omega⟩) rfl rfl iU0 tyX0 tyX0_ok nmX0 (by decide) fl_X6_153 rfl (Or.inl rfl) (Nat.le_of_ble_eq_true rfl) (by rfl) ?_
        refine v_aload 4 dX6_receiveFrom_120 (nx := 122) rfl rfl ?_
        refine v_aload_n 0 dX6_receiveFrom_122 (nx := 123) rfl rfl ?_
        refine t_get (a := 9) (p := 0) (T := TX6) dX6_receiveFrom_123 (nx := 126) rfl (by decide) (ok_m 9 rfl) rfl rfl iU6 (by decide) fl_X6_10 rfl ?_
        refine t_get (a := 7) (p := 8) (T := TX3) dX6_receiveFrom_126 (nx := 129) rfl (by decide) (ok_m 7 rfl) rfl rfl iU3 (by decide) fl_X6_171 rfl ?_
        refine v_top (z' := N 4) n4 ?_
        refine v_iload_n 2 dX6_receiveFrom_129 (nx := 130) rfl rfl ?_
        refine t_callVv (a := 5) (c_X0_addStep (RG_up (RG_up (RG_up (RG_up hR ⟨by decide, by decide⟩) hwR) ⟨by omega, by omega⟩) (show inR (N 4) from ⟨by omega, by omega⟩)) _ (by omega) _ _ (by refine Int.le_trans (show 0 ≤ σ 5 0 (rdyN N G b) 5 by omega) (Int.le_of_eq ?_); exact (by unfold up; (repeat (first | rewrite [if_pos (by omega)] | rewrite [if_neg (by omega)] | dsimp only)); (try rfl)))) dX6_receiveFrom_130 (nx := 133) rfl kX0_addStep ml_X6_253 (by decide) (by first | assumption | exact ok_5 ⟨by omega, by omega⟩) rfl rfl rfl rfl (Nat.le_of_ble_eq_true rfl) ⟨by decide, by decide⟩ ⟨by decide, by decide⟩ ?_
        refine v_iconst dX6_receiveFrom_133 (nx := 134) rfl ?_
        exact t_zret dX6_receiveFrom_134 rfl (by first | exact Or.inl rfl | exact Or.inr rfl | assumption) (by rw [if_pos hr, if_pos hr]; refine ⟨rfl, ?_⟩; unfold tkS at htk; rw [if_pos (by omega)] at htk; exact htk)
      · refine v_aload_n 0 dX6_receiveFrom_68 (nx := 69) rfl rfl ?_
        refine t_get (a := 9) (p := 0) (T := TX6) dX6_receiveFrom_69 (nx := 72) rfl (by decide) (ok_m 9 rfl) rfl rfl iU6 (by decide) fl_X6_10 rfl ?_
        refine t_get (a := 7) (p := 0) (T := TX3) dX6_receiveFrom_72 (nx := 75) rfl (by decide) (ok_m 7 rfl) rfl rfl iU3 (by decide) fl_X6_45 rfl ?_
        refine v_iload_n 2 dX6_receiveFrom_75 (nx := 76) rfl rfl ?_
        refine t_ldP dX6_receiveFrom_76 (nx := 77) rfl (ok_m 15 rfl) ⟨by omega, by omega⟩ ?_
        refine v_iload_n 3 dX6_receiveFrom_77 (nx := 78) rfl rfl ?_
        refine t_callVv (a := 0) (c_X4_join (RG_up hR ⟨by decide, by decide⟩) _ (by omega) _ (by exact ⟨r0.1, hlt (by omega)⟩)) dX6_receiveFrom_78 (nx := 81) rfl kX4_join ml_X6_313 (by decide) (by first | assumption | exact ok_0 ⟨by omega, by omega⟩) rfl rfl rfl rfl (Nat.le_of_ble_eq_true rfl) ⟨by decide, by decide⟩ ⟨by decide, by decide⟩ ?_
        refine v_aload_n 0 dX6_receiveFrom_81 (nx := 82) rfl rfl ?_
        refine t_get (a := 9) (p := 0) (T := TX6) dX6_receiveFrom_82 (nx := 85) rfl (by decide) (ok_m 9 rfl) rfl rfl iU6 (by decide) fl_X6_10 rfl ?_
        refine t_get (a := 7) (p := 3) (T := TX3) dX6_receiveFrom_85 (nx := 88) rfl (by decide) (ok_m 7 rfl) rfl rfl iU3 (by decide) fl_X6_120 rfl ?_
        refine v_iload_n 3 dX6_receiveFrom_88 (nx := 89) rfl rfl ?_
        refine t_ldG dX6_receiveFrom_89 (nx := 90) rfl (ok_m 18 rfl) ⟨by omega, by omega⟩ ?_
        refine v_astore dX6_receiveFrom_90 (nx := 92) rfl rfl (by decide) ?_
        refine v_aload 4 dX6_receiveFrom_92 (nx := 94) rfl rfl ?_
        refine v_aload_n 0 dX6_receiveFrom_94 (nx := 95) rfl rfl ?_
        refine v_iload_n 2 dX6_receiveFrom_95 (nx := 96) rfl rfl ?_
        refine v_aload 4 dX6_receiveFrom_96 (nx := 98) rfl rfl ?_
        refine t_get (a := 5) (p := 0) (T := TX0) dX6_receiveFrom_98 (nx := 101) rfl (by decide) (by first | assumption | exact ok_5 ⟨by omega, by omega⟩) rfl rfl iU0 (by decide) fl_X6_262 rfl ?_
        refine v_top (z' := N (364 + rdyN N G b)) w0 ?_
        refine t_callVi (a := 9) (c_X6_whereAt (RG_up (RG_up (RG_up hR ⟨by decide, by decide⟩) hrR) (show inR (σ 0 0 p 4 + 1) from ⟨by omega, by omega⟩)) p _ (by omega) ⟨by omega, by omega⟩ (by show σ 7 0 0 2 ≤ 8; omega)) dX6_receiveFrom_101 (nx := 104) rfl kX6_whereAt ml_X6_316 (by decide) (ok_m 9 rfl) rfl rfl rfl rfl (Nat.le_of_ble_eq_true rfl) ⟨by decide, by decide⟩ ⟨by decide, by decide⟩ ?_
        refine v_top (z' := whA N p (N (364 + rdyN N G b))) (wh_eq (by rw [← e0]; first | rfl | exact (by unfold up; (repeat (first | rewrite [if_pos (by omega)] | rewrite [if_neg (by omega)] | dsimp only)); (try rfl))) n2 n4 f0 f2 z1) ?_
        refine v_iload_n 2 dX6_receiveFrom_104 (nx := 105) rfl rfl ?_
        refine t_callVv (a := 5) (c_X0_put _ (by omega) _ _) dX6_receiveFrom_105 (nx := 108) rfl kX0_put ml_X6_250 (by decide) (by first | assumption | exact ok_5 ⟨by omega, by omega⟩) rfl rfl rfl rfl (Nat.le_of_ble_eq_true rfl) ⟨by decide, by decide⟩ ⟨by decide, by decide⟩ ?_
        refine v_aload 4 dX6_receiveFrom_108 (nx := 110) rfl rfl ?_
        refine v_aload_n 0 dX6_receiveFrom_110 (nx := 111) rfl rfl ?_
        refine t_get (a := 9) (p := 0) (T := TX6) dX6_receiveFrom_111 (nx := 114) rfl (by decide) (ok_m 9 rfl) rfl rfl iU6 (by decide) fl_X6_10 rfl ?_
        refine t_get (a := 7) (p := 8) (T := TX3) dX6_receiveFrom_114 (nx := 117) rfl (by decide) (ok_m 7 rfl) rfl rfl iU3 (by decide) fl_X6_171 rfl ?_
        refine v_top (z' := N 4) n4 ?_
        refine t_put (a := 5) (j := 4) (p := 4) (T := TX0) dX6_receiveFrom_117 (nx := 120) rfl (by decide) (by first | assumption | exact ok_5 ⟨by omega, by omega⟩) rfl rfl iU0 tyX0 tyX0_ok nmX0 (by decide) fl_X6_153 rfl (Or.inl rfl) (Nat.le_of_ble_eq_true rfl) (by rfl) ?_
        refine v_aload 4 dX6_receiveFrom_120 (nx := 122) rfl rfl ?_
        refine v_aload_n 0 dX6_receiveFrom_122 (nx := 123) rfl rfl ?_
        refine t_get (a := 9) (p := 0) (T := TX6) dX6_receiveFrom_123 (nx := 126) rfl (by decide) (ok_m 9 rfl) rfl rfl iU6 (by decide) fl_X6_10 rfl ?_
        refine t_get (a := 7) (p := 8) (T := TX3) dX6_receiveFrom_126 (nx := 129) rfl (by decide) (ok_m 7 rfl) rfl rfl iU3 (by decide) fl_X6_171 rfl ?_
        refine v_top (z' := N 4) n4 ?_
        refine v_iload_n 2 dX6_receiveFrom_129 (nx := 130) rfl rfl ?_
        refine t_callVv (a := 5) (c_X0_addStep (RG_up (RG_up (RG_up (RG_up (RG_up (RG_up hR ⟨by decide, by decide⟩) hrR) (show inR (σ 0 0 p 4 + 1) from ⟨by omega, by omega⟩)) hwR) ⟨by omega, by omega⟩) (show inR (N 4) from ⟨by omega, by omega⟩)) _ (by omega) _ _ (by refine Int.le_trans (show 0 ≤ σ 5 0 (rdyN N G b) 5 by omega) (Int.le_of_eq ?_); exact (by unfold up; (repeat (first | rewrite [if_pos (by omega)] | rewrite [if_neg (by omega)] | dsimp only)); (try rfl)))) dX6_receiveFrom_130 (nx := 133) rfl kX0_addStep ml_X6_253 (by decide) (by first | assumption | exact ok_5 ⟨by omega, by omega⟩) rfl rfl rfl rfl (Nat.le_of_ble_eq_true rfl) ⟨by decide, by decide⟩ ⟨by decide, by decide⟩ ?_
        refine v_iconst dX6_receiveFrom_133 (nx := 134) rfl ?_
        exact t_zret dX6_receiveFrom_134 rfl (by first | exact Or.inl rfl | exact Or.inr rfl | assumption) (by rw [if_pos hr, if_pos hr]; refine ⟨rfl, ?_⟩; unfold tkS at htk; rw [if_neg (by omega)] at htk; exact htk)
    · refine v_iconst dX6_receiveFrom_37 (nx := 38) rfl ?_
      exact t_zret dX6_receiveFrom_38 rfl (by first | exact Or.inl rfl | exact Or.inr rfl | assumption) (by have hn : ¬ 0 ≤ rdyN N G b := (fun q => by have := (hrv q).1; omega); rw [if_neg hn, if_neg hn]; exact ⟨rfl, TR.refl hH hS hR h8 hF⟩)
  · refine v_iconst dX6_receiveFrom_11 (nx := 12) rfl ?_
    exact t_zret dX6_receiveFrom_12 rfl (by first | exact Or.inl rfl | exact Or.inr rfl | assumption) (by have hn : ¬ 0 ≤ rdyN N G b := (fun q => by have := (hrv q).1; omega); rw [if_neg hn, if_neg hn]; exact ⟨rfl, TR.refl hH hS hR h8 hF⟩)
