theorem lfQ1 {σ : SS} {K G F : NN} {k f : Int} {s : RR} {x : Int} {N' : NN} (h : s = (x, N', 1)) : some (vi x) = some (vi s.1) ∧ ∃ F' : NN, mkS σ N' K G F k (f + 1) = mkS σ s.2.1 K G F' k (f + s.2.2) := by
  subst h; exact ⟨rfl, F, rfl⟩
theorem lfQ0 {σ : SS} {K G F : NN} {k f : Int} {s : RR} {x : Int} {N' : NN} (h : s = (x, N', 0)) : some (vi x) = some (vi s.1) ∧ ∃ F' : NN, mkS σ N' K G F k f = mkS σ s.2.1 K G F' k (f + s.2.2) := by
  subst h; exact ⟨rfl, F, by rw [Int.add_zero]⟩

set_option maxRecDepth 100000 in
theorem c_X7_far {g : GG} {kp : Bool} {σ : SS} {N K G F : Int → Int} {k f : Int} {kk : Int} (hI : IV N kk) (p ch : Int) (hp : inR p) (hc : inR ch) : TC g kp 2 mX7_far [rf g (ad 14 0 0), vi p, vi ch] (mkS σ N K G F k f) (fun r τ => r = some (vi (s_far N p ch).1) ∧ ∃ F' : NN, τ = mkS σ (s_far N p ch).2.1 K G F' k (f + (s_far N p ch).2.2)) := by
  refine TC.of (by decide) (Nat.le_of_ble_eq_true rfl) rfl ?_
  obtain ⟨b0, b1, b2, b3, b4, b5⟩ := hI.n
  have hR := hI.r
  refine v_aload_n 0 dX7_far_0 (nx := 1) rfl rfl ?_
  refine v_iload_n 1 dX7_far_1 (nx := 2) rfl rfl ?_
  refine t_callVi (a := 14) (c_X7_isPoint _ (by assumption) (by omega)) dX7_far_2 (nx := 5) rfl kX7_isPoint ml_X7_35 (by decide) (ok_m 14 rfl) rfl rfl rfl rfl (Nat.le_of_ble_eq_true rfl) ⟨by decide, by decide⟩ ⟨by decide, by decide⟩ ?_
  refine v_ifB_eq dX7_far_5 (tgt := 16) (by decide) (nx := 8) rfl (fun c5 => ?_) (fun c5 => ?_)
  · refine v_aload_n 0 dX7_far_16 (nx := 17) rfl rfl ?_
    refine v_iconst dX7_far_17 (nx := 18) rfl ?_
    refine t_callVi (a := 14) (c_X7_finding _) dX7_far_18 (nx := 21) rfl kX7_finding ml_X7_31 (by decide) (ok_m 14 rfl) rfl rfl rfl rfl (Nat.le_of_ble_eq_true rfl) ⟨by decide, by decide⟩ ⟨by decide, by decide⟩ ?_
    exact t_iret dX7_far_21 rfl (by first | exact lfQ1 (by unfold s_far; (try unfold farS); (try rw [← hFp]); (repeat (first | rewrite [if_pos (by omega)] | rewrite [if_neg (by omega)])); rfl) | exact lfQ0 (by unfold s_far; (try unfold farS); (try rw [← hFp]); (repeat (first | rewrite [if_pos (by omega)] | rewrite [if_neg (by omega)])); rfl) | (exfalso; omega))
  · refine v_aload_n 0 dX7_far_8 (nx := 9) rfl rfl ?_
    refine v_iload_n 2 dX7_far_9 (nx := 10) rfl rfl ?_
    refine t_callVi (a := 14) (c_X7_isPoint _ (by assumption) (by omega)) dX7_far_10 (nx := 13) rfl kX7_isPoint ml_X7_35 (by decide) (ok_m 14 rfl) rfl rfl rfl rfl (Nat.le_of_ble_eq_true rfl) ⟨by decide, by decide⟩ ⟨by decide, by decide⟩ ?_
    refine v_ifB_ne dX7_far_13 (tgt := 22) (by decide) (nx := 16) rfl (fun c13 => ?_) (fun c13 => ?_)
    · refine v_aload_n 0 dX7_far_22 (nx := 23) rfl rfl ?_
      refine v_iload_n 2 dX7_far_23 (nx := 24) rfl rfl ?_
      refine t_callVi (a := 14) (c_X7_kindOf _ (by omega)) dX7_far_24 (nx := 27) rfl kX7_kindOf ml_X7_39 (by decide) (ok_m 14 rfl) rfl rfl rfl rfl (Nat.le_of_ble_eq_true rfl) ⟨by decide, by decide⟩ ⟨by decide, by decide⟩ ?_
      refine v_iconst dX7_far_27 (nx := 28) rfl ?_
      refine v_icmp_eq dX7_far_28 (tgt := 38) (by decide) (nx := 31) rfl (by first | assumption | exact hR _ | exact ⟨by omega, by omega⟩) (by first | assumption | exact hR _ | exact ⟨by omega, by omega⟩) (fun c28 => ?_) (fun c28 => ?_)
      · refine v_aload_n 0 dX7_far_38 (nx := 39) rfl rfl ?_
        refine v_iload_n 2 dX7_far_39 (nx := 40) rfl rfl ?_
        refine t_callVvQ (a := 14) (c_X7_findFar hR _ (by first | assumption | exact hR _) (hI.okF (by omega) (by omega))) dX7_far_40 (nx := 43) rfl kX7_findFar ml_X7_68 (by decide) (ok_m 14 rfl) rfl rfl rfl rfl (Nat.le_of_ble_eq_true rfl) ⟨by decide, by decide⟩ ⟨by decide, by decide⟩ (fun τ hq => ?_)
        obtain ⟨F', hF, rfl⟩ := hq
        have hFp := hF p (by omega) (by omega)
        have hbp := bdF_132 (farI_bd (hI.okF (ch := ch) (by omega) (by omega)) 12) p
        have hsp := farI_sg (hI.okF (ch := ch) (by omega) (by omega)) 12 p
        unfold farS at hFp
        refine v_aload_n 0 dX7_far_43 (nx := 44) rfl rfl ?_
        refine m_gA 13 (p := 5) dX7_far_44 (nx := 47) rfl (by decide) fl_X7_20 rfl ?_
        refine v_iload_n 1 dX7_far_47 (nx := 48) rfl rfl ?_
        refine m_ald13 dX7_far_48 (nx := 49) rfl ⟨by omega, by omega⟩ ?_
        refine v_if_ge dX7_far_49 (tgt := 61) (by decide) (nx := 52) rfl (by first | assumption | exact hR _ | exact ⟨by omega, by omega⟩) (fun c49 => ?_) (fun c49 => ?_)
        · refine v_aload_n 0 dX7_far_61 (nx := 62) rfl rfl ?_
          refine m_gA 13 (p := 5) dX7_far_62 (nx := 65) rfl (by decide) fl_X7_20 rfl ?_
          refine v_iload_n 1 dX7_far_65 (nx := 66) rfl rfl ?_
          refine m_ald13 dX7_far_66 (nx := 67) rfl ⟨by omega, by omega⟩ ?_
          exact t_iret dX7_far_67 rfl (by first | exact lfQ1 (by unfold s_far; (try unfold farS); (try rw [← hFp]); (repeat (first | rewrite [if_pos (by omega)] | rewrite [if_neg (by omega)])); rfl) | exact lfQ0 (by unfold s_far; (try unfold farS); (try rw [← hFp]); (repeat (first | rewrite [if_pos (by omega)] | rewrite [if_neg (by omega)])); rfl) | (exfalso; omega))
        · refine v_aload_n 0 dX7_far_52 (nx := 53) rfl rfl ?_
          refine v_bipush dX7_far_53 (nx := 55) rfl rfl ?_
          refine t_callVi (a := 14) (c_X7_finding _) dX7_far_55 (nx := 58) rfl kX7_finding ml_X7_31 (by decide) (ok_m 14 rfl) rfl rfl rfl rfl (Nat.le_of_ble_eq_true rfl) ⟨by decide, by decide⟩ ⟨by decide, by decide⟩ ?_
          refine v_goto dX7_far_58 (tgt := 67) (by decide) ?_
          exact t_iret dX7_far_67 rfl (by first | exact lfQ1 (by unfold s_far; (try unfold farS); (try rw [← hFp]); (repeat (first | rewrite [if_pos (by omega)] | rewrite [if_neg (by omega)])); rfl) | exact lfQ0 (by unfold s_far; (try unfold farS); (try rw [← hFp]); (repeat (first | rewrite [if_pos (by omega)] | rewrite [if_neg (by omega)])); rfl) | (exfalso; omega))
      · refine v_aload_n 0 dX7_far_31 (nx := 32) rfl rfl ?_
        refine v_bipush dX7_far_32 (nx := 34) rfl rfl ?_
        refine t_callVi (a := 14) (c_X7_finding _) dX7_far_34 (nx := 37) rfl kX7_finding ml_X7_31 (by decide) (ok_m 14 rfl) rfl rfl rfl rfl (Nat.le_of_ble_eq_true rfl) ⟨by decide, by decide⟩ ⟨by decide, by decide⟩ ?_
        exact t_iret dX7_far_37 rfl (by first | exact lfQ1 (by unfold s_far; (try unfold farS); (try rw [← hFp]); (repeat (first | rewrite [if_pos (by omega)] | rewrite [if_neg (by omega)])); rfl) | exact lfQ0 (by unfold s_far; (try unfold farS); (try rw [← hFp]); (repeat (first | rewrite [if_pos (by omega)] | rewrite [if_neg (by omega)])); rfl) | (exfalso; omega))
    · refine v_aload_n 0 dX7_far_16 (nx := 17) rfl rfl ?_
      refine v_iconst dX7_far_17 (nx := 18) rfl ?_
      refine t_callVi (a := 14) (c_X7_finding _) dX7_far_18 (nx := 21) rfl kX7_finding ml_X7_31 (by decide) (ok_m 14 rfl) rfl rfl rfl rfl (Nat.le_of_ble_eq_true rfl) ⟨by decide, by decide⟩ ⟨by decide, by decide⟩ ?_
      exact t_iret dX7_far_21 rfl (by first | exact lfQ1 (by unfold s_far; (try unfold farS); (try rw [← hFp]); (repeat (first | rewrite [if_pos (by omega)] | rewrite [if_neg (by omega)])); rfl) | exact lfQ0 (by unfold s_far; (try unfold farS); (try rw [← hFp]); (repeat (first | rewrite [if_pos (by omega)] | rewrite [if_neg (by omega)])); rfl) | (exfalso; omega))

set_option maxRecDepth 100000 in
theorem l_X7_outletFor {g : GG} {kp : Bool} {σ : SS} {N K G F : Int → Int} {k f : Int} {kk : Int} (hI : IV N kk) (p fl : Int) (hp : inR p) (hfl : 0 ≤ fl ∧ fl < N 2) : ∀ (m : Nat) (x : Int) (c : Int) (e : Int) (F' : NN), (0 ≤ x ∧ x ≤ N 1) → (N 1 - x < m) → (∀ p, 0 ≤ p → p < 12 → F' p = farS N (N (340 + fl)) p) → (c = mnI (fun b => decide (N (68 + b) = p ∧ N (116 + b) ≠ 1 ∧ 0 ≤ farS N (N (340 + fl)) (N (84 + b)))) (fun b => N (100 + b) + farS N (N (340 + fl)) (N (84 + b))) x) → (0 ≤ c → e = (fun b => N (100 + b) + farS N (N (340 + fl)) (N (84 + b))) c) → (inR e) → V g (rmD 2 0 0) mX7_outletFor (ZT g kp ((fun r τ => r = some (vi (outF N p fl)) ∧ ∃ F' : NN, τ = mkS σ N K G F' k f))) E0 22 [(0, rf g (ad 14 0 0)), (1, vi p), (2, vi fl), (3, vi c), (4, vi e), (5, vi x)] [] (vw g kp (mkS σ N K G F' k f)) (sz kp) 0 0 := by
  intro m
  induction m with
  | zero => intro x c e F' hx hm hF hc he heR; exfalso; omega
  | succ m ih =>
    intro x c e F' hx hm hF hc he heR
    obtain ⟨b0, b1, b2, b3, b4, b5⟩ := hI.n
    have hR := hI.r
    have hcb := mnI_b (P := (fun b => decide (N (68 + b) = p ∧ N (116 + b) ≠ 1 ∧ 0 ≤ farS N (N (340 + fl)) (N (84 + b))))) (K := (fun b => N (100 + b) + farS N (N (340 + fl)) (N (84 + b)))) hx.1
    rw [← hc] at hcb
    have hfl2 := hI.f hfl.1 hfl.2
    have hok := hI.okF hfl2.1.1 hfl2.1.2
    refine v_iload 5 dX7_outletFor_22 (nx := 24) rfl rfl ?_
    refine v_aload_n 0 dX7_outletFor_24 (nx := 25) rfl rfl ?_
    refine m_gA 10 (p := 0) dX7_outletFor_25 (nx := 28) rfl (by decide) fl_X7_9 rfl ?_
    refine v_iconst dX7_outletFor_28 (nx := 29) rfl ?_
    refine m_ald10 dX7_outletFor_29 (nx := 30) rfl ⟨by omega, by omega⟩ ?_
    refine v_icmp_ge dX7_outletFor_30 (tgt := 130) (by decide) (nx := 33) rfl (by first | assumption | exact hR _ | exact ⟨by omega, by omega⟩) (by first | assumption | exact hR _ | exact ⟨by omega, by omega⟩) (fun c30 => ?_) (fun c30 => ?_)
    · refine v_iload_n 3 dX7_outletFor_130 (nx := 131) rfl rfl ?_
      exact t_iret dX7_outletFor_131 rfl ⟨by unfold outF bestO; rw [hc, show x = N 1 by omega], F', rfl⟩
    · obtain ⟨q1, q2, q3, q4, q5, q6⟩ := hI.b (b := x) (by omega) (by omega)
      have hFt := hF (N (84 + x)) (by omega) (by omega)
      have hst := farI_sg hok 12 (N (84 + x))
      have hbt := bdF_132 (farI_bd hok 12) (N (84 + x))
      have e0 : farS N (N (340 + fl)) = farI N (N (340 + fl)) 12 := rfl
      rw [← e0] at hst hbt
      refine v_aload_n 0 dX7_outletFor_33 (nx := 34) rfl rfl ?_
      refine m_gA 10 (p := 0) dX7_outletFor_34 (nx := 37) rfl (by decide) fl_X7_9 rfl ?_
      refine v_bipush dX7_outletFor_37 (nx := 39) rfl rfl ?_
      refine v_iload 5 dX7_outletFor_39 (nx := 41) rfl rfl ?_
      refine v_iadd dX7_outletFor_41 (nx := 42) rfl ?_
      refine m_ald10 dX7_outletFor_42 (nx := 43) rfl ⟨by omega, by omega⟩ ?_
      refine v_istore dX7_outletFor_43 (nx := 45) rfl rfl (by decide) ?_
      refine v_aload_n 0 dX7_outletFor_45 (nx := 46) rfl rfl ?_
      refine m_gA 10 (p := 0) dX7_outletFor_46 (nx := 49) rfl (by decide) fl_X7_9 rfl ?_
      refine v_bipush dX7_outletFor_49 (nx := 51) rfl rfl ?_
      refine v_iload 5 dX7_outletFor_51 (nx := 53) rfl rfl ?_
      refine v_iadd dX7_outletFor_53 (nx := 54) rfl ?_
      refine m_ald10 dX7_outletFor_54 (nx := 55) rfl ⟨by omega, by omega⟩ ?_
      refine v_iload_n 1 dX7_outletFor_55 (nx := 56) rfl rfl ?_
      refine v_icmp_ne dX7_outletFor_56 (tgt := 124) (by decide) (nx := 59) rfl (by first | assumption | exact hR _ | exact ⟨by omega, by omega⟩) (by first | assumption | exact hR _ | exact ⟨by omega, by omega⟩) (fun c56 => ?_) (fun c56 => ?_)
      · refine v_iinc 5 dX7_outletFor_124 (nx := 127) rfl rfl rfl (by decide) ?_
        refine v_goto dX7_outletFor_127 (tgt := 22) (by decide) ?_
        exact V.lpick [0, 1, 2, 3, 4, 5] rfl ((ih _ _ _ _ ⟨by omega, by omega⟩ (by omega) hF (mn_f hc hx.1 (by first | exact Or.inl (decide_eq_false (by omega)) | exact Or.inr (by (try dsimp only); omega))) he heR))
      · refine v_aload_n 0 dX7_outletFor_59 (nx := 60) rfl rfl ?_
        refine m_gA 10 (p := 0) dX7_outletFor_60 (nx := 63) rfl (by decide) fl_X7_9 rfl ?_
        refine v_bipush dX7_outletFor_63 (nx := 65) rfl rfl ?_
        refine v_iload 5 dX7_outletFor_65 (nx := 67) rfl rfl ?_
        refine v_iadd dX7_outletFor_67 (nx := 68) rfl ?_
        refine m_ald10 dX7_outletFor_68 (nx := 69) rfl ⟨by omega, by omega⟩ ?_
        refine v_iconst dX7_outletFor_69 (nx := 70) rfl ?_
        refine v_icmp_eq dX7_outletFor_70 (tgt := 124) (by decide) (nx := 73) rfl (by first | assumption | exact hR _ | exact ⟨by omega, by omega⟩) (by first | assumption | exact hR _ | exact ⟨by omega, by omega⟩) (fun c70 => ?_) (fun c70 => ?_)
        · refine v_iinc 5 dX7_outletFor_124 (nx := 127) rfl rfl rfl (by decide) ?_
          refine v_goto dX7_outletFor_127 (tgt := 22) (by decide) ?_
          exact V.lpick [0, 1, 2, 3, 4, 5] rfl ((ih _ _ _ _ ⟨by omega, by omega⟩ (by omega) hF (mn_f hc hx.1 (by first | exact Or.inl (decide_eq_false (by omega)) | exact Or.inr (by (try dsimp only); omega))) he heR))
        · refine v_aload_n 0 dX7_outletFor_73 (nx := 74) rfl rfl ?_
          refine m_gA 13 (p := 5) dX7_outletFor_74 (nx := 77) rfl (by decide) fl_X7_20 rfl ?_
          refine v_iload 6 dX7_outletFor_77 (nx := 79) rfl rfl ?_
          refine m_ald13 dX7_outletFor_79 (nx := 80) rfl ⟨by omega, by omega⟩ ?_
          refine v_if_ge dX7_outletFor_80 (tgt := 86) (by decide) (nx := 83) rfl (by first | assumption | exact hR _ | exact ⟨by omega, by omega⟩) (fun c80 => ?_) (fun c80 => ?_)
          · refine v_aload_n 0 dX7_outletFor_86 (nx := 87) rfl rfl ?_
            refine m_gA 10 (p := 0) dX7_outletFor_87 (nx := 90) rfl (by decide) fl_X7_9 rfl ?_
            refine v_bipush dX7_outletFor_90 (nx := 92) rfl rfl ?_
            refine v_iload 5 dX7_outletFor_92 (nx := 94) rfl rfl ?_
            refine v_iadd dX7_outletFor_94 (nx := 95) rfl ?_
            refine m_ald10 dX7_outletFor_95 (nx := 96) rfl ⟨by omega, by omega⟩ ?_
            refine v_aload_n 0 dX7_outletFor_96 (nx := 97) rfl rfl ?_
            refine m_gA 13 (p := 5) dX7_outletFor_97 (nx := 100) rfl (by decide) fl_X7_20 rfl ?_
            refine v_iload 6 dX7_outletFor_100 (nx := 102) rfl rfl ?_
            refine m_ald13 dX7_outletFor_102 (nx := 103) rfl ⟨by omega, by omega⟩ ?_
            refine v_iadd dX7_outletFor_103 (nx := 104) rfl ?_
            refine v_istore dX7_outletFor_104 (nx := 106) rfl rfl (by decide) ?_
            refine v_iload_n 3 dX7_outletFor_106 (nx := 107) rfl rfl ?_
            refine v_if_lt dX7_outletFor_107 (tgt := 117) (by decide) (nx := 110) rfl (by first | assumption | exact hR _ | exact ⟨by omega, by omega⟩) (fun c107 => ?_) (fun c107 => ?_)
            · refine v_iload 5 dX7_outletFor_117 (nx := 119) rfl rfl ?_
              refine v_istore_n dX7_outletFor_119 (nx := 120) rfl rfl (by decide) ?_
              refine v_iload 7 dX7_outletFor_120 (nx := 122) rfl rfl ?_
              refine v_istore dX7_outletFor_122 (nx := 124) rfl rfl (by decide) ?_
              refine v_iinc 5 dX7_outletFor_124 (nx := 127) rfl rfl rfl (by decide) ?_
              refine v_goto dX7_outletFor_127 (tgt := 22) (by decide) ?_
              exact V.lpick [0, 1, 2, 3, 4, 5] rfl ((ih _ _ _ _ ⟨by omega, by omega⟩ (by omega) hF (mn_t hc hx.1 (decide_eq_true (by omega)) (by (try dsimp only); omega)) (fun _ => by (try dsimp only); rw [hFt]) ⟨by omega, by omega⟩))
            · have he1 := he (by omega)
              dsimp only at he1
              refine v_iload 7 dX7_outletFor_110 (nx := 112) rfl rfl ?_
              refine v_iload 4 dX7_outletFor_112 (nx := 114) rfl rfl ?_
              refine v_icmp_ge dX7_outletFor_114 (tgt := 124) (by decide) (nx := 117) rfl (by first | assumption | exact hR _ | exact ⟨by omega, by omega⟩) (by first | assumption | exact hR _ | exact ⟨by omega, by omega⟩) (fun c114 => ?_) (fun c114 => ?_)
              · refine v_iinc 5 dX7_outletFor_124 (nx := 127) rfl rfl rfl (by decide) ?_
                refine v_goto dX7_outletFor_127 (tgt := 22) (by decide) ?_
                exact V.lpick [0, 1, 2, 3, 4, 5] rfl ((ih _ _ _ _ ⟨by omega, by omega⟩ (by omega) hF (mn_f hc hx.1 (by first | exact Or.inl (decide_eq_false (by omega)) | exact Or.inr (by (try dsimp only); omega))) he heR))
              · refine v_iload 5 dX7_outletFor_117 (nx := 119) rfl rfl ?_
                refine v_istore_n dX7_outletFor_119 (nx := 120) rfl rfl (by decide) ?_
                refine v_iload 7 dX7_outletFor_120 (nx := 122) rfl rfl ?_
                refine v_istore dX7_outletFor_122 (nx := 124) rfl rfl (by decide) ?_
                refine v_iinc 5 dX7_outletFor_124 (nx := 127) rfl rfl rfl (by decide) ?_
                refine v_goto dX7_outletFor_127 (tgt := 22) (by decide) ?_
                exact V.lpick [0, 1, 2, 3, 4, 5] rfl ((ih _ _ _ _ ⟨by omega, by omega⟩ (by omega) hF (mn_t hc hx.1 (decide_eq_true (by omega)) (by (try dsimp only); omega)) (fun _ => by (try dsimp only); rw [hFt]) ⟨by omega, by omega⟩))
          · refine v_goto dX7_outletFor_83 (tgt := 124) (by decide) ?_
            refine v_iinc 5 dX7_outletFor_124 (nx := 127) rfl rfl rfl (by decide) ?_
            refine v_goto dX7_outletFor_127 (tgt := 22) (by decide) ?_
            exact V.lpick [0, 1, 2, 3, 4, 5] rfl ((ih _ _ _ _ ⟨by omega, by omega⟩ (by omega) hF (mn_f hc hx.1 (by first | exact Or.inl (decide_eq_false (by omega)) | exact Or.inr (by (try dsimp only); omega))) he heR))

set_option maxRecDepth 100000 in
theorem c_X7_outletFor {g : GG} {kp : Bool} {σ : SS} {N K G F : Int → Int} {k f : Int} {kk : Int} (hI : IV N kk) (p fl : Int) (hp : inR p) (hfl : 0 ≤ fl ∧ fl < N 2) : TC g kp 2 mX7_outletFor [rf g (ad 14 0 0), vi p, vi fl] (mkS σ N K G F k f) (fun r τ => r = some (vi (outF N p fl)) ∧ ∃ F' : NN, τ = mkS σ N K G F' k f) := by
  refine TC.of (by decide) (Nat.le_of_ble_eq_true rfl) rfl ?_
  obtain ⟨b0, b1, b2, b3, b4, b5⟩ := hI.n
  have hR := hI.r
  have hfl2 := hI.f hfl.1 hfl.2
  refine v_aload_n 0 dX7_outletFor_0 (nx := 1) rfl rfl ?_
  refine v_aload_n 0 dX7_outletFor_1 (nx := 2) rfl rfl ?_
  refine m_gA 10 (p := 0) dX7_outletFor_2 (nx := 5) rfl (by decide) fl_X7_9 rfl ?_
  refine v_sipush dX7_outletFor_5 (nx := 8) rfl rfl ?_
  refine v_iload_n 2 dX7_outletFor_8 (nx := 9) rfl rfl ?_
  refine v_iadd dX7_outletFor_9 (nx := 10) rfl ?_
  refine m_ald10 dX7_outletFor_10 (nx := 11) rfl ⟨by omega, by omega⟩ ?_
  refine t_callVvQ (a := 14) (c_X7_findFar hR _ (hR _) (hI.okF hfl2.1.1 hfl2.1.2)) dX7_outletFor_11 (nx := 14) rfl kX7_findFar ml_X7_68 (by decide) (ok_m 14 rfl) rfl rfl rfl rfl (Nat.le_of_ble_eq_true rfl) ⟨by decide, by decide⟩ ⟨by decide, by decide⟩ (fun τ hq => ?_)
  obtain ⟨F', hF, rfl⟩ := hq
  refine v_iconst dX7_outletFor_14 (nx := 15) rfl ?_
  refine v_istore_n dX7_outletFor_15 (nx := 16) rfl rfl (by decide) ?_
  refine v_iconst dX7_outletFor_16 (nx := 17) rfl ?_
  refine v_istore dX7_outletFor_17 (nx := 19) rfl rfl (by decide) ?_
  refine v_iconst dX7_outletFor_19 (nx := 20) rfl ?_
  refine v_istore dX7_outletFor_20 (nx := 22) rfl rfl (by decide) ?_
  exact (l_X7_outletFor (F := F) hI p fl hp hfl (N 1 + 1).toNat 0 (-1) 0 F' ⟨by omega, by omega⟩ (by omega) hF rfl (fun q => by omega) ⟨by omega, by omega⟩)

set_option maxRecDepth 100000 in
theorem c_X7_route {g : GG} {kp : Bool} {σ : SS} {N K G F : Int → Int} {k f : Int} {kk : Int} (hI : IV N kk) (p fl : Int) (hp : inR p) (hfl : inR fl) : TC g kp 3 mX7_route [rf g (ad 14 0 0), vi p, vi fl] (mkS σ N K G F k f) (fun r τ => r = some (vi (s_route N p fl).1) ∧ ∃ F' : NN, τ = mkS σ (s_route N p fl).2.1 K G F' k (f + (s_route N p fl).2.2)) := by
  refine TC.of (by decide) (Nat.le_of_ble_eq_true rfl) rfl ?_
  obtain ⟨b0, b1, b2, b3, b4, b5⟩ := hI.n
  have hR := hI.r
  refine v_aload_n 0 dX7_route_0 (nx := 1) rfl rfl ?_
  refine v_iload_n 1 dX7_route_1 (nx := 2) rfl rfl ?_
  refine t_callVi (a := 14) (c_X7_isPoint _ (by assumption) (by omega)) dX7_route_2 (nx := 5) rfl kX7_isPoint ml_X7_35 (by decide) (ok_m 14 rfl) rfl rfl rfl rfl (Nat.le_of_ble_eq_true rfl) ⟨by decide, by decide⟩ ⟨by decide, by decide⟩ ?_
  refine v_ifB_eq dX7_route_5 (tgt := 16) (by decide) (nx := 8) rfl (fun c5 => ?_) (fun c5 => ?_)
  · refine v_aload_n 0 dX7_route_16 (nx := 17) rfl rfl ?_
    refine v_iconst dX7_route_17 (nx := 18) rfl ?_
    refine t_callVi (a := 14) (c_X7_finding _) dX7_route_18 (nx := 21) rfl kX7_finding ml_X7_31 (by decide) (ok_m 14 rfl) rfl rfl rfl rfl (Nat.le_of_ble_eq_true rfl) ⟨by decide, by decide⟩ ⟨by decide, by decide⟩ ?_
    exact t_iret dX7_route_21 rfl (by first | exact lfQ1 (by unfold s_route; (repeat (first | rewrite [if_pos (by omega)] | rewrite [if_neg (by omega)])); rfl) | exact lfQ0 (by unfold s_route; (repeat (first | rewrite [if_pos (by omega)] | rewrite [if_neg (by omega)])); rfl) | (exfalso; omega))
  · refine v_aload_n 0 dX7_route_8 (nx := 9) rfl rfl ?_
    refine v_iload_n 2 dX7_route_9 (nx := 10) rfl rfl ?_
    refine t_callVi (a := 14) (c_X7_isFlight _ (by assumption) (by omega)) dX7_route_10 (nx := 13) rfl kX7_isFlight ml_X7_49 (by decide) (ok_m 14 rfl) rfl rfl rfl rfl (Nat.le_of_ble_eq_true rfl) ⟨by decide, by decide⟩ ⟨by decide, by decide⟩ ?_
    refine v_ifB_ne dX7_route_13 (tgt := 22) (by decide) (nx := 16) rfl (fun c13 => ?_) (fun c13 => ?_)
    · refine v_aload_n 0 dX7_route_22 (nx := 23) rfl rfl ?_
      refine v_iload_n 1 dX7_route_23 (nx := 24) rfl rfl ?_
      refine t_callVi (a := 14) (c_X7_kindOf _ (by omega)) dX7_route_24 (nx := 27) rfl kX7_kindOf ml_X7_39 (by decide) (ok_m 14 rfl) rfl rfl rfl rfl (Nat.le_of_ble_eq_true rfl) ⟨by decide, by decide⟩ ⟨by decide, by decide⟩ ?_
      refine v_iconst dX7_route_27 (nx := 28) rfl ?_
      refine v_icmp_eq dX7_route_28 (tgt := 38) (by decide) (nx := 31) rfl (by first | assumption | exact hR _ | exact ⟨by omega, by omega⟩) (by first | assumption | exact hR _ | exact ⟨by omega, by omega⟩) (fun c28 => ?_) (fun c28 => ?_)
      · refine v_aload_n 0 dX7_route_38 (nx := 39) rfl rfl ?_
        refine v_iload_n 1 dX7_route_39 (nx := 40) rfl rfl ?_
        refine v_iload_n 2 dX7_route_40 (nx := 41) rfl rfl ?_
        refine t_callViQ (a := 14) (c_X7_outletFor hI _ _ (by assumption) (by omega)) dX7_route_41 (nx := 44) rfl kX7_outletFor ml_X7_72 (by decide) (ok_m 14 rfl) rfl rfl rfl rfl (Nat.le_of_ble_eq_true rfl) ⟨by decide, by decide⟩ ⟨by decide, by decide⟩ (fun τ hq => ?_)
        obtain ⟨F', rfl⟩ := hq
        have hob : outF N p fl = -1 ∨ (0 ≤ outF N p fl ∧ outF N p fl < N 1) := mnI_b b1.1
        refine v_istore_n dX7_route_44 (nx := 45) rfl rfl (by decide) ?_
        refine v_iload_n 3 dX7_route_45 (nx := 46) rfl rfl ?_
        refine v_if_ge dX7_route_46 (tgt := 58) (by decide) (nx := 49) rfl (by first | assumption | exact hR _ | exact ⟨by omega, by omega⟩) (fun c46 => ?_) (fun c46 => ?_)
        · refine v_iload_n 3 dX7_route_58 (nx := 59) rfl rfl ?_
          exact t_iret dX7_route_59 rfl (by first | exact lfQ1 (by unfold s_route; (repeat (first | rewrite [if_pos (by omega)] | rewrite [if_neg (by omega)])); rfl) | exact lfQ0 (by unfold s_route; (repeat (first | rewrite [if_pos (by omega)] | rewrite [if_neg (by omega)])); rfl) | (exfalso; omega))
        · refine v_aload_n 0 dX7_route_49 (nx := 50) rfl rfl ?_
          refine v_bipush dX7_route_50 (nx := 52) rfl rfl ?_
          refine t_callVi (a := 14) (c_X7_finding _) dX7_route_52 (nx := 55) rfl kX7_finding ml_X7_31 (by decide) (ok_m 14 rfl) rfl rfl rfl rfl (Nat.le_of_ble_eq_true rfl) ⟨by decide, by decide⟩ ⟨by decide, by decide⟩ ?_
          refine v_goto dX7_route_55 (tgt := 59) (by decide) ?_
          exact t_iret dX7_route_59 rfl (by first | exact lfQ1 (by unfold s_route; (repeat (first | rewrite [if_pos (by omega)] | rewrite [if_neg (by omega)])); rfl) | exact lfQ0 (by unfold s_route; (repeat (first | rewrite [if_pos (by omega)] | rewrite [if_neg (by omega)])); rfl) | (exfalso; omega))
      · refine v_aload_n 0 dX7_route_31 (nx := 32) rfl rfl ?_
        refine v_bipush dX7_route_32 (nx := 34) rfl rfl ?_
        refine t_callVi (a := 14) (c_X7_finding _) dX7_route_34 (nx := 37) rfl kX7_finding ml_X7_31 (by decide) (ok_m 14 rfl) rfl rfl rfl rfl (Nat.le_of_ble_eq_true rfl) ⟨by decide, by decide⟩ ⟨by decide, by decide⟩ ?_
        exact t_iret dX7_route_37 rfl (by first | exact lfQ1 (by unfold s_route; (repeat (first | rewrite [if_pos (by omega)] | rewrite [if_neg (by omega)])); rfl) | exact lfQ0 (by unfold s_route; (repeat (first | rewrite [if_pos (by omega)] | rewrite [if_neg (by omega)])); rfl) | (exfalso; omega))
    · refine v_aload_n 0 dX7_route_16 (nx := 17) rfl rfl ?_
      refine v_iconst dX7_route_17 (nx := 18) rfl ?_
      refine t_callVi (a := 14) (c_X7_finding _) dX7_route_18 (nx := 21) rfl kX7_finding ml_X7_31 (by decide) (ok_m 14 rfl) rfl rfl rfl rfl (Nat.le_of_ble_eq_true rfl) ⟨by decide, by decide⟩ ⟨by decide, by decide⟩ ?_
      exact t_iret dX7_route_21 rfl (by first | exact lfQ1 (by unfold s_route; (repeat (first | rewrite [if_pos (by omega)] | rewrite [if_neg (by omega)])); rfl) | exact lfQ0 (by unfold s_route; (repeat (first | rewrite [if_pos (by omega)] | rewrite [if_neg (by omega)])); rfl) | (exfalso; omega))

set_option maxRecDepth 100000 in
theorem c_X7_isFree {g : GG} {kp : Bool} {σ : SS} {N K G F : Int → Int} {k f : Int} (hR : ∀ j, inR (N j)) (b : Int) (hb : b = -1 ∨ (0 ≤ b ∧ b < 16)) : XC g kp 0 mX7_isFree [rf g (ad 14 0 0), vi b] (mkS σ N K G F k f) (some (vi (if freeB N b = true then 1 else 0))) (mkS σ N K G F k f) := by
  refine TC.of (by decide) (Nat.le_of_ble_eq_true rfl) rfl ?_
  refine v_iload_n 1 dX7_isFree_0 (nx := 1) rfl rfl ?_
  refine v_if_lt dX7_isFree_1 (tgt := 36) (by decide) (nx := 4) rfl (by first | assumption | exact hR _ | exact ⟨by omega, by omega⟩) (fun c1 => ?_) (fun c1 => ?_)
  · refine v_iconst dX7_isFree_36 (nx := 37) rfl ?_
    exact t_zret dX7_isFree_37 rfl (by first | exact Or.inl rfl | exact Or.inr rfl | assumption) ⟨by unfold freeB; first | rw [if_pos (decide_eq_true (by omega))] | rw [if_neg (fun q => absurd (of_decide_eq_true q) (by omega))], rfl⟩
  · have hb2 : 0 ≤ b ∧ b < 16 := by omega
    refine v_aload_n 0 dX7_isFree_4 (nx := 5) rfl rfl ?_
    refine m_gA 10 (p := 0) dX7_isFree_5 (nx := 8) rfl (by decide) fl_X7_9 rfl ?_
    refine v_bipush dX7_isFree_8 (nx := 10) rfl rfl ?_
    refine v_iload_n 1 dX7_isFree_10 (nx := 11) rfl rfl ?_
    refine v_iadd dX7_isFree_11 (nx := 12) rfl ?_
    refine m_ald10 dX7_isFree_12 (nx := 13) rfl ⟨by omega, by omega⟩ ?_
    refine v_if_ne dX7_isFree_13 (tgt := 36) (by decide) (nx := 16) rfl (by first | assumption | exact hR _ | exact ⟨by omega, by omega⟩) (fun c13 => ?_) (fun c13 => ?_)
    · refine v_iconst dX7_isFree_36 (nx := 37) rfl ?_
      exact t_zret dX7_isFree_37 rfl (by first | exact Or.inl rfl | exact Or.inr rfl | assumption) ⟨by unfold freeB; first | rw [if_pos (decide_eq_true (by omega))] | rw [if_neg (fun q => absurd (of_decide_eq_true q) (by omega))], rfl⟩
    · refine v_aload_n 0 dX7_isFree_16 (nx := 17) rfl rfl ?_
      refine m_gA 10 (p := 0) dX7_isFree_17 (nx := 20) rfl (by decide) fl_X7_9 rfl ?_
      have e12 : 148 + 12 * b = 148 + 12 * b := rfl
      refine v_sipush dX7_isFree_20 (nx := 23) rfl rfl ?_
      refine v_bipush dX7_isFree_23 (nx := 25) rfl rfl ?_
      refine v_iload_n 1 dX7_isFree_25 (nx := 26) rfl rfl ?_
      refine v_imul dX7_isFree_26 (nx := 27) rfl ?_
      refine v_iadd dX7_isFree_27 (nx := 28) rfl ?_
      refine m_ald10 dX7_isFree_28 (nx := 29) rfl ⟨by omega, by omega⟩ ?_
      refine v_if_ne dX7_isFree_29 (tgt := 36) (by decide) (nx := 32) rfl (by first | assumption | exact hR _ | exact ⟨by omega, by omega⟩) (fun c29 => ?_) (fun c29 => ?_)
      · refine v_iconst dX7_isFree_36 (nx := 37) rfl ?_
        exact t_zret dX7_isFree_37 rfl (by first | exact Or.inl rfl | exact Or.inr rfl | assumption) ⟨by unfold freeB; first | rw [if_pos (decide_eq_true (by omega))] | rw [if_neg (fun q => absurd (of_decide_eq_true q) (by omega))], rfl⟩
      · refine v_iconst dX7_isFree_32 (nx := 33) rfl ?_
        refine v_goto dX7_isFree_33 (tgt := 37) (by decide) ?_
        exact t_zret dX7_isFree_37 rfl (by first | exact Or.inl rfl | exact Or.inr rfl | assumption) ⟨by unfold freeB; first | rw [if_pos (decide_eq_true (by omega))] | rw [if_neg (fun q => absurd (of_decide_eq_true q) (by omega))], rfl⟩

set_option maxRecDepth 100000 in
theorem c_X7_put {g : GG} {kp : Bool} {σ : SS} {N K G F : Int → Int} {k f : Int} (hR : ∀ j, inR (N j)) (x b : Int) (hx : 0 ≤ x ∧ x < 60) (hb : b = -1 ∨ (0 ≤ b ∧ b < 16)) : XC g kp 1 mX7_put [rf g (ad 14 0 0), vi x, vi b] (mkS σ N K G F k f) (some (vi (if freeB N b = true then 1 else 0))) (if freeB N b = true then mkS σ (putN N x b) K (uI G x 1) F k f else mkS σ N K G F k f) := by
  refine TC.of (by decide) (Nat.le_of_ble_eq_true rfl) rfl ?_
  refine v_aload_n 0 dX7_put_0 (nx := 1) rfl rfl ?_
  refine v_iload_n 2 dX7_put_1 (nx := 2) rfl rfl ?_
  refine t_callVi (a := 14) (c_X7_isFree hR _ hb) dX7_put_2 (nx := 5) rfl kX7_isFree ml_X7_75 (by decide) (ok_m 14 rfl) rfl rfl rfl rfl (Nat.le_of_ble_eq_true rfl) ⟨by decide, by decide⟩ ⟨by decide, by decide⟩ ?_
  refine v_ifB_ne dX7_put_5 (tgt := 10) (by decide) (nx := 8) rfl (fun c5 => ?_) (fun c5 => ?_)
  · have hfb := of_decide_eq_true c5
    refine v_aload_n 0 dX7_put_10 (nx := 11) rfl rfl ?_
    refine m_gA 10 (p := 0) dX7_put_11 (nx := 14) rfl (by decide) fl_X7_9 rfl ?_
    refine v_sipush dX7_put_14 (nx := 17) rfl rfl ?_
    refine v_bipush dX7_put_17 (nx := 19) rfl rfl ?_
    refine v_iload_n 2 dX7_put_19 (nx := 20) rfl rfl ?_
    refine v_imul dX7_put_20 (nx := 21) rfl ?_
    refine v_iadd dX7_put_21 (nx := 22) rfl ?_
    refine v_iload_n 1 dX7_put_22 (nx := 23) rfl rfl ?_
    refine v_iconst dX7_put_23 (nx := 24) rfl ?_
    refine v_iadd dX7_put_24 (nx := 25) rfl ?_
    refine m_ast10 dX7_put_25 (nx := 26) rfl ⟨by omega, by omega⟩ ?_
    refine v_aload_n 0 dX7_put_26 (nx := 27) rfl rfl ?_
    refine v_iload_n 1 dX7_put_27 (nx := 28) rfl rfl ?_
    refine v_iconst dX7_put_28 (nx := 29) rfl ?_
    refine v_iload_n 2 dX7_put_29 (nx := 30) rfl rfl ?_
    refine v_iconst dX7_put_30 (nx := 31) rfl ?_
    refine t_callVv (a := 14) (c_X7_lies _ _ _ _ hx) dX7_put_31 (nx := 34) rfl kX7_lies ml_X7_45 (by decide) (ok_m 14 rfl) rfl rfl rfl rfl (Nat.le_of_ble_eq_true rfl) ⟨by decide, by decide⟩ ⟨by decide, by decide⟩ ?_
    refine v_aload_n 0 dX7_put_34 (nx := 35) rfl rfl ?_
    refine m_gA 12 (p := 4) dX7_put_35 (nx := 38) rfl (by decide) fl_X7_16 rfl ?_
    refine v_iload_n 1 dX7_put_38 (nx := 39) rfl rfl ?_
    refine v_iconst dX7_put_39 (nx := 40) rfl ?_
    refine m_zst dX7_put_40 (nx := 41) rfl ⟨by omega, by omega⟩ (by first | exact Or.inl rfl | exact Or.inr rfl) ?_
    refine v_iconst dX7_put_41 (nx := 42) rfl ?_
    exact t_zret dX7_put_42 rfl (by first | exact Or.inl rfl | exact Or.inr rfl | assumption) (by first | (rw [if_pos c5, if_pos c5]; exact ⟨rfl, rfl⟩) | (rw [if_neg c5, if_neg c5]; exact ⟨rfl, rfl⟩))
  · refine v_iconst dX7_put_8 (nx := 9) rfl ?_
    exact t_zret dX7_put_9 rfl (by first | exact Or.inl rfl | exact Or.inr rfl | assumption) (by first | (rw [if_pos c5, if_pos c5]; exact ⟨rfl, rfl⟩) | (rw [if_neg c5, if_neg c5]; exact ⟨rfl, rfl⟩))

set_option maxRecDepth 100000 in
theorem l_X7_firstWaiting {g : GG} {kp : Bool} {σ : SS} {N K G F : Int → Int} {k f : Int} {kk : Int} (hI : IV N kk) (p : Int) (hp : inR p) : ∀ (m : Nat) (x c : Int), (0 ≤ x ∧ x ≤ N 3) → (N 3 - x < m) → (c = mnI (wP N 0 p) (fun g => N (604 + g)) x) → V g (rmD 0 0 0) mX7_firstWaiting (ZT g kp (fun r τ => r = (some (vi (fstW N p))) ∧ τ = (mkS σ N K G F k f))) E0 4 [(0, rf g (ad 14 0 0)), (1, vi p), (2, vi c), (3, vi x)] [] (vw g kp (mkS σ N K G F k f)) (sz kp) 0 0 := by
  intro m
  induction m with
  | zero => intro x c hx hm hc; exfalso; omega
  | succ m ih =>
    intro x c hx hm hc
    obtain ⟨b0, b1, b2, b3, b4, b5⟩ := hI.n
    have hR := hI.r
    have hcb := mnI_b (P := (wP N 0 p)) (K := (fun g => N (604 + g))) hx.1
    rw [← hc] at hcb
    refine v_iload_n 3 dX7_firstWaiting_4 (nx := 5) rfl rfl ?_
    refine v_aload_n 0 dX7_firstWaiting_5 (nx := 6) rfl rfl ?_
    refine m_gA 10 (p := 0) dX7_firstWaiting_6 (nx := 9) rfl (by decide) fl_X7_9 rfl ?_
    refine v_iconst dX7_firstWaiting_9 (nx := 10) rfl ?_
    refine m_ald10 dX7_firstWaiting_10 (nx := 11) rfl ⟨by omega, by omega⟩ ?_
    refine v_icmp_ge dX7_firstWaiting_11 (tgt := 92) (by decide) (nx := 14) rfl (by first | assumption | exact hR _ | exact ⟨by omega, by omega⟩) (by first | assumption | exact hR _ | exact ⟨by omega, by omega⟩) (fun c11 => ?_) (fun c11 => ?_)
    · refine v_iload_n 2 dX7_firstWaiting_92 (nx := 93) rfl rfl ?_
      exact t_iret dX7_firstWaiting_93 rfl ⟨by unfold fstW; rw [hc, show x = N 3 by omega], rfl⟩
    · obtain ⟨gq, -⟩ := hI.g (g := x) (by omega) (by omega)
      refine v_aload_n 0 dX7_firstWaiting_14 (nx := 15) rfl rfl ?_
      refine m_gA 10 (p := 0) dX7_firstWaiting_15 (nx := 18) rfl (by decide) fl_X7_9 rfl ?_
      refine v_sipush dX7_firstWaiting_18 (nx := 21) rfl rfl ?_
      refine v_iload_n 3 dX7_firstWaiting_21 (nx := 22) rfl rfl ?_
      refine v_iadd dX7_firstWaiting_22 (nx := 23) rfl ?_
      refine m_ald10 dX7_firstWaiting_23 (nx := 24) rfl ⟨by omega, by omega⟩ ?_
      refine v_if_ne dX7_firstWaiting_24 (tgt := 45) (by decide) (nx := 27) rfl (by first | assumption | exact hR _ | exact ⟨by omega, by omega⟩) (fun c24 => ?_) (fun c24 => ?_)
      · refine v_iconst dX7_firstWaiting_45 (nx := 46) rfl ?_
        refine v_istore dX7_firstWaiting_46 (nx := 48) rfl rfl (by decide) ?_
        refine v_iload 4 dX7_firstWaiting_48 (nx := 50) rfl rfl ?_
        refine v_if_eq dX7_firstWaiting_50 (tgt := 84) (by decide) (nx := 53) rfl (by first | assumption | exact hR _ | exact ⟨by omega, by omega⟩) (fun c50 => ?_) (fun c50 => ?_)
        · refine v_iload_n 2 dX7_firstWaiting_84 (nx := 85) rfl rfl ?_
          refine v_istore_n dX7_firstWaiting_85 (nx := 86) rfl rfl (by decide) ?_
          refine v_iinc 3 dX7_firstWaiting_86 (nx := 89) rfl rfl rfl (by decide) ?_
          refine v_goto dX7_firstWaiting_89 (tgt := 4) (by decide) ?_
          exact V.lpick [0, 1, 2, 3] rfl ((ih _ _ ⟨by omega, by omega⟩ (by omega) (mn_f hc hx.1 (by first | exact Or.inl (decide_eq_false (by omega)) | exact Or.inr (by (try dsimp only); omega)))))
        · exfalso; omega
      · refine v_aload_n 0 dX7_firstWaiting_27 (nx := 28) rfl rfl ?_
        refine m_gA 10 (p := 0) dX7_firstWaiting_28 (nx := 31) rfl (by decide) fl_X7_9 rfl ?_
        refine v_sipush dX7_firstWaiting_31 (nx := 34) rfl rfl ?_
        refine v_iload_n 3 dX7_firstWaiting_34 (nx := 35) rfl rfl ?_
        refine v_iadd dX7_firstWaiting_35 (nx := 36) rfl ?_
        refine m_ald10 dX7_firstWaiting_36 (nx := 37) rfl ⟨by omega, by omega⟩ ?_
        refine v_iload_n 1 dX7_firstWaiting_37 (nx := 38) rfl rfl ?_
        refine v_icmp_ne dX7_firstWaiting_38 (tgt := 45) (by decide) (nx := 41) rfl (by first | assumption | exact hR _ | exact ⟨by omega, by omega⟩) (by first | assumption | exact hR _ | exact ⟨by omega, by omega⟩) (fun c38 => ?_) (fun c38 => ?_)
        · refine v_iconst dX7_firstWaiting_45 (nx := 46) rfl ?_
          refine v_istore dX7_firstWaiting_46 (nx := 48) rfl rfl (by decide) ?_
          refine v_iload 4 dX7_firstWaiting_48 (nx := 50) rfl rfl ?_
          refine v_if_eq dX7_firstWaiting_50 (tgt := 84) (by decide) (nx := 53) rfl (by first | assumption | exact hR _ | exact ⟨by omega, by omega⟩) (fun c50 => ?_) (fun c50 => ?_)
          · refine v_iload_n 2 dX7_firstWaiting_84 (nx := 85) rfl rfl ?_
            refine v_istore_n dX7_firstWaiting_85 (nx := 86) rfl rfl (by decide) ?_
            refine v_iinc 3 dX7_firstWaiting_86 (nx := 89) rfl rfl rfl (by decide) ?_
            refine v_goto dX7_firstWaiting_89 (tgt := 4) (by decide) ?_
            exact V.lpick [0, 1, 2, 3] rfl ((ih _ _ ⟨by omega, by omega⟩ (by omega) (mn_f hc hx.1 (by first | exact Or.inl (decide_eq_false (by omega)) | exact Or.inr (by (try dsimp only); omega)))))
          · exfalso; omega
        · refine v_iconst dX7_firstWaiting_41 (nx := 42) rfl ?_
          refine v_goto dX7_firstWaiting_42 (tgt := 46) (by decide) ?_
          refine v_istore dX7_firstWaiting_46 (nx := 48) rfl rfl (by decide) ?_
          refine v_iload 4 dX7_firstWaiting_48 (nx := 50) rfl rfl ?_
          refine v_if_eq dX7_firstWaiting_50 (tgt := 84) (by decide) (nx := 53) rfl (by first | assumption | exact hR _ | exact ⟨by omega, by omega⟩) (fun c50 => ?_) (fun c50 => ?_)
          · exfalso; omega
          · refine v_iload_n 2 dX7_firstWaiting_53 (nx := 54) rfl rfl ?_
            refine v_if_lt dX7_firstWaiting_54 (tgt := 80) (by decide) (nx := 57) rfl (by first | assumption | exact hR _ | exact ⟨by omega, by omega⟩) (fun c54 => ?_) (fun c54 => ?_)
            · refine v_iload_n 3 dX7_firstWaiting_80 (nx := 81) rfl rfl ?_
              refine v_goto dX7_firstWaiting_81 (tgt := 85) (by decide) ?_
              refine v_istore_n dX7_firstWaiting_85 (nx := 86) rfl rfl (by decide) ?_
              refine v_iinc 3 dX7_firstWaiting_86 (nx := 89) rfl rfl rfl (by decide) ?_
              refine v_goto dX7_firstWaiting_89 (tgt := 4) (by decide) ?_
              exact V.lpick [0, 1, 2, 3] rfl ((ih _ _ ⟨by omega, by omega⟩ (by omega) (mn_t hc hx.1 (decide_eq_true (by omega)) (by (try dsimp only); omega))))
            · refine v_aload_n 0 dX7_firstWaiting_57 (nx := 58) rfl rfl ?_
              refine m_gA 10 (p := 0) dX7_firstWaiting_58 (nx := 61) rfl (by decide) fl_X7_9 rfl ?_
              refine v_sipush dX7_firstWaiting_61 (nx := 64) rfl rfl ?_
              refine v_iload_n 3 dX7_firstWaiting_64 (nx := 65) rfl rfl ?_
              refine v_iadd dX7_firstWaiting_65 (nx := 66) rfl ?_
              refine m_ald10 dX7_firstWaiting_66 (nx := 67) rfl ⟨by omega, by omega⟩ ?_
              refine v_aload_n 0 dX7_firstWaiting_67 (nx := 68) rfl rfl ?_
              refine m_gA 10 (p := 0) dX7_firstWaiting_68 (nx := 71) rfl (by decide) fl_X7_9 rfl ?_
              refine v_sipush dX7_firstWaiting_71 (nx := 74) rfl rfl ?_
              refine v_iload_n 2 dX7_firstWaiting_74 (nx := 75) rfl rfl ?_
              refine v_iadd dX7_firstWaiting_75 (nx := 76) rfl ?_
              refine m_ald10 dX7_firstWaiting_76 (nx := 77) rfl ⟨by omega, by omega⟩ ?_
              refine v_icmp_ge dX7_firstWaiting_77 (tgt := 84) (by decide) (nx := 80) rfl (by first | assumption | exact hR _ | exact ⟨by omega, by omega⟩) (by first | assumption | exact hR _ | exact ⟨by omega, by omega⟩) (fun c77 => ?_) (fun c77 => ?_)
              · refine v_iload_n 2 dX7_firstWaiting_84 (nx := 85) rfl rfl ?_
                refine v_istore_n dX7_firstWaiting_85 (nx := 86) rfl rfl (by decide) ?_
                refine v_iinc 3 dX7_firstWaiting_86 (nx := 89) rfl rfl rfl (by decide) ?_
                refine v_goto dX7_firstWaiting_89 (tgt := 4) (by decide) ?_
                exact V.lpick [0, 1, 2, 3] rfl ((ih _ _ ⟨by omega, by omega⟩ (by omega) (mn_f hc hx.1 (by first | exact Or.inl (decide_eq_false (by omega)) | exact Or.inr (by (try dsimp only); omega)))))
              · refine v_iload_n 3 dX7_firstWaiting_80 (nx := 81) rfl rfl ?_
                refine v_goto dX7_firstWaiting_81 (tgt := 85) (by decide) ?_
                refine v_istore_n dX7_firstWaiting_85 (nx := 86) rfl rfl (by decide) ?_
                refine v_iinc 3 dX7_firstWaiting_86 (nx := 89) rfl rfl rfl (by decide) ?_
                refine v_goto dX7_firstWaiting_89 (tgt := 4) (by decide) ?_
                exact V.lpick [0, 1, 2, 3] rfl ((ih _ _ ⟨by omega, by omega⟩ (by omega) (mn_t hc hx.1 (decide_eq_true (by omega)) (by (try dsimp only); omega))))

set_option maxRecDepth 100000 in
theorem c_X7_firstWaiting {g : GG} {kp : Bool} {σ : SS} {N K G F : Int → Int} {k f : Int} {kk : Int} (hI : IV N kk) (p : Int) (hp : inR p) : XC g kp 0 mX7_firstWaiting [rf g (ad 14 0 0), vi p] (mkS σ N K G F k f) (some (vi (fstW N p))) (mkS σ N K G F k f) := by
  refine TC.of (by decide) (Nat.le_of_ble_eq_true rfl) rfl ?_
  obtain ⟨b0, b1, b2, b3, b4, b5⟩ := hI.n
  have hR := hI.r
  refine v_iconst dX7_firstWaiting_0 (nx := 1) rfl ?_
  refine v_istore_n dX7_firstWaiting_1 (nx := 2) rfl rfl (by decide) ?_
  refine v_iconst dX7_firstWaiting_2 (nx := 3) rfl ?_
  refine v_istore_n dX7_firstWaiting_3 (nx := 4) rfl rfl (by decide) ?_
  exact (l_X7_firstWaiting hI p hp (N 3 + 1).toNat 0 (-1) ⟨by omega, by omega⟩ (by omega) rfl)

set_option maxRecDepth 100000 in
theorem l_X7_firstOpened {g : GG} {kp : Bool} {σ : SS} {N K G F : Int → Int} {k f : Int} {kk : Int} (hI : IV N kk) (p : Int) (hp : inR p) : ∀ (m : Nat) (x c : Int), (0 ≤ x ∧ x ≤ N 3) → (N 3 - x < m) → (c = mnI (fun g => decide ((N (484 + g) = 3 ∧ N (544 + g) = p) ∧ N (348 + N (364 + g)) ≤ N 4)) (fun g => N (604 + g)) x) → V g (rmD 0 0 0) mX7_firstOpened (ZT g kp (fun r τ => r = (some (vi (fstO N p))) ∧ τ = (mkS σ N K G F k f))) E0 4 [(0, rf g (ad 14 0 0)), (1, vi p), (2, vi c), (3, vi x)] [] (vw g kp (mkS σ N K G F k f)) (sz kp) 0 0 := by
  intro m
  induction m with
  | zero => intro x c hx hm hc; exfalso; omega
  | succ m ih =>
    intro x c hx hm hc
    obtain ⟨b0, b1, b2, b3, b4, b5⟩ := hI.n
    have hR := hI.r
    have hcb := mnI_b (P := (fun g => decide ((N (484 + g) = 3 ∧ N (544 + g) = p) ∧ N (348 + N (364 + g)) ≤ N 4))) (K := (fun g => N (604 + g))) hx.1
    rw [← hc] at hcb
    refine v_iload_n 3 dX7_firstOpened_4 (nx := 5) rfl rfl ?_
    refine v_aload_n 0 dX7_firstOpened_5 (nx := 6) rfl rfl ?_
    refine m_gA 10 (p := 0) dX7_firstOpened_6 (nx := 9) rfl (by decide) fl_X7_9 rfl ?_
    refine v_iconst dX7_firstOpened_9 (nx := 10) rfl ?_
    refine m_ald10 dX7_firstOpened_10 (nx := 11) rfl ⟨by omega, by omega⟩ ?_
    refine v_icmp_ge dX7_firstOpened_11 (tgt := 121) (by decide) (nx := 14) rfl (by first | assumption | exact hR _ | exact ⟨by omega, by omega⟩) (by first | assumption | exact hR _ | exact ⟨by omega, by omega⟩) (fun c11 => ?_) (fun c11 => ?_)
    · refine v_iload_n 2 dX7_firstOpened_121 (nx := 122) rfl rfl ?_
      exact t_iret dX7_firstOpened_122 rfl ⟨by unfold fstO; rw [hc, show x = N 3 by omega], rfl⟩
    · obtain ⟨gq, -⟩ := hI.g (g := x) (by omega) (by omega)
      refine v_aload_n 0 dX7_firstOpened_14 (nx := 15) rfl rfl ?_
      refine m_gA 10 (p := 0) dX7_firstOpened_15 (nx := 18) rfl (by decide) fl_X7_9 rfl ?_
      refine v_sipush dX7_firstOpened_18 (nx := 21) rfl rfl ?_
      refine v_iload_n 3 dX7_firstOpened_21 (nx := 22) rfl rfl ?_
      refine v_iadd dX7_firstOpened_22 (nx := 23) rfl ?_
      refine m_ald10 dX7_firstOpened_23 (nx := 24) rfl ⟨by omega, by omega⟩ ?_
      refine v_iconst dX7_firstOpened_24 (nx := 25) rfl ?_
      refine v_icmp_ne dX7_firstOpened_25 (tgt := 74) (by decide) (nx := 28) rfl (by first | assumption | exact hR _ | exact ⟨by omega, by omega⟩) (by first | assumption | exact hR _ | exact ⟨by omega, by omega⟩) (fun c25 => ?_) (fun c25 => ?_)
      · refine v_iconst dX7_firstOpened_74 (nx := 75) rfl ?_
        refine v_istore dX7_firstOpened_75 (nx := 77) rfl rfl (by decide) ?_
        refine v_iload 4 dX7_firstOpened_77 (nx := 79) rfl rfl ?_
        refine v_if_eq dX7_firstOpened_79 (tgt := 113) (by decide) (nx := 82) rfl (by first | assumption | exact hR _ | exact ⟨by omega, by omega⟩) (fun c79 => ?_) (fun c79 => ?_)
        · refine v_iload_n 2 dX7_firstOpened_113 (nx := 114) rfl rfl ?_
          refine v_istore_n dX7_firstOpened_114 (nx := 115) rfl rfl (by decide) ?_
          refine v_iinc 3 dX7_firstOpened_115 (nx := 118) rfl rfl rfl (by decide) ?_
          refine v_goto dX7_firstOpened_118 (tgt := 4) (by decide) ?_
          exact V.lpick [0, 1, 2, 3] rfl ((ih _ _ ⟨by omega, by omega⟩ (by omega) (mn_f hc hx.1 (by first | exact Or.inl (decide_eq_false (by omega)) | exact Or.inr (by (try dsimp only); omega)))))
        · exfalso; omega
      · refine v_aload_n 0 dX7_firstOpened_28 (nx := 29) rfl rfl ?_
        refine m_gA 10 (p := 0) dX7_firstOpened_29 (nx := 32) rfl (by decide) fl_X7_9 rfl ?_
        refine v_sipush dX7_firstOpened_32 (nx := 35) rfl rfl ?_
        refine v_iload_n 3 dX7_firstOpened_35 (nx := 36) rfl rfl ?_
        refine v_iadd dX7_firstOpened_36 (nx := 37) rfl ?_
        refine m_ald10 dX7_firstOpened_37 (nx := 38) rfl ⟨by omega, by omega⟩ ?_
        refine v_iload_n 1 dX7_firstOpened_38 (nx := 39) rfl rfl ?_
        refine v_icmp_ne dX7_firstOpened_39 (tgt := 74) (by decide) (nx := 42) rfl (by first | assumption | exact hR _ | exact ⟨by omega, by omega⟩) (by first | assumption | exact hR _ | exact ⟨by omega, by omega⟩) (fun c39 => ?_) (fun c39 => ?_)
        · refine v_iconst dX7_firstOpened_74 (nx := 75) rfl ?_
          refine v_istore dX7_firstOpened_75 (nx := 77) rfl rfl (by decide) ?_
          refine v_iload 4 dX7_firstOpened_77 (nx := 79) rfl rfl ?_
          refine v_if_eq dX7_firstOpened_79 (tgt := 113) (by decide) (nx := 82) rfl (by first | assumption | exact hR _ | exact ⟨by omega, by omega⟩) (fun c79 => ?_) (fun c79 => ?_)
          · refine v_iload_n 2 dX7_firstOpened_113 (nx := 114) rfl rfl ?_
            refine v_istore_n dX7_firstOpened_114 (nx := 115) rfl rfl (by decide) ?_
            refine v_iinc 3 dX7_firstOpened_115 (nx := 118) rfl rfl rfl (by decide) ?_
            refine v_goto dX7_firstOpened_118 (tgt := 4) (by decide) ?_
            exact V.lpick [0, 1, 2, 3] rfl ((ih _ _ ⟨by omega, by omega⟩ (by omega) (mn_f hc hx.1 (by first | exact Or.inl (decide_eq_false (by omega)) | exact Or.inr (by (try dsimp only); omega)))))
          · exfalso; omega
        · refine v_aload_n 0 dX7_firstOpened_42 (nx := 43) rfl rfl ?_
          refine m_gA 10 (p := 0) dX7_firstOpened_43 (nx := 46) rfl (by decide) fl_X7_9 rfl ?_
          refine v_sipush dX7_firstOpened_46 (nx := 49) rfl rfl ?_
          refine v_aload_n 0 dX7_firstOpened_49 (nx := 50) rfl rfl ?_
          refine m_gA 10 (p := 0) dX7_firstOpened_50 (nx := 53) rfl (by decide) fl_X7_9 rfl ?_
          refine v_sipush dX7_firstOpened_53 (nx := 56) rfl rfl ?_
          refine v_iload_n 3 dX7_firstOpened_56 (nx := 57) rfl rfl ?_
          refine v_iadd dX7_firstOpened_57 (nx := 58) rfl ?_
          refine m_ald10 dX7_firstOpened_58 (nx := 59) rfl ⟨by omega, by omega⟩ ?_
          refine v_iadd dX7_firstOpened_59 (nx := 60) rfl ?_
          refine m_ald10 dX7_firstOpened_60 (nx := 61) rfl ⟨by omega, by omega⟩ ?_
          refine v_aload_n 0 dX7_firstOpened_61 (nx := 62) rfl rfl ?_
          refine m_gA 10 (p := 0) dX7_firstOpened_62 (nx := 65) rfl (by decide) fl_X7_9 rfl ?_
          refine v_iconst dX7_firstOpened_65 (nx := 66) rfl ?_
          refine m_ald10 dX7_firstOpened_66 (nx := 67) rfl ⟨by omega, by omega⟩ ?_
          refine v_icmp_gt dX7_firstOpened_67 (tgt := 74) (by decide) (nx := 70) rfl (by first | assumption | exact hR _ | exact ⟨by omega, by omega⟩) (by first | assumption | exact hR _ | exact ⟨by omega, by omega⟩) (fun c67 => ?_) (fun c67 => ?_)
          · refine v_iconst dX7_firstOpened_74 (nx := 75) rfl ?_
            refine v_istore dX7_firstOpened_75 (nx := 77) rfl rfl (by decide) ?_
            refine v_iload 4 dX7_firstOpened_77 (nx := 79) rfl rfl ?_
            refine v_if_eq dX7_firstOpened_79 (tgt := 113) (by decide) (nx := 82) rfl (by first | assumption | exact hR _ | exact ⟨by omega, by omega⟩) (fun c79 => ?_) (fun c79 => ?_)
            · refine v_iload_n 2 dX7_firstOpened_113 (nx := 114) rfl rfl ?_
              refine v_istore_n dX7_firstOpened_114 (nx := 115) rfl rfl (by decide) ?_
              refine v_iinc 3 dX7_firstOpened_115 (nx := 118) rfl rfl rfl (by decide) ?_
              refine v_goto dX7_firstOpened_118 (tgt := 4) (by decide) ?_
              exact V.lpick [0, 1, 2, 3] rfl ((ih _ _ ⟨by omega, by omega⟩ (by omega) (mn_f hc hx.1 (by first | exact Or.inl (decide_eq_false (by omega)) | exact Or.inr (by (try dsimp only); omega)))))
            · exfalso; omega
          · refine v_iconst dX7_firstOpened_70 (nx := 71) rfl ?_
            refine v_goto dX7_firstOpened_71 (tgt := 75) (by decide) ?_
            refine v_istore dX7_firstOpened_75 (nx := 77) rfl rfl (by decide) ?_
            refine v_iload 4 dX7_firstOpened_77 (nx := 79) rfl rfl ?_
            refine v_if_eq dX7_firstOpened_79 (tgt := 113) (by decide) (nx := 82) rfl (by first | assumption | exact hR _ | exact ⟨by omega, by omega⟩) (fun c79 => ?_) (fun c79 => ?_)
            · exfalso; omega
            · refine v_iload_n 2 dX7_firstOpened_82 (nx := 83) rfl rfl ?_
              refine v_if_lt dX7_firstOpened_83 (tgt := 109) (by decide) (nx := 86) rfl (by first | assumption | exact hR _ | exact ⟨by omega, by omega⟩) (fun c83 => ?_) (fun c83 => ?_)
              · refine v_iload_n 3 dX7_firstOpened_109 (nx := 110) rfl rfl ?_
                refine v_goto dX7_firstOpened_110 (tgt := 114) (by decide) ?_
                refine v_istore_n dX7_firstOpened_114 (nx := 115) rfl rfl (by decide) ?_
                refine v_iinc 3 dX7_firstOpened_115 (nx := 118) rfl rfl rfl (by decide) ?_
                refine v_goto dX7_firstOpened_118 (tgt := 4) (by decide) ?_
                exact V.lpick [0, 1, 2, 3] rfl ((ih _ _ ⟨by omega, by omega⟩ (by omega) (mn_t hc hx.1 (decide_eq_true (by omega)) (by (try dsimp only); omega))))
              · refine v_aload_n 0 dX7_firstOpened_86 (nx := 87) rfl rfl ?_
                refine m_gA 10 (p := 0) dX7_firstOpened_87 (nx := 90) rfl (by decide) fl_X7_9 rfl ?_
                refine v_sipush dX7_firstOpened_90 (nx := 93) rfl rfl ?_
                refine v_iload_n 3 dX7_firstOpened_93 (nx := 94) rfl rfl ?_
                refine v_iadd dX7_firstOpened_94 (nx := 95) rfl ?_
                refine m_ald10 dX7_firstOpened_95 (nx := 96) rfl ⟨by omega, by omega⟩ ?_
                refine v_aload_n 0 dX7_firstOpened_96 (nx := 97) rfl rfl ?_
                refine m_gA 10 (p := 0) dX7_firstOpened_97 (nx := 100) rfl (by decide) fl_X7_9 rfl ?_
                refine v_sipush dX7_firstOpened_100 (nx := 103) rfl rfl ?_
                refine v_iload_n 2 dX7_firstOpened_103 (nx := 104) rfl rfl ?_
                refine v_iadd dX7_firstOpened_104 (nx := 105) rfl ?_
                refine m_ald10 dX7_firstOpened_105 (nx := 106) rfl ⟨by omega, by omega⟩ ?_
                refine v_icmp_ge dX7_firstOpened_106 (tgt := 113) (by decide) (nx := 109) rfl (by first | assumption | exact hR _ | exact ⟨by omega, by omega⟩) (by first | assumption | exact hR _ | exact ⟨by omega, by omega⟩) (fun c106 => ?_) (fun c106 => ?_)
                · refine v_iload_n 2 dX7_firstOpened_113 (nx := 114) rfl rfl ?_
                  refine v_istore_n dX7_firstOpened_114 (nx := 115) rfl rfl (by decide) ?_
                  refine v_iinc 3 dX7_firstOpened_115 (nx := 118) rfl rfl rfl (by decide) ?_
                  refine v_goto dX7_firstOpened_118 (tgt := 4) (by decide) ?_
                  exact V.lpick [0, 1, 2, 3] rfl ((ih _ _ ⟨by omega, by omega⟩ (by omega) (mn_f hc hx.1 (by first | exact Or.inl (decide_eq_false (by omega)) | exact Or.inr (by (try dsimp only); omega)))))
                · refine v_iload_n 3 dX7_firstOpened_109 (nx := 110) rfl rfl ?_
                  refine v_goto dX7_firstOpened_110 (tgt := 114) (by decide) ?_
                  refine v_istore_n dX7_firstOpened_114 (nx := 115) rfl rfl (by decide) ?_
                  refine v_iinc 3 dX7_firstOpened_115 (nx := 118) rfl rfl rfl (by decide) ?_
                  refine v_goto dX7_firstOpened_118 (tgt := 4) (by decide) ?_
                  exact V.lpick [0, 1, 2, 3] rfl ((ih _ _ ⟨by omega, by omega⟩ (by omega) (mn_t hc hx.1 (decide_eq_true (by omega)) (by (try dsimp only); omega))))

set_option maxRecDepth 100000 in
theorem c_X7_firstOpened {g : GG} {kp : Bool} {σ : SS} {N K G F : Int → Int} {k f : Int} {kk : Int} (hI : IV N kk) (p : Int) (hp : inR p) : XC g kp 0 mX7_firstOpened [rf g (ad 14 0 0), vi p] (mkS σ N K G F k f) (some (vi (fstO N p))) (mkS σ N K G F k f) := by
  refine TC.of (by decide) (Nat.le_of_ble_eq_true rfl) rfl ?_
  obtain ⟨b0, b1, b2, b3, b4, b5⟩ := hI.n
  have hR := hI.r
  refine v_iconst dX7_firstOpened_0 (nx := 1) rfl ?_
  refine v_istore_n dX7_firstOpened_1 (nx := 2) rfl rfl (by decide) ?_
  refine v_iconst dX7_firstOpened_2 (nx := 3) rfl ?_
  refine v_istore_n dX7_firstOpened_3 (nx := 4) rfl rfl (by decide) ?_
  exact (l_X7_firstOpened hI p hp (N 3 + 1).toNat 0 (-1) ⟨by omega, by omega⟩ (by omega) rfl)

set_option maxRecDepth 100000 in
theorem c_X7_screened {g : GG} {kp : Bool} {σ : SS} {N K G F : Int → Int} {k f : Int} {kk : Int} (hI : IV N kk) (p x : Int) (hp : 0 ≤ p ∧ p < 12) (hx : 0 ≤ x ∧ x < 60) (hv : 1 ≤ N (20 + p) ∧ N (20 + p) ≤ 9) (hd : 0 ≤ N (604 + x) ∧ N (604 + x) ≤ 1000000) : XC g kp 1 mX7_screened [rf g (ad 14 0 0), vi p, vi x] (mkS σ N K G F k f) (some (vi (scrN N p x))) (mkS σ N K G F k f) := by
  refine TC.of (by decide) (Nat.le_of_ble_eq_true rfl) rfl ?_
  obtain ⟨b0, b1, b2, b3, b4, b5⟩ := hI.n
  have hR := hI.r
  refine v_aload_n 0 dX7_screened_0 (nx := 1) rfl rfl ?_
  refine m_gA 10 (p := 0) dX7_screened_1 (nx := 4) rfl (by decide) fl_X7_9 rfl ?_
  refine v_iconst dX7_screened_4 (nx := 5) rfl ?_
  refine m_ald10 dX7_screened_5 (nx := 6) rfl ⟨by omega, by omega⟩ ?_
  refine v_aload_n 0 dX7_screened_6 (nx := 7) rfl rfl ?_
  refine m_gA 10 (p := 0) dX7_screened_7 (nx := 10) rfl (by decide) fl_X7_9 rfl ?_
  refine v_sipush dX7_screened_10 (nx := 13) rfl rfl ?_
  refine v_iload_n 2 dX7_screened_13 (nx := 14) rfl rfl ?_
  refine v_iadd dX7_screened_14 (nx := 15) rfl ?_
  refine m_ald10 dX7_screened_15 (nx := 16) rfl ⟨by omega, by omega⟩ ?_
  refine v_aload_n 0 dX7_screened_16 (nx := 17) rfl rfl ?_
  refine m_gA 10 (p := 0) dX7_screened_17 (nx := 20) rfl (by decide) fl_X7_9 rfl ?_
  refine v_bipush dX7_screened_20 (nx := 22) rfl rfl ?_
  refine v_iload_n 1 dX7_screened_22 (nx := 23) rfl rfl ?_
  refine v_iadd dX7_screened_23 (nx := 24) rfl ?_
  refine m_ald10 dX7_screened_24 (nx := 25) rfl ⟨by omega, by omega⟩ ?_
  refine v_iadd dX7_screened_25 (nx := 26) rfl ?_
  refine v_icmp_ge dX7_screened_26 (tgt := 31) (by decide) (nx := 29) rfl (by first | assumption | exact hR _ | exact ⟨by omega, by omega⟩) (by first | assumption | exact hR _ | exact ⟨by omega, by omega⟩) (fun c26 => ?_) (fun c26 => ?_)
  · refine v_aload_n 0 dX7_screened_31 (nx := 32) rfl rfl ?_
    refine v_iload_n 1 dX7_screened_32 (nx := 33) rfl rfl ?_
    refine v_iconst dX7_screened_33 (nx := 34) rfl ?_
    refine t_callVi (a := 14) (c_X7_outletAt hR _ _ (by exact ⟨by omega, by omega⟩) (by omega) b1) dX7_screened_34 (nx := 37) rfl kX7_outletAt ml_X7_78 (by decide) (ok_m 14 rfl) rfl rfl rfl rfl (Nat.le_of_ble_eq_true rfl) ⟨by decide, by decide⟩ ⟨by decide, by decide⟩ ?_
    refine v_istore_n dX7_screened_37 (nx := 38) rfl rfl (by decide) ?_
    have ho1 := fstI_b (P := (fun b => decide (N (68 + b) = p) && decide (cntI (fun x => decide (N (68 + x) = p)) b = 1))) (lo := 0) (hi := N 1) (by omega) b1.1
    have e1 : outA N p 1 = fstI (fun b => decide (N (68 + b) = p) && decide (cntI (fun x => decide (N (68 + x) = p)) b = 1)) 0 (N 1) := rfl
    rw [← e1] at ho1
    refine v_aload_n 0 dX7_screened_38 (nx := 39) rfl rfl ?_
    refine m_gA 10 (p := 0) dX7_screened_39 (nx := 42) rfl (by decide) fl_X7_9 rfl ?_
    refine v_sipush dX7_screened_42 (nx := 45) rfl rfl ?_
    refine v_iload_n 2 dX7_screened_45 (nx := 46) rfl rfl ?_
    refine v_iadd dX7_screened_46 (nx := 47) rfl ?_
    refine m_ald10 dX7_screened_47 (nx := 48) rfl ⟨by omega, by omega⟩ ?_
    refine v_iconst dX7_screened_48 (nx := 49) rfl ?_
    refine v_icmp_ne dX7_screened_49 (tgt := 60) (by decide) (nx := 52) rfl (by first | assumption | exact hR _ | exact ⟨by omega, by omega⟩) (by first | assumption | exact hR _ | exact ⟨by omega, by omega⟩) (fun c49 => ?_) (fun c49 => ?_)
    · refine v_aload_n 0 dX7_screened_60 (nx := 61) rfl rfl ?_
      refine v_iload_n 1 dX7_screened_61 (nx := 62) rfl rfl ?_
      refine v_iconst dX7_screened_62 (nx := 63) rfl ?_
      refine t_callVi (a := 14) (c_X7_outletAt hR _ _ (by exact ⟨by omega, by omega⟩) (by omega) b1) dX7_screened_63 (nx := 66) rfl kX7_outletAt ml_X7_78 (by decide) (ok_m 14 rfl) rfl rfl rfl rfl (Nat.le_of_ble_eq_true rfl) ⟨by decide, by decide⟩ ⟨by decide, by decide⟩ ?_
      exact t_iret dX7_screened_66 rfl ⟨by unfold scrN; first | rw [if_pos (by omega)] | rw [if_neg (by omega), if_pos (by omega)] | rw [if_neg (by omega), if_neg (by omega)], rfl⟩
    · refine v_iload_n 3 dX7_screened_52 (nx := 53) rfl rfl ?_
      refine v_if_lt dX7_screened_53 (tgt := 60) (by decide) (nx := 56) rfl (by first | assumption | exact hR _ | exact ⟨by omega, by omega⟩) (fun c53 => ?_) (fun c53 => ?_)
      · refine v_aload_n 0 dX7_screened_60 (nx := 61) rfl rfl ?_
        refine v_iload_n 1 dX7_screened_61 (nx := 62) rfl rfl ?_
        refine v_iconst dX7_screened_62 (nx := 63) rfl ?_
        refine t_callVi (a := 14) (c_X7_outletAt hR _ _ (by exact ⟨by omega, by omega⟩) (by omega) b1) dX7_screened_63 (nx := 66) rfl kX7_outletAt ml_X7_78 (by decide) (ok_m 14 rfl) rfl rfl rfl rfl (Nat.le_of_ble_eq_true rfl) ⟨by decide, by decide⟩ ⟨by decide, by decide⟩ ?_
        exact t_iret dX7_screened_66 rfl ⟨by unfold scrN; first | rw [if_pos (by omega)] | rw [if_neg (by omega), if_pos (by omega)] | rw [if_neg (by omega), if_neg (by omega)], rfl⟩
      · refine v_iload_n 3 dX7_screened_56 (nx := 57) rfl rfl ?_
        refine v_goto dX7_screened_57 (tgt := 66) (by decide) ?_
        exact t_iret dX7_screened_66 rfl ⟨by unfold scrN; first | rw [if_pos (by omega)] | rw [if_neg (by omega), if_pos (by omega)] | rw [if_neg (by omega), if_neg (by omega)], rfl⟩
  · refine v_iconst dX7_screened_29 (nx := 30) rfl ?_
    exact t_iret dX7_screened_30 rfl ⟨by unfold scrN; first | rw [if_pos (by omega)] | rw [if_neg (by omega), if_pos (by omega)] | rw [if_neg (by omega), if_neg (by omega)], rfl⟩

set_option maxRecDepth 100000 in
theorem c_X7_ready {g : GG} {kp : Bool} {σ : SS} {N K G F : Int → Int} {k f : Int} {kk : Int} (hI : IV N kk) (hG : ∀ g, G g = 0 ∨ G g = 1) (b : Int) (hb : 0 ≤ b ∧ b < N 1) : XC g kp 0 mX7_ready [rf g (ad 14 0 0), vi b] (mkS σ N K G F k f) (some (vi (rdyN N G b))) (mkS σ N K G F k f) := by
  refine TC.of (by decide) (Nat.le_of_ble_eq_true rfl) rfl ?_
  obtain ⟨b0, b1, b2, b3, b4, b5⟩ := hI.n
  have hR := hI.r
  obtain ⟨q1, q2, q3, q4, q5, q6⟩ := hI.b hb.1 hb.2
  have hcv := hI.cv (c := N (100 + b) - 1) hb.1 hb.2 (by omega) (by omega)
  rw [show 148 + 12 * b + (N (100 + b) - 1) = 148 + 12 * b + N (100 + b) - 1 by omega] at hcv
  refine v_aload_n 0 dX7_ready_0 (nx := 1) rfl rfl ?_
  refine m_gA 10 (p := 0) dX7_ready_1 (nx := 4) rfl (by decide) fl_X7_9 rfl ?_
  refine v_bipush dX7_ready_4 (nx := 6) rfl rfl ?_
  refine v_iload_n 1 dX7_ready_6 (nx := 7) rfl rfl ?_
  refine v_iadd dX7_ready_7 (nx := 8) rfl ?_
  refine m_ald10 dX7_ready_8 (nx := 9) rfl ⟨by omega, by omega⟩ ?_
  refine v_iconst dX7_ready_9 (nx := 10) rfl ?_
  refine v_icmp_ne dX7_ready_10 (tgt := 15) (by decide) (nx := 13) rfl (by first | assumption | exact hR _ | exact ⟨by omega, by omega⟩ | (rcases hG (N (148 + 12 * b + N (100 + b) - 1) - 1) with q | q <;> rw [q] <;> exact ⟨by decide, by decide⟩)) (by first | assumption | exact hR _ | exact ⟨by omega, by omega⟩ | (rcases hG (N (148 + 12 * b + N (100 + b) - 1) - 1) with q | q <;> rw [q] <;> exact ⟨by decide, by decide⟩)) (fun c10 => ?_) (fun c10 => ?_)
  · refine v_aload_n 0 dX7_ready_15 (nx := 16) rfl rfl ?_
    refine m_gA 10 (p := 0) dX7_ready_16 (nx := 19) rfl (by decide) fl_X7_9 rfl ?_
    refine v_sipush dX7_ready_19 (nx := 22) rfl rfl ?_
    refine v_bipush dX7_ready_22 (nx := 24) rfl rfl ?_
    refine v_iload_n 1 dX7_ready_24 (nx := 25) rfl rfl ?_
    refine v_imul dX7_ready_25 (nx := 26) rfl ?_
    refine v_iadd dX7_ready_26 (nx := 27) rfl ?_
    refine v_aload_n 0 dX7_ready_27 (nx := 28) rfl rfl ?_
    refine m_gA 10 (p := 0) dX7_ready_28 (nx := 31) rfl (by decide) fl_X7_9 rfl ?_
    refine v_bipush dX7_ready_31 (nx := 33) rfl rfl ?_
    refine v_iload_n 1 dX7_ready_33 (nx := 34) rfl rfl ?_
    refine v_iadd dX7_ready_34 (nx := 35) rfl ?_
    refine m_ald10 dX7_ready_35 (nx := 36) rfl ⟨by omega, by omega⟩ ?_
    refine v_iadd dX7_ready_36 (nx := 37) rfl ?_
    refine v_iconst dX7_ready_37 (nx := 38) rfl ?_
    refine v_isub dX7_ready_38 (nx := 39) rfl ?_
    refine m_ald10 dX7_ready_39 (nx := 40) rfl ⟨by omega, by omega⟩ ?_
    refine v_iconst dX7_ready_40 (nx := 41) rfl ?_
    refine v_isub dX7_ready_41 (nx := 42) rfl ?_
    refine v_istore_n dX7_ready_42 (nx := 43) rfl rfl (by decide) ?_
    refine v_iload_n 2 dX7_ready_43 (nx := 44) rfl rfl ?_
    refine v_if_lt dX7_ready_44 (tgt := 56) (by decide) (nx := 47) rfl (by first | assumption | exact hR _ | exact ⟨by omega, by omega⟩ | (rcases hG (N (148 + 12 * b + N (100 + b) - 1) - 1) with q | q <;> rw [q] <;> exact ⟨by decide, by decide⟩)) (fun c44 => ?_) (fun c44 => ?_)
    · refine v_iconst dX7_ready_56 (nx := 57) rfl ?_
      refine v_goto dX7_ready_57 (tgt := 61) (by decide) ?_
      exact t_iret dX7_ready_61 rfl ⟨by unfold rdyN; first | rw [if_pos (by omega)] | rw [if_neg (by omega), if_pos (by omega)] | rw [if_neg (by omega), if_neg (by omega)], rfl⟩
    · refine v_aload_n 0 dX7_ready_47 (nx := 48) rfl rfl ?_
      refine m_gA 12 (p := 4) dX7_ready_48 (nx := 51) rfl (by decide) fl_X7_16 rfl ?_
      refine v_iload_n 2 dX7_ready_51 (nx := 52) rfl rfl ?_
      refine m_zld dX7_ready_52 (nx := 53) rfl ⟨by omega, by omega⟩ ?_
      refine v_if_eq dX7_ready_53 (tgt := 60) (by decide) (nx := 56) rfl (by first | assumption | exact hR _ | exact ⟨by omega, by omega⟩ | (rcases hG (N (148 + 12 * b + N (100 + b) - 1) - 1) with q | q <;> rw [q] <;> exact ⟨by decide, by decide⟩)) (fun c53 => ?_) (fun c53 => ?_)
      · refine v_iload_n 2 dX7_ready_60 (nx := 61) rfl rfl ?_
        exact t_iret dX7_ready_61 rfl ⟨by unfold rdyN; first | rw [if_pos (by omega)] | rw [if_neg (by omega), if_pos (by omega)] | rw [if_neg (by omega), if_neg (by omega)], rfl⟩
      · refine v_iconst dX7_ready_56 (nx := 57) rfl ?_
        refine v_goto dX7_ready_57 (tgt := 61) (by decide) ?_
        exact t_iret dX7_ready_61 rfl ⟨by unfold rdyN; first | rw [if_pos (by omega)] | rw [if_neg (by omega), if_pos (by omega)] | rw [if_neg (by omega), if_neg (by omega)], rfl⟩
  · refine v_iconst dX7_ready_13 (nx := 14) rfl ?_
    exact t_iret dX7_ready_14 rfl ⟨by unfold rdyN; first | rw [if_pos (by omega)] | rw [if_neg (by omega), if_pos (by omega)] | rw [if_neg (by omega), if_neg (by omega)], rfl⟩
