set_option maxRecDepth 100000 in
theorem c_X7_point {g : GG} {kp : Bool} {σ : SS} {N K G F : Int → Int} {k f : Int} (hR : ∀ j, inR (N j)) (kind : Int) (v : Int) (hkind : inR kind) (hv : inR v) (b0 : 0 ≤ N 0 ∧ N 0 ≤ 12) (b1 : 0 ≤ N 1 ∧ N 1 ≤ 16) (b2 : 0 ≤ N 2 ∧ N 2 ≤ 8) (b3 : 0 ≤ N 3 ∧ N 3 ≤ 60) : XC g kp 2 mX7_point [rf g (ad 14 0 0), vi kind, vi v] (mkS σ N K G F k f) (some (vi (s_point N kind v).1)) (mkS σ (s_point N kind v).2.1 K G F k (f + (s_point N kind v).2.2)) := by
  refine TC.of (by decide) (Nat.le_of_ble_eq_true rfl) rfl ?_
  refine v_iload_n 1 dX7_point_0 (nx := 1) rfl rfl ?_
  refine v_iconst dX7_point_1 (nx := 2) rfl ?_
  refine v_iconst dX7_point_2 (nx := 3) rfl ?_
  refine t_callSi (c_X7_in _ _ _ (by first | assumption | exact hR _ | exact ⟨by omega, by omega⟩) (by first | assumption | exact hR _ | exact ⟨by omega, by omega⟩) (by first | assumption | exact hR _ | exact ⟨by omega, by omega⟩)) dX7_point_3 (nx := 6) rfl kX7_in ml_X7_27 rfl rfl (Nat.le_of_ble_eq_true rfl) ⟨by decide, by decide⟩ ⟨by decide, by decide⟩ ?_
  refine v_ifB_eq dX7_point_6 (tgt := 39) (by decide) (nx := 9) rfl (fun c6 => ?_) (fun c6 => ?_)
  · refine v_aload_n 0 dX7_point_39 (nx := 40) rfl rfl ?_
    refine v_iconst dX7_point_40 (nx := 41) rfl ?_
    refine t_callVi (a := 14) (c_X7_finding _) dX7_point_41 (nx := 44) rfl kX7_finding ml_X7_31 (by decide) (ok_m 14 rfl) rfl rfl rfl rfl (Nat.le_of_ble_eq_true rfl) ⟨by decide, by decide⟩ ⟨by decide, by decide⟩ ?_
    exact t_iret dX7_point_44 rfl (by first | exact lf1 (by unfold s_point; (repeat (first | rewrite [if_pos (by omega)] | rewrite [if_neg (by omega)])); first | rfl | (refine Prod.ext rfl (Prod.ext (congrArg (uI _ _) ?_) rfl); unfold uI; (repeat rw [if_neg (by omega)]))) | exact lf0 (by unfold s_point; (repeat (first | rewrite [if_pos (by omega)] | rewrite [if_neg (by omega)])); first | rfl | (refine Prod.ext rfl (Prod.ext (congrArg (uI _ _) ?_) rfl); unfold uI; (repeat rw [if_neg (by omega)]))) | (exfalso; omega))
  · refine v_iload_n 1 dX7_point_9 (nx := 10) rfl rfl ?_
    refine v_iconst dX7_point_10 (nx := 11) rfl ?_
    refine v_icmp_ne dX7_point_11 (tgt := 24) (by decide) (nx := 14) rfl (by first | assumption | exact hR _ | exact ⟨by omega, by omega⟩) (by first | assumption | exact hR _ | exact ⟨by omega, by omega⟩) (fun c11 => ?_) (fun c11 => ?_)
    · refine v_iload_n 1 dX7_point_24 (nx := 25) rfl rfl ?_
      refine v_iconst dX7_point_25 (nx := 26) rfl ?_
      refine v_icmp_ne dX7_point_26 (tgt := 45) (by decide) (nx := 29) rfl (by first | assumption | exact hR _ | exact ⟨by omega, by omega⟩) (by first | assumption | exact hR _ | exact ⟨by omega, by omega⟩) (fun c26 => ?_) (fun c26 => ?_)
      · refine v_aload_n 0 dX7_point_45 (nx := 46) rfl rfl ?_
        refine m_gA 10 (p := 0) dX7_point_46 (nx := 49) rfl (by decide) fl_X7_9 rfl ?_
        refine v_iconst dX7_point_49 (nx := 50) rfl ?_
        refine m_ald10 dX7_point_50 (nx := 51) rfl ⟨by omega, by omega⟩ ?_
        refine v_istore_n dX7_point_51 (nx := 52) rfl rfl (by decide) ?_
        refine v_iload_n 3 dX7_point_52 (nx := 53) rfl rfl ?_
        refine v_bipush dX7_point_53 (nx := 55) rfl rfl ?_
        refine v_icmp_ne dX7_point_55 (tgt := 65) (by decide) (nx := 58) rfl (by first | assumption | exact hR _ | exact ⟨by omega, by omega⟩) (by first | assumption | exact hR _ | exact ⟨by omega, by omega⟩) (fun c55 => ?_) (fun c55 => ?_)
        · refine v_aload_n 0 dX7_point_65 (nx := 66) rfl rfl ?_
          refine m_gA 10 (p := 0) dX7_point_66 (nx := 69) rfl (by decide) fl_X7_9 rfl ?_
          refine v_bipush dX7_point_69 (nx := 71) rfl rfl ?_
          refine v_iload_n 3 dX7_point_71 (nx := 72) rfl rfl ?_
          refine v_iadd dX7_point_72 (nx := 73) rfl ?_
          refine v_iload_n 1 dX7_point_73 (nx := 74) rfl rfl ?_
          refine m_ast10 dX7_point_74 (nx := 75) rfl ⟨by omega, by omega⟩ ?_
          refine v_aload_n 0 dX7_point_75 (nx := 76) rfl rfl ?_
          refine m_gA 10 (p := 0) dX7_point_76 (nx := 79) rfl (by decide) fl_X7_9 rfl ?_
          refine v_bipush dX7_point_79 (nx := 81) rfl rfl ?_
          refine v_iload_n 3 dX7_point_81 (nx := 82) rfl rfl ?_
          refine v_iadd dX7_point_82 (nx := 83) rfl ?_
          refine v_iload_n 2 dX7_point_83 (nx := 84) rfl rfl ?_
          refine m_ast10 dX7_point_84 (nx := 85) rfl ⟨by omega, by omega⟩ ?_
          refine v_aload_n 0 dX7_point_85 (nx := 86) rfl rfl ?_
          refine m_gA 10 (p := 0) dX7_point_86 (nx := 89) rfl (by decide) fl_X7_9 rfl ?_
          refine v_bipush dX7_point_89 (nx := 91) rfl rfl ?_
          refine v_iload_n 3 dX7_point_91 (nx := 92) rfl rfl ?_
          refine v_iadd dX7_point_92 (nx := 93) rfl ?_
          refine v_iconst dX7_point_93 (nx := 94) rfl ?_
          refine m_ast10 dX7_point_94 (nx := 95) rfl ⟨by omega, by omega⟩ ?_
          refine v_aload_n 0 dX7_point_95 (nx := 96) rfl rfl ?_
          refine m_gA 10 (p := 0) dX7_point_96 (nx := 99) rfl (by decide) fl_X7_9 rfl ?_
          refine v_bipush dX7_point_99 (nx := 101) rfl rfl ?_
          refine v_iload_n 3 dX7_point_101 (nx := 102) rfl rfl ?_
          refine v_iadd dX7_point_102 (nx := 103) rfl ?_
          refine v_iconst dX7_point_103 (nx := 104) rfl ?_
          refine m_ast10 dX7_point_104 (nx := 105) rfl ⟨by omega, by omega⟩ ?_
          refine v_aload_n 0 dX7_point_105 (nx := 106) rfl rfl ?_
          refine m_gA 10 (p := 0) dX7_point_106 (nx := 109) rfl (by decide) fl_X7_9 rfl ?_
          refine v_bipush dX7_point_109 (nx := 111) rfl rfl ?_
          refine v_iload_n 3 dX7_point_111 (nx := 112) rfl rfl ?_
          refine v_iadd dX7_point_112 (nx := 113) rfl ?_
          refine v_iconst dX7_point_113 (nx := 114) rfl ?_
          refine m_ast10 dX7_point_114 (nx := 115) rfl ⟨by omega, by omega⟩ ?_
          refine v_aload_n 0 dX7_point_115 (nx := 116) rfl rfl ?_
          refine m_gA 10 (p := 0) dX7_point_116 (nx := 119) rfl (by decide) fl_X7_9 rfl ?_
          refine v_iconst dX7_point_119 (nx := 120) rfl ?_
          refine v_dup2 dX7_point_120 (nx := 121) rfl rfl rfl ?_
          refine m_ald10 dX7_point_121 (nx := 122) rfl ⟨by omega, by omega⟩ ?_
          refine v_iconst dX7_point_122 (nx := 123) rfl ?_
          refine v_iadd dX7_point_123 (nx := 124) rfl ?_
          refine m_ast10 dX7_point_124 (nx := 125) rfl ⟨by omega, by omega⟩ ?_
          refine v_iload_n 3 dX7_point_125 (nx := 126) rfl rfl ?_
          exact t_iret dX7_point_126 rfl (by first | exact lf1 (by unfold s_point; (repeat (first | rewrite [if_pos (by omega)] | rewrite [if_neg (by omega)])); first | rfl | (refine Prod.ext rfl (Prod.ext (congrArg (uI _ _) ?_) rfl); unfold uI; (repeat rw [if_neg (by omega)]))) | exact lf0 (by unfold s_point; (repeat (first | rewrite [if_pos (by omega)] | rewrite [if_neg (by omega)])); first | rfl | (refine Prod.ext rfl (Prod.ext (congrArg (uI _ _) ?_) rfl); unfold uI; (repeat rw [if_neg (by omega)]))) | (exfalso; omega))
        · refine v_aload_n 0 dX7_point_58 (nx := 59) rfl rfl ?_
          refine v_bipush dX7_point_59 (nx := 61) rfl rfl ?_
          refine t_callVi (a := 14) (c_X7_finding _) dX7_point_61 (nx := 64) rfl kX7_finding ml_X7_31 (by decide) (ok_m 14 rfl) rfl rfl rfl rfl (Nat.le_of_ble_eq_true rfl) ⟨by decide, by decide⟩ ⟨by decide, by decide⟩ ?_
          exact t_iret dX7_point_64 rfl (by first | exact lf1 (by unfold s_point; (repeat (first | rewrite [if_pos (by omega)] | rewrite [if_neg (by omega)])); first | rfl | (refine Prod.ext rfl (Prod.ext (congrArg (uI _ _) ?_) rfl); unfold uI; (repeat rw [if_neg (by omega)]))) | exact lf0 (by unfold s_point; (repeat (first | rewrite [if_pos (by omega)] | rewrite [if_neg (by omega)])); first | rfl | (refine Prod.ext rfl (Prod.ext (congrArg (uI _ _) ?_) rfl); unfold uI; (repeat rw [if_neg (by omega)]))) | (exfalso; omega))
      · refine v_iload_n 2 dX7_point_29 (nx := 30) rfl rfl ?_
        refine v_iconst dX7_point_30 (nx := 31) rfl ?_
        refine v_bipush dX7_point_31 (nx := 33) rfl rfl ?_
        refine t_callSi (c_X7_in _ _ _ (by first | assumption | exact hR _ | exact ⟨by omega, by omega⟩) (by first | assumption | exact hR _ | exact ⟨by omega, by omega⟩) (by first | assumption | exact hR _ | exact ⟨by omega, by omega⟩)) dX7_point_33 (nx := 36) rfl kX7_in ml_X7_27 rfl rfl (Nat.le_of_ble_eq_true rfl) ⟨by decide, by decide⟩ ⟨by decide, by decide⟩ ?_
        refine v_ifB_ne dX7_point_36 (tgt := 45) (by decide) (nx := 39) rfl (fun c36 => ?_) (fun c36 => ?_)
        · refine v_aload_n 0 dX7_point_45 (nx := 46) rfl rfl ?_
          refine m_gA 10 (p := 0) dX7_point_46 (nx := 49) rfl (by decide) fl_X7_9 rfl ?_
          refine v_iconst dX7_point_49 (nx := 50) rfl ?_
          refine m_ald10 dX7_point_50 (nx := 51) rfl ⟨by omega, by omega⟩ ?_
          refine v_istore_n dX7_point_51 (nx := 52) rfl rfl (by decide) ?_
          refine v_iload_n 3 dX7_point_52 (nx := 53) rfl rfl ?_
          refine v_bipush dX7_point_53 (nx := 55) rfl rfl ?_
          refine v_icmp_ne dX7_point_55 (tgt := 65) (by decide) (nx := 58) rfl (by first | assumption | exact hR _ | exact ⟨by omega, by omega⟩) (by first | assumption | exact hR _ | exact ⟨by omega, by omega⟩) (fun c55 => ?_) (fun c55 => ?_)
          · refine v_aload_n 0 dX7_point_65 (nx := 66) rfl rfl ?_
            refine m_gA 10 (p := 0) dX7_point_66 (nx := 69) rfl (by decide) fl_X7_9 rfl ?_
            refine v_bipush dX7_point_69 (nx := 71) rfl rfl ?_
            refine v_iload_n 3 dX7_point_71 (nx := 72) rfl rfl ?_
            refine v_iadd dX7_point_72 (nx := 73) rfl ?_
            refine v_iload_n 1 dX7_point_73 (nx := 74) rfl rfl ?_
            refine m_ast10 dX7_point_74 (nx := 75) rfl ⟨by omega, by omega⟩ ?_
            refine v_aload_n 0 dX7_point_75 (nx := 76) rfl rfl ?_
            refine m_gA 10 (p := 0) dX7_point_76 (nx := 79) rfl (by decide) fl_X7_9 rfl ?_
            refine v_bipush dX7_point_79 (nx := 81) rfl rfl ?_
            refine v_iload_n 3 dX7_point_81 (nx := 82) rfl rfl ?_
            refine v_iadd dX7_point_82 (nx := 83) rfl ?_
            refine v_iload_n 2 dX7_point_83 (nx := 84) rfl rfl ?_
            refine m_ast10 dX7_point_84 (nx := 85) rfl ⟨by omega, by omega⟩ ?_
            refine v_aload_n 0 dX7_point_85 (nx := 86) rfl rfl ?_
            refine m_gA 10 (p := 0) dX7_point_86 (nx := 89) rfl (by decide) fl_X7_9 rfl ?_
            refine v_bipush dX7_point_89 (nx := 91) rfl rfl ?_
            refine v_iload_n 3 dX7_point_91 (nx := 92) rfl rfl ?_
            refine v_iadd dX7_point_92 (nx := 93) rfl ?_
            refine v_iconst dX7_point_93 (nx := 94) rfl ?_
            refine m_ast10 dX7_point_94 (nx := 95) rfl ⟨by omega, by omega⟩ ?_
            refine v_aload_n 0 dX7_point_95 (nx := 96) rfl rfl ?_
            refine m_gA 10 (p := 0) dX7_point_96 (nx := 99) rfl (by decide) fl_X7_9 rfl ?_
            refine v_bipush dX7_point_99 (nx := 101) rfl rfl ?_
            refine v_iload_n 3 dX7_point_101 (nx := 102) rfl rfl ?_
            refine v_iadd dX7_point_102 (nx := 103) rfl ?_
            refine v_iconst dX7_point_103 (nx := 104) rfl ?_
            refine m_ast10 dX7_point_104 (nx := 105) rfl ⟨by omega, by omega⟩ ?_
            refine v_aload_n 0 dX7_point_105 (nx := 106) rfl rfl ?_
            refine m_gA 10 (p := 0) dX7_point_106 (nx := 109) rfl (by decide) fl_X7_9 rfl ?_
            refine v_bipush dX7_point_109 (nx := 111) rfl rfl ?_
            refine v_iload_n 3 dX7_point_111 (nx := 112) rfl rfl ?_
            refine v_iadd dX7_point_112 (nx := 113) rfl ?_
            refine v_iconst dX7_point_113 (nx := 114) rfl ?_
            refine m_ast10 dX7_point_114 (nx := 115) rfl ⟨by omega, by omega⟩ ?_
            refine v_aload_n 0 dX7_point_115 (nx := 116) rfl rfl ?_
            refine m_gA 10 (p := 0) dX7_point_116 (nx := 119) rfl (by decide) fl_X7_9 rfl ?_
            refine v_iconst dX7_point_119 (nx := 120) rfl ?_
            refine v_dup2 dX7_point_120 (nx := 121) rfl rfl rfl ?_
            refine m_ald10 dX7_point_121 (nx := 122) rfl ⟨by omega, by omega⟩ ?_
            refine v_iconst dX7_point_122 (nx := 123) rfl ?_
            refine v_iadd dX7_point_123 (nx := 124) rfl ?_
            refine m_ast10 dX7_point_124 (nx := 125) rfl ⟨by omega, by omega⟩ ?_
            refine v_iload_n 3 dX7_point_125 (nx := 126) rfl rfl ?_
            exact t_iret dX7_point_126 rfl (by first | exact lf1 (by unfold s_point; (repeat (first | rewrite [if_pos (by omega)] | rewrite [if_neg (by omega)])); first | rfl | (refine Prod.ext rfl (Prod.ext (congrArg (uI _ _) ?_) rfl); unfold uI; (repeat rw [if_neg (by omega)]))) | exact lf0 (by unfold s_point; (repeat (first | rewrite [if_pos (by omega)] | rewrite [if_neg (by omega)])); first | rfl | (refine Prod.ext rfl (Prod.ext (congrArg (uI _ _) ?_) rfl); unfold uI; (repeat rw [if_neg (by omega)]))) | (exfalso; omega))
          · refine v_aload_n 0 dX7_point_58 (nx := 59) rfl rfl ?_
            refine v_bipush dX7_point_59 (nx := 61) rfl rfl ?_
            refine t_callVi (a := 14) (c_X7_finding _) dX7_point_61 (nx := 64) rfl kX7_finding ml_X7_31 (by decide) (ok_m 14 rfl) rfl rfl rfl rfl (Nat.le_of_ble_eq_true rfl) ⟨by decide, by decide⟩ ⟨by decide, by decide⟩ ?_
            exact t_iret dX7_point_64 rfl (by first | exact lf1 (by unfold s_point; (repeat (first | rewrite [if_pos (by omega)] | rewrite [if_neg (by omega)])); first | rfl | (refine Prod.ext rfl (Prod.ext (congrArg (uI _ _) ?_) rfl); unfold uI; (repeat rw [if_neg (by omega)]))) | exact lf0 (by unfold s_point; (repeat (first | rewrite [if_pos (by omega)] | rewrite [if_neg (by omega)])); first | rfl | (refine Prod.ext rfl (Prod.ext (congrArg (uI _ _) ?_) rfl); unfold uI; (repeat rw [if_neg (by omega)]))) | (exfalso; omega))
        · refine v_aload_n 0 dX7_point_39 (nx := 40) rfl rfl ?_
          refine v_iconst dX7_point_40 (nx := 41) rfl ?_
          refine t_callVi (a := 14) (c_X7_finding _) dX7_point_41 (nx := 44) rfl kX7_finding ml_X7_31 (by decide) (ok_m 14 rfl) rfl rfl rfl rfl (Nat.le_of_ble_eq_true rfl) ⟨by decide, by decide⟩ ⟨by decide, by decide⟩ ?_
          exact t_iret dX7_point_44 rfl (by first | exact lf1 (by unfold s_point; (repeat (first | rewrite [if_pos (by omega)] | rewrite [if_neg (by omega)])); first | rfl | (refine Prod.ext rfl (Prod.ext (congrArg (uI _ _) ?_) rfl); unfold uI; (repeat rw [if_neg (by omega)]))) | exact lf0 (by unfold s_point; (repeat (first | rewrite [if_pos (by omega)] | rewrite [if_neg (by omega)])); first | rfl | (refine Prod.ext rfl (Prod.ext (congrArg (uI _ _) ?_) rfl); unfold uI; (repeat rw [if_neg (by omega)]))) | (exfalso; omega))
    · refine v_iload_n 2 dX7_point_14 (nx := 15) rfl rfl ?_
      refine v_iconst dX7_point_15 (nx := 16) rfl ?_
      refine v_bipush dX7_point_16 (nx := 18) rfl rfl ?_
      refine t_callSi (c_X7_in _ _ _ (by first | assumption | exact hR _ | exact ⟨by omega, by omega⟩) (by first | assumption | exact hR _ | exact ⟨by omega, by omega⟩) (by first | assumption | exact hR _ | exact ⟨by omega, by omega⟩)) dX7_point_18 (nx := 21) rfl kX7_in ml_X7_27 rfl rfl (Nat.le_of_ble_eq_true rfl) ⟨by decide, by decide⟩ ⟨by decide, by decide⟩ ?_
      refine v_ifB_eq dX7_point_21 (tgt := 39) (by decide) (nx := 24) rfl (fun c21 => ?_) (fun c21 => ?_)
      · refine v_aload_n 0 dX7_point_39 (nx := 40) rfl rfl ?_
        refine v_iconst dX7_point_40 (nx := 41) rfl ?_
        refine t_callVi (a := 14) (c_X7_finding _) dX7_point_41 (nx := 44) rfl kX7_finding ml_X7_31 (by decide) (ok_m 14 rfl) rfl rfl rfl rfl (Nat.le_of_ble_eq_true rfl) ⟨by decide, by decide⟩ ⟨by decide, by decide⟩ ?_
        exact t_iret dX7_point_44 rfl (by first | exact lf1 (by unfold s_point; (repeat (first | rewrite [if_pos (by omega)] | rewrite [if_neg (by omega)])); first | rfl | (refine Prod.ext rfl (Prod.ext (congrArg (uI _ _) ?_) rfl); unfold uI; (repeat rw [if_neg (by omega)]))) | exact lf0 (by unfold s_point; (repeat (first | rewrite [if_pos (by omega)] | rewrite [if_neg (by omega)])); first | rfl | (refine Prod.ext rfl (Prod.ext (congrArg (uI _ _) ?_) rfl); unfold uI; (repeat rw [if_neg (by omega)]))) | (exfalso; omega))
      · refine v_iload_n 1 dX7_point_24 (nx := 25) rfl rfl ?_
        refine v_iconst dX7_point_25 (nx := 26) rfl ?_
        refine v_icmp_ne dX7_point_26 (tgt := 45) (by decide) (nx := 29) rfl (by first | assumption | exact hR _ | exact ⟨by omega, by omega⟩) (by first | assumption | exact hR _ | exact ⟨by omega, by omega⟩) (fun c26 => ?_) (fun c26 => ?_)
        · refine v_aload_n 0 dX7_point_45 (nx := 46) rfl rfl ?_
          refine m_gA 10 (p := 0) dX7_point_46 (nx := 49) rfl (by decide) fl_X7_9 rfl ?_
          refine v_iconst dX7_point_49 (nx := 50) rfl ?_
          refine m_ald10 dX7_point_50 (nx := 51) rfl ⟨by omega, by omega⟩ ?_
          refine v_istore_n dX7_point_51 (nx := 52) rfl rfl (by decide) ?_
          refine v_iload_n 3 dX7_point_52 (nx := 53) rfl rfl ?_
          refine v_bipush dX7_point_53 (nx := 55) rfl rfl ?_
          refine v_icmp_ne dX7_point_55 (tgt := 65) (by decide) (nx := 58) rfl (by first | assumption | exact hR _ | exact ⟨by omega, by omega⟩) (by first | assumption | exact hR _ | exact ⟨by omega, by omega⟩) (fun c55 => ?_) (fun c55 => ?_)
          · refine v_aload_n 0 dX7_point_65 (nx := 66) rfl rfl ?_
            refine m_gA 10 (p := 0) dX7_point_66 (nx := 69) rfl (by decide) fl_X7_9 rfl ?_
            refine v_bipush dX7_point_69 (nx := 71) rfl rfl ?_
            refine v_iload_n 3 dX7_point_71 (nx := 72) rfl rfl ?_
            refine v_iadd dX7_point_72 (nx := 73) rfl ?_
            refine v_iload_n 1 dX7_point_73 (nx := 74) rfl rfl ?_
            refine m_ast10 dX7_point_74 (nx := 75) rfl ⟨by omega, by omega⟩ ?_
            refine v_aload_n 0 dX7_point_75 (nx := 76) rfl rfl ?_
            refine m_gA 10 (p := 0) dX7_point_76 (nx := 79) rfl (by decide) fl_X7_9 rfl ?_
            refine v_bipush dX7_point_79 (nx := 81) rfl rfl ?_
            refine v_iload_n 3 dX7_point_81 (nx := 82) rfl rfl ?_
            refine v_iadd dX7_point_82 (nx := 83) rfl ?_
            refine v_iload_n 2 dX7_point_83 (nx := 84) rfl rfl ?_
            refine m_ast10 dX7_point_84 (nx := 85) rfl ⟨by omega, by omega⟩ ?_
            refine v_aload_n 0 dX7_point_85 (nx := 86) rfl rfl ?_
            refine m_gA 10 (p := 0) dX7_point_86 (nx := 89) rfl (by decide) fl_X7_9 rfl ?_
            refine v_bipush dX7_point_89 (nx := 91) rfl rfl ?_
            refine v_iload_n 3 dX7_point_91 (nx := 92) rfl rfl ?_
            refine v_iadd dX7_point_92 (nx := 93) rfl ?_
            refine v_iconst dX7_point_93 (nx := 94) rfl ?_
            refine m_ast10 dX7_point_94 (nx := 95) rfl ⟨by omega, by omega⟩ ?_
            refine v_aload_n 0 dX7_point_95 (nx := 96) rfl rfl ?_
            refine m_gA 10 (p := 0) dX7_point_96 (nx := 99) rfl (by decide) fl_X7_9 rfl ?_
            refine v_bipush dX7_point_99 (nx := 101) rfl rfl ?_
            refine v_iload_n 3 dX7_point_101 (nx := 102) rfl rfl ?_
            refine v_iadd dX7_point_102 (nx := 103) rfl ?_
            refine v_iconst dX7_point_103 (nx := 104) rfl ?_
            refine m_ast10 dX7_point_104 (nx := 105) rfl ⟨by omega, by omega⟩ ?_
            refine v_aload_n 0 dX7_point_105 (nx := 106) rfl rfl ?_
            refine m_gA 10 (p := 0) dX7_point_106 (nx := 109) rfl (by decide) fl_X7_9 rfl ?_
            refine v_bipush dX7_point_109 (nx := 111) rfl rfl ?_
            refine v_iload_n 3 dX7_point_111 (nx := 112) rfl rfl ?_
            refine v_iadd dX7_point_112 (nx := 113) rfl ?_
            refine v_iconst dX7_point_113 (nx := 114) rfl ?_
            refine m_ast10 dX7_point_114 (nx := 115) rfl ⟨by omega, by omega⟩ ?_
            refine v_aload_n 0 dX7_point_115 (nx := 116) rfl rfl ?_
            refine m_gA 10 (p := 0) dX7_point_116 (nx := 119) rfl (by decide) fl_X7_9 rfl ?_
            refine v_iconst dX7_point_119 (nx := 120) rfl ?_
            refine v_dup2 dX7_point_120 (nx := 121) rfl rfl rfl ?_
            refine m_ald10 dX7_point_121 (nx := 122) rfl ⟨by omega, by omega⟩ ?_
            refine v_iconst dX7_point_122 (nx := 123) rfl ?_
            refine v_iadd dX7_point_123 (nx := 124) rfl ?_
            refine m_ast10 dX7_point_124 (nx := 125) rfl ⟨by omega, by omega⟩ ?_
            refine v_iload_n 3 dX7_point_125 (nx := 126) rfl rfl ?_
            exact t_iret dX7_point_126 rfl (by first | exact lf1 (by unfold s_point; (repeat (first | rewrite [if_pos (by omega)] | rewrite [if_neg (by omega)])); first | rfl | (refine Prod.ext rfl (Prod.ext (congrArg (uI _ _) ?_) rfl); unfold uI; (repeat rw [if_neg (by omega)]))) | exact lf0 (by unfold s_point; (repeat (first | rewrite [if_pos (by omega)] | rewrite [if_neg (by omega)])); first | rfl | (refine Prod.ext rfl (Prod.ext (congrArg (uI _ _) ?_) rfl); unfold uI; (repeat rw [if_neg (by omega)]))) | (exfalso; omega))
          · refine v_aload_n 0 dX7_point_58 (nx := 59) rfl rfl ?_
            refine v_bipush dX7_point_59 (nx := 61) rfl rfl ?_
            refine t_callVi (a := 14) (c_X7_finding _) dX7_point_61 (nx := 64) rfl kX7_finding ml_X7_31 (by decide) (ok_m 14 rfl) rfl rfl rfl rfl (Nat.le_of_ble_eq_true rfl) ⟨by decide, by decide⟩ ⟨by decide, by decide⟩ ?_
            exact t_iret dX7_point_64 rfl (by first | exact lf1 (by unfold s_point; (repeat (first | rewrite [if_pos (by omega)] | rewrite [if_neg (by omega)])); first | rfl | (refine Prod.ext rfl (Prod.ext (congrArg (uI _ _) ?_) rfl); unfold uI; (repeat rw [if_neg (by omega)]))) | exact lf0 (by unfold s_point; (repeat (first | rewrite [if_pos (by omega)] | rewrite [if_neg (by omega)])); first | rfl | (refine Prod.ext rfl (Prod.ext (congrArg (uI _ _) ?_) rfl); unfold uI; (repeat rw [if_neg (by omega)]))) | (exfalso; omega))
        · refine v_iload_n 2 dX7_point_29 (nx := 30) rfl rfl ?_
          refine v_iconst dX7_point_30 (nx := 31) rfl ?_
          refine v_bipush dX7_point_31 (nx := 33) rfl rfl ?_
          refine t_callSi (c_X7_in _ _ _ (by first | assumption | exact hR _ | exact ⟨by omega, by omega⟩) (by first | assumption | exact hR _ | exact ⟨by omega, by omega⟩) (by first | assumption | exact hR _ | exact ⟨by omega, by omega⟩)) dX7_point_33 (nx := 36) rfl kX7_in ml_X7_27 rfl rfl (Nat.le_of_ble_eq_true rfl) ⟨by decide, by decide⟩ ⟨by decide, by decide⟩ ?_
          refine v_ifB_ne dX7_point_36 (tgt := 45) (by decide) (nx := 39) rfl (fun c36 => ?_) (fun c36 => ?_)
          · refine v_aload_n 0 dX7_point_45 (nx := 46) rfl rfl ?_
            refine m_gA 10 (p := 0) dX7_point_46 (nx := 49) rfl (by decide) fl_X7_9 rfl ?_
            refine v_iconst dX7_point_49 (nx := 50) rfl ?_
            refine m_ald10 dX7_point_50 (nx := 51) rfl ⟨by omega, by omega⟩ ?_
            refine v_istore_n dX7_point_51 (nx := 52) rfl rfl (by decide) ?_
            refine v_iload_n 3 dX7_point_52 (nx := 53) rfl rfl ?_
            refine v_bipush dX7_point_53 (nx := 55) rfl rfl ?_
            refine v_icmp_ne dX7_point_55 (tgt := 65) (by decide) (nx := 58) rfl (by first | assumption | exact hR _ | exact ⟨by omega, by omega⟩) (by first | assumption | exact hR _ | exact ⟨by omega, by omega⟩) (fun c55 => ?_) (fun c55 => ?_)
            · refine v_aload_n 0 dX7_point_65 (nx := 66) rfl rfl ?_
              refine m_gA 10 (p := 0) dX7_point_66 (nx := 69) rfl (by decide) fl_X7_9 rfl ?_
              refine v_bipush dX7_point_69 (nx := 71) rfl rfl ?_
              refine v_iload_n 3 dX7_point_71 (nx := 72) rfl rfl ?_
              refine v_iadd dX7_point_72 (nx := 73) rfl ?_
              refine v_iload_n 1 dX7_point_73 (nx := 74) rfl rfl ?_
              refine m_ast10 dX7_point_74 (nx := 75) rfl ⟨by omega, by omega⟩ ?_
              refine v_aload_n 0 dX7_point_75 (nx := 76) rfl rfl ?_
              refine m_gA 10 (p := 0) dX7_point_76 (nx := 79) rfl (by decide) fl_X7_9 rfl ?_
              refine v_bipush dX7_point_79 (nx := 81) rfl rfl ?_
              refine v_iload_n 3 dX7_point_81 (nx := 82) rfl rfl ?_
              refine v_iadd dX7_point_82 (nx := 83) rfl ?_
              refine v_iload_n 2 dX7_point_83 (nx := 84) rfl rfl ?_
              refine m_ast10 dX7_point_84 (nx := 85) rfl ⟨by omega, by omega⟩ ?_
              refine v_aload_n 0 dX7_point_85 (nx := 86) rfl rfl ?_
              refine m_gA 10 (p := 0) dX7_point_86 (nx := 89) rfl (by decide) fl_X7_9 rfl ?_
              refine v_bipush dX7_point_89 (nx := 91) rfl rfl ?_
              refine v_iload_n 3 dX7_point_91 (nx := 92) rfl rfl ?_
              refine v_iadd dX7_point_92 (nx := 93) rfl ?_
              refine v_iconst dX7_point_93 (nx := 94) rfl ?_
              refine m_ast10 dX7_point_94 (nx := 95) rfl ⟨by omega, by omega⟩ ?_
              refine v_aload_n 0 dX7_point_95 (nx := 96) rfl rfl ?_
              refine m_gA 10 (p := 0) dX7_point_96 (nx := 99) rfl (by decide) fl_X7_9 rfl ?_
              refine v_bipush dX7_point_99 (nx := 101) rfl rfl ?_
              refine v_iload_n 3 dX7_point_101 (nx := 102) rfl rfl ?_
              refine v_iadd dX7_point_102 (nx := 103) rfl ?_
              refine v_iconst dX7_point_103 (nx := 104) rfl ?_
              refine m_ast10 dX7_point_104 (nx := 105) rfl ⟨by omega, by omega⟩ ?_
              refine v_aload_n 0 dX7_point_105 (nx := 106) rfl rfl ?_
              refine m_gA 10 (p := 0) dX7_point_106 (nx := 109) rfl (by decide) fl_X7_9 rfl ?_
              refine v_bipush dX7_point_109 (nx := 111) rfl rfl ?_
              refine v_iload_n 3 dX7_point_111 (nx := 112) rfl rfl ?_
              refine v_iadd dX7_point_112 (nx := 113) rfl ?_
              refine v_iconst dX7_point_113 (nx := 114) rfl ?_
              refine m_ast10 dX7_point_114 (nx := 115) rfl ⟨by omega, by omega⟩ ?_
              refine v_aload_n 0 dX7_point_115 (nx := 116) rfl rfl ?_
              refine m_gA 10 (p := 0) dX7_point_116 (nx := 119) rfl (by decide) fl_X7_9 rfl ?_
              refine v_iconst dX7_point_119 (nx := 120) rfl ?_
              refine v_dup2 dX7_point_120 (nx := 121) rfl rfl rfl ?_
              refine m_ald10 dX7_point_121 (nx := 122) rfl ⟨by omega, by omega⟩ ?_
              refine v_iconst dX7_point_122 (nx := 123) rfl ?_
              refine v_iadd dX7_point_123 (nx := 124) rfl ?_
              refine m_ast10 dX7_point_124 (nx := 125) rfl ⟨by omega, by omega⟩ ?_
              refine v_iload_n 3 dX7_point_125 (nx := 126) rfl rfl ?_
              exact t_iret dX7_point_126 rfl (by first | exact lf1 (by unfold s_point; (repeat (first | rewrite [if_pos (by omega)] | rewrite [if_neg (by omega)])); first | rfl | (refine Prod.ext rfl (Prod.ext (congrArg (uI _ _) ?_) rfl); unfold uI; (repeat rw [if_neg (by omega)]))) | exact lf0 (by unfold s_point; (repeat (first | rewrite [if_pos (by omega)] | rewrite [if_neg (by omega)])); first | rfl | (refine Prod.ext rfl (Prod.ext (congrArg (uI _ _) ?_) rfl); unfold uI; (repeat rw [if_neg (by omega)]))) | (exfalso; omega))
            · refine v_aload_n 0 dX7_point_58 (nx := 59) rfl rfl ?_
              refine v_bipush dX7_point_59 (nx := 61) rfl rfl ?_
              refine t_callVi (a := 14) (c_X7_finding _) dX7_point_61 (nx := 64) rfl kX7_finding ml_X7_31 (by decide) (ok_m 14 rfl) rfl rfl rfl rfl (Nat.le_of_ble_eq_true rfl) ⟨by decide, by decide⟩ ⟨by decide, by decide⟩ ?_
              exact t_iret dX7_point_64 rfl (by first | exact lf1 (by unfold s_point; (repeat (first | rewrite [if_pos (by omega)] | rewrite [if_neg (by omega)])); first | rfl | (refine Prod.ext rfl (Prod.ext (congrArg (uI _ _) ?_) rfl); unfold uI; (repeat rw [if_neg (by omega)]))) | exact lf0 (by unfold s_point; (repeat (first | rewrite [if_pos (by omega)] | rewrite [if_neg (by omega)])); first | rfl | (refine Prod.ext rfl (Prod.ext (congrArg (uI _ _) ?_) rfl); unfold uI; (repeat rw [if_neg (by omega)]))) | (exfalso; omega))
          · refine v_aload_n 0 dX7_point_39 (nx := 40) rfl rfl ?_
            refine v_iconst dX7_point_40 (nx := 41) rfl ?_
            refine t_callVi (a := 14) (c_X7_finding _) dX7_point_41 (nx := 44) rfl kX7_finding ml_X7_31 (by decide) (ok_m 14 rfl) rfl rfl rfl rfl (Nat.le_of_ble_eq_true rfl) ⟨by decide, by decide⟩ ⟨by decide, by decide⟩ ?_
            exact t_iret dX7_point_44 rfl (by first | exact lf1 (by unfold s_point; (repeat (first | rewrite [if_pos (by omega)] | rewrite [if_neg (by omega)])); first | rfl | (refine Prod.ext rfl (Prod.ext (congrArg (uI _ _) ?_) rfl); unfold uI; (repeat rw [if_neg (by omega)]))) | exact lf0 (by unfold s_point; (repeat (first | rewrite [if_pos (by omega)] | rewrite [if_neg (by omega)])); first | rfl | (refine Prod.ext rfl (Prod.ext (congrArg (uI _ _) ?_) rfl); unfold uI; (repeat rw [if_neg (by omega)]))) | (exfalso; omega))

set_option maxRecDepth 100000 in
theorem c_X7_as {g : GG} {kp : Bool} {σ : SS} {N K G F : Int → Int} {k f : Int} (hR : ∀ j, inR (N j)) (p : Int) (kind : Int) (hp : inR p) (hkind : inR kind) (b0 : 0 ≤ N 0 ∧ N 0 ≤ 12) (b1 : 0 ≤ N 1 ∧ N 1 ≤ 16) (b2 : 0 ≤ N 2 ∧ N 2 ≤ 8) (b3 : 0 ≤ N 3 ∧ N 3 ≤ 60) : XC g kp 2 mX7_as [rf g (ad 14 0 0), vi p, vi kind] (mkS σ N K G F k f) (some (vi (s_as N p kind).1)) (mkS σ (s_as N p kind).2.1 K G F k (f + (s_as N p kind).2.2)) := by
  refine TC.of (by decide) (Nat.le_of_ble_eq_true rfl) rfl ?_
  refine v_aload_n 0 dX7_as_0 (nx := 1) rfl rfl ?_
  refine v_iload_n 1 dX7_as_1 (nx := 2) rfl rfl ?_
  refine t_callVi (a := 14) (c_X7_isPoint _ (by assumption) (by omega)) dX7_as_2 (nx := 5) rfl kX7_isPoint ml_X7_35 (by decide) (ok_m 14 rfl) rfl rfl rfl rfl (Nat.le_of_ble_eq_true rfl) ⟨by decide, by decide⟩ ⟨by decide, by decide⟩ ?_
  refine v_ifB_eq dX7_as_5 (tgt := 17) (by decide) (nx := 8) rfl (fun c5 => ?_) (fun c5 => ?_)
  · refine v_aload_n 0 dX7_as_17 (nx := 18) rfl rfl ?_
    refine v_iconst dX7_as_18 (nx := 19) rfl ?_
    refine t_callVi (a := 14) (c_X7_finding _) dX7_as_19 (nx := 22) rfl kX7_finding ml_X7_31 (by decide) (ok_m 14 rfl) rfl rfl rfl rfl (Nat.le_of_ble_eq_true rfl) ⟨by decide, by decide⟩ ⟨by decide, by decide⟩ ?_
    exact t_iret dX7_as_22 rfl (by first | exact lf1 (by unfold s_as; (repeat (first | rewrite [if_pos (by omega)] | rewrite [if_neg (by omega)])); first | rfl | (refine Prod.ext rfl (Prod.ext (congrArg (uI _ _) ?_) rfl); unfold uI; (repeat rw [if_neg (by omega)]))) | exact lf0 (by unfold s_as; (repeat (first | rewrite [if_pos (by omega)] | rewrite [if_neg (by omega)])); first | rfl | (refine Prod.ext rfl (Prod.ext (congrArg (uI _ _) ?_) rfl); unfold uI; (repeat rw [if_neg (by omega)]))) | (exfalso; omega))
  · refine v_iload_n 2 dX7_as_8 (nx := 9) rfl rfl ?_
    refine v_iconst dX7_as_9 (nx := 10) rfl ?_
    refine v_iconst dX7_as_10 (nx := 11) rfl ?_
    refine t_callSi (c_X7_in _ _ _ (by first | assumption | exact hR _ | exact ⟨by omega, by omega⟩) (by first | assumption | exact hR _ | exact ⟨by omega, by omega⟩) (by first | assumption | exact hR _ | exact ⟨by omega, by omega⟩)) dX7_as_11 (nx := 14) rfl kX7_in ml_X7_27 rfl rfl (Nat.le_of_ble_eq_true rfl) ⟨by decide, by decide⟩ ⟨by decide, by decide⟩ ?_
    refine v_ifB_ne dX7_as_14 (tgt := 23) (by decide) (nx := 17) rfl (fun c14 => ?_) (fun c14 => ?_)
    · refine v_aload_n 0 dX7_as_23 (nx := 24) rfl rfl ?_
      refine v_iload_n 1 dX7_as_24 (nx := 25) rfl rfl ?_
      refine t_callVi (a := 14) (c_X7_kindOf _ (by omega)) dX7_as_25 (nx := 28) rfl kX7_kindOf ml_X7_39 (by decide) (ok_m 14 rfl) rfl rfl rfl rfl (Nat.le_of_ble_eq_true rfl) ⟨by decide, by decide⟩ ⟨by decide, by decide⟩ ?_
      refine v_iload_n 2 dX7_as_28 (nx := 29) rfl rfl ?_
      refine v_icmp_ne dX7_as_29 (tgt := 36) (by decide) (nx := 32) rfl (by first | assumption | exact hR _ | exact ⟨by omega, by omega⟩) (by first | assumption | exact hR _ | exact ⟨by omega, by omega⟩) (fun c29 => ?_) (fun c29 => ?_)
      · refine v_aload_n 0 dX7_as_36 (nx := 37) rfl rfl ?_
        refine v_bipush dX7_as_37 (nx := 39) rfl rfl ?_
        refine t_callVi (a := 14) (c_X7_finding _) dX7_as_39 (nx := 42) rfl kX7_finding ml_X7_31 (by decide) (ok_m 14 rfl) rfl rfl rfl rfl (Nat.le_of_ble_eq_true rfl) ⟨by decide, by decide⟩ ⟨by decide, by decide⟩ ?_
        exact t_iret dX7_as_42 rfl (by first | exact lf1 (by unfold s_as; (repeat (first | rewrite [if_pos (by omega)] | rewrite [if_neg (by omega)])); first | rfl | (refine Prod.ext rfl (Prod.ext (congrArg (uI _ _) ?_) rfl); unfold uI; (repeat rw [if_neg (by omega)]))) | exact lf0 (by unfold s_as; (repeat (first | rewrite [if_pos (by omega)] | rewrite [if_neg (by omega)])); first | rfl | (refine Prod.ext rfl (Prod.ext (congrArg (uI _ _) ?_) rfl); unfold uI; (repeat rw [if_neg (by omega)]))) | (exfalso; omega))
      · refine v_iload_n 1 dX7_as_32 (nx := 33) rfl rfl ?_
        refine v_goto dX7_as_33 (tgt := 42) (by decide) ?_
        exact t_iret dX7_as_42 rfl (by first | exact lf1 (by unfold s_as; (repeat (first | rewrite [if_pos (by omega)] | rewrite [if_neg (by omega)])); first | rfl | (refine Prod.ext rfl (Prod.ext (congrArg (uI _ _) ?_) rfl); unfold uI; (repeat rw [if_neg (by omega)]))) | exact lf0 (by unfold s_as; (repeat (first | rewrite [if_pos (by omega)] | rewrite [if_neg (by omega)])); first | rfl | (refine Prod.ext rfl (Prod.ext (congrArg (uI _ _) ?_) rfl); unfold uI; (repeat rw [if_neg (by omega)]))) | (exfalso; omega))
    · refine v_aload_n 0 dX7_as_17 (nx := 18) rfl rfl ?_
      refine v_iconst dX7_as_18 (nx := 19) rfl ?_
      refine t_callVi (a := 14) (c_X7_finding _) dX7_as_19 (nx := 22) rfl kX7_finding ml_X7_31 (by decide) (ok_m 14 rfl) rfl rfl rfl rfl (Nat.le_of_ble_eq_true rfl) ⟨by decide, by decide⟩ ⟨by decide, by decide⟩ ?_
      exact t_iret dX7_as_22 rfl (by first | exact lf1 (by unfold s_as; (repeat (first | rewrite [if_pos (by omega)] | rewrite [if_neg (by omega)])); first | rfl | (refine Prod.ext rfl (Prod.ext (congrArg (uI _ _) ?_) rfl); unfold uI; (repeat rw [if_neg (by omega)]))) | exact lf0 (by unfold s_as; (repeat (first | rewrite [if_pos (by omega)] | rewrite [if_neg (by omega)])); first | rfl | (refine Prod.ext rfl (Prod.ext (congrArg (uI _ _) ?_) rfl); unfold uI; (repeat rw [if_neg (by omega)]))) | (exfalso; omega))

set_option maxRecDepth 100000 in
theorem c_X7_turns {g : GG} {kp : Bool} {σ : SS} {N K G F : Int → Int} {k f : Int} (hR : ∀ j, inR (N j)) (b : Int) (v : Int) (hb : inR b) (hv : inR v) (b0 : 0 ≤ N 0 ∧ N 0 ≤ 12) (b1 : 0 ≤ N 1 ∧ N 1 ≤ 16) (b2 : 0 ≤ N 2 ∧ N 2 ≤ 8) (b3 : 0 ≤ N 3 ∧ N 3 ≤ 60) (ht : ∀ b, 0 ≤ b → b < N 1 → 0 ≤ N (84 + b) ∧ N (84 + b) < 12) : XC g kp 2 mX7_turns [rf g (ad 14 0 0), vi b, vi v] (mkS σ N K G F k f) (some (vi (s_turns N b v).1)) (mkS σ (s_turns N b v).2.1 K G F k (f + (s_turns N b v).2.2)) := by
  refine TC.of (by decide) (Nat.le_of_ble_eq_true rfl) rfl ?_
  refine v_aload_n 0 dX7_turns_0 (nx := 1) rfl rfl ?_
  refine v_iload_n 1 dX7_turns_1 (nx := 2) rfl rfl ?_
  refine t_callVi (a := 14) (c_X7_isBelt _ (by assumption) (by omega)) dX7_turns_2 (nx := 5) rfl kX7_isBelt ml_X7_42 (by decide) (ok_m 14 rfl) rfl rfl rfl rfl (Nat.le_of_ble_eq_true rfl) ⟨by decide, by decide⟩ ⟨by decide, by decide⟩ ?_
  refine v_ifB_eq dX7_turns_5 (tgt := 18) (by decide) (nx := 8) rfl (fun c5 => ?_) (fun c5 => ?_)
  · refine v_aload_n 0 dX7_turns_18 (nx := 19) rfl rfl ?_
    refine v_iconst dX7_turns_19 (nx := 20) rfl ?_
    refine t_callVi (a := 14) (c_X7_finding _) dX7_turns_20 (nx := 23) rfl kX7_finding ml_X7_31 (by decide) (ok_m 14 rfl) rfl rfl rfl rfl (Nat.le_of_ble_eq_true rfl) ⟨by decide, by decide⟩ ⟨by decide, by decide⟩ ?_
    exact t_iret dX7_turns_23 rfl (by first | exact lf1 (by unfold s_turns; (repeat (first | rewrite [if_pos (by omega)] | rewrite [if_neg (by omega)])); first | rfl | (refine Prod.ext rfl (Prod.ext (congrArg (uI _ _) ?_) rfl); unfold uI; (repeat rw [if_neg (by omega)]))) | exact lf0 (by unfold s_turns; (repeat (first | rewrite [if_pos (by omega)] | rewrite [if_neg (by omega)])); first | rfl | (refine Prod.ext rfl (Prod.ext (congrArg (uI _ _) ?_) rfl); unfold uI; (repeat rw [if_neg (by omega)]))) | (exfalso; omega))
  · refine v_iload_n 2 dX7_turns_8 (nx := 9) rfl rfl ?_
    refine v_iconst dX7_turns_9 (nx := 10) rfl ?_
    refine v_bipush dX7_turns_10 (nx := 12) rfl rfl ?_
    refine t_callSi (c_X7_in _ _ _ (by first | assumption | exact hR _ | exact ⟨by omega, by omega⟩) (by first | assumption | exact hR _ | exact ⟨by omega, by omega⟩) (by first | assumption | exact hR _ | exact ⟨by omega, by omega⟩)) dX7_turns_12 (nx := 15) rfl kX7_in ml_X7_27 rfl rfl (Nat.le_of_ble_eq_true rfl) ⟨by decide, by decide⟩ ⟨by decide, by decide⟩ ?_
    refine v_ifB_ne dX7_turns_15 (tgt := 24) (by decide) (nx := 18) rfl (fun c15 => ?_) (fun c15 => ?_)
    · have hto := ht b (by omega) (by omega)
      refine v_aload_n 0 dX7_turns_24 (nx := 25) rfl rfl ?_
      refine m_gA 10 (p := 0) dX7_turns_25 (nx := 28) rfl (by decide) fl_X7_9 rfl ?_
      refine v_bipush dX7_turns_28 (nx := 30) rfl rfl ?_
      refine v_iload_n 1 dX7_turns_30 (nx := 31) rfl rfl ?_
      refine v_iadd dX7_turns_31 (nx := 32) rfl ?_
      refine m_ald10 dX7_turns_32 (nx := 33) rfl ⟨by omega, by omega⟩ ?_
      refine v_istore_n dX7_turns_33 (nx := 34) rfl rfl (by decide) ?_
      refine v_aload_n 0 dX7_turns_34 (nx := 35) rfl rfl ?_
      refine v_iload_n 3 dX7_turns_35 (nx := 36) rfl rfl ?_
      refine t_callVi (a := 14) (c_X7_kindOf _ (by omega)) dX7_turns_36 (nx := 39) rfl kX7_kindOf ml_X7_39 (by decide) (ok_m 14 rfl) rfl rfl rfl rfl (Nat.le_of_ble_eq_true rfl) ⟨by decide, by decide⟩ ⟨by decide, by decide⟩ ?_
      refine v_iconst dX7_turns_39 (nx := 40) rfl ?_
      refine v_icmp_eq dX7_turns_40 (tgt := 50) (by decide) (nx := 43) rfl (by first | assumption | exact hR _ | exact ⟨by omega, by omega⟩) (by first | assumption | exact hR _ | exact ⟨by omega, by omega⟩) (fun c40 => ?_) (fun c40 => ?_)
      · refine v_aload_n 0 dX7_turns_50 (nx := 51) rfl rfl ?_
        refine m_gA 10 (p := 0) dX7_turns_51 (nx := 54) rfl (by decide) fl_X7_9 rfl ?_
        refine v_sipush dX7_turns_54 (nx := 57) rfl rfl ?_
        refine v_iload_n 1 dX7_turns_57 (nx := 58) rfl rfl ?_
        refine v_iadd dX7_turns_58 (nx := 59) rfl ?_
        refine m_ald10 dX7_turns_59 (nx := 60) rfl ⟨by omega, by omega⟩ ?_
        refine v_istore dX7_turns_60 (nx := 62) rfl rfl (by decide) ?_
        refine v_aload_n 0 dX7_turns_62 (nx := 63) rfl rfl ?_
        refine m_gA 10 (p := 0) dX7_turns_63 (nx := 66) rfl (by decide) fl_X7_9 rfl ?_
        refine v_sipush dX7_turns_66 (nx := 69) rfl rfl ?_
        refine v_iload_n 1 dX7_turns_69 (nx := 70) rfl rfl ?_
        refine v_iadd dX7_turns_70 (nx := 71) rfl ?_
        refine v_iload_n 2 dX7_turns_71 (nx := 72) rfl rfl ?_
        refine m_ast10 dX7_turns_72 (nx := 73) rfl ⟨by omega, by omega⟩ ?_
        refine v_aload_n 0 dX7_turns_73 (nx := 74) rfl rfl ?_
        refine m_gA 10 (p := 0) dX7_turns_74 (nx := 77) rfl (by decide) fl_X7_9 rfl ?_
        refine v_bipush dX7_turns_77 (nx := 79) rfl rfl ?_
        refine v_iload_n 3 dX7_turns_79 (nx := 80) rfl rfl ?_
        refine v_iadd dX7_turns_80 (nx := 81) rfl ?_
        refine m_ald10e (z := N (44 + N (84 + b))) dX7_turns_81 (nx := 82) rfl ⟨by omega, by omega⟩ (by first | rfl | (repeat rw [uI_n (by omega)])) ?_
        refine v_iload_n 1 dX7_turns_82 (nx := 83) rfl rfl ?_
        refine v_iconst dX7_turns_83 (nx := 84) rfl ?_
        refine v_iadd dX7_turns_84 (nx := 85) rfl ?_
        refine v_icmp_ne dX7_turns_85 (tgt := 111) (by decide) (nx := 88) rfl (by first | assumption | exact hR _ | exact ⟨by omega, by omega⟩) (by first | assumption | exact hR _ | exact ⟨by omega, by omega⟩) (fun c85 => ?_) (fun c85 => ?_)
        · refine v_iload 4 dX7_turns_111 (nx := 113) rfl rfl ?_
          exact t_iret dX7_turns_113 rfl (by first | exact lf1 (by unfold s_turns; (repeat (first | rewrite [if_pos (by omega)] | rewrite [if_neg (by omega)])); first | rfl | (refine Prod.ext rfl (Prod.ext (congrArg (uI _ _) ?_) rfl); unfold uI; (repeat rw [if_neg (by omega)]))) | exact lf0 (by unfold s_turns; (repeat (first | rewrite [if_pos (by omega)] | rewrite [if_neg (by omega)])); first | rfl | (refine Prod.ext rfl (Prod.ext (congrArg (uI _ _) ?_) rfl); unfold uI; (repeat rw [if_neg (by omega)]))) | (exfalso; omega))
        · refine v_aload_n 0 dX7_turns_88 (nx := 89) rfl rfl ?_
          refine m_gA 10 (p := 0) dX7_turns_89 (nx := 92) rfl (by decide) fl_X7_9 rfl ?_
          refine v_bipush dX7_turns_92 (nx := 94) rfl rfl ?_
          refine v_iload_n 3 dX7_turns_94 (nx := 95) rfl rfl ?_
          refine v_iadd dX7_turns_95 (nx := 96) rfl ?_
          refine m_ald10e (z := N (56 + N (84 + b))) dX7_turns_96 (nx := 97) rfl ⟨by omega, by omega⟩ (by first | rfl | (repeat rw [uI_n (by omega)])) ?_
          refine v_iload_n 2 dX7_turns_97 (nx := 98) rfl rfl ?_
          refine v_icmp_le dX7_turns_98 (tgt := 111) (by decide) (nx := 101) rfl (by first | assumption | exact hR _ | exact ⟨by omega, by omega⟩) (by first | assumption | exact hR _ | exact ⟨by omega, by omega⟩) (fun c98 => ?_) (fun c98 => ?_)
          · refine v_iload 4 dX7_turns_111 (nx := 113) rfl rfl ?_
            exact t_iret dX7_turns_113 rfl (by first | exact lf1 (by unfold s_turns; (repeat (first | rewrite [if_pos (by omega)] | rewrite [if_neg (by omega)])); first | rfl | (refine Prod.ext rfl (Prod.ext (congrArg (uI _ _) ?_) rfl); unfold uI; (repeat rw [if_neg (by omega)]))) | exact lf0 (by unfold s_turns; (repeat (first | rewrite [if_pos (by omega)] | rewrite [if_neg (by omega)])); first | rfl | (refine Prod.ext rfl (Prod.ext (congrArg (uI _ _) ?_) rfl); unfold uI; (repeat rw [if_neg (by omega)]))) | (exfalso; omega))
          · refine v_aload_n 0 dX7_turns_101 (nx := 102) rfl rfl ?_
            refine m_gA 10 (p := 0) dX7_turns_102 (nx := 105) rfl (by decide) fl_X7_9 rfl ?_
            refine v_bipush dX7_turns_105 (nx := 107) rfl rfl ?_
            refine v_iload_n 3 dX7_turns_107 (nx := 108) rfl rfl ?_
            refine v_iadd dX7_turns_108 (nx := 109) rfl ?_
            refine v_iload_n 2 dX7_turns_109 (nx := 110) rfl rfl ?_
            refine m_ast10 dX7_turns_110 (nx := 111) rfl ⟨by omega, by omega⟩ ?_
            refine v_iload 4 dX7_turns_111 (nx := 113) rfl rfl ?_
            exact t_iret dX7_turns_113 rfl (by first | exact lf1 (by unfold s_turns; (repeat (first | rewrite [if_pos (by omega)] | rewrite [if_neg (by omega)])); first | rfl | (refine Prod.ext rfl (Prod.ext (congrArg (uI _ _) ?_) rfl); unfold uI; (repeat rw [if_neg (by omega)]))) | exact lf0 (by unfold s_turns; (repeat (first | rewrite [if_pos (by omega)] | rewrite [if_neg (by omega)])); first | rfl | (refine Prod.ext rfl (Prod.ext (congrArg (uI _ _) ?_) rfl); unfold uI; (repeat rw [if_neg (by omega)]))) | (exfalso; omega))
      · refine v_aload_n 0 dX7_turns_43 (nx := 44) rfl rfl ?_
        refine v_bipush dX7_turns_44 (nx := 46) rfl rfl ?_
        refine t_callVi (a := 14) (c_X7_finding _) dX7_turns_46 (nx := 49) rfl kX7_finding ml_X7_31 (by decide) (ok_m 14 rfl) rfl rfl rfl rfl (Nat.le_of_ble_eq_true rfl) ⟨by decide, by decide⟩ ⟨by decide, by decide⟩ ?_
        exact t_iret dX7_turns_49 rfl (by first | exact lf1 (by unfold s_turns; (repeat (first | rewrite [if_pos (by omega)] | rewrite [if_neg (by omega)])); first | rfl | (refine Prod.ext rfl (Prod.ext (congrArg (uI _ _) ?_) rfl); unfold uI; (repeat rw [if_neg (by omega)]))) | exact lf0 (by unfold s_turns; (repeat (first | rewrite [if_pos (by omega)] | rewrite [if_neg (by omega)])); first | rfl | (refine Prod.ext rfl (Prod.ext (congrArg (uI _ _) ?_) rfl); unfold uI; (repeat rw [if_neg (by omega)]))) | (exfalso; omega))
    · refine v_aload_n 0 dX7_turns_18 (nx := 19) rfl rfl ?_
      refine v_iconst dX7_turns_19 (nx := 20) rfl ?_
      refine t_callVi (a := 14) (c_X7_finding _) dX7_turns_20 (nx := 23) rfl kX7_finding ml_X7_31 (by decide) (ok_m 14 rfl) rfl rfl rfl rfl (Nat.le_of_ble_eq_true rfl) ⟨by decide, by decide⟩ ⟨by decide, by decide⟩ ?_
      exact t_iret dX7_turns_23 rfl (by first | exact lf1 (by unfold s_turns; (repeat (first | rewrite [if_pos (by omega)] | rewrite [if_neg (by omega)])); first | rfl | (refine Prod.ext rfl (Prod.ext (congrArg (uI _ _) ?_) rfl); unfold uI; (repeat rw [if_neg (by omega)]))) | exact lf0 (by unfold s_turns; (repeat (first | rewrite [if_pos (by omega)] | rewrite [if_neg (by omega)])); first | rfl | (refine Prod.ext rfl (Prod.ext (congrArg (uI _ _) ?_) rfl); unfold uI; (repeat rw [if_neg (by omega)]))) | (exfalso; omega))

set_option maxRecDepth 100000 in
theorem c_X7_flight {g : GG} {kp : Bool} {σ : SS} {N K G F : Int → Int} {k f : Int} (hR : ∀ j, inR (N j)) (c : Int) (o : Int) (e : Int) (hc : inR c) (ho : inR o) (he : inR e) (b0 : 0 ≤ N 0 ∧ N 0 ≤ 12) (b1 : 0 ≤ N 1 ∧ N 1 ≤ 16) (b2 : 0 ≤ N 2 ∧ N 2 ≤ 8) (b3 : 0 ≤ N 3 ∧ N 3 ≤ 60) : XC g kp 2 mX7_flight [rf g (ad 14 0 0), vi c, vi o, vi e] (mkS σ N K G F k f) (some (vi (s_flight N c o e).1)) (mkS σ (s_flight N c o e).2.1 K G F k (f + (s_flight N c o e).2.2)) := by
  refine TC.of (by decide) (Nat.le_of_ble_eq_true rfl) rfl ?_
  refine v_aload_n 0 dX7_flight_0 (nx := 1) rfl rfl ?_
  refine v_iload_n 1 dX7_flight_1 (nx := 2) rfl rfl ?_
  refine t_callVi (a := 14) (c_X7_isPoint _ (by assumption) (by omega)) dX7_flight_2 (nx := 5) rfl kX7_isPoint ml_X7_35 (by decide) (ok_m 14 rfl) rfl rfl rfl rfl (Nat.le_of_ble_eq_true rfl) ⟨by decide, by decide⟩ ⟨by decide, by decide⟩ ?_
  refine v_ifB_eq dX7_flight_5 (tgt := 35) (by decide) (nx := 8) rfl (fun c5 => ?_) (fun c5 => ?_)
  · refine v_aload_n 0 dX7_flight_35 (nx := 36) rfl rfl ?_
    refine v_iconst dX7_flight_36 (nx := 37) rfl ?_
    refine t_callVi (a := 14) (c_X7_finding _) dX7_flight_37 (nx := 40) rfl kX7_finding ml_X7_31 (by decide) (ok_m 14 rfl) rfl rfl rfl rfl (Nat.le_of_ble_eq_true rfl) ⟨by decide, by decide⟩ ⟨by decide, by decide⟩ ?_
    exact t_iret dX7_flight_40 rfl (by first | exact lf1 (by unfold s_flight; (repeat (first | rewrite [if_pos (by omega)] | rewrite [if_neg (by omega)])); first | rfl | (refine Prod.ext rfl (Prod.ext (congrArg (uI _ _) ?_) rfl); unfold uI; (repeat rw [if_neg (by omega)]))) | exact lf0 (by unfold s_flight; (repeat (first | rewrite [if_pos (by omega)] | rewrite [if_neg (by omega)])); first | rfl | (refine Prod.ext rfl (Prod.ext (congrArg (uI _ _) ?_) rfl); unfold uI; (repeat rw [if_neg (by omega)]))) | (exfalso; omega))
  · refine v_iload_n 2 dX7_flight_8 (nx := 9) rfl rfl ?_
    refine v_iconst dX7_flight_9 (nx := 10) rfl ?_
    refine v_sipush dX7_flight_10 (nx := 13) rfl rfl ?_
    refine t_callSi (c_X7_in _ _ _ (by first | assumption | exact hR _ | exact ⟨by omega, by omega⟩) (by first | assumption | exact hR _ | exact ⟨by omega, by omega⟩) (by first | assumption | exact hR _ | exact ⟨by omega, by omega⟩)) dX7_flight_13 (nx := 16) rfl kX7_in ml_X7_27 rfl rfl (Nat.le_of_ble_eq_true rfl) ⟨by decide, by decide⟩ ⟨by decide, by decide⟩ ?_
    refine v_ifB_eq dX7_flight_16 (tgt := 35) (by decide) (nx := 19) rfl (fun c16 => ?_) (fun c16 => ?_)
    · refine v_aload_n 0 dX7_flight_35 (nx := 36) rfl rfl ?_
      refine v_iconst dX7_flight_36 (nx := 37) rfl ?_
      refine t_callVi (a := 14) (c_X7_finding _) dX7_flight_37 (nx := 40) rfl kX7_finding ml_X7_31 (by decide) (ok_m 14 rfl) rfl rfl rfl rfl (Nat.le_of_ble_eq_true rfl) ⟨by decide, by decide⟩ ⟨by decide, by decide⟩ ?_
      exact t_iret dX7_flight_40 rfl (by first | exact lf1 (by unfold s_flight; (repeat (first | rewrite [if_pos (by omega)] | rewrite [if_neg (by omega)])); first | rfl | (refine Prod.ext rfl (Prod.ext (congrArg (uI _ _) ?_) rfl); unfold uI; (repeat rw [if_neg (by omega)]))) | exact lf0 (by unfold s_flight; (repeat (first | rewrite [if_pos (by omega)] | rewrite [if_neg (by omega)])); first | rfl | (refine Prod.ext rfl (Prod.ext (congrArg (uI _ _) ?_) rfl); unfold uI; (repeat rw [if_neg (by omega)]))) | (exfalso; omega))
    · refine v_iload_n 3 dX7_flight_19 (nx := 20) rfl rfl ?_
      refine v_iconst dX7_flight_20 (nx := 21) rfl ?_
      refine v_sipush dX7_flight_21 (nx := 24) rfl rfl ?_
      refine t_callSi (c_X7_in _ _ _ (by first | assumption | exact hR _ | exact ⟨by omega, by omega⟩) (by first | assumption | exact hR _ | exact ⟨by omega, by omega⟩) (by first | assumption | exact hR _ | exact ⟨by omega, by omega⟩)) dX7_flight_24 (nx := 27) rfl kX7_in ml_X7_27 rfl rfl (Nat.le_of_ble_eq_true rfl) ⟨by decide, by decide⟩ ⟨by decide, by decide⟩ ?_
      refine v_ifB_eq dX7_flight_27 (tgt := 35) (by decide) (nx := 30) rfl (fun c27 => ?_) (fun c27 => ?_)
      · refine v_aload_n 0 dX7_flight_35 (nx := 36) rfl rfl ?_
        refine v_iconst dX7_flight_36 (nx := 37) rfl ?_
        refine t_callVi (a := 14) (c_X7_finding _) dX7_flight_37 (nx := 40) rfl kX7_finding ml_X7_31 (by decide) (ok_m 14 rfl) rfl rfl rfl rfl (Nat.le_of_ble_eq_true rfl) ⟨by decide, by decide⟩ ⟨by decide, by decide⟩ ?_
        exact t_iret dX7_flight_40 rfl (by first | exact lf1 (by unfold s_flight; (repeat (first | rewrite [if_pos (by omega)] | rewrite [if_neg (by omega)])); first | rfl | (refine Prod.ext rfl (Prod.ext (congrArg (uI _ _) ?_) rfl); unfold uI; (repeat rw [if_neg (by omega)]))) | exact lf0 (by unfold s_flight; (repeat (first | rewrite [if_pos (by omega)] | rewrite [if_neg (by omega)])); first | rfl | (refine Prod.ext rfl (Prod.ext (congrArg (uI _ _) ?_) rfl); unfold uI; (repeat rw [if_neg (by omega)]))) | (exfalso; omega))
      · refine v_iload_n 2 dX7_flight_30 (nx := 31) rfl rfl ?_
        refine v_iload_n 3 dX7_flight_31 (nx := 32) rfl rfl ?_
        refine v_icmp_le dX7_flight_32 (tgt := 41) (by decide) (nx := 35) rfl (by first | assumption | exact hR _ | exact ⟨by omega, by omega⟩) (by first | assumption | exact hR _ | exact ⟨by omega, by omega⟩) (fun c32 => ?_) (fun c32 => ?_)
        · refine v_aload_n 0 dX7_flight_41 (nx := 42) rfl rfl ?_
          refine v_iload_n 1 dX7_flight_42 (nx := 43) rfl rfl ?_
          refine t_callVi (a := 14) (c_X7_kindOf _ (by omega)) dX7_flight_43 (nx := 46) rfl kX7_kindOf ml_X7_39 (by decide) (ok_m 14 rfl) rfl rfl rfl rfl (Nat.le_of_ble_eq_true rfl) ⟨by decide, by decide⟩ ⟨by decide, by decide⟩ ?_
          refine v_iconst dX7_flight_46 (nx := 47) rfl ?_
          refine v_icmp_eq dX7_flight_47 (tgt := 57) (by decide) (nx := 50) rfl (by first | assumption | exact hR _ | exact ⟨by omega, by omega⟩) (by first | assumption | exact hR _ | exact ⟨by omega, by omega⟩) (fun c47 => ?_) (fun c47 => ?_)
          · refine v_aload_n 0 dX7_flight_57 (nx := 58) rfl rfl ?_
            refine m_gA 10 (p := 0) dX7_flight_58 (nx := 61) rfl (by decide) fl_X7_9 rfl ?_
            refine v_iconst dX7_flight_61 (nx := 62) rfl ?_
            refine m_ald10 dX7_flight_62 (nx := 63) rfl ⟨by omega, by omega⟩ ?_
            refine v_istore dX7_flight_63 (nx := 65) rfl rfl (by decide) ?_
            refine v_iload 4 dX7_flight_65 (nx := 67) rfl rfl ?_
            refine v_bipush dX7_flight_67 (nx := 69) rfl rfl ?_
            refine v_icmp_ne dX7_flight_69 (tgt := 79) (by decide) (nx := 72) rfl (by first | assumption | exact hR _ | exact ⟨by omega, by omega⟩) (by first | assumption | exact hR _ | exact ⟨by omega, by omega⟩) (fun c69 => ?_) (fun c69 => ?_)
            · refine v_aload_n 0 dX7_flight_79 (nx := 80) rfl rfl ?_
              refine m_gA 10 (p := 0) dX7_flight_80 (nx := 83) rfl (by decide) fl_X7_9 rfl ?_
              refine v_sipush dX7_flight_83 (nx := 86) rfl rfl ?_
              refine v_iload 4 dX7_flight_86 (nx := 88) rfl rfl ?_
              refine v_iadd dX7_flight_88 (nx := 89) rfl ?_
              refine v_iload_n 1 dX7_flight_89 (nx := 90) rfl rfl ?_
              refine m_ast10 dX7_flight_90 (nx := 91) rfl ⟨by omega, by omega⟩ ?_
              refine v_aload_n 0 dX7_flight_91 (nx := 92) rfl rfl ?_
              refine m_gA 10 (p := 0) dX7_flight_92 (nx := 95) rfl (by decide) fl_X7_9 rfl ?_
              refine v_sipush dX7_flight_95 (nx := 98) rfl rfl ?_
              refine v_iload 4 dX7_flight_98 (nx := 100) rfl rfl ?_
              refine v_iadd dX7_flight_100 (nx := 101) rfl ?_
              refine v_iload_n 2 dX7_flight_101 (nx := 102) rfl rfl ?_
              refine m_ast10 dX7_flight_102 (nx := 103) rfl ⟨by omega, by omega⟩ ?_
              refine v_aload_n 0 dX7_flight_103 (nx := 104) rfl rfl ?_
              refine m_gA 10 (p := 0) dX7_flight_104 (nx := 107) rfl (by decide) fl_X7_9 rfl ?_
              refine v_sipush dX7_flight_107 (nx := 110) rfl rfl ?_
              refine v_iload 4 dX7_flight_110 (nx := 112) rfl rfl ?_
              refine v_iadd dX7_flight_112 (nx := 113) rfl ?_
              refine v_iload_n 3 dX7_flight_113 (nx := 114) rfl rfl ?_
              refine m_ast10 dX7_flight_114 (nx := 115) rfl ⟨by omega, by omega⟩ ?_
              refine v_aload_n 0 dX7_flight_115 (nx := 116) rfl rfl ?_
              refine m_gA 10 (p := 0) dX7_flight_116 (nx := 119) rfl (by decide) fl_X7_9 rfl ?_
              refine v_iconst dX7_flight_119 (nx := 120) rfl ?_
              refine v_dup2 dX7_flight_120 (nx := 121) rfl rfl rfl ?_
              refine m_ald10 dX7_flight_121 (nx := 122) rfl ⟨by omega, by omega⟩ ?_
              refine v_iconst dX7_flight_122 (nx := 123) rfl ?_
              refine v_iadd dX7_flight_123 (nx := 124) rfl ?_
              refine m_ast10 dX7_flight_124 (nx := 125) rfl ⟨by omega, by omega⟩ ?_
              refine v_iload 4 dX7_flight_125 (nx := 127) rfl rfl ?_
              exact t_iret dX7_flight_127 rfl (by first | exact lf1 (by unfold s_flight; (repeat (first | rewrite [if_pos (by omega)] | rewrite [if_neg (by omega)])); first | rfl | (refine Prod.ext rfl (Prod.ext (congrArg (uI _ _) ?_) rfl); unfold uI; (repeat rw [if_neg (by omega)]))) | exact lf0 (by unfold s_flight; (repeat (first | rewrite [if_pos (by omega)] | rewrite [if_neg (by omega)])); first | rfl | (refine Prod.ext rfl (Prod.ext (congrArg (uI _ _) ?_) rfl); unfold uI; (repeat rw [if_neg (by omega)]))) | (exfalso; omega))
            · refine v_aload_n 0 dX7_flight_72 (nx := 73) rfl rfl ?_
              refine v_bipush dX7_flight_73 (nx := 75) rfl rfl ?_
              refine t_callVi (a := 14) (c_X7_finding _) dX7_flight_75 (nx := 78) rfl kX7_finding ml_X7_31 (by decide) (ok_m 14 rfl) rfl rfl rfl rfl (Nat.le_of_ble_eq_true rfl) ⟨by decide, by decide⟩ ⟨by decide, by decide⟩ ?_
              exact t_iret dX7_flight_78 rfl (by first | exact lf1 (by unfold s_flight; (repeat (first | rewrite [if_pos (by omega)] | rewrite [if_neg (by omega)])); first | rfl | (refine Prod.ext rfl (Prod.ext (congrArg (uI _ _) ?_) rfl); unfold uI; (repeat rw [if_neg (by omega)]))) | exact lf0 (by unfold s_flight; (repeat (first | rewrite [if_pos (by omega)] | rewrite [if_neg (by omega)])); first | rfl | (refine Prod.ext rfl (Prod.ext (congrArg (uI _ _) ?_) rfl); unfold uI; (repeat rw [if_neg (by omega)]))) | (exfalso; omega))
          · refine v_aload_n 0 dX7_flight_50 (nx := 51) rfl rfl ?_
            refine v_bipush dX7_flight_51 (nx := 53) rfl rfl ?_
            refine t_callVi (a := 14) (c_X7_finding _) dX7_flight_53 (nx := 56) rfl kX7_finding ml_X7_31 (by decide) (ok_m 14 rfl) rfl rfl rfl rfl (Nat.le_of_ble_eq_true rfl) ⟨by decide, by decide⟩ ⟨by decide, by decide⟩ ?_
            exact t_iret dX7_flight_56 rfl (by first | exact lf1 (by unfold s_flight; (repeat (first | rewrite [if_pos (by omega)] | rewrite [if_neg (by omega)])); first | rfl | (refine Prod.ext rfl (Prod.ext (congrArg (uI _ _) ?_) rfl); unfold uI; (repeat rw [if_neg (by omega)]))) | exact lf0 (by unfold s_flight; (repeat (first | rewrite [if_pos (by omega)] | rewrite [if_neg (by omega)])); first | rfl | (refine Prod.ext rfl (Prod.ext (congrArg (uI _ _) ?_) rfl); unfold uI; (repeat rw [if_neg (by omega)]))) | (exfalso; omega))
        · refine v_aload_n 0 dX7_flight_35 (nx := 36) rfl rfl ?_
          refine v_iconst dX7_flight_36 (nx := 37) rfl ?_
          refine t_callVi (a := 14) (c_X7_finding _) dX7_flight_37 (nx := 40) rfl kX7_finding ml_X7_31 (by decide) (ok_m 14 rfl) rfl rfl rfl rfl (Nat.le_of_ble_eq_true rfl) ⟨by decide, by decide⟩ ⟨by decide, by decide⟩ ?_
          exact t_iret dX7_flight_40 rfl (by first | exact lf1 (by unfold s_flight; (repeat (first | rewrite [if_pos (by omega)] | rewrite [if_neg (by omega)])); first | rfl | (refine Prod.ext rfl (Prod.ext (congrArg (uI _ _) ?_) rfl); unfold uI; (repeat rw [if_neg (by omega)]))) | exact lf0 (by unfold s_flight; (repeat (first | rewrite [if_pos (by omega)] | rewrite [if_neg (by omega)])); first | rfl | (refine Prod.ext rfl (Prod.ext (congrArg (uI _ _) ?_) rfl); unfold uI; (repeat rw [if_neg (by omega)]))) | (exfalso; omega))

set_option maxRecDepth 100000 in
theorem c_X7_where {g : GG} {kp : Bool} {σ : SS} {N K G F : Int → Int} {k f : Int} (hR : ∀ j, inR (N j)) (p : Int) (hp : inR p) (b0 : 0 ≤ N 0 ∧ N 0 ≤ 12) (b1 : 0 ≤ N 1 ∧ N 1 ≤ 16) (b2 : 0 ≤ N 2 ∧ N 2 ≤ 8) (b3 : 0 ≤ N 3 ∧ N 3 ≤ 60) : XC g kp 2 mX7_where [rf g (ad 14 0 0), vi p] (mkS σ N K G F k f) (some (vi (s_where N p).1)) (mkS σ (s_where N p).2.1 K G F k (f + (s_where N p).2.2)) := by
  refine TC.of (by decide) (Nat.le_of_ble_eq_true rfl) rfl ?_
  refine v_aload_n 0 dX7_where_0 (nx := 1) rfl rfl ?_
  refine v_iload_n 1 dX7_where_1 (nx := 2) rfl rfl ?_
  refine t_callVi (a := 14) (c_X7_isBag _ (by assumption) (by omega)) dX7_where_2 (nx := 5) rfl kX7_isBag ml_X7_56 (by decide) (ok_m 14 rfl) rfl rfl rfl rfl (Nat.le_of_ble_eq_true rfl) ⟨by decide, by decide⟩ ⟨by decide, by decide⟩ ?_
  refine v_ifB_eq dX7_where_5 (tgt := 21) (by decide) (nx := 8) rfl (fun c5 => ?_) (fun c5 => ?_)
  · refine v_aload_n 0 dX7_where_21 (nx := 22) rfl rfl ?_
    refine v_iconst dX7_where_22 (nx := 23) rfl ?_
    refine t_callVi (a := 14) (c_X7_finding _) dX7_where_23 (nx := 26) rfl kX7_finding ml_X7_31 (by decide) (ok_m 14 rfl) rfl rfl rfl rfl (Nat.le_of_ble_eq_true rfl) ⟨by decide, by decide⟩ ⟨by decide, by decide⟩ ?_
    exact t_iret dX7_where_26 rfl (by first | exact lf1 (by unfold s_where; (repeat (first | rewrite [if_pos (by omega)] | rewrite [if_neg (by omega)])); first | rfl | (refine Prod.ext rfl (Prod.ext (congrArg (uI _ _) ?_) rfl); unfold uI; (repeat rw [if_neg (by omega)]))) | exact lf0 (by unfold s_where; (repeat (first | rewrite [if_pos (by omega)] | rewrite [if_neg (by omega)])); first | rfl | (refine Prod.ext rfl (Prod.ext (congrArg (uI _ _) ?_) rfl); unfold uI; (repeat rw [if_neg (by omega)]))) | (exfalso; omega))
  · refine v_aload_n 0 dX7_where_8 (nx := 9) rfl rfl ?_
    refine m_gA 10 (p := 0) dX7_where_9 (nx := 12) rfl (by decide) fl_X7_9 rfl ?_
    refine v_sipush dX7_where_12 (nx := 15) rfl rfl ?_
    refine v_iload_n 1 dX7_where_15 (nx := 16) rfl rfl ?_
    refine v_iadd dX7_where_16 (nx := 17) rfl ?_
    refine m_ald10 dX7_where_17 (nx := 18) rfl ⟨by omega, by omega⟩ ?_
    refine v_goto dX7_where_18 (tgt := 26) (by decide) ?_
    exact t_iret dX7_where_26 rfl (by first | exact lf1 (by unfold s_where; (repeat (first | rewrite [if_pos (by omega)] | rewrite [if_neg (by omega)])); first | rfl | (refine Prod.ext rfl (Prod.ext (congrArg (uI _ _) ?_) rfl); unfold uI; (repeat rw [if_neg (by omega)]))) | exact lf0 (by unfold s_where; (repeat (first | rewrite [if_pos (by omega)] | rewrite [if_neg (by omega)])); first | rfl | (refine Prod.ext rfl (Prod.ext (congrArg (uI _ _) ?_) rfl); unfold uI; (repeat rw [if_neg (by omega)]))) | (exfalso; omega))

set_option maxRecDepth 100000 in
theorem c_X7_place {g : GG} {kp : Bool} {σ : SS} {N K G F : Int → Int} {k f : Int} (hR : ∀ j, inR (N j)) (p : Int) (hp : inR p) (b0 : 0 ≤ N 0 ∧ N 0 ≤ 12) (b1 : 0 ≤ N 1 ∧ N 1 ≤ 16) (b2 : 0 ≤ N 2 ∧ N 2 ≤ 8) (b3 : 0 ≤ N 3 ∧ N 3 ≤ 60) : XC g kp 2 mX7_place [rf g (ad 14 0 0), vi p] (mkS σ N K G F k f) (some (vi (s_place N p).1)) (mkS σ (s_place N p).2.1 K G F k (f + (s_place N p).2.2)) := by
  refine TC.of (by decide) (Nat.le_of_ble_eq_true rfl) rfl ?_
  refine v_aload_n 0 dX7_place_0 (nx := 1) rfl rfl ?_
  refine v_iload_n 1 dX7_place_1 (nx := 2) rfl rfl ?_
  refine t_callVi (a := 14) (c_X7_isBag _ (by assumption) (by omega)) dX7_place_2 (nx := 5) rfl kX7_isBag ml_X7_56 (by decide) (ok_m 14 rfl) rfl rfl rfl rfl (Nat.le_of_ble_eq_true rfl) ⟨by decide, by decide⟩ ⟨by decide, by decide⟩ ?_
  refine v_ifB_eq dX7_place_5 (tgt := 21) (by decide) (nx := 8) rfl (fun c5 => ?_) (fun c5 => ?_)
  · refine v_aload_n 0 dX7_place_21 (nx := 22) rfl rfl ?_
    refine v_iconst dX7_place_22 (nx := 23) rfl ?_
    refine t_callVi (a := 14) (c_X7_finding _) dX7_place_23 (nx := 26) rfl kX7_finding ml_X7_31 (by decide) (ok_m 14 rfl) rfl rfl rfl rfl (Nat.le_of_ble_eq_true rfl) ⟨by decide, by decide⟩ ⟨by decide, by decide⟩ ?_
    exact t_iret dX7_place_26 rfl (by first | exact lf1 (by unfold s_place; (repeat (first | rewrite [if_pos (by omega)] | rewrite [if_neg (by omega)])); first | rfl | (refine Prod.ext rfl (Prod.ext (congrArg (uI _ _) ?_) rfl); unfold uI; (repeat rw [if_neg (by omega)]))) | exact lf0 (by unfold s_place; (repeat (first | rewrite [if_pos (by omega)] | rewrite [if_neg (by omega)])); first | rfl | (refine Prod.ext rfl (Prod.ext (congrArg (uI _ _) ?_) rfl); unfold uI; (repeat rw [if_neg (by omega)]))) | (exfalso; omega))
  · refine v_aload_n 0 dX7_place_8 (nx := 9) rfl rfl ?_
    refine m_gA 10 (p := 0) dX7_place_9 (nx := 12) rfl (by decide) fl_X7_9 rfl ?_
    refine v_sipush dX7_place_12 (nx := 15) rfl rfl ?_
    refine v_iload_n 1 dX7_place_15 (nx := 16) rfl rfl ?_
    refine v_iadd dX7_place_16 (nx := 17) rfl ?_
    refine m_ald10 dX7_place_17 (nx := 18) rfl ⟨by omega, by omega⟩ ?_
    refine v_goto dX7_place_18 (tgt := 26) (by decide) ?_
    exact t_iret dX7_place_26 rfl (by first | exact lf1 (by unfold s_place; (repeat (first | rewrite [if_pos (by omega)] | rewrite [if_neg (by omega)])); first | rfl | (refine Prod.ext rfl (Prod.ext (congrArg (uI _ _) ?_) rfl); unfold uI; (repeat rw [if_neg (by omega)]))) | exact lf0 (by unfold s_place; (repeat (first | rewrite [if_pos (by omega)] | rewrite [if_neg (by omega)])); first | rfl | (refine Prod.ext rfl (Prod.ext (congrArg (uI _ _) ?_) rfl); unfold uI; (repeat rw [if_neg (by omega)]))) | (exfalso; omega))

set_option maxRecDepth 100000 in
theorem c_X7_steps {g : GG} {kp : Bool} {σ : SS} {N K G F : Int → Int} {k f : Int} (hR : ∀ j, inR (N j)) (p : Int) (hp : inR p) (b0 : 0 ≤ N 0 ∧ N 0 ≤ 12) (b1 : 0 ≤ N 1 ∧ N 1 ≤ 16) (b2 : 0 ≤ N 2 ∧ N 2 ≤ 8) (b3 : 0 ≤ N 3 ∧ N 3 ≤ 60) : XC g kp 2 mX7_steps [rf g (ad 14 0 0), vi p] (mkS σ N K G F k f) (some (vi (s_steps N p).1)) (mkS σ (s_steps N p).2.1 K G F k (f + (s_steps N p).2.2)) := by
  refine TC.of (by decide) (Nat.le_of_ble_eq_true rfl) rfl ?_
  refine v_aload_n 0 dX7_steps_0 (nx := 1) rfl rfl ?_
  refine v_iload_n 1 dX7_steps_1 (nx := 2) rfl rfl ?_
  refine t_callVi (a := 14) (c_X7_isBag _ (by assumption) (by omega)) dX7_steps_2 (nx := 5) rfl kX7_isBag ml_X7_56 (by decide) (ok_m 14 rfl) rfl rfl rfl rfl (Nat.le_of_ble_eq_true rfl) ⟨by decide, by decide⟩ ⟨by decide, by decide⟩ ?_
  refine v_ifB_eq dX7_steps_5 (tgt := 21) (by decide) (nx := 8) rfl (fun c5 => ?_) (fun c5 => ?_)
  · refine v_aload_n 0 dX7_steps_21 (nx := 22) rfl rfl ?_
    refine v_iconst dX7_steps_22 (nx := 23) rfl ?_
    refine t_callVi (a := 14) (c_X7_finding _) dX7_steps_23 (nx := 26) rfl kX7_finding ml_X7_31 (by decide) (ok_m 14 rfl) rfl rfl rfl rfl (Nat.le_of_ble_eq_true rfl) ⟨by decide, by decide⟩ ⟨by decide, by decide⟩ ?_
    exact t_iret dX7_steps_26 rfl (by first | exact lf1 (by unfold s_steps; (repeat (first | rewrite [if_pos (by omega)] | rewrite [if_neg (by omega)])); first | rfl | (refine Prod.ext rfl (Prod.ext (congrArg (uI _ _) ?_) rfl); unfold uI; (repeat rw [if_neg (by omega)]))) | exact lf0 (by unfold s_steps; (repeat (first | rewrite [if_pos (by omega)] | rewrite [if_neg (by omega)])); first | rfl | (refine Prod.ext rfl (Prod.ext (congrArg (uI _ _) ?_) rfl); unfold uI; (repeat rw [if_neg (by omega)]))) | (exfalso; omega))
  · refine v_aload_n 0 dX7_steps_8 (nx := 9) rfl rfl ?_
    refine m_gA 10 (p := 0) dX7_steps_9 (nx := 12) rfl (by decide) fl_X7_9 rfl ?_
    refine v_sipush dX7_steps_12 (nx := 15) rfl rfl ?_
    refine v_iload_n 1 dX7_steps_15 (nx := 16) rfl rfl ?_
    refine v_iadd dX7_steps_16 (nx := 17) rfl ?_
    refine m_ald10 dX7_steps_17 (nx := 18) rfl ⟨by omega, by omega⟩ ?_
    refine v_goto dX7_steps_18 (tgt := 26) (by decide) ?_
    exact t_iret dX7_steps_26 rfl (by first | exact lf1 (by unfold s_steps; (repeat (first | rewrite [if_pos (by omega)] | rewrite [if_neg (by omega)])); first | rfl | (refine Prod.ext rfl (Prod.ext (congrArg (uI _ _) ?_) rfl); unfold uI; (repeat rw [if_neg (by omega)]))) | exact lf0 (by unfold s_steps; (repeat (first | rewrite [if_pos (by omega)] | rewrite [if_neg (by omega)])); first | rfl | (refine Prod.ext rfl (Prod.ext (congrArg (uI _ _) ?_) rfl); unfold uI; (repeat rw [if_neg (by omega)]))) | (exfalso; omega))

set_option maxRecDepth 100000 in
theorem c_X7_fall {g : GG} {kp : Bool} {σ : SS} {N K G F : Int → Int} {k f : Int} (hR : ∀ j, inR (N j)) (b : Int) (on : Int) (hb : inR b) (hon : inR on) (b0 : 0 ≤ N 0 ∧ N 0 ≤ 12) (b1 : 0 ≤ N 1 ∧ N 1 ≤ 16) (b2 : 0 ≤ N 2 ∧ N 2 ≤ 8) (b3 : 0 ≤ N 3 ∧ N 3 ≤ 60) (h01 : on = 0 ∨ on = 1) : XC g kp 2 mX7_fall [rf g (ad 14 0 0), vi b, vi on] (mkS σ N K G F k f) (some (vi (s_fall N b on).1)) (mkS σ (s_fall N b on).2.1 K G F k (f + (s_fall N b on).2.2)) := by
  refine TC.of (by decide) (Nat.le_of_ble_eq_true rfl) rfl ?_
  refine v_aload_n 0 dX7_fall_0 (nx := 1) rfl rfl ?_
  refine v_iload_n 1 dX7_fall_1 (nx := 2) rfl rfl ?_
  refine t_callVi (a := 14) (c_X7_isBelt _ (by assumption) (by omega)) dX7_fall_2 (nx := 5) rfl kX7_isBelt ml_X7_42 (by decide) (ok_m 14 rfl) rfl rfl rfl rfl (Nat.le_of_ble_eq_true rfl) ⟨by decide, by decide⟩ ⟨by decide, by decide⟩ ?_
  refine v_ifB_ne dX7_fall_5 (tgt := 14) (by decide) (nx := 8) rfl (fun c5 => ?_) (fun c5 => ?_)
  · refine v_aload_n 0 dX7_fall_14 (nx := 15) rfl rfl ?_
    refine m_gA 10 (p := 0) dX7_fall_15 (nx := 18) rfl (by decide) fl_X7_9 rfl ?_
    refine v_bipush dX7_fall_18 (nx := 20) rfl rfl ?_
    refine v_iload_n 1 dX7_fall_20 (nx := 21) rfl rfl ?_
    refine v_iadd dX7_fall_21 (nx := 22) rfl ?_
    refine m_ald10 dX7_fall_22 (nx := 23) rfl ⟨by omega, by omega⟩ ?_
    refine v_iconst dX7_fall_23 (nx := 24) rfl ?_
    refine v_icmp_ne dX7_fall_24 (tgt := 31) (by decide) (nx := 27) rfl (by first | assumption | exact hR _ | exact ⟨by omega, by omega⟩) (by first | assumption | exact hR _ | exact ⟨by omega, by omega⟩) (fun c24 => ?_) (fun c24 => ?_)
    · refine v_iconst dX7_fall_31 (nx := 32) rfl ?_
      refine v_istore_n dX7_fall_32 (nx := 33) rfl rfl (by decide) ?_
      refine v_aload_n 0 dX7_fall_33 (nx := 34) rfl rfl ?_
      refine m_gA 10 (p := 0) dX7_fall_34 (nx := 37) rfl (by decide) fl_X7_9 rfl ?_
      refine v_bipush dX7_fall_37 (nx := 39) rfl rfl ?_
      refine v_iload_n 1 dX7_fall_39 (nx := 40) rfl rfl ?_
      refine v_iadd dX7_fall_40 (nx := 41) rfl ?_
      refine v_iload_n 2 dX7_fall_41 (nx := 42) rfl rfl ?_
      refine v_if_eq dX7_fall_42 (tgt := 49) (by decide) (nx := 45) rfl (by first | assumption | exact hR _ | exact ⟨by omega, by omega⟩) (fun c42 => ?_) (fun c42 => ?_)
      · subst c42
        refine v_iconst dX7_fall_49 (nx := 50) rfl ?_
        refine m_ast10 dX7_fall_50 (nx := 51) rfl ⟨by omega, by omega⟩ ?_
        refine v_iload_n 3 dX7_fall_51 (nx := 52) rfl rfl ?_
        refine v_iload_n 2 dX7_fall_52 (nx := 53) rfl rfl ?_
        refine v_icmp_ne dX7_fall_53 (tgt := 60) (by decide) (nx := 56) rfl (by first | assumption | exact hR _ | exact ⟨by omega, by omega⟩) (by first | assumption | exact hR _ | exact ⟨by omega, by omega⟩) (fun c53 => ?_) (fun c53 => ?_)
        · refine v_iconst dX7_fall_60 (nx := 61) rfl ?_
          exact t_iret dX7_fall_61 rfl (by first | exact lf1 (by unfold s_fall; (repeat (first | rewrite [if_pos (by omega)] | rewrite [if_neg (by omega)])); first | rfl | (refine Prod.ext rfl (Prod.ext (congrArg (uI _ _) ?_) rfl); unfold uI; (repeat rw [if_neg (by omega)]))) | exact lf0 (by unfold s_fall; (repeat (first | rewrite [if_pos (by omega)] | rewrite [if_neg (by omega)])); first | rfl | (refine Prod.ext rfl (Prod.ext (congrArg (uI _ _) ?_) rfl); unfold uI; (repeat rw [if_neg (by omega)]))) | (exfalso; omega))
        · refine v_iconst dX7_fall_56 (nx := 57) rfl ?_
          refine v_goto dX7_fall_57 (tgt := 61) (by decide) ?_
          exact t_iret dX7_fall_61 rfl (by first | exact lf1 (by unfold s_fall; (repeat (first | rewrite [if_pos (by omega)] | rewrite [if_neg (by omega)])); first | rfl | (refine Prod.ext rfl (Prod.ext (congrArg (uI _ _) ?_) rfl); unfold uI; (repeat rw [if_neg (by omega)]))) | exact lf0 (by unfold s_fall; (repeat (first | rewrite [if_pos (by omega)] | rewrite [if_neg (by omega)])); first | rfl | (refine Prod.ext rfl (Prod.ext (congrArg (uI _ _) ?_) rfl); unfold uI; (repeat rw [if_neg (by omega)]))) | (exfalso; omega))
      · obtain rfl : on = 1 := by omega
        refine v_iconst dX7_fall_45 (nx := 46) rfl ?_
        refine v_goto dX7_fall_46 (tgt := 50) (by decide) ?_
        refine m_ast10 dX7_fall_50 (nx := 51) rfl ⟨by omega, by omega⟩ ?_
        refine v_iload_n 3 dX7_fall_51 (nx := 52) rfl rfl ?_
        refine v_iload_n 2 dX7_fall_52 (nx := 53) rfl rfl ?_
        refine v_icmp_ne dX7_fall_53 (tgt := 60) (by decide) (nx := 56) rfl (by first | assumption | exact hR _ | exact ⟨by omega, by omega⟩) (by first | assumption | exact hR _ | exact ⟨by omega, by omega⟩) (fun c53 => ?_) (fun c53 => ?_)
        · refine v_iconst dX7_fall_60 (nx := 61) rfl ?_
          exact t_iret dX7_fall_61 rfl (by first | exact lf1 (by unfold s_fall; (repeat (first | rewrite [if_pos (by omega)] | rewrite [if_neg (by omega)])); first | rfl | (refine Prod.ext rfl (Prod.ext (congrArg (uI _ _) ?_) rfl); unfold uI; (repeat rw [if_neg (by omega)]))) | exact lf0 (by unfold s_fall; (repeat (first | rewrite [if_pos (by omega)] | rewrite [if_neg (by omega)])); first | rfl | (refine Prod.ext rfl (Prod.ext (congrArg (uI _ _) ?_) rfl); unfold uI; (repeat rw [if_neg (by omega)]))) | (exfalso; omega))
        · refine v_iconst dX7_fall_56 (nx := 57) rfl ?_
          refine v_goto dX7_fall_57 (tgt := 61) (by decide) ?_
          exact t_iret dX7_fall_61 rfl (by first | exact lf1 (by unfold s_fall; (repeat (first | rewrite [if_pos (by omega)] | rewrite [if_neg (by omega)])); first | rfl | (refine Prod.ext rfl (Prod.ext (congrArg (uI _ _) ?_) rfl); unfold uI; (repeat rw [if_neg (by omega)]))) | exact lf0 (by unfold s_fall; (repeat (first | rewrite [if_pos (by omega)] | rewrite [if_neg (by omega)])); first | rfl | (refine Prod.ext rfl (Prod.ext (congrArg (uI _ _) ?_) rfl); unfold uI; (repeat rw [if_neg (by omega)]))) | (exfalso; omega))
    · refine v_iconst dX7_fall_27 (nx := 28) rfl ?_
      refine v_goto dX7_fall_28 (tgt := 32) (by decide) ?_
      refine v_istore_n dX7_fall_32 (nx := 33) rfl rfl (by decide) ?_
      refine v_aload_n 0 dX7_fall_33 (nx := 34) rfl rfl ?_
      refine m_gA 10 (p := 0) dX7_fall_34 (nx := 37) rfl (by decide) fl_X7_9 rfl ?_
      refine v_bipush dX7_fall_37 (nx := 39) rfl rfl ?_
      refine v_iload_n 1 dX7_fall_39 (nx := 40) rfl rfl ?_
      refine v_iadd dX7_fall_40 (nx := 41) rfl ?_
      refine v_iload_n 2 dX7_fall_41 (nx := 42) rfl rfl ?_
      refine v_if_eq dX7_fall_42 (tgt := 49) (by decide) (nx := 45) rfl (by first | assumption | exact hR _ | exact ⟨by omega, by omega⟩) (fun c42 => ?_) (fun c42 => ?_)
      · subst c42
        refine v_iconst dX7_fall_49 (nx := 50) rfl ?_
        refine m_ast10 dX7_fall_50 (nx := 51) rfl ⟨by omega, by omega⟩ ?_
        refine v_iload_n 3 dX7_fall_51 (nx := 52) rfl rfl ?_
        refine v_iload_n 2 dX7_fall_52 (nx := 53) rfl rfl ?_
        refine v_icmp_ne dX7_fall_53 (tgt := 60) (by decide) (nx := 56) rfl (by first | assumption | exact hR _ | exact ⟨by omega, by omega⟩) (by first | assumption | exact hR _ | exact ⟨by omega, by omega⟩) (fun c53 => ?_) (fun c53 => ?_)
        · refine v_iconst dX7_fall_60 (nx := 61) rfl ?_
          exact t_iret dX7_fall_61 rfl (by first | exact lf1 (by unfold s_fall; (repeat (first | rewrite [if_pos (by omega)] | rewrite [if_neg (by omega)])); first | rfl | (refine Prod.ext rfl (Prod.ext (congrArg (uI _ _) ?_) rfl); unfold uI; (repeat rw [if_neg (by omega)]))) | exact lf0 (by unfold s_fall; (repeat (first | rewrite [if_pos (by omega)] | rewrite [if_neg (by omega)])); first | rfl | (refine Prod.ext rfl (Prod.ext (congrArg (uI _ _) ?_) rfl); unfold uI; (repeat rw [if_neg (by omega)]))) | (exfalso; omega))
        · refine v_iconst dX7_fall_56 (nx := 57) rfl ?_
          refine v_goto dX7_fall_57 (tgt := 61) (by decide) ?_
          exact t_iret dX7_fall_61 rfl (by first | exact lf1 (by unfold s_fall; (repeat (first | rewrite [if_pos (by omega)] | rewrite [if_neg (by omega)])); first | rfl | (refine Prod.ext rfl (Prod.ext (congrArg (uI _ _) ?_) rfl); unfold uI; (repeat rw [if_neg (by omega)]))) | exact lf0 (by unfold s_fall; (repeat (first | rewrite [if_pos (by omega)] | rewrite [if_neg (by omega)])); first | rfl | (refine Prod.ext rfl (Prod.ext (congrArg (uI _ _) ?_) rfl); unfold uI; (repeat rw [if_neg (by omega)]))) | (exfalso; omega))
      · obtain rfl : on = 1 := by omega
        refine v_iconst dX7_fall_45 (nx := 46) rfl ?_
        refine v_goto dX7_fall_46 (tgt := 50) (by decide) ?_
        refine m_ast10 dX7_fall_50 (nx := 51) rfl ⟨by omega, by omega⟩ ?_
        refine v_iload_n 3 dX7_fall_51 (nx := 52) rfl rfl ?_
        refine v_iload_n 2 dX7_fall_52 (nx := 53) rfl rfl ?_
        refine v_icmp_ne dX7_fall_53 (tgt := 60) (by decide) (nx := 56) rfl (by first | assumption | exact hR _ | exact ⟨by omega, by omega⟩) (by first | assumption | exact hR _ | exact ⟨by omega, by omega⟩) (fun c53 => ?_) (fun c53 => ?_)
        · refine v_iconst dX7_fall_60 (nx := 61) rfl ?_
          exact t_iret dX7_fall_61 rfl (by first | exact lf1 (by unfold s_fall; (repeat (first | rewrite [if_pos (by omega)] | rewrite [if_neg (by omega)])); first | rfl | (refine Prod.ext rfl (Prod.ext (congrArg (uI _ _) ?_) rfl); unfold uI; (repeat rw [if_neg (by omega)]))) | exact lf0 (by unfold s_fall; (repeat (first | rewrite [if_pos (by omega)] | rewrite [if_neg (by omega)])); first | rfl | (refine Prod.ext rfl (Prod.ext (congrArg (uI _ _) ?_) rfl); unfold uI; (repeat rw [if_neg (by omega)]))) | (exfalso; omega))
        · refine v_iconst dX7_fall_56 (nx := 57) rfl ?_
          refine v_goto dX7_fall_57 (tgt := 61) (by decide) ?_
          exact t_iret dX7_fall_61 rfl (by first | exact lf1 (by unfold s_fall; (repeat (first | rewrite [if_pos (by omega)] | rewrite [if_neg (by omega)])); first | rfl | (refine Prod.ext rfl (Prod.ext (congrArg (uI _ _) ?_) rfl); unfold uI; (repeat rw [if_neg (by omega)]))) | exact lf0 (by unfold s_fall; (repeat (first | rewrite [if_pos (by omega)] | rewrite [if_neg (by omega)])); first | rfl | (refine Prod.ext rfl (Prod.ext (congrArg (uI _ _) ?_) rfl); unfold uI; (repeat rw [if_neg (by omega)]))) | (exfalso; omega))
  · refine v_aload_n 0 dX7_fall_8 (nx := 9) rfl rfl ?_
    refine v_iconst dX7_fall_9 (nx := 10) rfl ?_
    refine t_callVi (a := 14) (c_X7_finding _) dX7_fall_10 (nx := 13) rfl kX7_finding ml_X7_31 (by decide) (ok_m 14 rfl) rfl rfl rfl rfl (Nat.le_of_ble_eq_true rfl) ⟨by decide, by decide⟩ ⟨by decide, by decide⟩ ?_
    exact t_iret dX7_fall_13 rfl (by first | exact lf1 (by unfold s_fall; (repeat (first | rewrite [if_pos (by omega)] | rewrite [if_neg (by omega)])); first | rfl | (refine Prod.ext rfl (Prod.ext (congrArg (uI _ _) ?_) rfl); unfold uI; (repeat rw [if_neg (by omega)]))) | exact lf0 (by unfold s_fall; (repeat (first | rewrite [if_pos (by omega)] | rewrite [if_neg (by omega)])); first | rfl | (refine Prod.ext rfl (Prod.ext (congrArg (uI _ _) ?_) rfl); unfold uI; (repeat rw [if_neg (by omega)]))) | (exfalso; omega))

set_option maxRecDepth 100000 in
theorem c_X7_lies {g : GG} {kp : Bool} {σ : SS} {N K G F : Int → Int} {k f : Int} (b w p d : Int) (hb : 0 ≤ b ∧ b < 60) : XC g kp 0 mX7_lies [rf g (ad 14 0 0), vi b, vi w, vi p, vi d] (mkS σ N K G F k f) none (mkS σ (liesN N b w p d) K G F k f) := by
  refine TC.of (by decide) (Nat.le_of_ble_eq_true rfl) rfl ?_
  refine v_aload_n 0 dX7_lies_0 (nx := 1) rfl rfl ?_
  refine m_gA 10 (p := 0) dX7_lies_1 (nx := 4) rfl (by decide) fl_X7_9 rfl ?_
  refine v_sipush dX7_lies_4 (nx := 7) rfl rfl ?_
  refine v_iload_n 1 dX7_lies_7 (nx := 8) rfl rfl ?_
  refine v_iadd dX7_lies_8 (nx := 9) rfl ?_
  refine v_iload_n 2 dX7_lies_9 (nx := 10) rfl rfl ?_
  refine m_ast10 dX7_lies_10 (nx := 11) rfl ⟨by omega, by omega⟩ ?_
  refine v_aload_n 0 dX7_lies_11 (nx := 12) rfl rfl ?_
  refine m_gA 10 (p := 0) dX7_lies_12 (nx := 15) rfl (by decide) fl_X7_9 rfl ?_
  refine v_sipush dX7_lies_15 (nx := 18) rfl rfl ?_
  refine v_iload_n 1 dX7_lies_18 (nx := 19) rfl rfl ?_
  refine v_iadd dX7_lies_19 (nx := 20) rfl ?_
  refine v_iload_n 3 dX7_lies_20 (nx := 21) rfl rfl ?_
  refine m_ast10 dX7_lies_21 (nx := 22) rfl ⟨by omega, by omega⟩ ?_
  refine v_aload_n 0 dX7_lies_22 (nx := 23) rfl rfl ?_
  refine m_gA 10 (p := 0) dX7_lies_23 (nx := 26) rfl (by decide) fl_X7_9 rfl ?_
  refine v_sipush dX7_lies_26 (nx := 29) rfl rfl ?_
  refine v_iload_n 1 dX7_lies_29 (nx := 30) rfl rfl ?_
  refine v_iadd dX7_lies_30 (nx := 31) rfl ?_
  refine v_iload 4 dX7_lies_31 (nx := 33) rfl rfl ?_
  refine m_ast10 dX7_lies_33 (nx := 34) rfl ⟨by omega, by omega⟩ ?_
  exact t_ret dX7_lies_34 rfl ⟨rfl, rfl⟩

set_option maxRecDepth 100000 in
theorem c_X7_waits {g : GG} {kp : Bool} {σ : SS} {N K G F : Int → Int} {k f : Int} (b p : Int) (hb : 0 ≤ b ∧ b < 60) : XC g kp 1 mX7_waits [rf g (ad 14 0 0), vi b, vi p] (mkS σ N K G F k f) none (mkS σ (waitsN N b p) K G F k f) := by
  refine TC.of (by decide) (Nat.le_of_ble_eq_true rfl) rfl ?_
  refine v_aload_n 0 dX7_waits_0 (nx := 1) rfl rfl ?_
  refine v_iload_n 1 dX7_waits_1 (nx := 2) rfl rfl ?_
  refine v_iconst dX7_waits_2 (nx := 3) rfl ?_
  refine v_iload_n 2 dX7_waits_3 (nx := 4) rfl rfl ?_
  refine v_aload_n 0 dX7_waits_4 (nx := 5) rfl rfl ?_
  refine m_gA 10 (p := 0) dX7_waits_5 (nx := 8) rfl (by decide) fl_X7_9 rfl ?_
  refine v_iconst dX7_waits_8 (nx := 9) rfl ?_
  refine m_ald10 dX7_waits_9 (nx := 10) rfl ⟨by omega, by omega⟩ ?_
  refine t_callVv (a := 14) (c_X7_lies _ _ _ _ hb) dX7_waits_10 (nx := 13) rfl kX7_lies ml_X7_45 (by decide) (ok_m 14 rfl) rfl rfl rfl rfl (Nat.le_of_ble_eq_true rfl) ⟨by decide, by decide⟩ ⟨by decide, by decide⟩ ?_
  refine v_aload_n 0 dX7_waits_13 (nx := 14) rfl rfl ?_
  refine m_gA 10 (p := 0) dX7_waits_14 (nx := 17) rfl (by decide) fl_X7_9 rfl ?_
  refine v_iconst dX7_waits_17 (nx := 18) rfl ?_
  refine v_dup2 dX7_waits_18 (nx := 19) rfl rfl rfl ?_
  refine m_ald10e (z := N 5) dX7_waits_19 (nx := 20) rfl ⟨by omega, by omega⟩ (by unfold liesN; repeat rw [uI_n (by omega)]) ?_
  refine v_iconst dX7_waits_20 (nx := 21) rfl ?_
  refine v_iadd dX7_waits_21 (nx := 22) rfl ?_
  refine m_ast10 dX7_waits_22 (nx := 23) rfl ⟨by omega, by omega⟩ ?_
  exact t_ret dX7_waits_23 rfl ⟨rfl, rfl⟩

set_option maxRecDepth 100000 in
theorem c_X7_step {g : GG} {kp : Bool} {σ : SS} {N K G F : Int → Int} {k f : Int} (hR : ∀ j, inR (N j)) (b : Int) (i : Int) (tk : Int) (hb : inR b) (hi : inR i) (htk : inR tk) (b0 : 0 ≤ N 0 ∧ N 0 ≤ 12) (b1 : 0 ≤ N 1 ∧ N 1 ≤ 16) (b2 : 0 ≤ N 2 ∧ N 2 ≤ 8) (b3 : 0 ≤ N 3 ∧ N 3 ≤ 60) (hs : ∀ b, 0 ≤ b → b < N 3 → 0 ≤ N (664 + b) ∧ N (664 + b) < 1000000) (h01 : tk = 0 ∨ tk = 1) : XC g kp 2 mX7_step [rf g (ad 14 0 0), vi b, vi i, vi tk] (mkS σ N K G F k f) (some (vi (s_step N b i tk).1)) (mkS σ (s_step N b i tk).2.1 K G F k (f + (s_step N b i tk).2.2)) := by
  refine TC.of (by decide) (Nat.le_of_ble_eq_true rfl) rfl ?_
  refine v_aload_n 0 dX7_step_0 (nx := 1) rfl rfl ?_
  refine v_iload_n 1 dX7_step_1 (nx := 2) rfl rfl ?_
  refine t_callVi (a := 14) (c_X7_isBag _ (by assumption) (by omega)) dX7_step_2 (nx := 5) rfl kX7_isBag ml_X7_56 (by decide) (ok_m 14 rfl) rfl rfl rfl rfl (Nat.le_of_ble_eq_true rfl) ⟨by decide, by decide⟩ ⟨by decide, by decide⟩ ?_
  refine v_ifB_eq dX7_step_5 (tgt := 33) (by decide) (nx := 8) rfl (fun c5 => ?_) (fun c5 => ?_)
  · refine v_aload_n 0 dX7_step_33 (nx := 34) rfl rfl ?_
    refine v_iconst dX7_step_34 (nx := 35) rfl ?_
    refine t_callVi (a := 14) (c_X7_finding _) dX7_step_35 (nx := 38) rfl kX7_finding ml_X7_31 (by decide) (ok_m 14 rfl) rfl rfl rfl rfl (Nat.le_of_ble_eq_true rfl) ⟨by decide, by decide⟩ ⟨by decide, by decide⟩ ?_
    exact t_iret dX7_step_38 rfl (by first | exact lf1 (by unfold s_step; (repeat (first | rewrite [if_pos (by omega)] | rewrite [if_neg (by omega)])); first | rfl | (refine Prod.ext rfl (Prod.ext (congrArg (uI _ _) ?_) rfl); unfold uI; (repeat rw [if_neg (by omega)]))) | exact lf0 (by unfold s_step; (repeat (first | rewrite [if_pos (by omega)] | rewrite [if_neg (by omega)])); first | rfl | (refine Prod.ext rfl (Prod.ext (congrArg (uI _ _) ?_) rfl); unfold uI; (repeat rw [if_neg (by omega)]))) | (exfalso; omega))
  · have hsb := hs b (by omega) (by omega)
    refine v_iload_n 2 dX7_step_8 (nx := 9) rfl rfl ?_
    refine v_iconst dX7_step_9 (nx := 10) rfl ?_
    refine v_aload_n 0 dX7_step_10 (nx := 11) rfl rfl ?_
    refine m_gA 10 (p := 0) dX7_step_11 (nx := 14) rfl (by decide) fl_X7_9 rfl ?_
    refine v_sipush dX7_step_14 (nx := 17) rfl rfl ?_
    refine v_iload_n 1 dX7_step_17 (nx := 18) rfl rfl ?_
    refine v_iadd dX7_step_18 (nx := 19) rfl ?_
    refine m_ald10 dX7_step_19 (nx := 20) rfl ⟨by omega, by omega⟩ ?_
    refine v_bipush dX7_step_20 (nx := 22) rfl rfl ?_
    refine t_min dX7_step_22 (nx := 25) rfl ml_X7_62 ⟨by decide, by decide⟩ (hR _) (by exact ⟨by decide, by decide⟩) (Nat.le_of_ble_eq_true rfl) ⟨by decide, by decide⟩ ?_
    refine v_iconst dX7_step_25 (nx := 26) rfl ?_
    refine v_isub dX7_step_26 (nx := 27) rfl ?_
    refine t_callSi (c_X7_in _ _ _ (by assumption) (by exact ⟨by decide, by decide⟩) (by split <;> exact ⟨by omega, by omega⟩)) dX7_step_27 (nx := 30) rfl kX7_in ml_X7_27 rfl rfl (Nat.le_of_ble_eq_true rfl) ⟨by decide, by decide⟩ ⟨by decide, by decide⟩ ?_
    refine v_ifB_ne dX7_step_30 (tgt := 39) (by decide) (nx := 33) rfl (fun c30 => ?_) (fun c30 => ?_)
    · refine v_aload_n 0 dX7_step_39 (nx := 40) rfl rfl ?_
      refine m_gA 10 (p := 0) dX7_step_40 (nx := 43) rfl (by decide) fl_X7_9 rfl ?_
      refine v_iload_n 3 dX7_step_43 (nx := 44) rfl rfl ?_
      refine v_if_eq dX7_step_44 (tgt := 53) (by decide) (nx := 47) rfl (by first | assumption | exact hR _ | exact ⟨by omega, by omega⟩) (fun c44 => ?_) (fun c44 => ?_)
      · refine v_sipush dX7_step_53 (nx := 56) rfl rfl ?_
        refine v_bipush dX7_step_56 (nx := 58) rfl rfl ?_
        refine v_iload_n 1 dX7_step_58 (nx := 59) rfl rfl ?_
        refine v_imul dX7_step_59 (nx := 60) rfl ?_
        refine v_iadd dX7_step_60 (nx := 61) rfl ?_
        refine v_iload_n 2 dX7_step_61 (nx := 62) rfl rfl ?_
        refine v_iadd dX7_step_62 (nx := 63) rfl ?_
        refine m_ald10 dX7_step_63 (nx := 64) rfl (by split at c30 <;> exact ⟨by omega, by omega⟩) ?_
        exact t_iret dX7_step_64 rfl (by first | exact lf1 (by unfold s_step; (repeat (first | rewrite [if_pos (by omega)] | rewrite [if_neg (by omega)])); first | rfl | (refine Prod.ext rfl (Prod.ext (congrArg (uI _ _) ?_) rfl); unfold uI; (repeat rw [if_neg (by omega)]))) | exact lf0 (by unfold s_step; (repeat (first | rewrite [if_pos (by omega)] | rewrite [if_neg (by omega)])); first | rfl | (refine Prod.ext rfl (Prod.ext (congrArg (uI _ _) ?_) rfl); unfold uI; (repeat rw [if_neg (by omega)]))) | (exfalso; omega))
      · refine v_sipush dX7_step_47 (nx := 50) rfl rfl ?_
        refine v_goto dX7_step_50 (tgt := 56) (by decide) ?_
        refine v_bipush dX7_step_56 (nx := 58) rfl rfl ?_
        refine v_iload_n 1 dX7_step_58 (nx := 59) rfl rfl ?_
        refine v_imul dX7_step_59 (nx := 60) rfl ?_
        refine v_iadd dX7_step_60 (nx := 61) rfl ?_
        refine v_iload_n 2 dX7_step_61 (nx := 62) rfl rfl ?_
        refine v_iadd dX7_step_62 (nx := 63) rfl ?_
        refine m_ald10 dX7_step_63 (nx := 64) rfl (by split at c30 <;> exact ⟨by omega, by omega⟩) ?_
        exact t_iret dX7_step_64 rfl (by first | exact lf1 (by unfold s_step; (repeat (first | rewrite [if_pos (by omega)] | rewrite [if_neg (by omega)])); first | rfl | (refine Prod.ext rfl (Prod.ext (congrArg (uI _ _) ?_) rfl); unfold uI; (repeat rw [if_neg (by omega)]))) | exact lf0 (by unfold s_step; (repeat (first | rewrite [if_pos (by omega)] | rewrite [if_neg (by omega)])); first | rfl | (refine Prod.ext rfl (Prod.ext (congrArg (uI _ _) ?_) rfl); unfold uI; (repeat rw [if_neg (by omega)]))) | (exfalso; omega))
    · refine v_aload_n 0 dX7_step_33 (nx := 34) rfl rfl ?_
      refine v_iconst dX7_step_34 (nx := 35) rfl ?_
      refine t_callVi (a := 14) (c_X7_finding _) dX7_step_35 (nx := 38) rfl kX7_finding ml_X7_31 (by decide) (ok_m 14 rfl) rfl rfl rfl rfl (Nat.le_of_ble_eq_true rfl) ⟨by decide, by decide⟩ ⟨by decide, by decide⟩ ?_
      exact t_iret dX7_step_38 rfl (by first | exact lf1 (by unfold s_step; (repeat (first | rewrite [if_pos (by omega)] | rewrite [if_neg (by omega)])); first | rfl | (refine Prod.ext rfl (Prod.ext (congrArg (uI _ _) ?_) rfl); unfold uI; (repeat rw [if_neg (by omega)]))) | exact lf0 (by unfold s_step; (repeat (first | rewrite [if_pos (by omega)] | rewrite [if_neg (by omega)])); first | rfl | (refine Prod.ext rfl (Prod.ext (congrArg (uI _ _) ?_) rfl); unfold uI; (repeat rw [if_neg (by omega)]))) | (exfalso; omega))

set_option maxRecDepth 100000 in
theorem c_X7_goes {g : GG} {kp : Bool} {σ : SS} {N K G F : Int → Int} {k f : Int} (hR : ∀ j, inR (N j)) (b p : Int) (hb : 0 ≤ b ∧ b < 60) (hs : 0 ≤ N (664 + b)) : XC g kp 0 mX7_goes [rf g (ad 14 0 0), vi b, vi p] (mkS σ N K G F k f) none (mkS σ (goesN N b p) K G F k f) := by
  refine TC.of (by decide) (Nat.le_of_ble_eq_true rfl) rfl ?_
  refine v_aload_n 0 dX7_goes_0 (nx := 1) rfl rfl ?_
  refine m_gA 10 (p := 0) dX7_goes_1 (nx := 4) rfl (by decide) fl_X7_9 rfl ?_
  refine v_sipush dX7_goes_4 (nx := 7) rfl rfl ?_
  refine v_iload_n 1 dX7_goes_7 (nx := 8) rfl rfl ?_
  refine v_iadd dX7_goes_8 (nx := 9) rfl ?_
  refine m_ald10 dX7_goes_9 (nx := 10) rfl ⟨by omega, by omega⟩ ?_
  refine v_istore_n dX7_goes_10 (nx := 11) rfl rfl (by decide) ?_
  refine v_iload_n 3 dX7_goes_11 (nx := 12) rfl rfl ?_
  refine v_bipush dX7_goes_12 (nx := 14) rfl rfl ?_
  refine v_icmp_ge dX7_goes_14 (tgt := 54) (by decide) (nx := 17) rfl (by first | assumption | exact hR _ | exact ⟨by omega, by omega⟩) (by first | assumption | exact hR _ | exact ⟨by omega, by omega⟩) (fun c14 => ?_) (fun c14 => ?_)
  · refine v_aload_n 0 dX7_goes_54 (nx := 55) rfl rfl ?_
    refine m_gA 10 (p := 0) dX7_goes_55 (nx := 58) rfl (by decide) fl_X7_9 rfl ?_
    refine v_sipush dX7_goes_58 (nx := 61) rfl rfl ?_
    refine v_iload_n 1 dX7_goes_61 (nx := 62) rfl rfl ?_
    refine v_iadd dX7_goes_62 (nx := 63) rfl ?_
    refine v_dup2 dX7_goes_63 (nx := 64) rfl rfl rfl ?_
    refine m_ald10e (z := N (664 + b)) dX7_goes_64 (nx := 65) rfl ⟨by omega, by omega⟩ (by first | rfl | (repeat rw [uI_n (by omega)])) ?_
    refine v_iconst dX7_goes_65 (nx := 66) rfl ?_
    refine v_iadd dX7_goes_66 (nx := 67) rfl ?_
    refine m_ast10 dX7_goes_67 (nx := 68) rfl ⟨by omega, by omega⟩ ?_
    exact t_ret dX7_goes_68 rfl ⟨rfl, by unfold goesN; first | rw [if_pos (by omega)] | rw [if_neg (by omega)]⟩
  · refine v_aload_n 0 dX7_goes_17 (nx := 18) rfl rfl ?_
    refine m_gA 10 (p := 0) dX7_goes_18 (nx := 21) rfl (by decide) fl_X7_9 rfl ?_
    refine v_sipush dX7_goes_21 (nx := 24) rfl rfl ?_
    refine v_bipush dX7_goes_24 (nx := 26) rfl rfl ?_
    refine v_iload_n 1 dX7_goes_26 (nx := 27) rfl rfl ?_
    refine v_imul dX7_goes_27 (nx := 28) rfl ?_
    refine v_iadd dX7_goes_28 (nx := 29) rfl ?_
    refine v_iload_n 3 dX7_goes_29 (nx := 30) rfl rfl ?_
    refine v_iadd dX7_goes_30 (nx := 31) rfl ?_
    refine v_iload_n 2 dX7_goes_31 (nx := 32) rfl rfl ?_
    refine m_ast10 dX7_goes_32 (nx := 33) rfl ⟨by omega, by omega⟩ ?_
    refine v_aload_n 0 dX7_goes_33 (nx := 34) rfl rfl ?_
    refine m_gA 10 (p := 0) dX7_goes_34 (nx := 37) rfl (by decide) fl_X7_9 rfl ?_
    refine v_sipush dX7_goes_37 (nx := 40) rfl rfl ?_
    refine v_bipush dX7_goes_40 (nx := 42) rfl rfl ?_
    refine v_iload_n 1 dX7_goes_42 (nx := 43) rfl rfl ?_
    refine v_imul dX7_goes_43 (nx := 44) rfl ?_
    refine v_iadd dX7_goes_44 (nx := 45) rfl ?_
    refine v_iload_n 3 dX7_goes_45 (nx := 46) rfl rfl ?_
    refine v_iadd dX7_goes_46 (nx := 47) rfl ?_
    refine v_aload_n 0 dX7_goes_47 (nx := 48) rfl rfl ?_
    refine m_gA 10 (p := 0) dX7_goes_48 (nx := 51) rfl (by decide) fl_X7_9 rfl ?_
    refine v_iconst dX7_goes_51 (nx := 52) rfl ?_
    refine m_ald10e (z := N 4) dX7_goes_52 (nx := 53) rfl ⟨by omega, by omega⟩ (by first | rfl | (repeat rw [uI_n (by omega)])) ?_
    refine m_ast10 dX7_goes_53 (nx := 54) rfl ⟨by omega, by omega⟩ ?_
    refine v_aload_n 0 dX7_goes_54 (nx := 55) rfl rfl ?_
    refine m_gA 10 (p := 0) dX7_goes_55 (nx := 58) rfl (by decide) fl_X7_9 rfl ?_
    refine v_sipush dX7_goes_58 (nx := 61) rfl rfl ?_
    refine v_iload_n 1 dX7_goes_61 (nx := 62) rfl rfl ?_
    refine v_iadd dX7_goes_62 (nx := 63) rfl ?_
    refine v_dup2 dX7_goes_63 (nx := 64) rfl rfl rfl ?_
    refine m_ald10e (z := N (664 + b)) dX7_goes_64 (nx := 65) rfl ⟨by omega, by omega⟩ (by first | rfl | (repeat rw [uI_n (by omega)])) ?_
    refine v_iconst dX7_goes_65 (nx := 66) rfl ?_
    refine v_iadd dX7_goes_66 (nx := 67) rfl ?_
    refine m_ast10 dX7_goes_67 (nx := 68) rfl ⟨by omega, by omega⟩ ?_
    exact t_ret dX7_goes_68 rfl ⟨rfl, by unfold goesN; first | rw [if_pos (by omega)] | rw [if_neg (by omega)]⟩
