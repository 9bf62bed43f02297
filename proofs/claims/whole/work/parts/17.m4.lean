theorem inR_waits {N : NN} {db dk g : Int} (h : ∀ j, inR (N j)) (h1 : inR db) (h2 : inR dk) (h5 : inR (N 5 + 1)) (hb : 0 ≤ g) (hb2 : g < 60) (j : Int) : inR (waitsN (uI N (424 + g) db) g dk j) := by
  unfold waitsN liesN
  have h0 := inR_uI (x := 424 + g) h h1
  have e5 : uI N (424 + g) db 5 = N 5 := uI_n (by omega)
  exact inR_uI (inR_uI (inR_uI (inR_uI h0 ⟨by decide, by decide⟩) h2) (h0 5)) (by rw [e5]; exact h5) j
theorem ahead_R {N : NN} {b w p : Int} (b3 : 0 ≤ N 3 ∧ N 3 ≤ 60) : inR (aheadN N b w p) := by
  have := cntI_b (P := fun x => decide ((N (484 + x) = w ∧ N (544 + x) = p) ∧ (N (604 + x) < N (604 + b) ∨ (N (604 + x) = N (604 + b) ∧ x < b)))) b3.1
  unfold aheadN
  exact ⟨by omega, by omega⟩
set_option maxRecDepth 100000 in
theorem c_X7_cell {g : GG} {kp : Bool} {σ : SS} {N K G F : Int → Int} {k f : Int} (hR : ∀ j, inR (N j)) (b : Int) (c : Int) (hb : inR b) (hc : inR c) (b0 : 0 ≤ N 0 ∧ N 0 ≤ 12) (b1 : 0 ≤ N 1 ∧ N 1 ≤ 16) (b2 : 0 ≤ N 2 ∧ N 2 ≤ 8) (b3 : 0 ≤ N 3 ∧ N 3 ≤ 60) (hl : ∀ b, 0 ≤ b → b < N 1 → 1 ≤ N (100 + b) ∧ N (100 + b) ≤ 12) (hce : ∀ b c, 0 ≤ b → b < N 1 → 0 ≤ c → c < 12 → 0 ≤ N (148 + 12 * b + c) ∧ N (148 + 12 * b + c) ≤ 60) : XC g kp 2 mX7_cell [rf g (ad 14 0 0), vi b, vi c] (mkS σ N K G F k f) (some (vi (s_cell N b c).1)) (mkS σ (s_cell N b c).2.1 K G F k (f + (s_cell N b c).2.2)) := by
  refine TC.of (by decide) (Nat.le_of_ble_eq_true rfl) rfl ?_
  refine v_aload_n 0 dX7_cell_0 (nx := 1) rfl rfl ?_
  refine v_iload_n 1 dX7_cell_1 (nx := 2) rfl rfl ?_
  refine t_callVi (a := 14) (c_X7_isBelt _ (by assumption) (by omega)) dX7_cell_2 (nx := 5) rfl kX7_isBelt ml_X7_42 (by decide) (ok_m 14 rfl) rfl rfl rfl rfl (Nat.le_of_ble_eq_true rfl) ⟨by decide, by decide⟩ ⟨by decide, by decide⟩ ?_
  refine v_ifB_eq dX7_cell_5 (tgt := 27) (by decide) (nx := 8) rfl (fun c5 => ?_) (fun c5 => ?_)
  · refine v_aload_n 0 dX7_cell_27 (nx := 28) rfl rfl ?_
    refine v_iconst dX7_cell_28 (nx := 29) rfl ?_
    refine t_callVi (a := 14) (c_X7_finding _) dX7_cell_29 (nx := 32) rfl kX7_finding ml_X7_31 (by decide) (ok_m 14 rfl) rfl rfl rfl rfl (Nat.le_of_ble_eq_true rfl) ⟨by decide, by decide⟩ ⟨by decide, by decide⟩ ?_
    exact t_iret dX7_cell_32 rfl (by first | exact lf1 (by unfold s_cell; (repeat (first | rewrite [if_pos (by omega)] | rewrite [if_neg (by omega)])); first | rfl | (refine Prod.ext rfl (Prod.ext (congrArg (uI _ _) ?_) rfl); unfold uI; (repeat rw [if_neg (by omega)]))) | exact lf0 (by unfold s_cell; (repeat (first | rewrite [if_pos (by omega)] | rewrite [if_neg (by omega)])); first | rfl | (refine Prod.ext rfl (Prod.ext (congrArg (uI _ _) ?_) rfl); unfold uI; (repeat rw [if_neg (by omega)]))) | (exfalso; omega))
  · have hlb := hl b (by omega) (by omega)
    refine v_iload_n 2 dX7_cell_8 (nx := 9) rfl rfl ?_
    refine v_iconst dX7_cell_9 (nx := 10) rfl ?_
    refine v_aload_n 0 dX7_cell_10 (nx := 11) rfl rfl ?_
    refine m_gA 10 (p := 0) dX7_cell_11 (nx := 14) rfl (by decide) fl_X7_9 rfl ?_
    refine v_bipush dX7_cell_14 (nx := 16) rfl rfl ?_
    refine v_iload_n 1 dX7_cell_16 (nx := 17) rfl rfl ?_
    refine v_iadd dX7_cell_17 (nx := 18) rfl ?_
    refine m_ald10 dX7_cell_18 (nx := 19) rfl ⟨by omega, by omega⟩ ?_
    refine v_iconst dX7_cell_19 (nx := 20) rfl ?_
    refine v_isub dX7_cell_20 (nx := 21) rfl ?_
    refine t_callSi (c_X7_in _ _ _ (by first | assumption | exact hR _ | exact ⟨by omega, by omega⟩) (by first | assumption | exact hR _ | exact ⟨by omega, by omega⟩) (by first | assumption | exact hR _ | exact ⟨by omega, by omega⟩)) dX7_cell_21 (nx := 24) rfl kX7_in ml_X7_27 rfl rfl (Nat.le_of_ble_eq_true rfl) ⟨by decide, by decide⟩ ⟨by decide, by decide⟩ ?_
    refine v_ifB_ne dX7_cell_24 (tgt := 33) (by decide) (nx := 27) rfl (fun c24 => ?_) (fun c24 => ?_)
    · have hcc := hce b c (by omega) (by omega) (by omega) (by omega)
      refine v_aload_n 0 dX7_cell_33 (nx := 34) rfl rfl ?_
      refine m_gA 10 (p := 0) dX7_cell_34 (nx := 37) rfl (by decide) fl_X7_9 rfl ?_
      refine v_sipush dX7_cell_37 (nx := 40) rfl rfl ?_
      refine v_bipush dX7_cell_40 (nx := 42) rfl rfl ?_
      refine v_iload_n 1 dX7_cell_42 (nx := 43) rfl rfl ?_
      refine v_imul dX7_cell_43 (nx := 44) rfl ?_
      refine v_iadd dX7_cell_44 (nx := 45) rfl ?_
      refine v_iload_n 2 dX7_cell_45 (nx := 46) rfl rfl ?_
      refine v_iadd dX7_cell_46 (nx := 47) rfl ?_
      refine m_ald10 dX7_cell_47 (nx := 48) rfl ⟨by omega, by omega⟩ ?_
      refine v_iconst dX7_cell_48 (nx := 49) rfl ?_
      refine v_isub dX7_cell_49 (nx := 50) rfl ?_
      refine v_istore_n dX7_cell_50 (nx := 51) rfl rfl (by decide) ?_
      refine v_iload_n 3 dX7_cell_51 (nx := 52) rfl rfl ?_
      refine v_if_ge dX7_cell_52 (tgt := 64) (by decide) (nx := 55) rfl (by first | assumption | exact hR _ | exact ⟨by omega, by omega⟩) (fun c52 => ?_) (fun c52 => ?_)
      · refine v_iload_n 3 dX7_cell_64 (nx := 65) rfl rfl ?_
        exact t_iret dX7_cell_65 rfl (by first | exact lf1 (by unfold s_cell; (repeat (first | rewrite [if_pos (by omega)] | rewrite [if_neg (by omega)])); first | rfl | (refine Prod.ext rfl (Prod.ext (congrArg (uI _ _) ?_) rfl); unfold uI; (repeat rw [if_neg (by omega)]))) | exact lf0 (by unfold s_cell; (repeat (first | rewrite [if_pos (by omega)] | rewrite [if_neg (by omega)])); first | rfl | (refine Prod.ext rfl (Prod.ext (congrArg (uI _ _) ?_) rfl); unfold uI; (repeat rw [if_neg (by omega)]))) | (exfalso; omega))
      · refine v_aload_n 0 dX7_cell_55 (nx := 56) rfl rfl ?_
        refine v_bipush dX7_cell_56 (nx := 58) rfl rfl ?_
        refine t_callVi (a := 14) (c_X7_finding _) dX7_cell_58 (nx := 61) rfl kX7_finding ml_X7_31 (by decide) (ok_m 14 rfl) rfl rfl rfl rfl (Nat.le_of_ble_eq_true rfl) ⟨by decide, by decide⟩ ⟨by decide, by decide⟩ ?_
        refine v_goto dX7_cell_61 (tgt := 65) (by decide) ?_
        exact t_iret dX7_cell_65 rfl (by first | exact lf1 (by unfold s_cell; (repeat (first | rewrite [if_pos (by omega)] | rewrite [if_neg (by omega)])); first | rfl | (refine Prod.ext rfl (Prod.ext (congrArg (uI _ _) ?_) rfl); unfold uI; (repeat rw [if_neg (by omega)]))) | exact lf0 (by unfold s_cell; (repeat (first | rewrite [if_pos (by omega)] | rewrite [if_neg (by omega)])); first | rfl | (refine Prod.ext rfl (Prod.ext (congrArg (uI _ _) ?_) rfl); unfold uI; (repeat rw [if_neg (by omega)]))) | (exfalso; omega))
    · refine v_aload_n 0 dX7_cell_27 (nx := 28) rfl rfl ?_
      refine v_iconst dX7_cell_28 (nx := 29) rfl ?_
      refine t_callVi (a := 14) (c_X7_finding _) dX7_cell_29 (nx := 32) rfl kX7_finding ml_X7_31 (by decide) (ok_m 14 rfl) rfl rfl rfl rfl (Nat.le_of_ble_eq_true rfl) ⟨by decide, by decide⟩ ⟨by decide, by decide⟩ ?_
      exact t_iret dX7_cell_32 rfl (by first | exact lf1 (by unfold s_cell; (repeat (first | rewrite [if_pos (by omega)] | rewrite [if_neg (by omega)])); first | rfl | (refine Prod.ext rfl (Prod.ext (congrArg (uI _ _) ?_) rfl); unfold uI; (repeat rw [if_neg (by omega)]))) | exact lf0 (by unfold s_cell; (repeat (first | rewrite [if_pos (by omega)] | rewrite [if_neg (by omega)])); first | rfl | (refine Prod.ext rfl (Prod.ext (congrArg (uI _ _) ?_) rfl); unfold uI; (repeat rw [if_neg (by omega)]))) | (exfalso; omega))

set_option maxRecDepth 100000 in
theorem c_X7_holds {g : GG} {kp : Bool} {σ : SS} {N K G F : Int → Int} {k f : Int} (hR : ∀ j, inR (N j)) (p : Int) (hp : inR p) (b0 : 0 ≤ N 0 ∧ N 0 ≤ 12) (b1 : 0 ≤ N 1 ∧ N 1 ≤ 16) (b2 : 0 ≤ N 2 ∧ N 2 ≤ 8) (b3 : 0 ≤ N 3 ∧ N 3 ≤ 60) (hh : ∀ p, 0 ≤ p → p < N 0 → 0 ≤ N (32 + p) ∧ N (32 + p) ≤ 60) : XC g kp 2 mX7_holds [rf g (ad 14 0 0), vi p] (mkS σ N K G F k f) (some (vi (s_holds N p).1)) (mkS σ (s_holds N p).2.1 K G F k (f + (s_holds N p).2.2)) := by
  refine TC.of (by decide) (Nat.le_of_ble_eq_true rfl) rfl ?_
  refine v_aload_n 0 dX7_holds_0 (nx := 1) rfl rfl ?_
  refine v_iload_n 1 dX7_holds_1 (nx := 2) rfl rfl ?_
  refine t_callVi (a := 14) (c_X7_isPoint _ (by assumption) (by omega)) dX7_holds_2 (nx := 5) rfl kX7_isPoint ml_X7_35 (by decide) (ok_m 14 rfl) rfl rfl rfl rfl (Nat.le_of_ble_eq_true rfl) ⟨by decide, by decide⟩ ⟨by decide, by decide⟩ ?_
  refine v_ifB_ne dX7_holds_5 (tgt := 14) (by decide) (nx := 8) rfl (fun c5 => ?_) (fun c5 => ?_)
  · refine v_aload_n 0 dX7_holds_14 (nx := 15) rfl rfl ?_
    refine v_iload_n 1 dX7_holds_15 (nx := 16) rfl rfl ?_
    refine t_callVi (a := 14) (c_X7_kindOf _ (by omega)) dX7_holds_16 (nx := 19) rfl kX7_kindOf ml_X7_39 (by decide) (ok_m 14 rfl) rfl rfl rfl rfl (Nat.le_of_ble_eq_true rfl) ⟨by decide, by decide⟩ ⟨by decide, by decide⟩ ?_
    refine v_iconst dX7_holds_19 (nx := 20) rfl ?_
    refine v_iconst dX7_holds_20 (nx := 21) rfl ?_
    refine t_callSi (c_X7_in _ _ _ (by first | assumption | exact hR _ | exact ⟨by omega, by omega⟩) (by first | assumption | exact hR _ | exact ⟨by omega, by omega⟩) (by first | assumption | exact hR _ | exact ⟨by omega, by omega⟩)) dX7_holds_21 (nx := 24) rfl kX7_in ml_X7_27 rfl rfl (Nat.le_of_ble_eq_true rfl) ⟨by decide, by decide⟩ ⟨by decide, by decide⟩ ?_
    refine v_ifB_ne dX7_holds_24 (tgt := 34) (by decide) (nx := 27) rfl (fun c24 => ?_) (fun c24 => ?_)
    · have hh1 := hh p (by omega) (by omega)
      refine v_aload_n 0 dX7_holds_34 (nx := 35) rfl rfl ?_
      refine m_gA 10 (p := 0) dX7_holds_35 (nx := 38) rfl (by decide) fl_X7_9 rfl ?_
      refine v_bipush dX7_holds_38 (nx := 40) rfl rfl ?_
      refine v_iload_n 1 dX7_holds_40 (nx := 41) rfl rfl ?_
      refine v_iadd dX7_holds_41 (nx := 42) rfl ?_
      refine m_ald10 dX7_holds_42 (nx := 43) rfl ⟨by omega, by omega⟩ ?_
      refine v_if_ne dX7_holds_43 (tgt := 55) (by decide) (nx := 46) rfl (by first | assumption | exact hR _ | exact ⟨by omega, by omega⟩) (fun c43 => ?_) (fun c43 => ?_)
      · refine v_aload_n 0 dX7_holds_55 (nx := 56) rfl rfl ?_
        refine m_gA 10 (p := 0) dX7_holds_56 (nx := 59) rfl (by decide) fl_X7_9 rfl ?_
        refine v_bipush dX7_holds_59 (nx := 61) rfl rfl ?_
        refine v_iload_n 1 dX7_holds_61 (nx := 62) rfl rfl ?_
        refine v_iadd dX7_holds_62 (nx := 63) rfl ?_
        refine m_ald10 dX7_holds_63 (nx := 64) rfl ⟨by omega, by omega⟩ ?_
        refine v_iconst dX7_holds_64 (nx := 65) rfl ?_
        refine v_isub dX7_holds_65 (nx := 66) rfl ?_
        exact t_iret dX7_holds_66 rfl (by first | exact lf1 (by unfold s_holds; (repeat (first | rewrite [if_pos (by omega)] | rewrite [if_neg (by omega)])); first | rfl | (refine Prod.ext rfl (Prod.ext (congrArg (uI _ _) ?_) rfl); unfold uI; (repeat rw [if_neg (by omega)]))) | exact lf0 (by unfold s_holds; (repeat (first | rewrite [if_pos (by omega)] | rewrite [if_neg (by omega)])); first | rfl | (refine Prod.ext rfl (Prod.ext (congrArg (uI _ _) ?_) rfl); unfold uI; (repeat rw [if_neg (by omega)]))) | (exfalso; omega))
      · refine v_aload_n 0 dX7_holds_46 (nx := 47) rfl rfl ?_
        refine v_bipush dX7_holds_47 (nx := 49) rfl rfl ?_
        refine t_callVi (a := 14) (c_X7_finding _) dX7_holds_49 (nx := 52) rfl kX7_finding ml_X7_31 (by decide) (ok_m 14 rfl) rfl rfl rfl rfl (Nat.le_of_ble_eq_true rfl) ⟨by decide, by decide⟩ ⟨by decide, by decide⟩ ?_
        refine v_goto dX7_holds_52 (tgt := 66) (by decide) ?_
        exact t_iret dX7_holds_66 rfl (by first | exact lf1 (by unfold s_holds; (repeat (first | rewrite [if_pos (by omega)] | rewrite [if_neg (by omega)])); first | rfl | (refine Prod.ext rfl (Prod.ext (congrArg (uI _ _) ?_) rfl); unfold uI; (repeat rw [if_neg (by omega)]))) | exact lf0 (by unfold s_holds; (repeat (first | rewrite [if_pos (by omega)] | rewrite [if_neg (by omega)])); first | rfl | (refine Prod.ext rfl (Prod.ext (congrArg (uI _ _) ?_) rfl); unfold uI; (repeat rw [if_neg (by omega)]))) | (exfalso; omega))
    · refine v_aload_n 0 dX7_holds_27 (nx := 28) rfl rfl ?_
      refine v_bipush dX7_holds_28 (nx := 30) rfl rfl ?_
      refine t_callVi (a := 14) (c_X7_finding _) dX7_holds_30 (nx := 33) rfl kX7_finding ml_X7_31 (by decide) (ok_m 14 rfl) rfl rfl rfl rfl (Nat.le_of_ble_eq_true rfl) ⟨by decide, by decide⟩ ⟨by decide, by decide⟩ ?_
      exact t_iret dX7_holds_33 rfl (by first | exact lf1 (by unfold s_holds; (repeat (first | rewrite [if_pos (by omega)] | rewrite [if_neg (by omega)])); first | rfl | (refine Prod.ext rfl (Prod.ext (congrArg (uI _ _) ?_) rfl); unfold uI; (repeat rw [if_neg (by omega)]))) | exact lf0 (by unfold s_holds; (repeat (first | rewrite [if_pos (by omega)] | rewrite [if_neg (by omega)])); first | rfl | (refine Prod.ext rfl (Prod.ext (congrArg (uI _ _) ?_) rfl); unfold uI; (repeat rw [if_neg (by omega)]))) | (exfalso; omega))
  · refine v_aload_n 0 dX7_holds_8 (nx := 9) rfl rfl ?_
    refine v_iconst dX7_holds_9 (nx := 10) rfl ?_
    refine t_callVi (a := 14) (c_X7_finding _) dX7_holds_10 (nx := 13) rfl kX7_finding ml_X7_31 (by decide) (ok_m 14 rfl) rfl rfl rfl rfl (Nat.le_of_ble_eq_true rfl) ⟨by decide, by decide⟩ ⟨by decide, by decide⟩ ?_
    exact t_iret dX7_holds_13 rfl (by first | exact lf1 (by unfold s_holds; (repeat (first | rewrite [if_pos (by omega)] | rewrite [if_neg (by omega)])); first | rfl | (refine Prod.ext rfl (Prod.ext (congrArg (uI _ _) ?_) rfl); unfold uI; (repeat rw [if_neg (by omega)]))) | exact lf0 (by unfold s_holds; (repeat (first | rewrite [if_pos (by omega)] | rewrite [if_neg (by omega)])); first | rfl | (refine Prod.ext rfl (Prod.ext (congrArg (uI _ _) ?_) rfl); unfold uI; (repeat rw [if_neg (by omega)]))) | (exfalso; omega))

set_option maxRecDepth 100000 in
theorem c_X7_take {g : GG} {kp : Bool} {σ : SS} {N K G F : Int → Int} {k f : Int} (hR : ∀ j, inR (N j)) (b : Int) (hb : inR b) (b0 : 0 ≤ N 0 ∧ N 0 ≤ 12) (b1 : 0 ≤ N 1 ∧ N 1 ≤ 16) (b2 : 0 ≤ N 2 ∧ N 2 ≤ 8) (b3 : 0 ≤ N 3 ∧ N 3 ≤ 60) (hb1 : ∀ b, 0 ≤ b → b < N 3 → N (484 + b) = 1 → (0 ≤ N (544 + b) ∧ N (544 + b) < 16) ∧ 0 ≤ N (604 + b) ∧ N (604 + b) < 12) (hb2 : ∀ b, 0 ≤ b → b < N 3 → N (484 + b) = 2 → 0 ≤ N (544 + b) ∧ N (544 + b) < 12) : XC g kp 2 mX7_take [rf g (ad 14 0 0), vi b] (mkS σ N K G F k f) (some (vi (s_take N b).1)) (mkS σ (s_take N b).2.1 K G F k (f + (s_take N b).2.2)) := by
  refine TC.of (by decide) (Nat.le_of_ble_eq_true rfl) rfl ?_
  refine v_aload_n 0 dX7_take_0 (nx := 1) rfl rfl ?_
  refine v_iload_n 1 dX7_take_1 (nx := 2) rfl rfl ?_
  refine t_callVi (a := 14) (c_X7_isBag _ (by assumption) (by omega)) dX7_take_2 (nx := 5) rfl kX7_isBag ml_X7_56 (by decide) (ok_m 14 rfl) rfl rfl rfl rfl (Nat.le_of_ble_eq_true rfl) ⟨by decide, by decide⟩ ⟨by decide, by decide⟩ ?_
  refine v_ifB_ne dX7_take_5 (tgt := 14) (by decide) (nx := 8) rfl (fun c5 => ?_) (fun c5 => ?_)
  · refine v_aload_n 0 dX7_take_14 (nx := 15) rfl rfl ?_
    refine m_gA 10 (p := 0) dX7_take_15 (nx := 18) rfl (by decide) fl_X7_9 rfl ?_
    refine v_sipush dX7_take_18 (nx := 21) rfl rfl ?_
    refine v_iload_n 1 dX7_take_21 (nx := 22) rfl rfl ?_
    refine v_iadd dX7_take_22 (nx := 23) rfl ?_
    refine m_ald10 dX7_take_23 (nx := 24) rfl ⟨by omega, by omega⟩ ?_
    refine v_istore_n dX7_take_24 (nx := 25) rfl rfl (by decide) ?_
    refine v_aload_n 0 dX7_take_25 (nx := 26) rfl rfl ?_
    refine m_gA 10 (p := 0) dX7_take_26 (nx := 29) rfl (by decide) fl_X7_9 rfl ?_
    refine v_sipush dX7_take_29 (nx := 32) rfl rfl ?_
    refine v_iload_n 1 dX7_take_32 (nx := 33) rfl rfl ?_
    refine v_iadd dX7_take_33 (nx := 34) rfl ?_
    refine m_ald10 dX7_take_34 (nx := 35) rfl ⟨by omega, by omega⟩ ?_
    refine v_istore_n dX7_take_35 (nx := 36) rfl rfl (by decide) ?_
    refine v_iload_n 2 dX7_take_36 (nx := 37) rfl rfl ?_
    refine v_iconst dX7_take_37 (nx := 38) rfl ?_
    refine v_icmp_lt dX7_take_38 (tgt := 48) (by decide) (nx := 41) rfl (by first | assumption | exact hR _ | exact ⟨by omega, by omega⟩) (by first | assumption | exact hR _ | exact ⟨by omega, by omega⟩) (fun c38 => ?_) (fun c38 => ?_)
    · refine v_iload_n 2 dX7_take_48 (nx := 49) rfl rfl ?_
      refine v_iconst dX7_take_49 (nx := 50) rfl ?_
      refine v_icmp_ne dX7_take_50 (tgt := 78) (by decide) (nx := 53) rfl (by first | assumption | exact hR _ | exact ⟨by omega, by omega⟩) (by first | assumption | exact hR _ | exact ⟨by omega, by omega⟩) (fun c50 => ?_) (fun c50 => ?_)
      · refine v_iload_n 2 dX7_take_78 (nx := 79) rfl rfl ?_
        refine v_iconst dX7_take_79 (nx := 80) rfl ?_
        refine v_icmp_ne dX7_take_80 (tgt := 93) (by decide) (nx := 83) rfl (by first | assumption | exact hR _ | exact ⟨by omega, by omega⟩) (by first | assumption | exact hR _ | exact ⟨by omega, by omega⟩) (fun c80 => ?_) (fun c80 => ?_)
        · refine v_aload_n 0 dX7_take_93 (nx := 94) rfl rfl ?_
          refine v_iload_n 1 dX7_take_94 (nx := 95) rfl rfl ?_
          refine v_iconst dX7_take_95 (nx := 96) rfl ?_
          refine v_bipush dX7_take_96 (nx := 98) rfl rfl ?_
          refine v_iconst dX7_take_98 (nx := 99) rfl ?_
          refine t_callVv (a := 14) (c_X7_lies _ _ _ _ (by omega)) dX7_take_99 (nx := 102) rfl kX7_lies ml_X7_45 (by decide) (ok_m 14 rfl) rfl rfl rfl rfl (Nat.le_of_ble_eq_true rfl) ⟨by decide, by decide⟩ ⟨by decide, by decide⟩ ?_
          refine v_iconst dX7_take_102 (nx := 103) rfl ?_
          exact t_iret dX7_take_103 rfl (by first | exact lf1 (by unfold s_take; (repeat (first | rewrite [if_pos (by omega)] | rewrite [if_neg (by omega)])); first | rfl | (refine Prod.ext rfl (Prod.ext (congrArg (uI _ _) ?_) rfl); unfold uI; (repeat rw [if_neg (by omega)]))) | exact lf0 (by unfold s_take; (repeat (first | rewrite [if_pos (by omega)] | rewrite [if_neg (by omega)])); first | rfl | (refine Prod.ext rfl (Prod.ext (congrArg (uI _ _) ?_) rfl); unfold uI; (repeat rw [if_neg (by omega)]))) | (exfalso; omega))
        · have hq2 := hb2 b (by omega) (by omega) (by omega)
          refine v_aload_n 0 dX7_take_83 (nx := 84) rfl rfl ?_
          refine m_gA 10 (p := 0) dX7_take_84 (nx := 87) rfl (by decide) fl_X7_9 rfl ?_
          refine v_bipush dX7_take_87 (nx := 89) rfl rfl ?_
          refine v_iload_n 3 dX7_take_89 (nx := 90) rfl rfl ?_
          refine v_iadd dX7_take_90 (nx := 91) rfl ?_
          refine v_iconst dX7_take_91 (nx := 92) rfl ?_
          refine m_ast10 dX7_take_92 (nx := 93) rfl ⟨by omega, by omega⟩ ?_
          refine v_aload_n 0 dX7_take_93 (nx := 94) rfl rfl ?_
          refine v_iload_n 1 dX7_take_94 (nx := 95) rfl rfl ?_
          refine v_iconst dX7_take_95 (nx := 96) rfl ?_
          refine v_bipush dX7_take_96 (nx := 98) rfl rfl ?_
          refine v_iconst dX7_take_98 (nx := 99) rfl ?_
          refine t_callVv (a := 14) (c_X7_lies _ _ _ _ (by omega)) dX7_take_99 (nx := 102) rfl kX7_lies ml_X7_45 (by decide) (ok_m 14 rfl) rfl rfl rfl rfl (Nat.le_of_ble_eq_true rfl) ⟨by decide, by decide⟩ ⟨by decide, by decide⟩ ?_
          refine v_iconst dX7_take_102 (nx := 103) rfl ?_
          exact t_iret dX7_take_103 rfl (by first | exact lf1 (by unfold s_take; (repeat (first | rewrite [if_pos (by omega)] | rewrite [if_neg (by omega)])); first | rfl | (refine Prod.ext rfl (Prod.ext (congrArg (uI _ _) ?_) rfl); unfold uI; (repeat rw [if_neg (by omega)]))) | exact lf0 (by unfold s_take; (repeat (first | rewrite [if_pos (by omega)] | rewrite [if_neg (by omega)])); first | rfl | (refine Prod.ext rfl (Prod.ext (congrArg (uI _ _) ?_) rfl); unfold uI; (repeat rw [if_neg (by omega)]))) | (exfalso; omega))
      · have hq := hb1 b (by omega) (by omega) (by omega)
        refine v_aload_n 0 dX7_take_53 (nx := 54) rfl rfl ?_
        refine m_gA 10 (p := 0) dX7_take_54 (nx := 57) rfl (by decide) fl_X7_9 rfl ?_
        refine v_sipush dX7_take_57 (nx := 60) rfl rfl ?_
        refine v_bipush dX7_take_60 (nx := 62) rfl rfl ?_
        refine v_iload_n 3 dX7_take_62 (nx := 63) rfl rfl ?_
        refine v_imul dX7_take_63 (nx := 64) rfl ?_
        refine v_iadd dX7_take_64 (nx := 65) rfl ?_
        refine v_aload_n 0 dX7_take_65 (nx := 66) rfl rfl ?_
        refine m_gA 10 (p := 0) dX7_take_66 (nx := 69) rfl (by decide) fl_X7_9 rfl ?_
        refine v_sipush dX7_take_69 (nx := 72) rfl rfl ?_
        refine v_iload_n 1 dX7_take_72 (nx := 73) rfl rfl ?_
        refine v_iadd dX7_take_73 (nx := 74) rfl ?_
        refine m_ald10 dX7_take_74 (nx := 75) rfl ⟨by omega, by omega⟩ ?_
        refine v_iadd dX7_take_75 (nx := 76) rfl ?_
        refine v_iconst dX7_take_76 (nx := 77) rfl ?_
        refine m_ast10 dX7_take_77 (nx := 78) rfl ⟨by omega, by omega⟩ ?_
        refine v_iload_n 2 dX7_take_78 (nx := 79) rfl rfl ?_
        refine v_iconst dX7_take_79 (nx := 80) rfl ?_
        refine v_icmp_ne dX7_take_80 (tgt := 93) (by decide) (nx := 83) rfl (by first | assumption | exact hR _ | exact ⟨by omega, by omega⟩) (by first | assumption | exact hR _ | exact ⟨by omega, by omega⟩) (fun c80 => ?_) (fun c80 => ?_)
        · refine v_aload_n 0 dX7_take_93 (nx := 94) rfl rfl ?_
          refine v_iload_n 1 dX7_take_94 (nx := 95) rfl rfl ?_
          refine v_iconst dX7_take_95 (nx := 96) rfl ?_
          refine v_bipush dX7_take_96 (nx := 98) rfl rfl ?_
          refine v_iconst dX7_take_98 (nx := 99) rfl ?_
          refine t_callVv (a := 14) (c_X7_lies _ _ _ _ (by omega)) dX7_take_99 (nx := 102) rfl kX7_lies ml_X7_45 (by decide) (ok_m 14 rfl) rfl rfl rfl rfl (Nat.le_of_ble_eq_true rfl) ⟨by decide, by decide⟩ ⟨by decide, by decide⟩ ?_
          refine v_iconst dX7_take_102 (nx := 103) rfl ?_
          exact t_iret dX7_take_103 rfl (by first | exact lf1 (by unfold s_take; (repeat (first | rewrite [if_pos (by omega)] | rewrite [if_neg (by omega)])); first | rfl | (refine Prod.ext rfl (Prod.ext (congrArg (uI _ _) ?_) rfl); unfold uI; (repeat rw [if_neg (by omega)]))) | exact lf0 (by unfold s_take; (repeat (first | rewrite [if_pos (by omega)] | rewrite [if_neg (by omega)])); first | rfl | (refine Prod.ext rfl (Prod.ext (congrArg (uI _ _) ?_) rfl); unfold uI; (repeat rw [if_neg (by omega)]))) | (exfalso; omega))
        · have hq2 := hb2 b (by omega) (by omega) (by omega)
          refine v_aload_n 0 dX7_take_83 (nx := 84) rfl rfl ?_
          refine m_gA 10 (p := 0) dX7_take_84 (nx := 87) rfl (by decide) fl_X7_9 rfl ?_
          refine v_bipush dX7_take_87 (nx := 89) rfl rfl ?_
          refine v_iload_n 3 dX7_take_89 (nx := 90) rfl rfl ?_
          refine v_iadd dX7_take_90 (nx := 91) rfl ?_
          refine v_iconst dX7_take_91 (nx := 92) rfl ?_
          refine m_ast10 dX7_take_92 (nx := 93) rfl ⟨by omega, by omega⟩ ?_
          refine v_aload_n 0 dX7_take_93 (nx := 94) rfl rfl ?_
          refine v_iload_n 1 dX7_take_94 (nx := 95) rfl rfl ?_
          refine v_iconst dX7_take_95 (nx := 96) rfl ?_
          refine v_bipush dX7_take_96 (nx := 98) rfl rfl ?_
          refine v_iconst dX7_take_98 (nx := 99) rfl ?_
          refine t_callVv (a := 14) (c_X7_lies _ _ _ _ (by omega)) dX7_take_99 (nx := 102) rfl kX7_lies ml_X7_45 (by decide) (ok_m 14 rfl) rfl rfl rfl rfl (Nat.le_of_ble_eq_true rfl) ⟨by decide, by decide⟩ ⟨by decide, by decide⟩ ?_
          refine v_iconst dX7_take_102 (nx := 103) rfl ?_
          exact t_iret dX7_take_103 rfl (by first | exact lf1 (by unfold s_take; (repeat (first | rewrite [if_pos (by omega)] | rewrite [if_neg (by omega)])); first | rfl | (refine Prod.ext rfl (Prod.ext (congrArg (uI _ _) ?_) rfl); unfold uI; (repeat rw [if_neg (by omega)]))) | exact lf0 (by unfold s_take; (repeat (first | rewrite [if_pos (by omega)] | rewrite [if_neg (by omega)])); first | rfl | (refine Prod.ext rfl (Prod.ext (congrArg (uI _ _) ?_) rfl); unfold uI; (repeat rw [if_neg (by omega)]))) | (exfalso; omega))
    · refine v_aload_n 0 dX7_take_41 (nx := 42) rfl rfl ?_
      refine v_bipush dX7_take_42 (nx := 44) rfl rfl ?_
      refine t_callVi (a := 14) (c_X7_finding _) dX7_take_44 (nx := 47) rfl kX7_finding ml_X7_31 (by decide) (ok_m 14 rfl) rfl rfl rfl rfl (Nat.le_of_ble_eq_true rfl) ⟨by decide, by decide⟩ ⟨by decide, by decide⟩ ?_
      exact t_iret dX7_take_47 rfl (by first | exact lf1 (by unfold s_take; (repeat (first | rewrite [if_pos (by omega)] | rewrite [if_neg (by omega)])); first | rfl | (refine Prod.ext rfl (Prod.ext (congrArg (uI _ _) ?_) rfl); unfold uI; (repeat rw [if_neg (by omega)]))) | exact lf0 (by unfold s_take; (repeat (first | rewrite [if_pos (by omega)] | rewrite [if_neg (by omega)])); first | rfl | (refine Prod.ext rfl (Prod.ext (congrArg (uI _ _) ?_) rfl); unfold uI; (repeat rw [if_neg (by omega)]))) | (exfalso; omega))
  · refine v_aload_n 0 dX7_take_8 (nx := 9) rfl rfl ?_
    refine v_iconst dX7_take_9 (nx := 10) rfl ?_
    refine t_callVi (a := 14) (c_X7_finding _) dX7_take_10 (nx := 13) rfl kX7_finding ml_X7_31 (by decide) (ok_m 14 rfl) rfl rfl rfl rfl (Nat.le_of_ble_eq_true rfl) ⟨by decide, by decide⟩ ⟨by decide, by decide⟩ ?_
    exact t_iret dX7_take_13 rfl (by first | exact lf1 (by unfold s_take; (repeat (first | rewrite [if_pos (by omega)] | rewrite [if_neg (by omega)])); first | rfl | (refine Prod.ext rfl (Prod.ext (congrArg (uI _ _) ?_) rfl); unfold uI; (repeat rw [if_neg (by omega)]))) | exact lf0 (by unfold s_take; (repeat (first | rewrite [if_pos (by omega)] | rewrite [if_neg (by omega)])); first | rfl | (refine Prod.ext rfl (Prod.ext (congrArg (uI _ _) ?_) rfl); unfold uI; (repeat rw [if_neg (by omega)]))) | (exfalso; omega))

set_option maxRecDepth 100000 in
theorem c_X7_bag {g : GG} {kp : Bool} {σ : SS} {N K G F : Int → Int} {k f : Int} (hR : ∀ j, inR (N j)) (dk : Int) (fl : Int) (db : Int) (hdk : inR dk) (hfl : inR fl) (hdb : inR db) (b0 : 0 ≤ N 0 ∧ N 0 ≤ 12) (b1 : 0 ≤ N 1 ∧ N 1 ≤ 16) (b2 : 0 ≤ N 2 ∧ N 2 ≤ 8) (b3 : 0 ≤ N 3 ∧ N 3 ≤ 60) (h01 : db = 0 ∨ db = 1) : XC g kp 2 mX7_bag [rf g (ad 14 0 0), vi dk, vi fl, vi db] (mkS σ N K G F k f) (some (vi (s_bag N dk fl db).1)) (mkS σ (s_bag N dk fl db).2.1 K G F k (f + (s_bag N dk fl db).2.2)) := by
  refine TC.of (by decide) (Nat.le_of_ble_eq_true rfl) rfl ?_
  refine v_aload_n 0 dX7_bag_0 (nx := 1) rfl rfl ?_
  refine v_iload_n 1 dX7_bag_1 (nx := 2) rfl rfl ?_
  refine t_callVi (a := 14) (c_X7_isPoint _ (by assumption) (by omega)) dX7_bag_2 (nx := 5) rfl kX7_isPoint ml_X7_35 (by decide) (ok_m 14 rfl) rfl rfl rfl rfl (Nat.le_of_ble_eq_true rfl) ⟨by decide, by decide⟩ ⟨by decide, by decide⟩ ?_
  refine v_ifB_eq dX7_bag_5 (tgt := 16) (by decide) (nx := 8) rfl (fun c5 => ?_) (fun c5 => ?_)
  · refine v_aload_n 0 dX7_bag_16 (nx := 17) rfl rfl ?_
    refine v_iconst dX7_bag_17 (nx := 18) rfl ?_
    refine t_callVi (a := 14) (c_X7_finding _) dX7_bag_18 (nx := 21) rfl kX7_finding ml_X7_31 (by decide) (ok_m 14 rfl) rfl rfl rfl rfl (Nat.le_of_ble_eq_true rfl) ⟨by decide, by decide⟩ ⟨by decide, by decide⟩ ?_
    exact t_iret dX7_bag_21 rfl (by first | exact lf1 (by unfold s_bag; (repeat (first | rewrite [if_pos (by omega)] | rewrite [if_neg (by omega)])); first | rfl | (refine Prod.ext rfl (Prod.ext (congrArg (uI _ _) ?_) rfl); unfold uI; (repeat rw [if_neg (by omega)]))) | exact lf0 (by unfold s_bag; (repeat (first | rewrite [if_pos (by omega)] | rewrite [if_neg (by omega)])); first | rfl | (refine Prod.ext rfl (Prod.ext (congrArg (uI _ _) ?_) rfl); unfold uI; (repeat rw [if_neg (by omega)]))) | (exfalso; omega))
  · refine v_aload_n 0 dX7_bag_8 (nx := 9) rfl rfl ?_
    refine v_iload_n 2 dX7_bag_9 (nx := 10) rfl rfl ?_
    refine t_callVi (a := 14) (c_X7_isFlight _ (by assumption) (by omega)) dX7_bag_10 (nx := 13) rfl kX7_isFlight ml_X7_49 (by decide) (ok_m 14 rfl) rfl rfl rfl rfl (Nat.le_of_ble_eq_true rfl) ⟨by decide, by decide⟩ ⟨by decide, by decide⟩ ?_
    refine v_ifB_ne dX7_bag_13 (tgt := 22) (by decide) (nx := 16) rfl (fun c13 => ?_) (fun c13 => ?_)
    · refine v_aload_n 0 dX7_bag_22 (nx := 23) rfl rfl ?_
      refine v_iload_n 1 dX7_bag_23 (nx := 24) rfl rfl ?_
      refine t_callVi (a := 14) (c_X7_kindOf _ (by omega)) dX7_bag_24 (nx := 27) rfl kX7_kindOf ml_X7_39 (by decide) (ok_m 14 rfl) rfl rfl rfl rfl (Nat.le_of_ble_eq_true rfl) ⟨by decide, by decide⟩ ⟨by decide, by decide⟩ ?_
      refine v_if_eq dX7_bag_27 (tgt := 37) (by decide) (nx := 30) rfl (by first | assumption | exact hR _ | exact ⟨by omega, by omega⟩) (fun c27 => ?_) (fun c27 => ?_)
      · refine v_aload_n 0 dX7_bag_37 (nx := 38) rfl rfl ?_
        refine m_gA 10 (p := 0) dX7_bag_38 (nx := 41) rfl (by decide) fl_X7_9 rfl ?_
        refine v_iconst dX7_bag_41 (nx := 42) rfl ?_
        refine m_ald10 dX7_bag_42 (nx := 43) rfl ⟨by omega, by omega⟩ ?_
        refine v_istore dX7_bag_43 (nx := 45) rfl rfl (by decide) ?_
        refine v_iload 4 dX7_bag_45 (nx := 47) rfl rfl ?_
        refine v_bipush dX7_bag_47 (nx := 49) rfl rfl ?_
        refine v_icmp_ne dX7_bag_49 (tgt := 59) (by decide) (nx := 52) rfl (by first | assumption | exact hR _ | exact ⟨by omega, by omega⟩) (by first | assumption | exact hR _ | exact ⟨by omega, by omega⟩) (fun c49 => ?_) (fun c49 => ?_)
        · refine v_aload_n 0 dX7_bag_59 (nx := 60) rfl rfl ?_
          refine m_gA 10 (p := 0) dX7_bag_60 (nx := 63) rfl (by decide) fl_X7_9 rfl ?_
          refine v_sipush dX7_bag_63 (nx := 66) rfl rfl ?_
          refine v_iload 4 dX7_bag_66 (nx := 68) rfl rfl ?_
          refine v_iadd dX7_bag_68 (nx := 69) rfl ?_
          refine v_iload_n 2 dX7_bag_69 (nx := 70) rfl rfl ?_
          refine m_ast10 dX7_bag_70 (nx := 71) rfl ⟨by omega, by omega⟩ ?_
          refine v_aload_n 0 dX7_bag_71 (nx := 72) rfl rfl ?_
          refine m_gA 10 (p := 0) dX7_bag_72 (nx := 75) rfl (by decide) fl_X7_9 rfl ?_
          refine v_sipush dX7_bag_75 (nx := 78) rfl rfl ?_
          refine v_iload 4 dX7_bag_78 (nx := 80) rfl rfl ?_
          refine v_iadd dX7_bag_80 (nx := 81) rfl ?_
          refine v_iload_n 3 dX7_bag_81 (nx := 82) rfl rfl ?_
          refine v_if_eq dX7_bag_82 (tgt := 89) (by decide) (nx := 85) rfl (by first | assumption | exact hR _ | exact ⟨by omega, by omega⟩) (fun c82 => ?_) (fun c82 => ?_)
          · subst c82
            refine v_iconst dX7_bag_89 (nx := 90) rfl ?_
            refine m_ast10 dX7_bag_90 (nx := 91) rfl ⟨by omega, by omega⟩ ?_
            refine v_aload_n 0 dX7_bag_91 (nx := 92) rfl rfl ?_
            refine m_gA 10 (p := 0) dX7_bag_92 (nx := 95) rfl (by decide) fl_X7_9 rfl ?_
            refine v_sipush dX7_bag_95 (nx := 98) rfl rfl ?_
            refine v_iload 4 dX7_bag_98 (nx := 100) rfl rfl ?_
            refine v_iadd dX7_bag_100 (nx := 101) rfl ?_
            refine v_iconst dX7_bag_101 (nx := 102) rfl ?_
            refine m_ast10 dX7_bag_102 (nx := 103) rfl ⟨by omega, by omega⟩ ?_
            refine v_aload_n 0 dX7_bag_103 (nx := 104) rfl rfl ?_
            refine v_iload 4 dX7_bag_104 (nx := 106) rfl rfl ?_
            refine v_iload_n 1 dX7_bag_106 (nx := 107) rfl rfl ?_
            refine t_callVv (a := 14) (c_X7_waits _ _ (by omega)) dX7_bag_107 (nx := 110) rfl kX7_waits ml_X7_52 (by decide) (ok_m 14 rfl) rfl rfl rfl rfl (Nat.le_of_ble_eq_true rfl) ⟨by decide, by decide⟩ ⟨by decide, by decide⟩ ?_
            refine v_aload_n 0 dX7_bag_110 (nx := 111) rfl rfl ?_
            refine m_gA 10 (p := 0) dX7_bag_111 (nx := 114) rfl (by decide) fl_X7_9 rfl ?_
            refine v_iconst dX7_bag_114 (nx := 115) rfl ?_
            refine v_dup2 dX7_bag_115 (nx := 116) rfl rfl rfl ?_
            refine m_ald10e (z := N 3) dX7_bag_116 (nx := 117) rfl ⟨by omega, by omega⟩ (by unfold waitsN liesN; repeat rw [uI_n (by omega)]) ?_
            refine v_iconst dX7_bag_117 (nx := 118) rfl ?_
            refine v_iadd dX7_bag_118 (nx := 119) rfl ?_
            refine m_ast10 dX7_bag_119 (nx := 120) rfl ⟨by omega, by omega⟩ ?_
            refine v_iload 4 dX7_bag_120 (nx := 122) rfl rfl ?_
            exact t_iret dX7_bag_122 rfl (by first | exact lf1 (by unfold s_bag; (repeat (first | rewrite [if_pos (by omega)] | rewrite [if_neg (by omega)])); first | rfl | (refine Prod.ext rfl (Prod.ext (congrArg (uI _ _) ?_) rfl); unfold uI; (repeat rw [if_neg (by omega)]))) | exact lf0 (by unfold s_bag; (repeat (first | rewrite [if_pos (by omega)] | rewrite [if_neg (by omega)])); first | rfl | (refine Prod.ext rfl (Prod.ext (congrArg (uI _ _) ?_) rfl); unfold uI; (repeat rw [if_neg (by omega)]))) | (exfalso; omega))
          · obtain rfl : db = 1 := by omega
            refine v_iconst dX7_bag_85 (nx := 86) rfl ?_
            refine v_goto dX7_bag_86 (tgt := 90) (by decide) ?_
            refine m_ast10 dX7_bag_90 (nx := 91) rfl ⟨by omega, by omega⟩ ?_
            refine v_aload_n 0 dX7_bag_91 (nx := 92) rfl rfl ?_
            refine m_gA 10 (p := 0) dX7_bag_92 (nx := 95) rfl (by decide) fl_X7_9 rfl ?_
            refine v_sipush dX7_bag_95 (nx := 98) rfl rfl ?_
            refine v_iload 4 dX7_bag_98 (nx := 100) rfl rfl ?_
            refine v_iadd dX7_bag_100 (nx := 101) rfl ?_
            refine v_iconst dX7_bag_101 (nx := 102) rfl ?_
            refine m_ast10 dX7_bag_102 (nx := 103) rfl ⟨by omega, by omega⟩ ?_
            refine v_aload_n 0 dX7_bag_103 (nx := 104) rfl rfl ?_
            refine v_iload 4 dX7_bag_104 (nx := 106) rfl rfl ?_
            refine v_iload_n 1 dX7_bag_106 (nx := 107) rfl rfl ?_
            refine t_callVv (a := 14) (c_X7_waits _ _ (by omega)) dX7_bag_107 (nx := 110) rfl kX7_waits ml_X7_52 (by decide) (ok_m 14 rfl) rfl rfl rfl rfl (Nat.le_of_ble_eq_true rfl) ⟨by decide, by decide⟩ ⟨by decide, by decide⟩ ?_
            refine v_aload_n 0 dX7_bag_110 (nx := 111) rfl rfl ?_
            refine m_gA 10 (p := 0) dX7_bag_111 (nx := 114) rfl (by decide) fl_X7_9 rfl ?_
            refine v_iconst dX7_bag_114 (nx := 115) rfl ?_
            refine v_dup2 dX7_bag_115 (nx := 116) rfl rfl rfl ?_
            refine m_ald10e (z := N 3) dX7_bag_116 (nx := 117) rfl ⟨by omega, by omega⟩ (by unfold waitsN liesN; repeat rw [uI_n (by omega)]) ?_
            refine v_iconst dX7_bag_117 (nx := 118) rfl ?_
            refine v_iadd dX7_bag_118 (nx := 119) rfl ?_
            refine m_ast10 dX7_bag_119 (nx := 120) rfl ⟨by omega, by omega⟩ ?_
            refine v_iload 4 dX7_bag_120 (nx := 122) rfl rfl ?_
            exact t_iret dX7_bag_122 rfl (by first | exact lf1 (by unfold s_bag; (repeat (first | rewrite [if_pos (by omega)] | rewrite [if_neg (by omega)])); first | rfl | (refine Prod.ext rfl (Prod.ext (congrArg (uI _ _) ?_) rfl); unfold uI; (repeat rw [if_neg (by omega)]))) | exact lf0 (by unfold s_bag; (repeat (first | rewrite [if_pos (by omega)] | rewrite [if_neg (by omega)])); first | rfl | (refine Prod.ext rfl (Prod.ext (congrArg (uI _ _) ?_) rfl); unfold uI; (repeat rw [if_neg (by omega)]))) | (exfalso; omega))
        · refine v_aload_n 0 dX7_bag_52 (nx := 53) rfl rfl ?_
          refine v_bipush dX7_bag_53 (nx := 55) rfl rfl ?_
          refine t_callVi (a := 14) (c_X7_finding _) dX7_bag_55 (nx := 58) rfl kX7_finding ml_X7_31 (by decide) (ok_m 14 rfl) rfl rfl rfl rfl (Nat.le_of_ble_eq_true rfl) ⟨by decide, by decide⟩ ⟨by decide, by decide⟩ ?_
          exact t_iret dX7_bag_58 rfl (by first | exact lf1 (by unfold s_bag; (repeat (first | rewrite [if_pos (by omega)] | rewrite [if_neg (by omega)])); first | rfl | (refine Prod.ext rfl (Prod.ext (congrArg (uI _ _) ?_) rfl); unfold uI; (repeat rw [if_neg (by omega)]))) | exact lf0 (by unfold s_bag; (repeat (first | rewrite [if_pos (by omega)] | rewrite [if_neg (by omega)])); first | rfl | (refine Prod.ext rfl (Prod.ext (congrArg (uI _ _) ?_) rfl); unfold uI; (repeat rw [if_neg (by omega)]))) | (exfalso; omega))
      · refine v_aload_n 0 dX7_bag_30 (nx := 31) rfl rfl ?_
        refine v_bipush dX7_bag_31 (nx := 33) rfl rfl ?_
        refine t_callVi (a := 14) (c_X7_finding _) dX7_bag_33 (nx := 36) rfl kX7_finding ml_X7_31 (by decide) (ok_m 14 rfl) rfl rfl rfl rfl (Nat.le_of_ble_eq_true rfl) ⟨by decide, by decide⟩ ⟨by decide, by decide⟩ ?_
        exact t_iret dX7_bag_36 rfl (by first | exact lf1 (by unfold s_bag; (repeat (first | rewrite [if_pos (by omega)] | rewrite [if_neg (by omega)])); first | rfl | (refine Prod.ext rfl (Prod.ext (congrArg (uI _ _) ?_) rfl); unfold uI; (repeat rw [if_neg (by omega)]))) | exact lf0 (by unfold s_bag; (repeat (first | rewrite [if_pos (by omega)] | rewrite [if_neg (by omega)])); first | rfl | (refine Prod.ext rfl (Prod.ext (congrArg (uI _ _) ?_) rfl); unfold uI; (repeat rw [if_neg (by omega)]))) | (exfalso; omega))
    · refine v_aload_n 0 dX7_bag_16 (nx := 17) rfl rfl ?_
      refine v_iconst dX7_bag_17 (nx := 18) rfl ?_
      refine t_callVi (a := 14) (c_X7_finding _) dX7_bag_18 (nx := 21) rfl kX7_finding ml_X7_31 (by decide) (ok_m 14 rfl) rfl rfl rfl rfl (Nat.le_of_ble_eq_true rfl) ⟨by decide, by decide⟩ ⟨by decide, by decide⟩ ?_
      exact t_iret dX7_bag_21 rfl (by first | exact lf1 (by unfold s_bag; (repeat (first | rewrite [if_pos (by omega)] | rewrite [if_neg (by omega)])); first | rfl | (refine Prod.ext rfl (Prod.ext (congrArg (uI _ _) ?_) rfl); unfold uI; (repeat rw [if_neg (by omega)]))) | exact lf0 (by unfold s_bag; (repeat (first | rewrite [if_pos (by omega)] | rewrite [if_neg (by omega)])); first | rfl | (refine Prod.ext rfl (Prod.ext (congrArg (uI _ _) ?_) rfl); unfold uI; (repeat rw [if_neg (by omega)]))) | (exfalso; omega))

set_option maxRecDepth 100000 in
theorem c_X7_give {g : GG} {kp : Bool} {σ : SS} {N K G F : Int → Int} {k f : Int} (hR : ∀ j, inR (N j)) (b : Int) (dk : Int) (db : Int) (hb : inR b) (hdk : inR dk) (hdb : inR db) (b0 : 0 ≤ N 0 ∧ N 0 ≤ 12) (b1 : 0 ≤ N 1 ∧ N 1 ≤ 16) (b2 : 0 ≤ N 2 ∧ N 2 ≤ 8) (b3 : 0 ≤ N 3 ∧ N 3 ≤ 60) (h01 : db = 0 ∨ db = 1) (h5 : inR (N 5 + 1)) : XC g kp 2 mX7_give [rf g (ad 14 0 0), vi b, vi dk, vi db] (mkS σ N K G F k f) (some (vi (s_give N b dk db).1)) (mkS σ (s_give N b dk db).2.1 K G F k (f + (s_give N b dk db).2.2)) := by
  refine TC.of (by decide) (Nat.le_of_ble_eq_true rfl) rfl ?_
  refine v_aload_n 0 dX7_give_0 (nx := 1) rfl rfl ?_
  refine v_iload_n 1 dX7_give_1 (nx := 2) rfl rfl ?_
  refine t_callVi (a := 14) (c_X7_isBag _ (by assumption) (by omega)) dX7_give_2 (nx := 5) rfl kX7_isBag ml_X7_56 (by decide) (ok_m 14 rfl) rfl rfl rfl rfl (Nat.le_of_ble_eq_true rfl) ⟨by decide, by decide⟩ ⟨by decide, by decide⟩ ?_
  refine v_ifB_eq dX7_give_5 (tgt := 16) (by decide) (nx := 8) rfl (fun c5 => ?_) (fun c5 => ?_)
  · refine v_aload_n 0 dX7_give_16 (nx := 17) rfl rfl ?_
    refine v_iconst dX7_give_17 (nx := 18) rfl ?_
    refine t_callVi (a := 14) (c_X7_finding _) dX7_give_18 (nx := 21) rfl kX7_finding ml_X7_31 (by decide) (ok_m 14 rfl) rfl rfl rfl rfl (Nat.le_of_ble_eq_true rfl) ⟨by decide, by decide⟩ ⟨by decide, by decide⟩ ?_
    exact t_iret dX7_give_21 rfl (by first | exact lf1 (by unfold s_give; (repeat (first | rewrite [if_pos (by omega)] | rewrite [if_neg (by omega)])); first | rfl | rw [hW]) | exact lf0 (by unfold s_give; (repeat (first | rewrite [if_pos (by omega)] | rewrite [if_neg (by omega)])); first | rfl | rw [hW]) | (exfalso; omega))
  · refine v_aload_n 0 dX7_give_8 (nx := 9) rfl rfl ?_
    refine v_iload_n 2 dX7_give_9 (nx := 10) rfl rfl ?_
    refine t_callVi (a := 14) (c_X7_isPoint _ (by assumption) (by omega)) dX7_give_10 (nx := 13) rfl kX7_isPoint ml_X7_35 (by decide) (ok_m 14 rfl) rfl rfl rfl rfl (Nat.le_of_ble_eq_true rfl) ⟨by decide, by decide⟩ ⟨by decide, by decide⟩ ?_
    refine v_ifB_ne dX7_give_13 (tgt := 22) (by decide) (nx := 16) rfl (fun c13 => ?_) (fun c13 => ?_)
    · refine v_aload_n 0 dX7_give_22 (nx := 23) rfl rfl ?_
      refine v_iload_n 2 dX7_give_23 (nx := 24) rfl rfl ?_
      refine t_callVi (a := 14) (c_X7_kindOf _ (by omega)) dX7_give_24 (nx := 27) rfl kX7_kindOf ml_X7_39 (by decide) (ok_m 14 rfl) rfl rfl rfl rfl (Nat.le_of_ble_eq_true rfl) ⟨by decide, by decide⟩ ⟨by decide, by decide⟩ ?_
      refine v_if_eq dX7_give_27 (tgt := 37) (by decide) (nx := 30) rfl (by first | assumption | exact hR _ | exact ⟨by omega, by omega⟩) (fun c27 => ?_) (fun c27 => ?_)
      · refine v_aload_n 0 dX7_give_37 (nx := 38) rfl rfl ?_
        refine m_gA 10 (p := 0) dX7_give_38 (nx := 41) rfl (by decide) fl_X7_9 rfl ?_
        refine v_sipush dX7_give_41 (nx := 44) rfl rfl ?_
        refine v_iload_n 1 dX7_give_44 (nx := 45) rfl rfl ?_
        refine v_iadd dX7_give_45 (nx := 46) rfl ?_
        refine m_ald10 dX7_give_46 (nx := 47) rfl ⟨by omega, by omega⟩ ?_
        refine v_iconst dX7_give_47 (nx := 48) rfl ?_
        refine v_icmp_eq dX7_give_48 (tgt := 58) (by decide) (nx := 51) rfl (by first | assumption | exact hR _ | exact ⟨by omega, by omega⟩) (by first | assumption | exact hR _ | exact ⟨by omega, by omega⟩) (fun c48 => ?_) (fun c48 => ?_)
        · refine v_aload_n 0 dX7_give_58 (nx := 59) rfl rfl ?_
          refine m_gA 10 (p := 0) dX7_give_59 (nx := 62) rfl (by decide) fl_X7_9 rfl ?_
          refine v_sipush dX7_give_62 (nx := 65) rfl rfl ?_
          refine v_iload_n 1 dX7_give_65 (nx := 66) rfl rfl ?_
          refine v_iadd dX7_give_66 (nx := 67) rfl ?_
          refine v_iload_n 3 dX7_give_67 (nx := 68) rfl rfl ?_
          refine v_if_eq dX7_give_68 (tgt := 75) (by decide) (nx := 71) rfl (by first | assumption | exact hR _ | exact ⟨by omega, by omega⟩) (fun c68 => ?_) (fun c68 => ?_)
          · subst c68
            refine v_iconst dX7_give_75 (nx := 76) rfl ?_
            refine m_ast10 dX7_give_76 (nx := 77) rfl ⟨by omega, by omega⟩ ?_
            refine v_aload_n 0 dX7_give_77 (nx := 78) rfl rfl ?_
            refine v_iload_n 1 dX7_give_78 (nx := 79) rfl rfl ?_
            refine v_iload_n 2 dX7_give_79 (nx := 80) rfl rfl ?_
            refine t_callVv (a := 14) (c_X7_waits _ _ (by omega)) dX7_give_80 (nx := 83) rfl kX7_waits ml_X7_52 (by decide) (ok_m 14 rfl) rfl rfl rfl rfl (Nat.le_of_ble_eq_true rfl) ⟨by decide, by decide⟩ ⟨by decide, by decide⟩ ?_
            have hW : ∀ v, waitsN (uI N (424 + b) v) b dk 3 = N 3 := fun v => by unfold waitsN liesN; repeat rw [uI_n (by omega)]
            refine v_aload_n 0 dX7_give_83 (nx := 84) rfl rfl ?_
            refine v_iload_n 2 dX7_give_84 (nx := 85) rfl rfl ?_
            refine t_callVi (a := 14) (c_X7_waitingAt (N := waitsN (uI N (424 + b) _) b dk) (by first | exact fun j => inR_waits hR (by first | exact ⟨by decide, by decide⟩ | assumption) (by assumption) h5 (by omega) (by omega) j) _ (by assumption) (by rw [hW]; exact b3)) dX7_give_85 (nx := 88) rfl kX7_waitingAt ml_X7_59 (by decide) (ok_m 14 rfl) rfl rfl rfl rfl (Nat.le_of_ble_eq_true rfl) ⟨by decide, by decide⟩ ⟨by decide, by decide⟩ ?_
            exact t_iret dX7_give_88 rfl (by first | exact lf1 (by unfold s_give; (repeat (first | rewrite [if_pos (by omega)] | rewrite [if_neg (by omega)])); first | rfl | rw [hW]) | exact lf0 (by unfold s_give; (repeat (first | rewrite [if_pos (by omega)] | rewrite [if_neg (by omega)])); first | rfl | rw [hW]) | (exfalso; omega))
          · obtain rfl : db = 1 := by omega
            refine v_iconst dX7_give_71 (nx := 72) rfl ?_
            refine v_goto dX7_give_72 (tgt := 76) (by decide) ?_
            refine m_ast10 dX7_give_76 (nx := 77) rfl ⟨by omega, by omega⟩ ?_
            refine v_aload_n 0 dX7_give_77 (nx := 78) rfl rfl ?_
            refine v_iload_n 1 dX7_give_78 (nx := 79) rfl rfl ?_
            refine v_iload_n 2 dX7_give_79 (nx := 80) rfl rfl ?_
            refine t_callVv (a := 14) (c_X7_waits _ _ (by omega)) dX7_give_80 (nx := 83) rfl kX7_waits ml_X7_52 (by decide) (ok_m 14 rfl) rfl rfl rfl rfl (Nat.le_of_ble_eq_true rfl) ⟨by decide, by decide⟩ ⟨by decide, by decide⟩ ?_
            have hW : ∀ v, waitsN (uI N (424 + b) v) b dk 3 = N 3 := fun v => by unfold waitsN liesN; repeat rw [uI_n (by omega)]
            refine v_aload_n 0 dX7_give_83 (nx := 84) rfl rfl ?_
            refine v_iload_n 2 dX7_give_84 (nx := 85) rfl rfl ?_
            refine t_callVi (a := 14) (c_X7_waitingAt (N := waitsN (uI N (424 + b) _) b dk) (by first | exact fun j => inR_waits hR (by first | exact ⟨by decide, by decide⟩ | assumption) (by assumption) h5 (by omega) (by omega) j) _ (by assumption) (by rw [hW]; exact b3)) dX7_give_85 (nx := 88) rfl kX7_waitingAt ml_X7_59 (by decide) (ok_m 14 rfl) rfl rfl rfl rfl (Nat.le_of_ble_eq_true rfl) ⟨by decide, by decide⟩ ⟨by decide, by decide⟩ ?_
            exact t_iret dX7_give_88 rfl (by first | exact lf1 (by unfold s_give; (repeat (first | rewrite [if_pos (by omega)] | rewrite [if_neg (by omega)])); first | rfl | rw [hW]) | exact lf0 (by unfold s_give; (repeat (first | rewrite [if_pos (by omega)] | rewrite [if_neg (by omega)])); first | rfl | rw [hW]) | (exfalso; omega))
        · refine v_aload_n 0 dX7_give_51 (nx := 52) rfl rfl ?_
          refine v_bipush dX7_give_52 (nx := 54) rfl rfl ?_
          refine t_callVi (a := 14) (c_X7_finding _) dX7_give_54 (nx := 57) rfl kX7_finding ml_X7_31 (by decide) (ok_m 14 rfl) rfl rfl rfl rfl (Nat.le_of_ble_eq_true rfl) ⟨by decide, by decide⟩ ⟨by decide, by decide⟩ ?_
          exact t_iret dX7_give_57 rfl (by first | exact lf1 (by unfold s_give; (repeat (first | rewrite [if_pos (by omega)] | rewrite [if_neg (by omega)])); first | rfl | rw [hW]) | exact lf0 (by unfold s_give; (repeat (first | rewrite [if_pos (by omega)] | rewrite [if_neg (by omega)])); first | rfl | rw [hW]) | (exfalso; omega))
      · refine v_aload_n 0 dX7_give_30 (nx := 31) rfl rfl ?_
        refine v_bipush dX7_give_31 (nx := 33) rfl rfl ?_
        refine t_callVi (a := 14) (c_X7_finding _) dX7_give_33 (nx := 36) rfl kX7_finding ml_X7_31 (by decide) (ok_m 14 rfl) rfl rfl rfl rfl (Nat.le_of_ble_eq_true rfl) ⟨by decide, by decide⟩ ⟨by decide, by decide⟩ ?_
        exact t_iret dX7_give_36 rfl (by first | exact lf1 (by unfold s_give; (repeat (first | rewrite [if_pos (by omega)] | rewrite [if_neg (by omega)])); first | rfl | rw [hW]) | exact lf0 (by unfold s_give; (repeat (first | rewrite [if_pos (by omega)] | rewrite [if_neg (by omega)])); first | rfl | rw [hW]) | (exfalso; omega))
    · refine v_aload_n 0 dX7_give_16 (nx := 17) rfl rfl ?_
      refine v_iconst dX7_give_17 (nx := 18) rfl ?_
      refine t_callVi (a := 14) (c_X7_finding _) dX7_give_18 (nx := 21) rfl kX7_finding ml_X7_31 (by decide) (ok_m 14 rfl) rfl rfl rfl rfl (Nat.le_of_ble_eq_true rfl) ⟨by decide, by decide⟩ ⟨by decide, by decide⟩ ?_
      exact t_iret dX7_give_21 rfl (by first | exact lf1 (by unfold s_give; (repeat (first | rewrite [if_pos (by omega)] | rewrite [if_neg (by omega)])); first | rfl | rw [hW]) | exact lf0 (by unfold s_give; (repeat (first | rewrite [if_pos (by omega)] | rewrite [if_neg (by omega)])); first | rfl | rw [hW]) | (exfalso; omega))

set_option maxRecDepth 100000 in
theorem l_X7_detail {g : GG} {kp : Bool} {σ : SS} {N K G F : Int → Int} {k f : Int} (hR : ∀ j, inR (N j)) (b : Int) (b3 : 0 ≤ N 3 ∧ N 3 ≤ 60) (hb : 0 ≤ b ∧ b < N 3) (h4 : ¬ N (484 + b) = 4) (h0 : N (484 + b) = 0) : ∀ (m : Nat) (x c : Int), (0 ≤ x ∧ x ≤ N 3) → (N 3 - x < m) → (c = cntI (fun y => decide ((N (484 + y) = 0 ∧ N (544 + y) = N (544 + b)) ∧ N (604 + y) < N (604 + b))) x) → V g (rmD 2 0 0) mX7_detail (ZT g kp (fun r τ => r = (some (vi (s_detail N b).1)) ∧ τ = (mkS σ (s_detail N b).2.1 K G F k (f + (s_detail N b).2.2)))) E0 63 [(0, rf g (ad 14 0 0)), (1, vi b), (2, vi c), (3, vi x)] [] (vw g kp (mkS σ N K G F k f)) (sz kp) 0 0 := by
  intro m
  induction m with
  | zero => intro x c hx hm hc; exfalso; omega
  | succ m ih =>
    intro x c hx hm hc
    have hcb := cntI_b (P := (fun y => decide ((N (484 + y) = 0 ∧ N (544 + y) = N (544 + b)) ∧ N (604 + y) < N (604 + b)))) hx.1
    rw [← hc] at hcb
    refine v_iload_n 3 dX7_detail_63 (nx := 64) rfl rfl ?_
    refine v_aload_n 0 dX7_detail_64 (nx := 65) rfl rfl ?_
    refine m_gA 10 (p := 0) dX7_detail_65 (nx := 68) rfl (by decide) fl_X7_9 rfl ?_
    refine v_iconst dX7_detail_68 (nx := 69) rfl ?_
    refine m_ald10 dX7_detail_69 (nx := 70) rfl ⟨by omega, by omega⟩ ?_
    refine v_icmp_ge dX7_detail_70 (tgt := 158) (by decide) (nx := 73) rfl (by first | assumption | exact hR _ | exact ⟨by omega, by omega⟩) (by first | assumption | exact hR _ | exact ⟨by omega, by omega⟩) (fun c70 => ?_) (fun c70 => ?_)
    · refine v_iload_n 2 dX7_detail_158 (nx := 159) rfl rfl ?_
      exact t_iret dX7_detail_159 rfl (lf0 (by unfold s_detail; (repeat (first | rewrite [if_pos (by omega)] | rewrite [if_neg (by omega)])); rw [hc, show x = N 3 by omega]))
    · refine v_aload_n 0 dX7_detail_73 (nx := 74) rfl rfl ?_
      refine m_gA 10 (p := 0) dX7_detail_74 (nx := 77) rfl (by decide) fl_X7_9 rfl ?_
      refine v_sipush dX7_detail_77 (nx := 80) rfl rfl ?_
      refine v_iload_n 3 dX7_detail_80 (nx := 81) rfl rfl ?_
      refine v_iadd dX7_detail_81 (nx := 82) rfl ?_
      refine m_ald10 dX7_detail_82 (nx := 83) rfl ⟨by omega, by omega⟩ ?_
      refine v_if_ne dX7_detail_83 (tgt := 113) (by decide) (nx := 86) rfl (by first | assumption | exact hR _ | exact ⟨by omega, by omega⟩) (fun c83 => ?_) (fun c83 => ?_)
      · refine v_iconst dX7_detail_113 (nx := 114) rfl ?_
        refine v_istore dX7_detail_114 (nx := 116) rfl rfl (by decide) ?_
        refine v_iload_n 2 dX7_detail_116 (nx := 117) rfl rfl ?_
        refine v_iload 4 dX7_detail_117 (nx := 119) rfl rfl ?_
        refine v_if_eq dX7_detail_119 (tgt := 149) (by decide) (nx := 122) rfl (by first | assumption | exact hR _ | exact ⟨by omega, by omega⟩) (fun c119 => ?_) (fun c119 => ?_)
        · refine v_iconst dX7_detail_149 (nx := 150) rfl ?_
          refine v_iadd dX7_detail_150 (nx := 151) rfl ?_
          refine v_istore_n dX7_detail_151 (nx := 152) rfl rfl (by decide) ?_
          refine v_iinc 3 dX7_detail_152 (nx := 155) rfl rfl rfl (by decide) ?_
          refine v_goto dX7_detail_155 (tgt := 63) (by decide) ?_
          exact V.lpick [0, 1, 2, 3] rfl (ih _ _ ⟨by omega, by omega⟩ (by omega) (by first | exact cn_t hc hx.1 (decide_eq_true (by omega)) | exact cn_f hc hx.1 (decide_eq_false (by omega)) | exact cn_n hc hx.1 (decide_eq_false (by omega))))
        · refine v_aload_n 0 dX7_detail_122 (nx := 123) rfl rfl ?_
          refine m_gA 10 (p := 0) dX7_detail_123 (nx := 126) rfl (by decide) fl_X7_9 rfl ?_
          refine v_sipush dX7_detail_126 (nx := 129) rfl rfl ?_
          refine v_iload_n 3 dX7_detail_129 (nx := 130) rfl rfl ?_
          refine v_iadd dX7_detail_130 (nx := 131) rfl ?_
          refine m_ald10 dX7_detail_131 (nx := 132) rfl ⟨by omega, by omega⟩ ?_
          refine v_aload_n 0 dX7_detail_132 (nx := 133) rfl rfl ?_
          refine m_gA 10 (p := 0) dX7_detail_133 (nx := 136) rfl (by decide) fl_X7_9 rfl ?_
          refine v_sipush dX7_detail_136 (nx := 139) rfl rfl ?_
          refine v_iload_n 1 dX7_detail_139 (nx := 140) rfl rfl ?_
          refine v_iadd dX7_detail_140 (nx := 141) rfl ?_
          refine m_ald10 dX7_detail_141 (nx := 142) rfl ⟨by omega, by omega⟩ ?_
          refine v_icmp_ge dX7_detail_142 (tgt := 149) (by decide) (nx := 145) rfl (by first | assumption | exact hR _ | exact ⟨by omega, by omega⟩) (by first | assumption | exact hR _ | exact ⟨by omega, by omega⟩) (fun c142 => ?_) (fun c142 => ?_)
          · refine v_iconst dX7_detail_149 (nx := 150) rfl ?_
            refine v_iadd dX7_detail_150 (nx := 151) rfl ?_
            refine v_istore_n dX7_detail_151 (nx := 152) rfl rfl (by decide) ?_
            refine v_iinc 3 dX7_detail_152 (nx := 155) rfl rfl rfl (by decide) ?_
            refine v_goto dX7_detail_155 (tgt := 63) (by decide) ?_
            exact V.lpick [0, 1, 2, 3] rfl (ih _ _ ⟨by omega, by omega⟩ (by omega) (by first | exact cn_t hc hx.1 (decide_eq_true (by omega)) | exact cn_f hc hx.1 (decide_eq_false (by omega)) | exact cn_n hc hx.1 (decide_eq_false (by omega))))
          · refine v_iconst dX7_detail_145 (nx := 146) rfl ?_
            refine v_goto dX7_detail_146 (tgt := 150) (by decide) ?_
            refine v_iadd dX7_detail_150 (nx := 151) rfl ?_
            refine v_istore_n dX7_detail_151 (nx := 152) rfl rfl (by decide) ?_
            refine v_iinc 3 dX7_detail_152 (nx := 155) rfl rfl rfl (by decide) ?_
            refine v_goto dX7_detail_155 (tgt := 63) (by decide) ?_
            exact V.lpick [0, 1, 2, 3] rfl (ih _ _ ⟨by omega, by omega⟩ (by omega) (by first | exact cn_t hc hx.1 (decide_eq_true (by omega)) | exact cn_f hc hx.1 (decide_eq_false (by omega)) | exact cn_n hc hx.1 (decide_eq_false (by omega))))
      · refine v_aload_n 0 dX7_detail_86 (nx := 87) rfl rfl ?_
        refine m_gA 10 (p := 0) dX7_detail_87 (nx := 90) rfl (by decide) fl_X7_9 rfl ?_
        refine v_sipush dX7_detail_90 (nx := 93) rfl rfl ?_
        refine v_iload_n 3 dX7_detail_93 (nx := 94) rfl rfl ?_
        refine v_iadd dX7_detail_94 (nx := 95) rfl ?_
        refine m_ald10 dX7_detail_95 (nx := 96) rfl ⟨by omega, by omega⟩ ?_
        refine v_aload_n 0 dX7_detail_96 (nx := 97) rfl rfl ?_
        refine m_gA 10 (p := 0) dX7_detail_97 (nx := 100) rfl (by decide) fl_X7_9 rfl ?_
        refine v_sipush dX7_detail_100 (nx := 103) rfl rfl ?_
        refine v_iload_n 1 dX7_detail_103 (nx := 104) rfl rfl ?_
        refine v_iadd dX7_detail_104 (nx := 105) rfl ?_
        refine m_ald10 dX7_detail_105 (nx := 106) rfl ⟨by omega, by omega⟩ ?_
        refine v_icmp_ne dX7_detail_106 (tgt := 113) (by decide) (nx := 109) rfl (by first | assumption | exact hR _ | exact ⟨by omega, by omega⟩) (by first | assumption | exact hR _ | exact ⟨by omega, by omega⟩) (fun c106 => ?_) (fun c106 => ?_)
        · refine v_iconst dX7_detail_113 (nx := 114) rfl ?_
          refine v_istore dX7_detail_114 (nx := 116) rfl rfl (by decide) ?_
          refine v_iload_n 2 dX7_detail_116 (nx := 117) rfl rfl ?_
          refine v_iload 4 dX7_detail_117 (nx := 119) rfl rfl ?_
          refine v_if_eq dX7_detail_119 (tgt := 149) (by decide) (nx := 122) rfl (by first | assumption | exact hR _ | exact ⟨by omega, by omega⟩) (fun c119 => ?_) (fun c119 => ?_)
          · refine v_iconst dX7_detail_149 (nx := 150) rfl ?_
            refine v_iadd dX7_detail_150 (nx := 151) rfl ?_
            refine v_istore_n dX7_detail_151 (nx := 152) rfl rfl (by decide) ?_
            refine v_iinc 3 dX7_detail_152 (nx := 155) rfl rfl rfl (by decide) ?_
            refine v_goto dX7_detail_155 (tgt := 63) (by decide) ?_
            exact V.lpick [0, 1, 2, 3] rfl (ih _ _ ⟨by omega, by omega⟩ (by omega) (by first | exact cn_t hc hx.1 (decide_eq_true (by omega)) | exact cn_f hc hx.1 (decide_eq_false (by omega)) | exact cn_n hc hx.1 (decide_eq_false (by omega))))
          · refine v_aload_n 0 dX7_detail_122 (nx := 123) rfl rfl ?_
            refine m_gA 10 (p := 0) dX7_detail_123 (nx := 126) rfl (by decide) fl_X7_9 rfl ?_
            refine v_sipush dX7_detail_126 (nx := 129) rfl rfl ?_
            refine v_iload_n 3 dX7_detail_129 (nx := 130) rfl rfl ?_
            refine v_iadd dX7_detail_130 (nx := 131) rfl ?_
            refine m_ald10 dX7_detail_131 (nx := 132) rfl ⟨by omega, by omega⟩ ?_
            refine v_aload_n 0 dX7_detail_132 (nx := 133) rfl rfl ?_
            refine m_gA 10 (p := 0) dX7_detail_133 (nx := 136) rfl (by decide) fl_X7_9 rfl ?_
            refine v_sipush dX7_detail_136 (nx := 139) rfl rfl ?_
            refine v_iload_n 1 dX7_detail_139 (nx := 140) rfl rfl ?_
            refine v_iadd dX7_detail_140 (nx := 141) rfl ?_
            refine m_ald10 dX7_detail_141 (nx := 142) rfl ⟨by omega, by omega⟩ ?_
            refine v_icmp_ge dX7_detail_142 (tgt := 149) (by decide) (nx := 145) rfl (by first | assumption | exact hR _ | exact ⟨by omega, by omega⟩) (by first | assumption | exact hR _ | exact ⟨by omega, by omega⟩) (fun c142 => ?_) (fun c142 => ?_)
            · refine v_iconst dX7_detail_149 (nx := 150) rfl ?_
              refine v_iadd dX7_detail_150 (nx := 151) rfl ?_
              refine v_istore_n dX7_detail_151 (nx := 152) rfl rfl (by decide) ?_
              refine v_iinc 3 dX7_detail_152 (nx := 155) rfl rfl rfl (by decide) ?_
              refine v_goto dX7_detail_155 (tgt := 63) (by decide) ?_
              exact V.lpick [0, 1, 2, 3] rfl (ih _ _ ⟨by omega, by omega⟩ (by omega) (by first | exact cn_t hc hx.1 (decide_eq_true (by omega)) | exact cn_f hc hx.1 (decide_eq_false (by omega)) | exact cn_n hc hx.1 (decide_eq_false (by omega))))
            · refine v_iconst dX7_detail_145 (nx := 146) rfl ?_
              refine v_goto dX7_detail_146 (tgt := 150) (by decide) ?_
              refine v_iadd dX7_detail_150 (nx := 151) rfl ?_
              refine v_istore_n dX7_detail_151 (nx := 152) rfl rfl (by decide) ?_
              refine v_iinc 3 dX7_detail_152 (nx := 155) rfl rfl rfl (by decide) ?_
              refine v_goto dX7_detail_155 (tgt := 63) (by decide) ?_
              exact V.lpick [0, 1, 2, 3] rfl (ih _ _ ⟨by omega, by omega⟩ (by omega) (by first | exact cn_t hc hx.1 (decide_eq_true (by omega)) | exact cn_f hc hx.1 (decide_eq_false (by omega)) | exact cn_n hc hx.1 (decide_eq_false (by omega))))
        · refine v_iconst dX7_detail_109 (nx := 110) rfl ?_
          refine v_goto dX7_detail_110 (tgt := 114) (by decide) ?_
          refine v_istore dX7_detail_114 (nx := 116) rfl rfl (by decide) ?_
          refine v_iload_n 2 dX7_detail_116 (nx := 117) rfl rfl ?_
          refine v_iload 4 dX7_detail_117 (nx := 119) rfl rfl ?_
          refine v_if_eq dX7_detail_119 (tgt := 149) (by decide) (nx := 122) rfl (by first | assumption | exact hR _ | exact ⟨by omega, by omega⟩) (fun c119 => ?_) (fun c119 => ?_)
          · refine v_iconst dX7_detail_149 (nx := 150) rfl ?_
            refine v_iadd dX7_detail_150 (nx := 151) rfl ?_
            refine v_istore_n dX7_detail_151 (nx := 152) rfl rfl (by decide) ?_
            refine v_iinc 3 dX7_detail_152 (nx := 155) rfl rfl rfl (by decide) ?_
            refine v_goto dX7_detail_155 (tgt := 63) (by decide) ?_
            exact V.lpick [0, 1, 2, 3] rfl (ih _ _ ⟨by omega, by omega⟩ (by omega) (by first | exact cn_t hc hx.1 (decide_eq_true (by omega)) | exact cn_f hc hx.1 (decide_eq_false (by omega)) | exact cn_n hc hx.1 (decide_eq_false (by omega))))
          · refine v_aload_n 0 dX7_detail_122 (nx := 123) rfl rfl ?_
            refine m_gA 10 (p := 0) dX7_detail_123 (nx := 126) rfl (by decide) fl_X7_9 rfl ?_
            refine v_sipush dX7_detail_126 (nx := 129) rfl rfl ?_
            refine v_iload_n 3 dX7_detail_129 (nx := 130) rfl rfl ?_
            refine v_iadd dX7_detail_130 (nx := 131) rfl ?_
            refine m_ald10 dX7_detail_131 (nx := 132) rfl ⟨by omega, by omega⟩ ?_
            refine v_aload_n 0 dX7_detail_132 (nx := 133) rfl rfl ?_
            refine m_gA 10 (p := 0) dX7_detail_133 (nx := 136) rfl (by decide) fl_X7_9 rfl ?_
            refine v_sipush dX7_detail_136 (nx := 139) rfl rfl ?_
            refine v_iload_n 1 dX7_detail_139 (nx := 140) rfl rfl ?_
            refine v_iadd dX7_detail_140 (nx := 141) rfl ?_
            refine m_ald10 dX7_detail_141 (nx := 142) rfl ⟨by omega, by omega⟩ ?_
            refine v_icmp_ge dX7_detail_142 (tgt := 149) (by decide) (nx := 145) rfl (by first | assumption | exact hR _ | exact ⟨by omega, by omega⟩) (by first | assumption | exact hR _ | exact ⟨by omega, by omega⟩) (fun c142 => ?_) (fun c142 => ?_)
            · refine v_iconst dX7_detail_149 (nx := 150) rfl ?_
              refine v_iadd dX7_detail_150 (nx := 151) rfl ?_
              refine v_istore_n dX7_detail_151 (nx := 152) rfl rfl (by decide) ?_
              refine v_iinc 3 dX7_detail_152 (nx := 155) rfl rfl rfl (by decide) ?_
              refine v_goto dX7_detail_155 (tgt := 63) (by decide) ?_
              exact V.lpick [0, 1, 2, 3] rfl (ih _ _ ⟨by omega, by omega⟩ (by omega) (by first | exact cn_t hc hx.1 (decide_eq_true (by omega)) | exact cn_f hc hx.1 (decide_eq_false (by omega)) | exact cn_n hc hx.1 (decide_eq_false (by omega))))
            · refine v_iconst dX7_detail_145 (nx := 146) rfl ?_
              refine v_goto dX7_detail_146 (tgt := 150) (by decide) ?_
              refine v_iadd dX7_detail_150 (nx := 151) rfl ?_
              refine v_istore_n dX7_detail_151 (nx := 152) rfl rfl (by decide) ?_
              refine v_iinc 3 dX7_detail_152 (nx := 155) rfl rfl rfl (by decide) ?_
              refine v_goto dX7_detail_155 (tgt := 63) (by decide) ?_
              exact V.lpick [0, 1, 2, 3] rfl (ih _ _ ⟨by omega, by omega⟩ (by omega) (by first | exact cn_t hc hx.1 (decide_eq_true (by omega)) | exact cn_f hc hx.1 (decide_eq_false (by omega)) | exact cn_n hc hx.1 (decide_eq_false (by omega))))

set_option maxRecDepth 100000 in
theorem c_X7_detail {g : GG} {kp : Bool} {σ : SS} {N K G F : Int → Int} {k f : Int} (hR : ∀ j, inR (N j)) (b : Int) (hb : inR b) (b0 : 0 ≤ N 0 ∧ N 0 ≤ 12) (b1 : 0 ≤ N 1 ∧ N 1 ≤ 16) (b2 : 0 ≤ N 2 ∧ N 2 ≤ 8) (b3 : 0 ≤ N 3 ∧ N 3 ≤ 60) : XC g kp 2 mX7_detail [rf g (ad 14 0 0), vi b] (mkS σ N K G F k f) (some (vi (s_detail N b).1)) (mkS σ (s_detail N b).2.1 K G F k (f + (s_detail N b).2.2)) := by
  refine TC.of (by decide) (Nat.le_of_ble_eq_true rfl) rfl ?_
  refine v_aload_n 0 dX7_detail_0 (nx := 1) rfl rfl ?_
  refine v_iload_n 1 dX7_detail_1 (nx := 2) rfl rfl ?_
  refine t_callVi (a := 14) (c_X7_isBag _ (by assumption) (by omega)) dX7_detail_2 (nx := 5) rfl kX7_isBag ml_X7_56 (by decide) (ok_m 14 rfl) rfl rfl rfl rfl (Nat.le_of_ble_eq_true rfl) ⟨by decide, by decide⟩ ⟨by decide, by decide⟩ ?_
  refine v_ifB_ne dX7_detail_5 (tgt := 14) (by decide) (nx := 8) rfl (fun c5 => ?_) (fun c5 => ?_)
  · refine v_aload_n 0 dX7_detail_14 (nx := 15) rfl rfl ?_
    refine m_gA 10 (p := 0) dX7_detail_15 (nx := 18) rfl (by decide) fl_X7_9 rfl ?_
    refine v_sipush dX7_detail_18 (nx := 21) rfl rfl ?_
    refine v_iload_n 1 dX7_detail_21 (nx := 22) rfl rfl ?_
    refine v_iadd dX7_detail_22 (nx := 23) rfl ?_
    refine m_ald10 dX7_detail_23 (nx := 24) rfl ⟨by omega, by omega⟩ ?_
    refine v_iconst dX7_detail_24 (nx := 25) rfl ?_
    refine v_icmp_ne dX7_detail_25 (tgt := 35) (by decide) (nx := 28) rfl (by first | assumption | exact hR _ | exact ⟨by omega, by omega⟩) (by first | assumption | exact hR _ | exact ⟨by omega, by omega⟩) (fun c25 => ?_) (fun c25 => ?_)
    · refine v_aload_n 0 dX7_detail_35 (nx := 36) rfl rfl ?_
      refine m_gA 10 (p := 0) dX7_detail_36 (nx := 39) rfl (by decide) fl_X7_9 rfl ?_
      refine v_sipush dX7_detail_39 (nx := 42) rfl rfl ?_
      refine v_iload_n 1 dX7_detail_42 (nx := 43) rfl rfl ?_
      refine v_iadd dX7_detail_43 (nx := 44) rfl ?_
      refine m_ald10 dX7_detail_44 (nx := 45) rfl ⟨by omega, by omega⟩ ?_
      refine v_if_eq dX7_detail_45 (tgt := 59) (by decide) (nx := 48) rfl (by first | assumption | exact hR _ | exact ⟨by omega, by omega⟩) (fun c45 => ?_) (fun c45 => ?_)
      · refine v_iconst dX7_detail_59 (nx := 60) rfl ?_
        refine v_istore_n dX7_detail_60 (nx := 61) rfl rfl (by decide) ?_
        refine v_iconst dX7_detail_61 (nx := 62) rfl ?_
        refine v_istore_n dX7_detail_62 (nx := 63) rfl rfl (by decide) ?_
        exact l_X7_detail hR b b3 (by omega) (by omega) (by omega) (N 3 + 1).toNat 0 0 ⟨by omega, by omega⟩ (by omega) cntI_0.symm
      · refine v_aload_n 0 dX7_detail_48 (nx := 49) rfl rfl ?_
        refine m_gA 10 (p := 0) dX7_detail_49 (nx := 52) rfl (by decide) fl_X7_9 rfl ?_
        refine v_sipush dX7_detail_52 (nx := 55) rfl rfl ?_
        refine v_iload_n 1 dX7_detail_55 (nx := 56) rfl rfl ?_
        refine v_iadd dX7_detail_56 (nx := 57) rfl ?_
        refine m_ald10 dX7_detail_57 (nx := 58) rfl ⟨by omega, by omega⟩ ?_
        exact t_iret dX7_detail_58 rfl (by first | exact lf1 (by unfold s_detail; (repeat (first | rewrite [if_pos (by omega)] | rewrite [if_neg (by omega)])); first | rfl | (refine Prod.ext rfl (Prod.ext (congrArg (uI _ _) ?_) rfl); unfold uI; (repeat rw [if_neg (by omega)]))) | exact lf0 (by unfold s_detail; (repeat (first | rewrite [if_pos (by omega)] | rewrite [if_neg (by omega)])); first | rfl | (refine Prod.ext rfl (Prod.ext (congrArg (uI _ _) ?_) rfl); unfold uI; (repeat rw [if_neg (by omega)]))) | (exfalso; omega))
    · refine v_aload_n 0 dX7_detail_28 (nx := 29) rfl rfl ?_
      refine v_bipush dX7_detail_29 (nx := 31) rfl rfl ?_
      refine t_callVi (a := 14) (c_X7_finding _) dX7_detail_31 (nx := 34) rfl kX7_finding ml_X7_31 (by decide) (ok_m 14 rfl) rfl rfl rfl rfl (Nat.le_of_ble_eq_true rfl) ⟨by decide, by decide⟩ ⟨by decide, by decide⟩ ?_
      exact t_iret dX7_detail_34 rfl (by first | exact lf1 (by unfold s_detail; (repeat (first | rewrite [if_pos (by omega)] | rewrite [if_neg (by omega)])); first | rfl | (refine Prod.ext rfl (Prod.ext (congrArg (uI _ _) ?_) rfl); unfold uI; (repeat rw [if_neg (by omega)]))) | exact lf0 (by unfold s_detail; (repeat (first | rewrite [if_pos (by omega)] | rewrite [if_neg (by omega)])); first | rfl | (refine Prod.ext rfl (Prod.ext (congrArg (uI _ _) ?_) rfl); unfold uI; (repeat rw [if_neg (by omega)]))) | (exfalso; omega))
  · refine v_aload_n 0 dX7_detail_8 (nx := 9) rfl rfl ?_
    refine v_iconst dX7_detail_9 (nx := 10) rfl ?_
    refine t_callVi (a := 14) (c_X7_finding _) dX7_detail_10 (nx := 13) rfl kX7_finding ml_X7_31 (by decide) (ok_m 14 rfl) rfl rfl rfl rfl (Nat.le_of_ble_eq_true rfl) ⟨by decide, by decide⟩ ⟨by decide, by decide⟩ ?_
    exact t_iret dX7_detail_13 rfl (by first | exact lf1 (by unfold s_detail; (repeat (first | rewrite [if_pos (by omega)] | rewrite [if_neg (by omega)])); first | rfl | (refine Prod.ext rfl (Prod.ext (congrArg (uI _ _) ?_) rfl); unfold uI; (repeat rw [if_neg (by omega)]))) | exact lf0 (by unfold s_detail; (repeat (first | rewrite [if_pos (by omega)] | rewrite [if_neg (by omega)])); first | rfl | (refine Prod.ext rfl (Prod.ext (congrArg (uI _ _) ?_) rfl); unfold uI; (repeat rw [if_neg (by omega)]))) | (exfalso; omega))

set_option maxRecDepth 100000 in
theorem l_X7_aheadOf {g : GG} {kp : Bool} {σ : SS} {N K G F : Int → Int} {k f : Int} (hR : ∀ j, inR (N j)) (b w p : Int) (hw : inR w) (hp : inR p) (b3 : 0 ≤ N 3 ∧ N 3 ≤ 60) (hb : 0 ≤ b ∧ b < 60) : ∀ (m : Nat) (x c : Int), (0 ≤ x ∧ x ≤ N 3) → (N 3 - x < m) → (c = cntI (fun y => decide ((N (484 + y) = w ∧ N (544 + y) = p) ∧ (N (604 + y) < N (604 + b) ∨ (N (604 + y) = N (604 + b) ∧ y < b)))) x) → V g (rmD 0 0 0) mX7_aheadOf (ZT g kp (fun r τ => r = (some (vi (aheadN N b w p))) ∧ τ = (mkS σ N K G F k f))) E0 6 [(0, rf g (ad 14 0 0)), (1, vi b), (2, vi w), (3, vi p), (4, vi c), (5, vi x)] [] (vw g kp (mkS σ N K G F k f)) (sz kp) 0 0 := by
  intro m
  induction m with
  | zero => intro x c hx hm hc; exfalso; omega
  | succ m ih =>
    intro x c hx hm hc
    have hcb := cntI_b (P := (fun y => decide ((N (484 + y) = w ∧ N (544 + y) = p) ∧ (N (604 + y) < N (604 + b) ∨ (N (604 + y) = N (604 + b) ∧ y < b))))) hx.1
    rw [← hc] at hcb
    refine v_iload 5 dX7_aheadOf_6 (nx := 8) rfl rfl ?_
    refine v_aload_n 0 dX7_aheadOf_8 (nx := 9) rfl rfl ?_
    refine m_gA 10 (p := 0) dX7_aheadOf_9 (nx := 12) rfl (by decide) fl_X7_9 rfl ?_
    refine v_iconst dX7_aheadOf_12 (nx := 13) rfl ?_
    refine m_ald10 dX7_aheadOf_13 (nx := 14) rfl ⟨by omega, by omega⟩ ?_
    refine v_icmp_ge dX7_aheadOf_14 (tgt := 141) (by decide) (nx := 17) rfl (by first | assumption | exact hR _ | exact ⟨by omega, by omega⟩) (by first | assumption | exact hR _ | exact ⟨by omega, by omega⟩) (fun c14 => ?_) (fun c14 => ?_)
    · refine v_iload 4 dX7_aheadOf_141 (nx := 143) rfl rfl ?_
      exact t_iret dX7_aheadOf_143 rfl ⟨by unfold aheadN; rw [hc, show x = N 3 by omega], rfl⟩
    · refine v_aload_n 0 dX7_aheadOf_17 (nx := 18) rfl rfl ?_
      refine m_gA 10 (p := 0) dX7_aheadOf_18 (nx := 21) rfl (by decide) fl_X7_9 rfl ?_
      refine v_sipush dX7_aheadOf_21 (nx := 24) rfl rfl ?_
      refine v_iload 5 dX7_aheadOf_24 (nx := 26) rfl rfl ?_
      refine v_iadd dX7_aheadOf_26 (nx := 27) rfl ?_
      refine m_ald10 dX7_aheadOf_27 (nx := 28) rfl ⟨by omega, by omega⟩ ?_
      refine v_iload_n 2 dX7_aheadOf_28 (nx := 29) rfl rfl ?_
      refine v_icmp_ne dX7_aheadOf_29 (tgt := 51) (by decide) (nx := 32) rfl (by first | assumption | exact hR _ | exact ⟨by omega, by omega⟩) (by first | assumption | exact hR _ | exact ⟨by omega, by omega⟩) (fun c29 => ?_) (fun c29 => ?_)
      · refine v_iconst dX7_aheadOf_51 (nx := 52) rfl ?_
        refine v_istore dX7_aheadOf_52 (nx := 54) rfl rfl (by decide) ?_
        refine v_aload_n 0 dX7_aheadOf_54 (nx := 55) rfl rfl ?_
        refine m_gA 10 (p := 0) dX7_aheadOf_55 (nx := 58) rfl (by decide) fl_X7_9 rfl ?_
        refine v_sipush dX7_aheadOf_58 (nx := 61) rfl rfl ?_
        refine v_iload 5 dX7_aheadOf_61 (nx := 63) rfl rfl ?_
        refine v_iadd dX7_aheadOf_63 (nx := 64) rfl ?_
        refine m_ald10 dX7_aheadOf_64 (nx := 65) rfl ⟨by omega, by omega⟩ ?_
        refine v_aload_n 0 dX7_aheadOf_65 (nx := 66) rfl rfl ?_
        refine m_gA 10 (p := 0) dX7_aheadOf_66 (nx := 69) rfl (by decide) fl_X7_9 rfl ?_
        refine v_sipush dX7_aheadOf_69 (nx := 72) rfl rfl ?_
        refine v_iload_n 1 dX7_aheadOf_72 (nx := 73) rfl rfl ?_
        refine v_iadd dX7_aheadOf_73 (nx := 74) rfl ?_
        refine m_ald10 dX7_aheadOf_74 (nx := 75) rfl ⟨by omega, by omega⟩ ?_
        refine v_icmp_lt dX7_aheadOf_75 (tgt := 108) (by decide) (nx := 78) rfl (by first | assumption | exact hR _ | exact ⟨by omega, by omega⟩) (by first | assumption | exact hR _ | exact ⟨by omega, by omega⟩) (fun c75 => ?_) (fun c75 => ?_)
        · refine v_iconst dX7_aheadOf_108 (nx := 109) rfl ?_
          refine v_goto dX7_aheadOf_109 (tgt := 113) (by decide) ?_
          refine v_istore dX7_aheadOf_113 (nx := 115) rfl rfl (by decide) ?_
          refine v_iload 4 dX7_aheadOf_115 (nx := 117) rfl rfl ?_
          refine v_iload 6 dX7_aheadOf_117 (nx := 119) rfl rfl ?_
          refine v_if_eq dX7_aheadOf_119 (tgt := 131) (by decide) (nx := 122) rfl (by first | assumption | exact hR _ | exact ⟨by omega, by omega⟩) (fun c119 => ?_) (fun c119 => ?_)
          · refine v_iconst dX7_aheadOf_131 (nx := 132) rfl ?_
            refine v_iadd dX7_aheadOf_132 (nx := 133) rfl ?_
            refine v_istore dX7_aheadOf_133 (nx := 135) rfl rfl (by decide) ?_
            refine v_iinc 5 dX7_aheadOf_135 (nx := 138) rfl rfl rfl (by decide) ?_
            refine v_goto dX7_aheadOf_138 (tgt := 6) (by decide) ?_
            exact V.lpick [0, 1, 2, 3, 4, 5] rfl (ih _ _ ⟨by omega, by omega⟩ (by omega) (by first | first | exact cn_t hc hx.1 (decide_eq_true (by omega)) | exact cn_f hc hx.1 (decide_eq_false (by omega)) | exact cn_n hc hx.1 (decide_eq_false (by omega)) | (exfalso; omega)))
          · refine v_iload 7 dX7_aheadOf_122 (nx := 124) rfl rfl ?_
            refine v_if_eq dX7_aheadOf_124 (tgt := 131) (by decide) (nx := 127) rfl (by first | assumption | exact hR _ | exact ⟨by omega, by omega⟩) (fun c124 => ?_) (fun c124 => ?_)
            · refine v_iconst dX7_aheadOf_131 (nx := 132) rfl ?_
              refine v_iadd dX7_aheadOf_132 (nx := 133) rfl ?_
              refine v_istore dX7_aheadOf_133 (nx := 135) rfl rfl (by decide) ?_
              refine v_iinc 5 dX7_aheadOf_135 (nx := 138) rfl rfl rfl (by decide) ?_
              refine v_goto dX7_aheadOf_138 (tgt := 6) (by decide) ?_
              exact V.lpick [0, 1, 2, 3, 4, 5] rfl (ih _ _ ⟨by omega, by omega⟩ (by omega) (by first | first | exact cn_t hc hx.1 (decide_eq_true (by omega)) | exact cn_f hc hx.1 (decide_eq_false (by omega)) | exact cn_n hc hx.1 (decide_eq_false (by omega)) | (exfalso; omega)))
            · refine v_iconst dX7_aheadOf_127 (nx := 128) rfl ?_
              refine v_goto dX7_aheadOf_128 (tgt := 132) (by decide) ?_
              refine v_iadd dX7_aheadOf_132 (nx := 133) rfl ?_
              refine v_istore dX7_aheadOf_133 (nx := 135) rfl rfl (by decide) ?_
              refine v_iinc 5 dX7_aheadOf_135 (nx := 138) rfl rfl rfl (by decide) ?_
              refine v_goto dX7_aheadOf_138 (tgt := 6) (by decide) ?_
              exact V.lpick [0, 1, 2, 3, 4, 5] rfl (ih _ _ ⟨by omega, by omega⟩ (by omega) (by first | first | exact cn_t hc hx.1 (decide_eq_true (by omega)) | exact cn_f hc hx.1 (decide_eq_false (by omega)) | exact cn_n hc hx.1 (decide_eq_false (by omega)) | (exfalso; omega)))
        · refine v_aload_n 0 dX7_aheadOf_78 (nx := 79) rfl rfl ?_
          refine m_gA 10 (p := 0) dX7_aheadOf_79 (nx := 82) rfl (by decide) fl_X7_9 rfl ?_
          refine v_sipush dX7_aheadOf_82 (nx := 85) rfl rfl ?_
          refine v_iload 5 dX7_aheadOf_85 (nx := 87) rfl rfl ?_
          refine v_iadd dX7_aheadOf_87 (nx := 88) rfl ?_
          refine m_ald10 dX7_aheadOf_88 (nx := 89) rfl ⟨by omega, by omega⟩ ?_
          refine v_aload_n 0 dX7_aheadOf_89 (nx := 90) rfl rfl ?_
          refine m_gA 10 (p := 0) dX7_aheadOf_90 (nx := 93) rfl (by decide) fl_X7_9 rfl ?_
          refine v_sipush dX7_aheadOf_93 (nx := 96) rfl rfl ?_
          refine v_iload_n 1 dX7_aheadOf_96 (nx := 97) rfl rfl ?_
          refine v_iadd dX7_aheadOf_97 (nx := 98) rfl ?_
          refine m_ald10 dX7_aheadOf_98 (nx := 99) rfl ⟨by omega, by omega⟩ ?_
          refine v_icmp_ne dX7_aheadOf_99 (tgt := 112) (by decide) (nx := 102) rfl (by first | assumption | exact hR _ | exact ⟨by omega, by omega⟩) (by first | assumption | exact hR _ | exact ⟨by omega, by omega⟩) (fun c99 => ?_) (fun c99 => ?_)
          · refine v_iconst dX7_aheadOf_112 (nx := 113) rfl ?_
            refine v_istore dX7_aheadOf_113 (nx := 115) rfl rfl (by decide) ?_
            refine v_iload 4 dX7_aheadOf_115 (nx := 117) rfl rfl ?_
            refine v_iload 6 dX7_aheadOf_117 (nx := 119) rfl rfl ?_
            refine v_if_eq dX7_aheadOf_119 (tgt := 131) (by decide) (nx := 122) rfl (by first | assumption | exact hR _ | exact ⟨by omega, by omega⟩) (fun c119 => ?_) (fun c119 => ?_)
            · refine v_iconst dX7_aheadOf_131 (nx := 132) rfl ?_
              refine v_iadd dX7_aheadOf_132 (nx := 133) rfl ?_
              refine v_istore dX7_aheadOf_133 (nx := 135) rfl rfl (by decide) ?_
              refine v_iinc 5 dX7_aheadOf_135 (nx := 138) rfl rfl rfl (by decide) ?_
              refine v_goto dX7_aheadOf_138 (tgt := 6) (by decide) ?_
              exact V.lpick [0, 1, 2, 3, 4, 5] rfl (ih _ _ ⟨by omega, by omega⟩ (by omega) (by first | first | exact cn_t hc hx.1 (decide_eq_true (by omega)) | exact cn_f hc hx.1 (decide_eq_false (by omega)) | exact cn_n hc hx.1 (decide_eq_false (by omega)) | (exfalso; omega)))
            · refine v_iload 7 dX7_aheadOf_122 (nx := 124) rfl rfl ?_
              refine v_if_eq dX7_aheadOf_124 (tgt := 131) (by decide) (nx := 127) rfl (by first | assumption | exact hR _ | exact ⟨by omega, by omega⟩) (fun c124 => ?_) (fun c124 => ?_)
              · refine v_iconst dX7_aheadOf_131 (nx := 132) rfl ?_
                refine v_iadd dX7_aheadOf_132 (nx := 133) rfl ?_
                refine v_istore dX7_aheadOf_133 (nx := 135) rfl rfl (by decide) ?_
                refine v_iinc 5 dX7_aheadOf_135 (nx := 138) rfl rfl rfl (by decide) ?_
                refine v_goto dX7_aheadOf_138 (tgt := 6) (by decide) ?_
                exact V.lpick [0, 1, 2, 3, 4, 5] rfl (ih _ _ ⟨by omega, by omega⟩ (by omega) (by first | first | exact cn_t hc hx.1 (decide_eq_true (by omega)) | exact cn_f hc hx.1 (decide_eq_false (by omega)) | exact cn_n hc hx.1 (decide_eq_false (by omega)) | (exfalso; omega)))
              · refine v_iconst dX7_aheadOf_127 (nx := 128) rfl ?_
                refine v_goto dX7_aheadOf_128 (tgt := 132) (by decide) ?_
                refine v_iadd dX7_aheadOf_132 (nx := 133) rfl ?_
                refine v_istore dX7_aheadOf_133 (nx := 135) rfl rfl (by decide) ?_
                refine v_iinc 5 dX7_aheadOf_135 (nx := 138) rfl rfl rfl (by decide) ?_
                refine v_goto dX7_aheadOf_138 (tgt := 6) (by decide) ?_
                exact V.lpick [0, 1, 2, 3, 4, 5] rfl (ih _ _ ⟨by omega, by omega⟩ (by omega) (by first | first | exact cn_t hc hx.1 (decide_eq_true (by omega)) | exact cn_f hc hx.1 (decide_eq_false (by omega)) | exact cn_n hc hx.1 (decide_eq_false (by omega)) | (exfalso; omega)))
          · refine v_iload 5 dX7_aheadOf_102 (nx := 104) rfl rfl ?_
            refine v_iload_n 1 dX7_aheadOf_104 (nx := 105) rfl rfl ?_
            refine v_icmp_ge dX7_aheadOf_105 (tgt := 112) (by decide) (nx := 108) rfl (by first | assumption | exact hR _ | exact ⟨by omega, by omega⟩) (by first | assumption | exact hR _ | exact ⟨by omega, by omega⟩) (fun c105 => ?_) (fun c105 => ?_)
            · refine v_iconst dX7_aheadOf_112 (nx := 113) rfl ?_
              refine v_istore dX7_aheadOf_113 (nx := 115) rfl rfl (by decide) ?_
              refine v_iload 4 dX7_aheadOf_115 (nx := 117) rfl rfl ?_
              refine v_iload 6 dX7_aheadOf_117 (nx := 119) rfl rfl ?_
              refine v_if_eq dX7_aheadOf_119 (tgt := 131) (by decide) (nx := 122) rfl (by first | assumption | exact hR _ | exact ⟨by omega, by omega⟩) (fun c119 => ?_) (fun c119 => ?_)
              · refine v_iconst dX7_aheadOf_131 (nx := 132) rfl ?_
                refine v_iadd dX7_aheadOf_132 (nx := 133) rfl ?_
                refine v_istore dX7_aheadOf_133 (nx := 135) rfl rfl (by decide) ?_
                refine v_iinc 5 dX7_aheadOf_135 (nx := 138) rfl rfl rfl (by decide) ?_
                refine v_goto dX7_aheadOf_138 (tgt := 6) (by decide) ?_
                exact V.lpick [0, 1, 2, 3, 4, 5] rfl (ih _ _ ⟨by omega, by omega⟩ (by omega) (by first | first | exact cn_t hc hx.1 (decide_eq_true (by omega)) | exact cn_f hc hx.1 (decide_eq_false (by omega)) | exact cn_n hc hx.1 (decide_eq_false (by omega)) | (exfalso; omega)))
              · refine v_iload 7 dX7_aheadOf_122 (nx := 124) rfl rfl ?_
                refine v_if_eq dX7_aheadOf_124 (tgt := 131) (by decide) (nx := 127) rfl (by first | assumption | exact hR _ | exact ⟨by omega, by omega⟩) (fun c124 => ?_) (fun c124 => ?_)
                · refine v_iconst dX7_aheadOf_131 (nx := 132) rfl ?_
                  refine v_iadd dX7_aheadOf_132 (nx := 133) rfl ?_
                  refine v_istore dX7_aheadOf_133 (nx := 135) rfl rfl (by decide) ?_
                  refine v_iinc 5 dX7_aheadOf_135 (nx := 138) rfl rfl rfl (by decide) ?_
                  refine v_goto dX7_aheadOf_138 (tgt := 6) (by decide) ?_
                  exact V.lpick [0, 1, 2, 3, 4, 5] rfl (ih _ _ ⟨by omega, by omega⟩ (by omega) (by first | first | exact cn_t hc hx.1 (decide_eq_true (by omega)) | exact cn_f hc hx.1 (decide_eq_false (by omega)) | exact cn_n hc hx.1 (decide_eq_false (by omega)) | (exfalso; omega)))
                · refine v_iconst dX7_aheadOf_127 (nx := 128) rfl ?_
                  refine v_goto dX7_aheadOf_128 (tgt := 132) (by decide) ?_
                  refine v_iadd dX7_aheadOf_132 (nx := 133) rfl ?_
                  refine v_istore dX7_aheadOf_133 (nx := 135) rfl rfl (by decide) ?_
                  refine v_iinc 5 dX7_aheadOf_135 (nx := 138) rfl rfl rfl (by decide) ?_
                  refine v_goto dX7_aheadOf_138 (tgt := 6) (by decide) ?_
                  exact V.lpick [0, 1, 2, 3, 4, 5] rfl (ih _ _ ⟨by omega, by omega⟩ (by omega) (by first | first | exact cn_t hc hx.1 (decide_eq_true (by omega)) | exact cn_f hc hx.1 (decide_eq_false (by omega)) | exact cn_n hc hx.1 (decide_eq_false (by omega)) | (exfalso; omega)))
            · refine v_iconst dX7_aheadOf_108 (nx := 109) rfl ?_
              refine v_goto dX7_aheadOf_109 (tgt := 113) (by decide) ?_
              refine v_istore dX7_aheadOf_113 (nx := 115) rfl rfl (by decide) ?_
              refine v_iload 4 dX7_aheadOf_115 (nx := 117) rfl rfl ?_
              refine v_iload 6 dX7_aheadOf_117 (nx := 119) rfl rfl ?_
              refine v_if_eq dX7_aheadOf_119 (tgt := 131) (by decide) (nx := 122) rfl (by first | assumption | exact hR _ | exact ⟨by omega, by omega⟩) (fun c119 => ?_) (fun c119 => ?_)
              · refine v_iconst dX7_aheadOf_131 (nx := 132) rfl ?_
                refine v_iadd dX7_aheadOf_132 (nx := 133) rfl ?_
                refine v_istore dX7_aheadOf_133 (nx := 135) rfl rfl (by decide) ?_
                refine v_iinc 5 dX7_aheadOf_135 (nx := 138) rfl rfl rfl (by decide) ?_
                refine v_goto dX7_aheadOf_138 (tgt := 6) (by decide) ?_
                exact V.lpick [0, 1, 2, 3, 4, 5] rfl (ih _ _ ⟨by omega, by omega⟩ (by omega) (by first | first | exact cn_t hc hx.1 (decide_eq_true (by omega)) | exact cn_f hc hx.1 (decide_eq_false (by omega)) | exact cn_n hc hx.1 (decide_eq_false (by omega)) | (exfalso; omega)))
              · refine v_iload 7 dX7_aheadOf_122 (nx := 124) rfl rfl ?_
                refine v_if_eq dX7_aheadOf_124 (tgt := 131) (by decide) (nx := 127) rfl (by first | assumption | exact hR _ | exact ⟨by omega, by omega⟩) (fun c124 => ?_) (fun c124 => ?_)
                · refine v_iconst dX7_aheadOf_131 (nx := 132) rfl ?_
                  refine v_iadd dX7_aheadOf_132 (nx := 133) rfl ?_
                  refine v_istore dX7_aheadOf_133 (nx := 135) rfl rfl (by decide) ?_
                  refine v_iinc 5 dX7_aheadOf_135 (nx := 138) rfl rfl rfl (by decide) ?_
                  refine v_goto dX7_aheadOf_138 (tgt := 6) (by decide) ?_
                  exact V.lpick [0, 1, 2, 3, 4, 5] rfl (ih _ _ ⟨by omega, by omega⟩ (by omega) (by first | first | exact cn_t hc hx.1 (decide_eq_true (by omega)) | exact cn_f hc hx.1 (decide_eq_false (by omega)) | exact cn_n hc hx.1 (decide_eq_false (by omega)) | (exfalso; omega)))
                · refine v_iconst dX7_aheadOf_127 (nx := 128) rfl ?_
                  refine v_goto dX7_aheadOf_128 (tgt := 132) (by decide) ?_
                  refine v_iadd dX7_aheadOf_132 (nx := 133) rfl ?_
                  refine v_istore dX7_aheadOf_133 (nx := 135) rfl rfl (by decide) ?_
                  refine v_iinc 5 dX7_aheadOf_135 (nx := 138) rfl rfl rfl (by decide) ?_
                  refine v_goto dX7_aheadOf_138 (tgt := 6) (by decide) ?_
                  exact V.lpick [0, 1, 2, 3, 4, 5] rfl (ih _ _ ⟨by omega, by omega⟩ (by omega) (by first | first | exact cn_t hc hx.1 (decide_eq_true (by omega)) | exact cn_f hc hx.1 (decide_eq_false (by omega)) | exact cn_n hc hx.1 (decide_eq_false (by omega)) | (exfalso; omega)))
      · refine v_aload_n 0 dX7_aheadOf_32 (nx := 33) rfl rfl ?_
        refine m_gA 10 (p := 0) dX7_aheadOf_33 (nx := 36) rfl (by decide) fl_X7_9 rfl ?_
        refine v_sipush dX7_aheadOf_36 (nx := 39) rfl rfl ?_
        refine v_iload 5 dX7_aheadOf_39 (nx := 41) rfl rfl ?_
        refine v_iadd dX7_aheadOf_41 (nx := 42) rfl ?_
        refine m_ald10 dX7_aheadOf_42 (nx := 43) rfl ⟨by omega, by omega⟩ ?_
        refine v_iload_n 3 dX7_aheadOf_43 (nx := 44) rfl rfl ?_
        refine v_icmp_ne dX7_aheadOf_44 (tgt := 51) (by decide) (nx := 47) rfl (by first | assumption | exact hR _ | exact ⟨by omega, by omega⟩) (by first | assumption | exact hR _ | exact ⟨by omega, by omega⟩) (fun c44 => ?_) (fun c44 => ?_)
        · refine v_iconst dX7_aheadOf_51 (nx := 52) rfl ?_
          refine v_istore dX7_aheadOf_52 (nx := 54) rfl rfl (by decide) ?_
          refine v_aload_n 0 dX7_aheadOf_54 (nx := 55) rfl rfl ?_
          refine m_gA 10 (p := 0) dX7_aheadOf_55 (nx := 58) rfl (by decide) fl_X7_9 rfl ?_
          refine v_sipush dX7_aheadOf_58 (nx := 61) rfl rfl ?_
          refine v_iload 5 dX7_aheadOf_61 (nx := 63) rfl rfl ?_
          refine v_iadd dX7_aheadOf_63 (nx := 64) rfl ?_
          refine m_ald10 dX7_aheadOf_64 (nx := 65) rfl ⟨by omega, by omega⟩ ?_
          refine v_aload_n 0 dX7_aheadOf_65 (nx := 66) rfl rfl ?_
          refine m_gA 10 (p := 0) dX7_aheadOf_66 (nx := 69) rfl (by decide) fl_X7_9 rfl ?_
          refine v_sipush dX7_aheadOf_69 (nx := 72) rfl rfl ?_
          refine v_iload_n 1 dX7_aheadOf_72 (nx := 73) rfl rfl ?_
          refine v_iadd dX7_aheadOf_73 (nx := 74) rfl ?_
          refine m_ald10 dX7_aheadOf_74 (nx := 75) rfl ⟨by omega, by omega⟩ ?_
          refine v_icmp_lt dX7_aheadOf_75 (tgt := 108) (by decide) (nx := 78) rfl (by first | assumption | exact hR _ | exact ⟨by omega, by omega⟩) (by first | assumption | exact hR _ | exact ⟨by omega, by omega⟩) (fun c75 => ?_) (fun c75 => ?_)
          · refine v_iconst dX7_aheadOf_108 (nx := 109) rfl ?_
            refine v_goto dX7_aheadOf_109 (tgt := 113) (by decide) ?_
            refine v_istore dX7_aheadOf_113 (nx := 115) rfl rfl (by decide) ?_
            refine v_iload 4 dX7_aheadOf_115 (nx := 117) rfl rfl ?_
            refine v_iload 6 dX7_aheadOf_117 (nx := 119) rfl rfl ?_
            refine v_if_eq dX7_aheadOf_119 (tgt := 131) (by decide) (nx := 122) rfl (by first | assumption | exact hR _ | exact ⟨by omega, by omega⟩) (fun c119 => ?_) (fun c119 => ?_)
            · refine v_iconst dX7_aheadOf_131 (nx := 132) rfl ?_
              refine v_iadd dX7_aheadOf_132 (nx := 133) rfl ?_
              refine v_istore dX7_aheadOf_133 (nx := 135) rfl rfl (by decide) ?_
              refine v_iinc 5 dX7_aheadOf_135 (nx := 138) rfl rfl rfl (by decide) ?_
              refine v_goto dX7_aheadOf_138 (tgt := 6) (by decide) ?_
              exact V.lpick [0, 1, 2, 3, 4, 5] rfl (ih _ _ ⟨by omega, by omega⟩ (by omega) (by first | first | exact cn_t hc hx.1 (decide_eq_true (by omega)) | exact cn_f hc hx.1 (decide_eq_false (by omega)) | exact cn_n hc hx.1 (decide_eq_false (by omega)) | (exfalso; omega)))
            · refine v_iload 7 dX7_aheadOf_122 (nx := 124) rfl rfl ?_
              refine v_if_eq dX7_aheadOf_124 (tgt := 131) (by decide) (nx := 127) rfl (by first | assumption | exact hR _ | exact ⟨by omega, by omega⟩) (fun c124 => ?_) (fun c124 => ?_)
              · refine v_iconst dX7_aheadOf_131 (nx := 132) rfl ?_
                refine v_iadd dX7_aheadOf_132 (nx := 133) rfl ?_
                refine v_istore dX7_aheadOf_133 (nx := 135) rfl rfl (by decide) ?_
                refine v_iinc 5 dX7_aheadOf_135 (nx := 138) rfl rfl rfl (by decide) ?_
                refine v_goto dX7_aheadOf_138 (tgt := 6) (by decide) ?_
                exact V.lpick [0, 1, 2, 3, 4, 5] rfl (ih _ _ ⟨by omega, by omega⟩ (by omega) (by first | first | exact cn_t hc hx.1 (decide_eq_true (by omega)) | exact cn_f hc hx.1 (decide_eq_false (by omega)) | exact cn_n hc hx.1 (decide_eq_false (by omega)) | (exfalso; omega)))
              · refine v_iconst dX7_aheadOf_127 (nx := 128) rfl ?_
                refine v_goto dX7_aheadOf_128 (tgt := 132) (by decide) ?_
                refine v_iadd dX7_aheadOf_132 (nx := 133) rfl ?_
                refine v_istore dX7_aheadOf_133 (nx := 135) rfl rfl (by decide) ?_
                refine v_iinc 5 dX7_aheadOf_135 (nx := 138) rfl rfl rfl (by decide) ?_
                refine v_goto dX7_aheadOf_138 (tgt := 6) (by decide) ?_
                exact V.lpick [0, 1, 2, 3, 4, 5] rfl (ih _ _ ⟨by omega, by omega⟩ (by omega) (by first | first | exact cn_t hc hx.1 (decide_eq_true (by omega)) | exact cn_f hc hx.1 (decide_eq_false (by omega)) | exact cn_n hc hx.1 (decide_eq_false (by omega)) | (exfalso; omega)))
          · refine v_aload_n 0 dX7_aheadOf_78 (nx := 79) rfl rfl ?_
            refine m_gA 10 (p := 0) dX7_aheadOf_79 (nx := 82) rfl (by decide) fl_X7_9 rfl ?_
            refine v_sipush dX7_aheadOf_82 (nx := 85) rfl rfl ?_
            refine v_iload 5 dX7_aheadOf_85 (nx := 87) rfl rfl ?_
            refine v_iadd dX7_aheadOf_87 (nx := 88) rfl ?_
            refine m_ald10 dX7_aheadOf_88 (nx := 89) rfl ⟨by omega, by omega⟩ ?_
            refine v_aload_n 0 dX7_aheadOf_89 (nx := 90) rfl rfl ?_
            refine m_gA 10 (p := 0) dX7_aheadOf_90 (nx := 93) rfl (by decide) fl_X7_9 rfl ?_
            refine v_sipush dX7_aheadOf_93 (nx := 96) rfl rfl ?_
            refine v_iload_n 1 dX7_aheadOf_96 (nx := 97) rfl rfl ?_
            refine v_iadd dX7_aheadOf_97 (nx := 98) rfl ?_
            refine m_ald10 dX7_aheadOf_98 (nx := 99) rfl ⟨by omega, by omega⟩ ?_
            refine v_icmp_ne dX7_aheadOf_99 (tgt := 112) (by decide) (nx := 102) rfl (by first | assumption | exact hR _ | exact ⟨by omega, by omega⟩) (by first | assumption | exact hR _ | exact ⟨by omega, by omega⟩) (fun c99 => ?_) (fun c99 => ?_)
            · refine v_iconst dX7_aheadOf_112 (nx := 113) rfl ?_
              refine v_istore dX7_aheadOf_113 (nx := 115) rfl rfl (by decide) ?_
              refine v_iload 4 dX7_aheadOf_115 (nx := 117) rfl rfl ?_
              refine v_iload 6 dX7_aheadOf_117 (nx := 119) rfl rfl ?_
              refine v_if_eq dX7_aheadOf_119 (tgt := 131) (by decide) (nx := 122) rfl (by first | assumption | exact hR _ | exact ⟨by omega, by omega⟩) (fun c119 => ?_) (fun c119 => ?_)
              · refine v_iconst dX7_aheadOf_131 (nx := 132) rfl ?_
                refine v_iadd dX7_aheadOf_132 (nx := 133) rfl ?_
                refine v_istore dX7_aheadOf_133 (nx := 135) rfl rfl (by decide) ?_
                refine v_iinc 5 dX7_aheadOf_135 (nx := 138) rfl rfl rfl (by decide) ?_
                refine v_goto dX7_aheadOf_138 (tgt := 6) (by decide) ?_
                exact V.lpick [0, 1, 2, 3, 4, 5] rfl (ih _ _ ⟨by omega, by omega⟩ (by omega) (by first | first | exact cn_t hc hx.1 (decide_eq_true (by omega)) | exact cn_f hc hx.1 (decide_eq_false (by omega)) | exact cn_n hc hx.1 (decide_eq_false (by omega)) | (exfalso; omega)))
              · refine v_iload 7 dX7_aheadOf_122 (nx := 124) rfl rfl ?_
                refine v_if_eq dX7_aheadOf_124 (tgt := 131) (by decide) (nx := 127) rfl (by first | assumption | exact hR _ | exact ⟨by omega, by omega⟩) (fun c124 => ?_) (fun c124 => ?_)
                · refine v_iconst dX7_aheadOf_131 (nx := 132) rfl ?_
                  refine v_iadd dX7_aheadOf_132 (nx := 133) rfl ?_
                  refine v_istore dX7_aheadOf_133 (nx := 135) rfl rfl (by decide) ?_
                  refine v_iinc 5 dX7_aheadOf_135 (nx := 138) rfl rfl rfl (by decide) ?_
                  refine v_goto dX7_aheadOf_138 (tgt := 6) (by decide) ?_
                  exact V.lpick [0, 1, 2, 3, 4, 5] rfl (ih _ _ ⟨by omega, by omega⟩ (by omega) (by first | first | exact cn_t hc hx.1 (decide_eq_true (by omega)) | exact cn_f hc hx.1 (decide_eq_false (by omega)) | exact cn_n hc hx.1 (decide_eq_false (by omega)) | (exfalso; omega)))
                · refine v_iconst dX7_aheadOf_127 (nx := 128) rfl ?_
                  refine v_goto dX7_aheadOf_128 (tgt := 132) (by decide) ?_
                  refine v_iadd dX7_aheadOf_132 (nx := 133) rfl ?_
                  refine v_istore dX7_aheadOf_133 (nx := 135) rfl rfl (by decide) ?_
                  refine v_iinc 5 dX7_aheadOf_135 (nx := 138) rfl rfl rfl (by decide) ?_
                  refine v_goto dX7_aheadOf_138 (tgt := 6) (by decide) ?_
                  exact V.lpick [0, 1, 2, 3, 4, 5] rfl (ih _ _ ⟨by omega, by omega⟩ (by omega) (by first | first | exact cn_t hc hx.1 (decide_eq_true (by omega)) | exact cn_f hc hx.1 (decide_eq_false (by omega)) | exact cn_n hc hx.1 (decide_eq_false (by omega)) | (exfalso; omega)))
            · refine v_iload 5 dX7_aheadOf_102 (nx := 104) rfl rfl ?_
              refine v_iload_n 1 dX7_aheadOf_104 (nx := 105) rfl rfl ?_
              refine v_icmp_ge dX7_aheadOf_105 (tgt := 112) (by decide) (nx := 108) rfl (by first | assumption | exact hR _ | exact ⟨by omega, by omega⟩) (by first | assumption | exact hR _ | exact ⟨by omega, by omega⟩) (fun c105 => ?_) (fun c105 => ?_)
              · refine v_iconst dX7_aheadOf_112 (nx := 113) rfl ?_
                refine v_istore dX7_aheadOf_113 (nx := 115) rfl rfl (by decide) ?_
                refine v_iload 4 dX7_aheadOf_115 (nx := 117) rfl rfl ?_
                refine v_iload 6 dX7_aheadOf_117 (nx := 119) rfl rfl ?_
                refine v_if_eq dX7_aheadOf_119 (tgt := 131) (by decide) (nx := 122) rfl (by first | assumption | exact hR _ | exact ⟨by omega, by omega⟩) (fun c119 => ?_) (fun c119 => ?_)
                · refine v_iconst dX7_aheadOf_131 (nx := 132) rfl ?_
                  refine v_iadd dX7_aheadOf_132 (nx := 133) rfl ?_
                  refine v_istore dX7_aheadOf_133 (nx := 135) rfl rfl (by decide) ?_
                  refine v_iinc 5 dX7_aheadOf_135 (nx := 138) rfl rfl rfl (by decide) ?_
                  refine v_goto dX7_aheadOf_138 (tgt := 6) (by decide) ?_
                  exact V.lpick [0, 1, 2, 3, 4, 5] rfl (ih _ _ ⟨by omega, by omega⟩ (by omega) (by first | first | exact cn_t hc hx.1 (decide_eq_true (by omega)) | exact cn_f hc hx.1 (decide_eq_false (by omega)) | exact cn_n hc hx.1 (decide_eq_false (by omega)) | (exfalso; omega)))
                · refine v_iload 7 dX7_aheadOf_122 (nx := 124) rfl rfl ?_
                  refine v_if_eq dX7_aheadOf_124 (tgt := 131) (by decide) (nx := 127) rfl (by first | assumption | exact hR _ | exact ⟨by omega, by omega⟩) (fun c124 => ?_) (fun c124 => ?_)
                  · refine v_iconst dX7_aheadOf_131 (nx := 132) rfl ?_
                    refine v_iadd dX7_aheadOf_132 (nx := 133) rfl ?_
                    refine v_istore dX7_aheadOf_133 (nx := 135) rfl rfl (by decide) ?_
                    refine v_iinc 5 dX7_aheadOf_135 (nx := 138) rfl rfl rfl (by decide) ?_
                    refine v_goto dX7_aheadOf_138 (tgt := 6) (by decide) ?_
                    exact V.lpick [0, 1, 2, 3, 4, 5] rfl (ih _ _ ⟨by omega, by omega⟩ (by omega) (by first | first | exact cn_t hc hx.1 (decide_eq_true (by omega)) | exact cn_f hc hx.1 (decide_eq_false (by omega)) | exact cn_n hc hx.1 (decide_eq_false (by omega)) | (exfalso; omega)))
                  · refine v_iconst dX7_aheadOf_127 (nx := 128) rfl ?_
                    refine v_goto dX7_aheadOf_128 (tgt := 132) (by decide) ?_
                    refine v_iadd dX7_aheadOf_132 (nx := 133) rfl ?_
                    refine v_istore dX7_aheadOf_133 (nx := 135) rfl rfl (by decide) ?_
                    refine v_iinc 5 dX7_aheadOf_135 (nx := 138) rfl rfl rfl (by decide) ?_
                    refine v_goto dX7_aheadOf_138 (tgt := 6) (by decide) ?_
                    exact V.lpick [0, 1, 2, 3, 4, 5] rfl (ih _ _ ⟨by omega, by omega⟩ (by omega) (by first | first | exact cn_t hc hx.1 (decide_eq_true (by omega)) | exact cn_f hc hx.1 (decide_eq_false (by omega)) | exact cn_n hc hx.1 (decide_eq_false (by omega)) | (exfalso; omega)))
              · refine v_iconst dX7_aheadOf_108 (nx := 109) rfl ?_
                refine v_goto dX7_aheadOf_109 (tgt := 113) (by decide) ?_
                refine v_istore dX7_aheadOf_113 (nx := 115) rfl rfl (by decide) ?_
                refine v_iload 4 dX7_aheadOf_115 (nx := 117) rfl rfl ?_
                refine v_iload 6 dX7_aheadOf_117 (nx := 119) rfl rfl ?_
                refine v_if_eq dX7_aheadOf_119 (tgt := 131) (by decide) (nx := 122) rfl (by first | assumption | exact hR _ | exact ⟨by omega, by omega⟩) (fun c119 => ?_) (fun c119 => ?_)
                · refine v_iconst dX7_aheadOf_131 (nx := 132) rfl ?_
                  refine v_iadd dX7_aheadOf_132 (nx := 133) rfl ?_
                  refine v_istore dX7_aheadOf_133 (nx := 135) rfl rfl (by decide) ?_
                  refine v_iinc 5 dX7_aheadOf_135 (nx := 138) rfl rfl rfl (by decide) ?_
                  refine v_goto dX7_aheadOf_138 (tgt := 6) (by decide) ?_
                  exact V.lpick [0, 1, 2, 3, 4, 5] rfl (ih _ _ ⟨by omega, by omega⟩ (by omega) (by first | first | exact cn_t hc hx.1 (decide_eq_true (by omega)) | exact cn_f hc hx.1 (decide_eq_false (by omega)) | exact cn_n hc hx.1 (decide_eq_false (by omega)) | (exfalso; omega)))
                · refine v_iload 7 dX7_aheadOf_122 (nx := 124) rfl rfl ?_
                  refine v_if_eq dX7_aheadOf_124 (tgt := 131) (by decide) (nx := 127) rfl (by first | assumption | exact hR _ | exact ⟨by omega, by omega⟩) (fun c124 => ?_) (fun c124 => ?_)
                  · refine v_iconst dX7_aheadOf_131 (nx := 132) rfl ?_
                    refine v_iadd dX7_aheadOf_132 (nx := 133) rfl ?_
                    refine v_istore dX7_aheadOf_133 (nx := 135) rfl rfl (by decide) ?_
                    refine v_iinc 5 dX7_aheadOf_135 (nx := 138) rfl rfl rfl (by decide) ?_
                    refine v_goto dX7_aheadOf_138 (tgt := 6) (by decide) ?_
                    exact V.lpick [0, 1, 2, 3, 4, 5] rfl (ih _ _ ⟨by omega, by omega⟩ (by omega) (by first | first | exact cn_t hc hx.1 (decide_eq_true (by omega)) | exact cn_f hc hx.1 (decide_eq_false (by omega)) | exact cn_n hc hx.1 (decide_eq_false (by omega)) | (exfalso; omega)))
                  · refine v_iconst dX7_aheadOf_127 (nx := 128) rfl ?_
                    refine v_goto dX7_aheadOf_128 (tgt := 132) (by decide) ?_
                    refine v_iadd dX7_aheadOf_132 (nx := 133) rfl ?_
                    refine v_istore dX7_aheadOf_133 (nx := 135) rfl rfl (by decide) ?_
                    refine v_iinc 5 dX7_aheadOf_135 (nx := 138) rfl rfl rfl (by decide) ?_
                    refine v_goto dX7_aheadOf_138 (tgt := 6) (by decide) ?_
                    exact V.lpick [0, 1, 2, 3, 4, 5] rfl (ih _ _ ⟨by omega, by omega⟩ (by omega) (by first | first | exact cn_t hc hx.1 (decide_eq_true (by omega)) | exact cn_f hc hx.1 (decide_eq_false (by omega)) | exact cn_n hc hx.1 (decide_eq_false (by omega)) | (exfalso; omega)))
        · refine v_iconst dX7_aheadOf_47 (nx := 48) rfl ?_
          refine v_goto dX7_aheadOf_48 (tgt := 52) (by decide) ?_
          refine v_istore dX7_aheadOf_52 (nx := 54) rfl rfl (by decide) ?_
          refine v_aload_n 0 dX7_aheadOf_54 (nx := 55) rfl rfl ?_
          refine m_gA 10 (p := 0) dX7_aheadOf_55 (nx := 58) rfl (by decide) fl_X7_9 rfl ?_
          refine v_sipush dX7_aheadOf_58 (nx := 61) rfl rfl ?_
          refine v_iload 5 dX7_aheadOf_61 (nx := 63) rfl rfl ?_
          refine v_iadd dX7_aheadOf_63 (nx := 64) rfl ?_
          refine m_ald10 dX7_aheadOf_64 (nx := 65) rfl ⟨by omega, by omega⟩ ?_
          refine v_aload_n 0 dX7_aheadOf_65 (nx := 66) rfl rfl ?_
          refine m_gA 10 (p := 0) dX7_aheadOf_66 (nx := 69) rfl (by decide) fl_X7_9 rfl ?_
          refine v_sipush dX7_aheadOf_69 (nx := 72) rfl rfl ?_
          refine v_iload_n 1 dX7_aheadOf_72 (nx := 73) rfl rfl ?_
          refine v_iadd dX7_aheadOf_73 (nx := 74) rfl ?_
          refine m_ald10 dX7_aheadOf_74 (nx := 75) rfl ⟨by omega, by omega⟩ ?_
          refine v_icmp_lt dX7_aheadOf_75 (tgt := 108) (by decide) (nx := 78) rfl (by first | assumption | exact hR _ | exact ⟨by omega, by omega⟩) (by first | assumption | exact hR _ | exact ⟨by omega, by omega⟩) (fun c75 => ?_) (fun c75 => ?_)
          · refine v_iconst dX7_aheadOf_108 (nx := 109) rfl ?_
            refine v_goto dX7_aheadOf_109 (tgt := 113) (by decide) ?_
            refine v_istore dX7_aheadOf_113 (nx := 115) rfl rfl (by decide) ?_
            refine v_iload 4 dX7_aheadOf_115 (nx := 117) rfl rfl ?_
            refine v_iload 6 dX7_aheadOf_117 (nx := 119) rfl rfl ?_
            refine v_if_eq dX7_aheadOf_119 (tgt := 131) (by decide) (nx := 122) rfl (by first | assumption | exact hR _ | exact ⟨by omega, by omega⟩) (fun c119 => ?_) (fun c119 => ?_)
            · refine v_iconst dX7_aheadOf_131 (nx := 132) rfl ?_
              refine v_iadd dX7_aheadOf_132 (nx := 133) rfl ?_
              refine v_istore dX7_aheadOf_133 (nx := 135) rfl rfl (by decide) ?_
              refine v_iinc 5 dX7_aheadOf_135 (nx := 138) rfl rfl rfl (by decide) ?_
              refine v_goto dX7_aheadOf_138 (tgt := 6) (by decide) ?_
              exact V.lpick [0, 1, 2, 3, 4, 5] rfl (ih _ _ ⟨by omega, by omega⟩ (by omega) (by first | first | exact cn_t hc hx.1 (decide_eq_true (by omega)) | exact cn_f hc hx.1 (decide_eq_false (by omega)) | exact cn_n hc hx.1 (decide_eq_false (by omega)) | (exfalso; omega)))
            · refine v_iload 7 dX7_aheadOf_122 (nx := 124) rfl rfl ?_
              refine v_if_eq dX7_aheadOf_124 (tgt := 131) (by decide) (nx := 127) rfl (by first | assumption | exact hR _ | exact ⟨by omega, by omega⟩) (fun c124 => ?_) (fun c124 => ?_)
              · refine v_iconst dX7_aheadOf_131 (nx := 132) rfl ?_
                refine v_iadd dX7_aheadOf_132 (nx := 133) rfl ?_
                refine v_istore dX7_aheadOf_133 (nx := 135) rfl rfl (by decide) ?_
                refine v_iinc 5 dX7_aheadOf_135 (nx := 138) rfl rfl rfl (by decide) ?_
                refine v_goto dX7_aheadOf_138 (tgt := 6) (by decide) ?_
                exact V.lpick [0, 1, 2, 3, 4, 5] rfl (ih _ _ ⟨by omega, by omega⟩ (by omega) (by first | first | exact cn_t hc hx.1 (decide_eq_true (by omega)) | exact cn_f hc hx.1 (decide_eq_false (by omega)) | exact cn_n hc hx.1 (decide_eq_false (by omega)) | (exfalso; omega)))
              · refine v_iconst dX7_aheadOf_127 (nx := 128) rfl ?_
                refine v_goto dX7_aheadOf_128 (tgt := 132) (by decide) ?_
                refine v_iadd dX7_aheadOf_132 (nx := 133) rfl ?_
                refine v_istore dX7_aheadOf_133 (nx := 135) rfl rfl (by decide) ?_
                refine v_iinc 5 dX7_aheadOf_135 (nx := 138) rfl rfl rfl (by decide) ?_
                refine v_goto dX7_aheadOf_138 (tgt := 6) (by decide) ?_
                exact V.lpick [0, 1, 2, 3, 4, 5] rfl (ih _ _ ⟨by omega, by omega⟩ (by omega) (by first | first | exact cn_t hc hx.1 (decide_eq_true (by omega)) | exact cn_f hc hx.1 (decide_eq_false (by omega)) | exact cn_n hc hx.1 (decide_eq_false (by omega)) | (exfalso; omega)))
          · refine v_aload_n 0 dX7_aheadOf_78 (nx := 79) rfl rfl ?_
            refine m_gA 10 (p := 0) dX7_aheadOf_79 (nx := 82) rfl (by decide) fl_X7_9 rfl ?_
            refine v_sipush dX7_aheadOf_82 (nx := 85) rfl rfl ?_
            refine v_iload 5 dX7_aheadOf_85 (nx := 87) rfl rfl ?_
            refine v_iadd dX7_aheadOf_87 (nx := 88) rfl ?_
            refine m_ald10 dX7_aheadOf_88 (nx := 89) rfl ⟨by omega, by omega⟩ ?_
            refine v_aload_n 0 dX7_aheadOf_89 (nx := 90) rfl rfl ?_
            refine m_gA 10 (p := 0) dX7_aheadOf_90 (nx := 93) rfl (by decide) fl_X7_9 rfl ?_
            refine v_sipush dX7_aheadOf_93 (nx := 96) rfl rfl ?_
            refine v_iload_n 1 dX7_aheadOf_96 (nx := 97) rfl rfl ?_
            refine v_iadd dX7_aheadOf_97 (nx := 98) rfl ?_
            refine m_ald10 dX7_aheadOf_98 (nx := 99) rfl ⟨by omega, by omega⟩ ?_
            refine v_icmp_ne dX7_aheadOf_99 (tgt := 112) (by decide) (nx := 102) rfl (by first | assumption | exact hR _ | exact ⟨by omega, by omega⟩) (by first | assumption | exact hR _ | exact ⟨by omega, by omega⟩) (fun c99 => ?_) (fun c99 => ?_)
            · refine v_iconst dX7_aheadOf_112 (nx := 113) rfl ?_
              refine v_istore dX7_aheadOf_113 (nx := 115) rfl rfl (by decide) ?_
              refine v_iload 4 dX7_aheadOf_115 (nx := 117) rfl rfl ?_
              refine v_iload 6 dX7_aheadOf_117 (nx := 119) rfl rfl ?_
              refine v_if_eq dX7_aheadOf_119 (tgt := 131) (by decide) (nx := 122) rfl (by first | assumption | exact hR _ | exact ⟨by omega, by omega⟩) (fun c119 => ?_) (fun c119 => ?_)
              · refine v_iconst dX7_aheadOf_131 (nx := 132) rfl ?_
                refine v_iadd dX7_aheadOf_132 (nx := 133) rfl ?_
                refine v_istore dX7_aheadOf_133 (nx := 135) rfl rfl (by decide) ?_
                refine v_iinc 5 dX7_aheadOf_135 (nx := 138) rfl rfl rfl (by decide) ?_
                refine v_goto dX7_aheadOf_138 (tgt := 6) (by decide) ?_
                exact V.lpick [0, 1, 2, 3, 4, 5] rfl (ih _ _ ⟨by omega, by omega⟩ (by omega) (by first | first | exact cn_t hc hx.1 (decide_eq_true (by omega)) | exact cn_f hc hx.1 (decide_eq_false (by omega)) | exact cn_n hc hx.1 (decide_eq_false (by omega)) | (exfalso; omega)))
              · refine v_iload 7 dX7_aheadOf_122 (nx := 124) rfl rfl ?_
                refine v_if_eq dX7_aheadOf_124 (tgt := 131) (by decide) (nx := 127) rfl (by first | assumption | exact hR _ | exact ⟨by omega, by omega⟩) (fun c124 => ?_) (fun c124 => ?_)
                · refine v_iconst dX7_aheadOf_131 (nx := 132) rfl ?_
                  refine v_iadd dX7_aheadOf_132 (nx := 133) rfl ?_
                  refine v_istore dX7_aheadOf_133 (nx := 135) rfl rfl (by decide) ?_
                  refine v_iinc 5 dX7_aheadOf_135 (nx := 138) rfl rfl rfl (by decide) ?_
                  refine v_goto dX7_aheadOf_138 (tgt := 6) (by decide) ?_
                  exact V.lpick [0, 1, 2, 3, 4, 5] rfl (ih _ _ ⟨by omega, by omega⟩ (by omega) (by first | first | exact cn_t hc hx.1 (decide_eq_true (by omega)) | exact cn_f hc hx.1 (decide_eq_false (by omega)) | exact cn_n hc hx.1 (decide_eq_false (by omega)) | (exfalso; omega)))
                · refine v_iconst dX7_aheadOf_127 (nx := 128) rfl ?_
                  refine v_goto dX7_aheadOf_128 (tgt := 132) (by decide) ?_
                  refine v_iadd dX7_aheadOf_132 (nx := 133) rfl ?_
                  refine v_istore dX7_aheadOf_133 (nx := 135) rfl rfl (by decide) ?_
                  refine v_iinc 5 dX7_aheadOf_135 (nx := 138) rfl rfl rfl (by decide) ?_
                  refine v_goto dX7_aheadOf_138 (tgt := 6) (by decide) ?_
                  exact V.lpick [0, 1, 2, 3, 4, 5] rfl (ih _ _ ⟨by omega, by omega⟩ (by omega) (by first | first | exact cn_t hc hx.1 (decide_eq_true (by omega)) | exact cn_f hc hx.1 (decide_eq_false (by omega)) | exact cn_n hc hx.1 (decide_eq_false (by omega)) | (exfalso; omega)))
            · refine v_iload 5 dX7_aheadOf_102 (nx := 104) rfl rfl ?_
              refine v_iload_n 1 dX7_aheadOf_104 (nx := 105) rfl rfl ?_
              refine v_icmp_ge dX7_aheadOf_105 (tgt := 112) (by decide) (nx := 108) rfl (by first | assumption | exact hR _ | exact ⟨by omega, by omega⟩) (by first | assumption | exact hR _ | exact ⟨by omega, by omega⟩) (fun c105 => ?_) (fun c105 => ?_)
              · refine v_iconst dX7_aheadOf_112 (nx := 113) rfl ?_
                refine v_istore dX7_aheadOf_113 (nx := 115) rfl rfl (by decide) ?_
                refine v_iload 4 dX7_aheadOf_115 (nx := 117) rfl rfl ?_
                refine v_iload 6 dX7_aheadOf_117 (nx := 119) rfl rfl ?_
                refine v_if_eq dX7_aheadOf_119 (tgt := 131) (by decide) (nx := 122) rfl (by first | assumption | exact hR _ | exact ⟨by omega, by omega⟩) (fun c119 => ?_) (fun c119 => ?_)
                · refine v_iconst dX7_aheadOf_131 (nx := 132) rfl ?_
                  refine v_iadd dX7_aheadOf_132 (nx := 133) rfl ?_
                  refine v_istore dX7_aheadOf_133 (nx := 135) rfl rfl (by decide) ?_
                  refine v_iinc 5 dX7_aheadOf_135 (nx := 138) rfl rfl rfl (by decide) ?_
                  refine v_goto dX7_aheadOf_138 (tgt := 6) (by decide) ?_
                  exact V.lpick [0, 1, 2, 3, 4, 5] rfl (ih _ _ ⟨by omega, by omega⟩ (by omega) (by first | first | exact cn_t hc hx.1 (decide_eq_true (by omega)) | exact cn_f hc hx.1 (decide_eq_false (by omega)) | exact cn_n hc hx.1 (decide_eq_false (by omega)) | (exfalso; omega)))
                · refine v_iload 7 dX7_aheadOf_122 (nx := 124) rfl rfl ?_
                  refine v_if_eq dX7_aheadOf_124 (tgt := 131) (by decide) (nx := 127) rfl (by first | assumption | exact hR _ | exact ⟨by omega, by omega⟩) (fun c124 => ?_) (fun c124 => ?_)
                  · refine v_iconst dX7_aheadOf_131 (nx := 132) rfl ?_
                    refine v_iadd dX7_aheadOf_132 (nx := 133) rfl ?_
                    refine v_istore dX7_aheadOf_133 (nx := 135) rfl rfl (by decide) ?_
                    refine v_iinc 5 dX7_aheadOf_135 (nx := 138) rfl rfl rfl (by decide) ?_
                    refine v_goto dX7_aheadOf_138 (tgt := 6) (by decide) ?_
                    exact V.lpick [0, 1, 2, 3, 4, 5] rfl (ih _ _ ⟨by omega, by omega⟩ (by omega) (by first | first | exact cn_t hc hx.1 (decide_eq_true (by omega)) | exact cn_f hc hx.1 (decide_eq_false (by omega)) | exact cn_n hc hx.1 (decide_eq_false (by omega)) | (exfalso; omega)))
                  · refine v_iconst dX7_aheadOf_127 (nx := 128) rfl ?_
                    refine v_goto dX7_aheadOf_128 (tgt := 132) (by decide) ?_
                    refine v_iadd dX7_aheadOf_132 (nx := 133) rfl ?_
                    refine v_istore dX7_aheadOf_133 (nx := 135) rfl rfl (by decide) ?_
                    refine v_iinc 5 dX7_aheadOf_135 (nx := 138) rfl rfl rfl (by decide) ?_
                    refine v_goto dX7_aheadOf_138 (tgt := 6) (by decide) ?_
                    exact V.lpick [0, 1, 2, 3, 4, 5] rfl (ih _ _ ⟨by omega, by omega⟩ (by omega) (by first | first | exact cn_t hc hx.1 (decide_eq_true (by omega)) | exact cn_f hc hx.1 (decide_eq_false (by omega)) | exact cn_n hc hx.1 (decide_eq_false (by omega)) | (exfalso; omega)))
              · refine v_iconst dX7_aheadOf_108 (nx := 109) rfl ?_
                refine v_goto dX7_aheadOf_109 (tgt := 113) (by decide) ?_
                refine v_istore dX7_aheadOf_113 (nx := 115) rfl rfl (by decide) ?_
                refine v_iload 4 dX7_aheadOf_115 (nx := 117) rfl rfl ?_
                refine v_iload 6 dX7_aheadOf_117 (nx := 119) rfl rfl ?_
                refine v_if_eq dX7_aheadOf_119 (tgt := 131) (by decide) (nx := 122) rfl (by first | assumption | exact hR _ | exact ⟨by omega, by omega⟩) (fun c119 => ?_) (fun c119 => ?_)
                · refine v_iconst dX7_aheadOf_131 (nx := 132) rfl ?_
                  refine v_iadd dX7_aheadOf_132 (nx := 133) rfl ?_
                  refine v_istore dX7_aheadOf_133 (nx := 135) rfl rfl (by decide) ?_
                  refine v_iinc 5 dX7_aheadOf_135 (nx := 138) rfl rfl rfl (by decide) ?_
                  refine v_goto dX7_aheadOf_138 (tgt := 6) (by decide) ?_
                  exact V.lpick [0, 1, 2, 3, 4, 5] rfl (ih _ _ ⟨by omega, by omega⟩ (by omega) (by first | first | exact cn_t hc hx.1 (decide_eq_true (by omega)) | exact cn_f hc hx.1 (decide_eq_false (by omega)) | exact cn_n hc hx.1 (decide_eq_false (by omega)) | (exfalso; omega)))
                · refine v_iload 7 dX7_aheadOf_122 (nx := 124) rfl rfl ?_
                  refine v_if_eq dX7_aheadOf_124 (tgt := 131) (by decide) (nx := 127) rfl (by first | assumption | exact hR _ | exact ⟨by omega, by omega⟩) (fun c124 => ?_) (fun c124 => ?_)
                  · refine v_iconst dX7_aheadOf_131 (nx := 132) rfl ?_
                    refine v_iadd dX7_aheadOf_132 (nx := 133) rfl ?_
                    refine v_istore dX7_aheadOf_133 (nx := 135) rfl rfl (by decide) ?_
                    refine v_iinc 5 dX7_aheadOf_135 (nx := 138) rfl rfl rfl (by decide) ?_
                    refine v_goto dX7_aheadOf_138 (tgt := 6) (by decide) ?_
                    exact V.lpick [0, 1, 2, 3, 4, 5] rfl (ih _ _ ⟨by omega, by omega⟩ (by omega) (by first | first | exact cn_t hc hx.1 (decide_eq_true (by omega)) | exact cn_f hc hx.1 (decide_eq_false (by omega)) | exact cn_n hc hx.1 (decide_eq_false (by omega)) | (exfalso; omega)))
                  · refine v_iconst dX7_aheadOf_127 (nx := 128) rfl ?_
                    refine v_goto dX7_aheadOf_128 (tgt := 132) (by decide) ?_
                    refine v_iadd dX7_aheadOf_132 (nx := 133) rfl ?_
                    refine v_istore dX7_aheadOf_133 (nx := 135) rfl rfl (by decide) ?_
                    refine v_iinc 5 dX7_aheadOf_135 (nx := 138) rfl rfl rfl (by decide) ?_
                    refine v_goto dX7_aheadOf_138 (tgt := 6) (by decide) ?_
                    exact V.lpick [0, 1, 2, 3, 4, 5] rfl (ih _ _ ⟨by omega, by omega⟩ (by omega) (by first | first | exact cn_t hc hx.1 (decide_eq_true (by omega)) | exact cn_f hc hx.1 (decide_eq_false (by omega)) | exact cn_n hc hx.1 (decide_eq_false (by omega)) | (exfalso; omega)))

set_option maxRecDepth 100000 in
theorem c_X7_aheadOf {g : GG} {kp : Bool} {σ : SS} {N K G F : Int → Int} {k f : Int} (hR : ∀ j, inR (N j)) (b w p : Int) (hw : inR w) (hp : inR p) (b3 : 0 ≤ N 3 ∧ N 3 ≤ 60) (hb : 0 ≤ b ∧ b < 60) : XC g kp 0 mX7_aheadOf [rf g (ad 14 0 0), vi b, vi w, vi p] (mkS σ N K G F k f) (some (vi (aheadN N b w p))) (mkS σ N K G F k f) := by
  refine TC.of (by decide) (Nat.le_of_ble_eq_true rfl) rfl ?_
  refine v_iconst dX7_aheadOf_0 (nx := 1) rfl ?_
  refine v_istore dX7_aheadOf_1 (nx := 3) rfl rfl (by decide) ?_
  refine v_iconst dX7_aheadOf_3 (nx := 4) rfl ?_
  refine v_istore dX7_aheadOf_4 (nx := 6) rfl rfl (by decide) ?_
  exact l_X7_aheadOf hR b w p hw hp b3 hb (N 3 + 1).toNat 0 0 ⟨by omega, by omega⟩ (by omega) cntI_0.symm

set_option maxRecDepth 100000 in
theorem l_X7_flown {g : GG} {kp : Bool} {σ : SS} {N K G F : Int → Int} {k f : Int} (hR : ∀ j, inR (N j)) (fl w : Int) (b3 : 0 ≤ N 3 ∧ N 3 ≤ 60) (hfl : 0 ≤ fl ∧ fl < N 2) (hf2 : N 2 ≤ 8) (hw : 3 ≤ w ∧ w ≤ 6) : ∀ (m : Nat) (x c : Int), (0 ≤ x ∧ x ≤ N 3) → (N 3 - x < m) → (c = cntI (fun y => decide (N (364 + y) = fl ∧ (w = 6 ∨ N (484 + y) = 5 + w - 3))) x) → V g (rmD 2 0 0) mX7_flown (ZT g kp (fun r τ => r = (some (vi (s_flown N fl w).1)) ∧ τ = (mkS σ (s_flown N fl w).2.1 K G F k (f + (s_flown N fl w).2.2)))) E0 66 [(0, rf g (ad 14 0 0)), (1, vi fl), (2, vi w), (3, vi c), (4, vi x)] [] (vw g kp (mkS σ N K G F k f)) (sz kp) 0 0 := by
  intro m
  induction m with
  | zero => intro x c hx hm hc; exfalso; omega
  | succ m ih =>
    intro x c hx hm hc
    have hcb := cntI_b (P := (fun y => decide (N (364 + y) = fl ∧ (w = 6 ∨ N (484 + y) = 5 + w - 3)))) hx.1
    rw [← hc] at hcb
    refine v_iload 4 dX7_flown_66 (nx := 68) rfl rfl ?_
    refine v_aload_n 0 dX7_flown_68 (nx := 69) rfl rfl ?_
    refine m_gA 10 (p := 0) dX7_flown_69 (nx := 72) rfl (by decide) fl_X7_9 rfl ?_
    refine v_iconst dX7_flown_72 (nx := 73) rfl ?_
    refine m_ald10 dX7_flown_73 (nx := 74) rfl ⟨by omega, by omega⟩ ?_
    refine v_icmp_ge dX7_flown_74 (tgt := 143) (by decide) (nx := 77) rfl (by first | assumption | exact hR _ | exact ⟨by omega, by omega⟩) (by first | assumption | exact hR _ | exact ⟨by omega, by omega⟩) (fun c74 => ?_) (fun c74 => ?_)
    · refine v_iload_n 3 dX7_flown_143 (nx := 144) rfl rfl ?_
      exact t_iret dX7_flown_144 rfl (lf0 (by unfold s_flown; (repeat (first | rewrite [if_pos (by omega)] | rewrite [if_neg (by omega)])); rw [hc, show x = N 3 by omega]))
    · refine v_iload_n 2 dX7_flown_77 (nx := 78) rfl rfl ?_
      refine v_bipush dX7_flown_78 (nx := 80) rfl rfl ?_
      refine v_icmp_eq dX7_flown_80 (tgt := 102) (by decide) (nx := 83) rfl (by first | assumption | exact hR _ | exact ⟨by omega, by omega⟩) (by first | assumption | exact hR _ | exact ⟨by omega, by omega⟩) (fun c80 => ?_) (fun c80 => ?_)
      · refine v_iconst dX7_flown_102 (nx := 103) rfl ?_
        refine v_goto dX7_flown_103 (tgt := 107) (by decide) ?_
        refine v_istore dX7_flown_107 (nx := 109) rfl rfl (by decide) ?_
        refine v_iload_n 3 dX7_flown_109 (nx := 110) rfl rfl ?_
        refine v_aload_n 0 dX7_flown_110 (nx := 111) rfl rfl ?_
        refine m_gA 10 (p := 0) dX7_flown_111 (nx := 114) rfl (by decide) fl_X7_9 rfl ?_
        refine v_sipush dX7_flown_114 (nx := 117) rfl rfl ?_
        refine v_iload 4 dX7_flown_117 (nx := 119) rfl rfl ?_
        refine v_iadd dX7_flown_119 (nx := 120) rfl ?_
        refine m_ald10 dX7_flown_120 (nx := 121) rfl ⟨by omega, by omega⟩ ?_
        refine v_iload_n 1 dX7_flown_121 (nx := 122) rfl rfl ?_
        refine v_icmp_ne dX7_flown_122 (tgt := 134) (by decide) (nx := 125) rfl (by first | assumption | exact hR _ | exact ⟨by omega, by omega⟩) (by first | assumption | exact hR _ | exact ⟨by omega, by omega⟩) (fun c122 => ?_) (fun c122 => ?_)
        · refine v_iconst dX7_flown_134 (nx := 135) rfl ?_
          refine v_iadd dX7_flown_135 (nx := 136) rfl ?_
          refine v_istore_n dX7_flown_136 (nx := 137) rfl rfl (by decide) ?_
          refine v_iinc 4 dX7_flown_137 (nx := 140) rfl rfl rfl (by decide) ?_
          refine v_goto dX7_flown_140 (tgt := 66) (by decide) ?_
          exact V.lpick [0, 1, 2, 3, 4] rfl (ih _ _ ⟨by omega, by omega⟩ (by omega) (by first | first | exact cn_t hc hx.1 (decide_eq_true (by omega)) | exact cn_f hc hx.1 (decide_eq_false (by omega)) | exact cn_n hc hx.1 (decide_eq_false (by omega)) | (exfalso; omega)))
        · refine v_iload 5 dX7_flown_125 (nx := 127) rfl rfl ?_
          refine v_if_eq dX7_flown_127 (tgt := 134) (by decide) (nx := 130) rfl (by first | assumption | exact hR _ | exact ⟨by omega, by omega⟩) (fun c127 => ?_) (fun c127 => ?_)
          · refine v_iconst dX7_flown_134 (nx := 135) rfl ?_
            refine v_iadd dX7_flown_135 (nx := 136) rfl ?_
            refine v_istore_n dX7_flown_136 (nx := 137) rfl rfl (by decide) ?_
            refine v_iinc 4 dX7_flown_137 (nx := 140) rfl rfl rfl (by decide) ?_
            refine v_goto dX7_flown_140 (tgt := 66) (by decide) ?_
            exact V.lpick [0, 1, 2, 3, 4] rfl (ih _ _ ⟨by omega, by omega⟩ (by omega) (by first | first | exact cn_t hc hx.1 (decide_eq_true (by omega)) | exact cn_f hc hx.1 (decide_eq_false (by omega)) | exact cn_n hc hx.1 (decide_eq_false (by omega)) | (exfalso; omega)))
          · refine v_iconst dX7_flown_130 (nx := 131) rfl ?_
            refine v_goto dX7_flown_131 (tgt := 135) (by decide) ?_
            refine v_iadd dX7_flown_135 (nx := 136) rfl ?_
            refine v_istore_n dX7_flown_136 (nx := 137) rfl rfl (by decide) ?_
            refine v_iinc 4 dX7_flown_137 (nx := 140) rfl rfl rfl (by decide) ?_
            refine v_goto dX7_flown_140 (tgt := 66) (by decide) ?_
            exact V.lpick [0, 1, 2, 3, 4] rfl (ih _ _ ⟨by omega, by omega⟩ (by omega) (by first | first | exact cn_t hc hx.1 (decide_eq_true (by omega)) | exact cn_f hc hx.1 (decide_eq_false (by omega)) | exact cn_n hc hx.1 (decide_eq_false (by omega)) | (exfalso; omega)))
      · refine v_aload_n 0 dX7_flown_83 (nx := 84) rfl rfl ?_
        refine m_gA 10 (p := 0) dX7_flown_84 (nx := 87) rfl (by decide) fl_X7_9 rfl ?_
        refine v_sipush dX7_flown_87 (nx := 90) rfl rfl ?_
        refine v_iload 4 dX7_flown_90 (nx := 92) rfl rfl ?_
        refine v_iadd dX7_flown_92 (nx := 93) rfl ?_
        refine m_ald10 dX7_flown_93 (nx := 94) rfl ⟨by omega, by omega⟩ ?_
        refine v_iconst dX7_flown_94 (nx := 95) rfl ?_
        refine v_iload_n 2 dX7_flown_95 (nx := 96) rfl rfl ?_
        refine v_iadd dX7_flown_96 (nx := 97) rfl ?_
        refine v_iconst dX7_flown_97 (nx := 98) rfl ?_
        refine v_isub dX7_flown_98 (nx := 99) rfl ?_
        refine v_icmp_ne dX7_flown_99 (tgt := 106) (by decide) (nx := 102) rfl (by first | assumption | exact hR _ | exact ⟨by omega, by omega⟩) (by first | assumption | exact hR _ | exact ⟨by omega, by omega⟩) (fun c99 => ?_) (fun c99 => ?_)
        · refine v_iconst dX7_flown_106 (nx := 107) rfl ?_
          refine v_istore dX7_flown_107 (nx := 109) rfl rfl (by decide) ?_
          refine v_iload_n 3 dX7_flown_109 (nx := 110) rfl rfl ?_
          refine v_aload_n 0 dX7_flown_110 (nx := 111) rfl rfl ?_
          refine m_gA 10 (p := 0) dX7_flown_111 (nx := 114) rfl (by decide) fl_X7_9 rfl ?_
          refine v_sipush dX7_flown_114 (nx := 117) rfl rfl ?_
          refine v_iload 4 dX7_flown_117 (nx := 119) rfl rfl ?_
          refine v_iadd dX7_flown_119 (nx := 120) rfl ?_
          refine m_ald10 dX7_flown_120 (nx := 121) rfl ⟨by omega, by omega⟩ ?_
          refine v_iload_n 1 dX7_flown_121 (nx := 122) rfl rfl ?_
          refine v_icmp_ne dX7_flown_122 (tgt := 134) (by decide) (nx := 125) rfl (by first | assumption | exact hR _ | exact ⟨by omega, by omega⟩) (by first | assumption | exact hR _ | exact ⟨by omega, by omega⟩) (fun c122 => ?_) (fun c122 => ?_)
          · refine v_iconst dX7_flown_134 (nx := 135) rfl ?_
            refine v_iadd dX7_flown_135 (nx := 136) rfl ?_
            refine v_istore_n dX7_flown_136 (nx := 137) rfl rfl (by decide) ?_
            refine v_iinc 4 dX7_flown_137 (nx := 140) rfl rfl rfl (by decide) ?_
            refine v_goto dX7_flown_140 (tgt := 66) (by decide) ?_
            exact V.lpick [0, 1, 2, 3, 4] rfl (ih _ _ ⟨by omega, by omega⟩ (by omega) (by first | first | exact cn_t hc hx.1 (decide_eq_true (by omega)) | exact cn_f hc hx.1 (decide_eq_false (by omega)) | exact cn_n hc hx.1 (decide_eq_false (by omega)) | (exfalso; omega)))
          · refine v_iload 5 dX7_flown_125 (nx := 127) rfl rfl ?_
            refine v_if_eq dX7_flown_127 (tgt := 134) (by decide) (nx := 130) rfl (by first | assumption | exact hR _ | exact ⟨by omega, by omega⟩) (fun c127 => ?_) (fun c127 => ?_)
            · refine v_iconst dX7_flown_134 (nx := 135) rfl ?_
              refine v_iadd dX7_flown_135 (nx := 136) rfl ?_
              refine v_istore_n dX7_flown_136 (nx := 137) rfl rfl (by decide) ?_
              refine v_iinc 4 dX7_flown_137 (nx := 140) rfl rfl rfl (by decide) ?_
              refine v_goto dX7_flown_140 (tgt := 66) (by decide) ?_
              exact V.lpick [0, 1, 2, 3, 4] rfl (ih _ _ ⟨by omega, by omega⟩ (by omega) (by first | first | exact cn_t hc hx.1 (decide_eq_true (by omega)) | exact cn_f hc hx.1 (decide_eq_false (by omega)) | exact cn_n hc hx.1 (decide_eq_false (by omega)) | (exfalso; omega)))
            · refine v_iconst dX7_flown_130 (nx := 131) rfl ?_
              refine v_goto dX7_flown_131 (tgt := 135) (by decide) ?_
              refine v_iadd dX7_flown_135 (nx := 136) rfl ?_
              refine v_istore_n dX7_flown_136 (nx := 137) rfl rfl (by decide) ?_
              refine v_iinc 4 dX7_flown_137 (nx := 140) rfl rfl rfl (by decide) ?_
              refine v_goto dX7_flown_140 (tgt := 66) (by decide) ?_
              exact V.lpick [0, 1, 2, 3, 4] rfl (ih _ _ ⟨by omega, by omega⟩ (by omega) (by first | first | exact cn_t hc hx.1 (decide_eq_true (by omega)) | exact cn_f hc hx.1 (decide_eq_false (by omega)) | exact cn_n hc hx.1 (decide_eq_false (by omega)) | (exfalso; omega)))
        · refine v_iconst dX7_flown_102 (nx := 103) rfl ?_
          refine v_goto dX7_flown_103 (tgt := 107) (by decide) ?_
          refine v_istore dX7_flown_107 (nx := 109) rfl rfl (by decide) ?_
          refine v_iload_n 3 dX7_flown_109 (nx := 110) rfl rfl ?_
          refine v_aload_n 0 dX7_flown_110 (nx := 111) rfl rfl ?_
          refine m_gA 10 (p := 0) dX7_flown_111 (nx := 114) rfl (by decide) fl_X7_9 rfl ?_
          refine v_sipush dX7_flown_114 (nx := 117) rfl rfl ?_
          refine v_iload 4 dX7_flown_117 (nx := 119) rfl rfl ?_
          refine v_iadd dX7_flown_119 (nx := 120) rfl ?_
          refine m_ald10 dX7_flown_120 (nx := 121) rfl ⟨by omega, by omega⟩ ?_
          refine v_iload_n 1 dX7_flown_121 (nx := 122) rfl rfl ?_
          refine v_icmp_ne dX7_flown_122 (tgt := 134) (by decide) (nx := 125) rfl (by first | assumption | exact hR _ | exact ⟨by omega, by omega⟩) (by first | assumption | exact hR _ | exact ⟨by omega, by omega⟩) (fun c122 => ?_) (fun c122 => ?_)
          · refine v_iconst dX7_flown_134 (nx := 135) rfl ?_
            refine v_iadd dX7_flown_135 (nx := 136) rfl ?_
            refine v_istore_n dX7_flown_136 (nx := 137) rfl rfl (by decide) ?_
            refine v_iinc 4 dX7_flown_137 (nx := 140) rfl rfl rfl (by decide) ?_
            refine v_goto dX7_flown_140 (tgt := 66) (by decide) ?_
            exact V.lpick [0, 1, 2, 3, 4] rfl (ih _ _ ⟨by omega, by omega⟩ (by omega) (by first | first | exact cn_t hc hx.1 (decide_eq_true (by omega)) | exact cn_f hc hx.1 (decide_eq_false (by omega)) | exact cn_n hc hx.1 (decide_eq_false (by omega)) | (exfalso; omega)))
          · refine v_iload 5 dX7_flown_125 (nx := 127) rfl rfl ?_
            refine v_if_eq dX7_flown_127 (tgt := 134) (by decide) (nx := 130) rfl (by first | assumption | exact hR _ | exact ⟨by omega, by omega⟩) (fun c127 => ?_) (fun c127 => ?_)
            · refine v_iconst dX7_flown_134 (nx := 135) rfl ?_
              refine v_iadd dX7_flown_135 (nx := 136) rfl ?_
              refine v_istore_n dX7_flown_136 (nx := 137) rfl rfl (by decide) ?_
              refine v_iinc 4 dX7_flown_137 (nx := 140) rfl rfl rfl (by decide) ?_
              refine v_goto dX7_flown_140 (tgt := 66) (by decide) ?_
              exact V.lpick [0, 1, 2, 3, 4] rfl (ih _ _ ⟨by omega, by omega⟩ (by omega) (by first | first | exact cn_t hc hx.1 (decide_eq_true (by omega)) | exact cn_f hc hx.1 (decide_eq_false (by omega)) | exact cn_n hc hx.1 (decide_eq_false (by omega)) | (exfalso; omega)))
            · refine v_iconst dX7_flown_130 (nx := 131) rfl ?_
              refine v_goto dX7_flown_131 (tgt := 135) (by decide) ?_
              refine v_iadd dX7_flown_135 (nx := 136) rfl ?_
              refine v_istore_n dX7_flown_136 (nx := 137) rfl rfl (by decide) ?_
              refine v_iinc 4 dX7_flown_137 (nx := 140) rfl rfl rfl (by decide) ?_
              refine v_goto dX7_flown_140 (tgt := 66) (by decide) ?_
              exact V.lpick [0, 1, 2, 3, 4] rfl (ih _ _ ⟨by omega, by omega⟩ (by omega) (by first | first | exact cn_t hc hx.1 (decide_eq_true (by omega)) | exact cn_f hc hx.1 (decide_eq_false (by omega)) | exact cn_n hc hx.1 (decide_eq_false (by omega)) | (exfalso; omega)))

set_option maxRecDepth 100000 in
theorem c_X7_flown {g : GG} {kp : Bool} {σ : SS} {N K G F : Int → Int} {k f : Int} (hR : ∀ j, inR (N j)) (fl : Int) (w : Int) (hfl : inR fl) (hw : inR w) (b0 : 0 ≤ N 0 ∧ N 0 ≤ 12) (b1 : 0 ≤ N 1 ∧ N 1 ≤ 16) (b2 : 0 ≤ N 2 ∧ N 2 ≤ 8) (b3 : 0 ≤ N 3 ∧ N 3 ≤ 60) : XC g kp 2 mX7_flown [rf g (ad 14 0 0), vi fl, vi w] (mkS σ N K G F k f) (some (vi (s_flown N fl w).1)) (mkS σ (s_flown N fl w).2.1 K G F k (f + (s_flown N fl w).2.2)) := by
  refine TC.of (by decide) (Nat.le_of_ble_eq_true rfl) rfl ?_
  refine v_aload_n 0 dX7_flown_0 (nx := 1) rfl rfl ?_
  refine v_iload_n 1 dX7_flown_1 (nx := 2) rfl rfl ?_
  refine t_callVi (a := 14) (c_X7_isFlight _ (by assumption) (by omega)) dX7_flown_2 (nx := 5) rfl kX7_isFlight ml_X7_49 (by decide) (ok_m 14 rfl) rfl rfl rfl rfl (Nat.le_of_ble_eq_true rfl) ⟨by decide, by decide⟩ ⟨by decide, by decide⟩ ?_
  refine v_ifB_eq dX7_flown_5 (tgt := 18) (by decide) (nx := 8) rfl (fun c5 => ?_) (fun c5 => ?_)
  · refine v_aload_n 0 dX7_flown_18 (nx := 19) rfl rfl ?_
    refine v_iconst dX7_flown_19 (nx := 20) rfl ?_
    refine t_callVi (a := 14) (c_X7_finding _) dX7_flown_20 (nx := 23) rfl kX7_finding ml_X7_31 (by decide) (ok_m 14 rfl) rfl rfl rfl rfl (Nat.le_of_ble_eq_true rfl) ⟨by decide, by decide⟩ ⟨by decide, by decide⟩ ?_
    exact t_iret dX7_flown_23 rfl (by first | exact lf1 (by unfold s_flown; (repeat (first | rewrite [if_pos (by omega)] | rewrite [if_neg (by omega)])); first | rfl | (refine Prod.ext rfl (Prod.ext (congrArg (uI _ _) ?_) rfl); unfold uI; (repeat rw [if_neg (by omega)]))) | exact lf0 (by unfold s_flown; (repeat (first | rewrite [if_pos (by omega)] | rewrite [if_neg (by omega)])); first | rfl | (refine Prod.ext rfl (Prod.ext (congrArg (uI _ _) ?_) rfl); unfold uI; (repeat rw [if_neg (by omega)]))) | (exfalso; omega))
  · refine v_iload_n 2 dX7_flown_8 (nx := 9) rfl rfl ?_
    refine v_iconst dX7_flown_9 (nx := 10) rfl ?_
    refine v_bipush dX7_flown_10 (nx := 12) rfl rfl ?_
    refine t_callSi (c_X7_in _ _ _ (by first | assumption | exact hR _ | exact ⟨by omega, by omega⟩) (by first | assumption | exact hR _ | exact ⟨by omega, by omega⟩) (by first | assumption | exact hR _ | exact ⟨by omega, by omega⟩)) dX7_flown_12 (nx := 15) rfl kX7_in ml_X7_27 rfl rfl (Nat.le_of_ble_eq_true rfl) ⟨by decide, by decide⟩ ⟨by decide, by decide⟩ ?_
    refine v_ifB_ne dX7_flown_15 (tgt := 24) (by decide) (nx := 18) rfl (fun c15 => ?_) (fun c15 => ?_)
    · refine v_iload_n 2 dX7_flown_24 (nx := 25) rfl rfl ?_
      refine v_iconst dX7_flown_25 (nx := 26) rfl ?_
      refine v_icmp_ge dX7_flown_26 (tgt := 61) (by decide) (nx := 29) rfl (by first | assumption | exact hR _ | exact ⟨by omega, by omega⟩) (by first | assumption | exact hR _ | exact ⟨by omega, by omega⟩) (fun c26 => ?_) (fun c26 => ?_)
      · refine v_iconst dX7_flown_61 (nx := 62) rfl ?_
        refine v_istore_n dX7_flown_62 (nx := 63) rfl rfl (by decide) ?_
        refine v_iconst dX7_flown_63 (nx := 64) rfl ?_
        refine v_istore dX7_flown_64 (nx := 66) rfl rfl (by decide) ?_
        exact l_X7_flown hR fl w b3 (by omega) (by omega) (by omega) (N 3 + 1).toNat 0 0 ⟨by omega, by omega⟩ (by omega) cntI_0.symm
      · refine v_aload_n 0 dX7_flown_29 (nx := 30) rfl rfl ?_
        refine m_gA 10 (p := 0) dX7_flown_30 (nx := 33) rfl (by decide) fl_X7_9 rfl ?_
        refine v_iload_n 2 dX7_flown_33 (nx := 34) rfl rfl ?_
        refine v_if_ne dX7_flown_34 (tgt := 43) (by decide) (nx := 37) rfl (by first | assumption | exact hR _ | exact ⟨by omega, by omega⟩) (fun c34 => ?_) (fun c34 => ?_)
        · refine v_iload_n 2 dX7_flown_43 (nx := 44) rfl rfl ?_
          refine v_iconst dX7_flown_44 (nx := 45) rfl ?_
          refine v_icmp_ne dX7_flown_45 (tgt := 54) (by decide) (nx := 48) rfl (by first | assumption | exact hR _ | exact ⟨by omega, by omega⟩) (by first | assumption | exact hR _ | exact ⟨by omega, by omega⟩) (fun c45 => ?_) (fun c45 => ?_)
          · refine v_sipush dX7_flown_54 (nx := 57) rfl rfl ?_
            refine v_iload_n 1 dX7_flown_57 (nx := 58) rfl rfl ?_
            refine v_iadd dX7_flown_58 (nx := 59) rfl ?_
            refine m_ald10 dX7_flown_59 (nx := 60) rfl ⟨by omega, by omega⟩ ?_
            exact t_iret dX7_flown_60 rfl (by first | exact lf1 (by unfold s_flown; (repeat (first | rewrite [if_pos (by omega)] | rewrite [if_neg (by omega)])); first | rfl | (refine Prod.ext rfl (Prod.ext (congrArg (uI _ _) ?_) rfl); unfold uI; (repeat rw [if_neg (by omega)]))) | exact lf0 (by unfold s_flown; (repeat (first | rewrite [if_pos (by omega)] | rewrite [if_neg (by omega)])); first | rfl | (refine Prod.ext rfl (Prod.ext (congrArg (uI _ _) ?_) rfl); unfold uI; (repeat rw [if_neg (by omega)]))) | (exfalso; omega))
          · refine v_sipush dX7_flown_48 (nx := 51) rfl rfl ?_
            refine v_goto dX7_flown_51 (tgt := 57) (by decide) ?_
            refine v_iload_n 1 dX7_flown_57 (nx := 58) rfl rfl ?_
            refine v_iadd dX7_flown_58 (nx := 59) rfl ?_
            refine m_ald10 dX7_flown_59 (nx := 60) rfl ⟨by omega, by omega⟩ ?_
            exact t_iret dX7_flown_60 rfl (by first | exact lf1 (by unfold s_flown; (repeat (first | rewrite [if_pos (by omega)] | rewrite [if_neg (by omega)])); first | rfl | (refine Prod.ext rfl (Prod.ext (congrArg (uI _ _) ?_) rfl); unfold uI; (repeat rw [if_neg (by omega)]))) | exact lf0 (by unfold s_flown; (repeat (first | rewrite [if_pos (by omega)] | rewrite [if_neg (by omega)])); first | rfl | (refine Prod.ext rfl (Prod.ext (congrArg (uI _ _) ?_) rfl); unfold uI; (repeat rw [if_neg (by omega)]))) | (exfalso; omega))
        · refine v_sipush dX7_flown_37 (nx := 40) rfl rfl ?_
          refine v_goto dX7_flown_40 (tgt := 57) (by decide) ?_
          refine v_iload_n 1 dX7_flown_57 (nx := 58) rfl rfl ?_
          refine v_iadd dX7_flown_58 (nx := 59) rfl ?_
          refine m_ald10 dX7_flown_59 (nx := 60) rfl ⟨by omega, by omega⟩ ?_
          exact t_iret dX7_flown_60 rfl (by first | exact lf1 (by unfold s_flown; (repeat (first | rewrite [if_pos (by omega)] | rewrite [if_neg (by omega)])); first | rfl | (refine Prod.ext rfl (Prod.ext (congrArg (uI _ _) ?_) rfl); unfold uI; (repeat rw [if_neg (by omega)]))) | exact lf0 (by unfold s_flown; (repeat (first | rewrite [if_pos (by omega)] | rewrite [if_neg (by omega)])); first | rfl | (refine Prod.ext rfl (Prod.ext (congrArg (uI _ _) ?_) rfl); unfold uI; (repeat rw [if_neg (by omega)]))) | (exfalso; omega))
    · refine v_aload_n 0 dX7_flown_18 (nx := 19) rfl rfl ?_
      refine v_iconst dX7_flown_19 (nx := 20) rfl ?_
      refine t_callVi (a := 14) (c_X7_finding _) dX7_flown_20 (nx := 23) rfl kX7_finding ml_X7_31 (by decide) (ok_m 14 rfl) rfl rfl rfl rfl (Nat.le_of_ble_eq_true rfl) ⟨by decide, by decide⟩ ⟨by decide, by decide⟩ ?_
      exact t_iret dX7_flown_23 rfl (by first | exact lf1 (by unfold s_flown; (repeat (first | rewrite [if_pos (by omega)] | rewrite [if_neg (by omega)])); first | rfl | (refine Prod.ext rfl (Prod.ext (congrArg (uI _ _) ?_) rfl); unfold uI; (repeat rw [if_neg (by omega)]))) | exact lf0 (by unfold s_flown; (repeat (first | rewrite [if_pos (by omega)] | rewrite [if_neg (by omega)])); first | rfl | (refine Prod.ext rfl (Prod.ext (congrArg (uI _ _) ?_) rfl); unfold uI; (repeat rw [if_neg (by omega)]))) | (exfalso; omega))

set_option maxRecDepth 100000 in
theorem l_X7_count2 {g : GG} {kp : Bool} {σ : SS} {N K G F : Int → Int} {k f : Int} (hR : ∀ j, inR (N j)) (w : Int) (b1 : 0 ≤ N 1 ∧ N 1 ≤ 16) (b3 : 0 ≤ N 3 ∧ N 3 ≤ 60) (hw : w = 12) (hf1 : ∀ b, 0 ≤ b → b < N 1 → N (116 + b) = 0 ∨ N (116 + b) = 1) : ∀ (m : Nat) (x c : Int), (0 ≤ x ∧ x ≤ N 1) → (N 1 - x < m) → (c = cntI (fun y => decide (N (116 + y) = 1)) x) → V g (rmD 2 0 0) mX7_count (ZT g kp (fun r τ => r = (some (vi (s_count N f w).1)) ∧ τ = (mkS σ (s_count N f w).2.1 K G F k (f + (s_count N f w).2.2)))) E0 130 [(0, rf g (ad 14 0 0)), (1, vi w), (2, vi (cntI (fun y => decide (N (484 + y) = w)) (N 3) + c)), (3, vi x)] [] (vw g kp (mkS σ N K G F k f)) (sz kp) 0 0 := by
  intro m
  induction m with
  | zero => intro x c hx hm hc; exfalso; omega
  | succ m ih =>
    intro x c hx hm hc
    have hcb := cntI_b (P := (fun y => decide (N (116 + y) = 1))) hx.1
    rw [← hc] at hcb
    have hcb2 := cntI_b (P := (fun y => decide (N (484 + y) = w))) b3.1
    refine v_iload_n 3 dX7_count_130 (nx := 131) rfl rfl ?_
    refine v_aload_n 0 dX7_count_131 (nx := 132) rfl rfl ?_
    refine m_gA 10 (p := 0) dX7_count_132 (nx := 135) rfl (by decide) fl_X7_9 rfl ?_
    refine v_iconst dX7_count_135 (nx := 136) rfl ?_
    refine m_ald10 dX7_count_136 (nx := 137) rfl ⟨by omega, by omega⟩ ?_
    refine v_icmp_ge dX7_count_137 (tgt := 158) (by decide) (nx := 140) rfl (by first | assumption | exact hR _ | exact ⟨by omega, by omega⟩) (by first | assumption | exact hR _ | exact ⟨by omega, by omega⟩) (fun c137 => ?_) (fun c137 => ?_)
    · refine v_iload_n 2 dX7_count_158 (nx := 159) rfl rfl ?_
      exact t_iret dX7_count_159 rfl (lf0 (by unfold s_count; (repeat (first | rewrite [if_pos (by omega)] | rewrite [if_neg (by omega)])); rw [hc, show x = N 1 by omega]))
    · have hfx := hf1 x (by omega) (by omega)
      refine v_iload_n 2 dX7_count_140 (nx := 141) rfl rfl ?_
      refine v_aload_n 0 dX7_count_141 (nx := 142) rfl rfl ?_
      refine m_gA 10 (p := 0) dX7_count_142 (nx := 145) rfl (by decide) fl_X7_9 rfl ?_
      refine v_bipush dX7_count_145 (nx := 147) rfl rfl ?_
      refine v_iload_n 3 dX7_count_147 (nx := 148) rfl rfl ?_
      refine v_iadd dX7_count_148 (nx := 149) rfl ?_
      refine m_ald10 dX7_count_149 (nx := 150) rfl ⟨by omega, by omega⟩ ?_
      refine v_iadd dX7_count_150 (nx := 151) rfl ?_
      refine v_istore_n dX7_count_151 (nx := 152) rfl rfl (by decide) ?_
      have hcx : c + N (116 + x) = cntI (fun y => decide (N (116 + y) = 1)) (x + 1) := by
        rcases hfx with h | h
        · rw [h]; exact cn_f hc hx.1 (decide_eq_false (by omega))
        · rw [h]; exact cn_t hc hx.1 (decide_eq_true (by omega))
      rw [Int.add_assoc]
      refine v_iinc 3 dX7_count_152 (nx := 155) rfl rfl rfl (by decide) ?_
      refine v_goto dX7_count_155 (tgt := 130) (by decide) ?_
      exact ih _ _ ⟨by omega, by omega⟩ (by omega) hcx

set_option maxRecDepth 100000 in
theorem l_X7_count {g : GG} {kp : Bool} {σ : SS} {N K G F : Int → Int} {k f : Int} (hR : ∀ j, inR (N j)) (w : Int) (hw : 0 ≤ w ∧ w ≤ 14) (b1 : 0 ≤ N 1 ∧ N 1 ≤ 16) (b3 : 0 ≤ N 3 ∧ N 3 ≤ 60) (hf1 : ∀ b, 0 ≤ b → b < N 1 → N (116 + b) = 0 ∨ N (116 + b) = 1) : ∀ (m : Nat) (x c : Int), (0 ≤ x ∧ x ≤ N 3) → (N 3 - x < m) → (c = cntI (fun y => decide (N (484 + y) = w)) x) → V g (rmD 2 0 0) mX7_count (ZT g kp (fun r τ => r = (some (vi (s_count N f w).1)) ∧ τ = (mkS σ (s_count N f w).2.1 K G F k (f + (s_count N f w).2.2)))) E0 20 [(0, rf g (ad 14 0 0)), (1, vi w), (2, vi c), (3, vi x)] [] (vw g kp (mkS σ N K G F k f)) (sz kp) 0 0 := by
  intro m
  induction m with
  | zero => intro x c hx hm hc; exfalso; omega
  | succ m ih =>
    intro x c hx hm hc
    have hcb := cntI_b (P := (fun y => decide (N (484 + y) = w))) hx.1
    rw [← hc] at hcb
    refine v_iload_n 3 dX7_count_20 (nx := 21) rfl rfl ?_
    refine v_aload_n 0 dX7_count_21 (nx := 22) rfl rfl ?_
    refine m_gA 10 (p := 0) dX7_count_22 (nx := 25) rfl (by decide) fl_X7_9 rfl ?_
    refine v_iconst dX7_count_25 (nx := 26) rfl ?_
    refine m_ald10 dX7_count_26 (nx := 27) rfl ⟨by omega, by omega⟩ ?_
    refine v_icmp_ge dX7_count_27 (tgt := 58) (by decide) (nx := 30) rfl (by first | assumption | exact hR _ | exact ⟨by omega, by omega⟩) (by first | assumption | exact hR _ | exact ⟨by omega, by omega⟩) (fun c27 => ?_) (fun c27 => ?_)
    · refine v_iload_n 1 dX7_count_58 (nx := 59) rfl rfl ?_
      by_cases e59_8 : w = 8
      · refine v_tabIn dX7_count_59 (off := 41) (by first | assumption | exact hR _ | exact ⟨by omega, by omega⟩) (by omega) (by omega) (by rw [e59_8]; rfl) (tgt := 100) (by decide) ?_
        refine v_aload_n 0 dX7_count_100 (nx := 101) rfl rfl ?_
        refine m_gA 10 (p := 0) dX7_count_101 (nx := 104) rfl (by decide) fl_X7_9 rfl ?_
        refine v_iconst dX7_count_104 (nx := 105) rfl ?_
        refine m_ald10 dX7_count_105 (nx := 106) rfl ⟨by omega, by omega⟩ ?_
        exact t_iret dX7_count_106 rfl (lf0 (by unfold s_count; (repeat (first | rewrite [if_pos (by omega)] | rewrite [if_neg (by omega)])); first | rfl | rw [hc, show x = N 3 by omega]))
      by_cases e59_9 : w = 9
      · refine v_tabIn dX7_count_59 (off := 48) (by first | assumption | exact hR _ | exact ⟨by omega, by omega⟩) (by omega) (by omega) (by rw [e59_9]; rfl) (tgt := 107) (by decide) ?_
        refine v_aload_n 0 dX7_count_107 (nx := 108) rfl rfl ?_
        refine m_gA 10 (p := 0) dX7_count_108 (nx := 111) rfl (by decide) fl_X7_9 rfl ?_
        refine v_iconst dX7_count_111 (nx := 112) rfl ?_
        refine m_ald10 dX7_count_112 (nx := 113) rfl ⟨by omega, by omega⟩ ?_
        exact t_iret dX7_count_113 rfl (lf0 (by unfold s_count; (repeat (first | rewrite [if_pos (by omega)] | rewrite [if_neg (by omega)])); first | rfl | rw [hc, show x = N 3 by omega]))
      by_cases e59_10 : w = 10
      · refine v_tabIn dX7_count_59 (off := 55) (by first | assumption | exact hR _ | exact ⟨by omega, by omega⟩) (by omega) (by omega) (by rw [e59_10]; rfl) (tgt := 114) (by decide) ?_
        refine v_aload_n 0 dX7_count_114 (nx := 115) rfl rfl ?_
        refine m_gA 10 (p := 0) dX7_count_115 (nx := 118) rfl (by decide) fl_X7_9 rfl ?_
        refine v_iconst dX7_count_118 (nx := 119) rfl ?_
        refine m_ald10 dX7_count_119 (nx := 120) rfl ⟨by omega, by omega⟩ ?_
        exact t_iret dX7_count_120 rfl (lf0 (by unfold s_count; (repeat (first | rewrite [if_pos (by omega)] | rewrite [if_neg (by omega)])); first | rfl | rw [hc, show x = N 3 by omega]))
      by_cases e59_11 : w = 11
      · refine v_tabIn dX7_count_59 (off := 62) (by first | assumption | exact hR _ | exact ⟨by omega, by omega⟩) (by omega) (by omega) (by rw [e59_11]; rfl) (tgt := 121) (by decide) ?_
        refine v_aload_n 0 dX7_count_121 (nx := 122) rfl rfl ?_
        refine m_gA 10 (p := 0) dX7_count_122 (nx := 125) rfl (by decide) fl_X7_9 rfl ?_
        refine v_iconst dX7_count_125 (nx := 126) rfl ?_
        refine m_ald10 dX7_count_126 (nx := 127) rfl ⟨by omega, by omega⟩ ?_
        exact t_iret dX7_count_127 rfl (lf0 (by unfold s_count; (repeat (first | rewrite [if_pos (by omega)] | rewrite [if_neg (by omega)])); first | rfl | rw [hc, show x = N 3 by omega]))
      by_cases e59_12 : w = 12
      · refine v_tabIn dX7_count_59 (off := 69) (by first | assumption | exact hR _ | exact ⟨by omega, by omega⟩) (by omega) (by omega) (by rw [e59_12]; rfl) (tgt := 128) (by decide) ?_
        refine v_iconst dX7_count_128 (nx := 129) rfl ?_
        refine v_istore_n dX7_count_129 (nx := 130) rfl rfl (by decide) ?_
        exact (by rw [hc, show x = N 3 by omega, ← Int.add_zero (cntI (fun y => decide (N (484 + y) = w)) (N 3))]; exact l_X7_count2 hR w b1 b3 (by omega) hf1 (N 1 + 1).toNat 0 0 ⟨by omega, by omega⟩ (by omega) cntI_0.symm)
      by_cases e59_13 : w = 13
      · refine v_tabIn dX7_count_59 (off := 101) (by first | assumption | exact hR _ | exact ⟨by omega, by omega⟩) (by omega) (by omega) (by rw [e59_13]; rfl) (tgt := 160) (by decide) ?_
        refine v_aload_n 0 dX7_count_160 (nx := 161) rfl rfl ?_
        refine m_gA 10 (p := 0) dX7_count_161 (nx := 164) rfl (by decide) fl_X7_9 rfl ?_
        refine v_iconst dX7_count_164 (nx := 165) rfl ?_
        refine m_ald10 dX7_count_165 (nx := 166) rfl ⟨by omega, by omega⟩ ?_
        exact t_iret dX7_count_166 rfl (lf0 (by unfold s_count; (repeat (first | rewrite [if_pos (by omega)] | rewrite [if_neg (by omega)])); first | rfl | rw [hc, show x = N 3 by omega]))
      by_cases e59_14 : w = 14
      · refine v_tabIn dX7_count_59 (off := 108) (by first | assumption | exact hR _ | exact ⟨by omega, by omega⟩) (by omega) (by omega) (by rw [e59_14]; rfl) (tgt := 167) (by decide) ?_
        refine v_aload_n 0 dX7_count_167 (nx := 168) rfl rfl ?_
        refine m_gI (p := 3) dX7_count_168 (nx := 171) rfl (by decide) fl_X7_23 rfl ?_
        exact t_iret dX7_count_171 rfl (lf0 (by unfold s_count; (repeat (first | rewrite [if_pos (by omega)] | rewrite [if_neg (by omega)])); first | rfl | rw [hc, show x = N 3 by omega]))
      refine v_tabOut dX7_count_59 (by first | assumption | exact hR _ | exact ⟨by omega, by omega⟩) (by omega) (tgt := 172) (by decide) ?_
      refine v_iload_n 2 dX7_count_172 (nx := 173) rfl rfl ?_
      exact t_iret dX7_count_173 rfl (lf0 (by unfold s_count; (repeat (first | rewrite [if_pos (by omega)] | rewrite [if_neg (by omega)])); first | rfl | rw [hc, show x = N 3 by omega]))
    · refine v_iload_n 2 dX7_count_30 (nx := 31) rfl rfl ?_
      refine v_aload_n 0 dX7_count_31 (nx := 32) rfl rfl ?_
      refine m_gA 10 (p := 0) dX7_count_32 (nx := 35) rfl (by decide) fl_X7_9 rfl ?_
      refine v_sipush dX7_count_35 (nx := 38) rfl rfl ?_
      refine v_iload_n 3 dX7_count_38 (nx := 39) rfl rfl ?_
      refine v_iadd dX7_count_39 (nx := 40) rfl ?_
      refine m_ald10 dX7_count_40 (nx := 41) rfl ⟨by omega, by omega⟩ ?_
      refine v_iload_n 1 dX7_count_41 (nx := 42) rfl rfl ?_
      refine v_icmp_ne dX7_count_42 (tgt := 49) (by decide) (nx := 45) rfl (by first | assumption | exact hR _ | exact ⟨by omega, by omega⟩) (by first | assumption | exact hR _ | exact ⟨by omega, by omega⟩) (fun c42 => ?_) (fun c42 => ?_)
      · refine v_iconst dX7_count_49 (nx := 50) rfl ?_
        refine v_iadd dX7_count_50 (nx := 51) rfl ?_
        refine v_istore_n dX7_count_51 (nx := 52) rfl rfl (by decide) ?_
        refine v_iinc 3 dX7_count_52 (nx := 55) rfl rfl rfl (by decide) ?_
        refine v_goto dX7_count_55 (tgt := 20) (by decide) ?_
        exact ih _ _ ⟨by omega, by omega⟩ (by omega) (by first | exact cn_t hc hx.1 (decide_eq_true (by omega)) | exact cn_f hc hx.1 (decide_eq_false (by omega)) | exact cn_n hc hx.1 (decide_eq_false (by omega)))
      · refine v_iconst dX7_count_45 (nx := 46) rfl ?_
        refine v_goto dX7_count_46 (tgt := 50) (by decide) ?_
        refine v_iadd dX7_count_50 (nx := 51) rfl ?_
        refine v_istore_n dX7_count_51 (nx := 52) rfl rfl (by decide) ?_
        refine v_iinc 3 dX7_count_52 (nx := 55) rfl rfl rfl (by decide) ?_
        refine v_goto dX7_count_55 (tgt := 20) (by decide) ?_
        exact ih _ _ ⟨by omega, by omega⟩ (by omega) (by first | exact cn_t hc hx.1 (decide_eq_true (by omega)) | exact cn_f hc hx.1 (decide_eq_false (by omega)) | exact cn_n hc hx.1 (decide_eq_false (by omega)))

set_option maxRecDepth 100000 in
theorem c_X7_count {g : GG} {kp : Bool} {σ : SS} {N K G F : Int → Int} {k f : Int} (hR : ∀ j, inR (N j)) (w : Int) (hw : inR w) (b1 : 0 ≤ N 1 ∧ N 1 ≤ 16) (b3 : 0 ≤ N 3 ∧ N 3 ≤ 60) (hf1 : ∀ b, 0 ≤ b → b < N 1 → N (116 + b) = 0 ∨ N (116 + b) = 1) : XC g kp 2 mX7_count [rf g (ad 14 0 0), vi w] (mkS σ N K G F k f) (some (vi (s_count N f w).1)) (mkS σ (s_count N f w).2.1 K G F k (f + (s_count N f w).2.2)) := by
  refine TC.of (by decide) (Nat.le_of_ble_eq_true rfl) rfl ?_
  refine v_iload_n 1 dX7_count_0 (nx := 1) rfl rfl ?_
  refine v_iconst dX7_count_1 (nx := 2) rfl ?_
  refine v_bipush dX7_count_2 (nx := 4) rfl rfl ?_
  refine t_callSi (c_X7_in _ _ _ (by first | assumption | exact hR _ | exact ⟨by omega, by omega⟩) (by first | assumption | exact hR _ | exact ⟨by omega, by omega⟩) (by first | assumption | exact hR _ | exact ⟨by omega, by omega⟩)) dX7_count_4 (nx := 7) rfl kX7_in ml_X7_27 rfl rfl (Nat.le_of_ble_eq_true rfl) ⟨by decide, by decide⟩ ⟨by decide, by decide⟩ ?_
  refine v_ifB_ne dX7_count_7 (tgt := 16) (by decide) (nx := 10) rfl (fun c7 => ?_) (fun c7 => ?_)
  · refine v_iconst dX7_count_16 (nx := 17) rfl ?_
    refine v_istore_n dX7_count_17 (nx := 18) rfl rfl (by decide) ?_
    refine v_iconst dX7_count_18 (nx := 19) rfl ?_
    refine v_istore_n dX7_count_19 (nx := 20) rfl rfl (by decide) ?_
    exact l_X7_count hR w (by omega) b1 b3 hf1 (N 3 + 1).toNat 0 0 ⟨by omega, by omega⟩ (by omega) cntI_0.symm
  · refine v_aload_n 0 dX7_count_10 (nx := 11) rfl rfl ?_
    refine v_iconst dX7_count_11 (nx := 12) rfl ?_
    refine t_callVi (a := 14) (c_X7_finding _) dX7_count_12 (nx := 15) rfl kX7_finding ml_X7_31 (by decide) (ok_m 14 rfl) rfl rfl rfl rfl (Nat.le_of_ble_eq_true rfl) ⟨by decide, by decide⟩ ⟨by decide, by decide⟩ ?_
    exact t_iret dX7_count_15 rfl (by first | exact lf1 (by unfold s_count; (repeat (first | rewrite [if_pos (by omega)] | rewrite [if_neg (by omega)])); first | rfl | (refine Prod.ext rfl (Prod.ext (congrArg (uI _ _) ?_) rfl); unfold uI; (repeat rw [if_neg (by omega)]))) | exact lf0 (by unfold s_count; (repeat (first | rewrite [if_pos (by omega)] | rewrite [if_neg (by omega)])); first | rfl | (refine Prod.ext rfl (Prod.ext (congrArg (uI _ _) ?_) rfl); unfold uI; (repeat rw [if_neg (by omega)]))) | (exfalso; omega))

set_option maxRecDepth 100000 in
theorem l_X7_list {g : GG} {kp : Bool} {σ : SS} {N K G F : Int → Int} {k f : Int} (hR : ∀ j, inR (N j)) (p i w c : Int) (hpR : inR p) (hiR : inR i) (b3 : 0 ≤ N 3 ∧ N 3 ≤ 60) (hp : 0 ≤ p ∧ p < N 0) (hk : N (8 + p) = 0 ∨ N (8 + p) = 4) (hw : w = if N (8 + p) = 0 then 0 else 3) (hw3 : w = 0 ∨ w = 3) (hc : c = cntI (wP N w p) (N 3)) (hi : 0 ≤ i ∧ i < c) : ∀ (m : Nat) (x : Int), (0 ≤ x ∧ x ≤ N 3) → (N 3 - x < m) → (∀ y, 0 ≤ y → y < x → (fun y => decide ((N (484 + y) = w ∧ N (544 + y) = p) ∧ aheadN N y w p = i)) y = false) → V g (rmD 2 0 0) mX7_list (ZT g kp (fun r τ => r = (some (vi (s_list N p i).1)) ∧ τ = (mkS σ (s_list N p i).2.1 K G F k (f + (s_list N p i).2.2)))) E0 101 [(0, rf g (ad 14 0 0)), (1, vi p), (2, vi i), (3, vi w), (4, vi c), (5, vi x)] [] (vw g kp (mkS σ N K G F k f)) (sz kp) 0 0 := by
  intro m
  induction m with
  | zero => intro x hx hm hn; exfalso; omega
  | succ m ih =>
    intro x hx hm hn
    refine v_iload 5 dX7_list_101 (nx := 103) rfl rfl ?_
    refine v_aload_n 0 dX7_list_103 (nx := 104) rfl rfl ?_
    refine m_gA 10 (p := 0) dX7_list_104 (nx := 107) rfl (by decide) fl_X7_9 rfl ?_
    refine v_iconst dX7_list_107 (nx := 108) rfl ?_
    refine m_ald10 dX7_list_108 (nx := 109) rfl ⟨by omega, by omega⟩ ?_
    refine v_icmp_ge dX7_list_109 (tgt := 163) (by decide) (nx := 112) rfl (by first | assumption | exact hR _ | exact ⟨by omega, by omega⟩) (by first | assumption | exact hR _ | exact ⟨by omega, by omega⟩) (fun c109 => ?_) (fun c109 => ?_)
    · refine v_aload_n 0 dX7_list_163 (nx := 164) rfl rfl ?_
      refine v_bipush dX7_list_164 (nx := 166) rfl rfl ?_
      refine t_callVi (a := 14) (c_X7_finding _) dX7_list_166 (nx := 169) rfl kX7_finding ml_X7_31 (by decide) (ok_m 14 rfl) rfl rfl rfl rfl (Nat.le_of_ble_eq_true rfl) ⟨by decide, by decide⟩ ⟨by decide, by decide⟩ ?_
      exact t_iret dX7_list_169 rfl (lf1 (by unfold s_list; rw [← hw]; unfold s_listW; rw [if_neg (by omega), if_neg (by omega), if_neg (by omega), ← hc, if_neg (by omega)]; have e : -1 = fstI (fun y => decide ((N (484 + y) = w ∧ N (544 + y) = p) ∧ aheadN N y w p = i)) 0 (N 3) := fstI_eq (by omega) (by omega) (Or.inl ⟨rfl, fun y y0 y1 => hn y y0 (by omega)⟩); rw [← e, if_pos rfl]; rfl))
    · refine v_aload_n 0 dX7_list_112 (nx := 113) rfl rfl ?_
      refine m_gA 10 (p := 0) dX7_list_113 (nx := 116) rfl (by decide) fl_X7_9 rfl ?_
      refine v_sipush dX7_list_116 (nx := 119) rfl rfl ?_
      refine v_iload 5 dX7_list_119 (nx := 121) rfl rfl ?_
      refine v_iadd dX7_list_121 (nx := 122) rfl ?_
      refine m_ald10 dX7_list_122 (nx := 123) rfl ⟨by omega, by omega⟩ ?_
      refine v_iload_n 3 dX7_list_123 (nx := 124) rfl rfl ?_
      refine v_icmp_ne dX7_list_124 (tgt := 157) (by decide) (nx := 127) rfl (by first | assumption | exact hR _ | exact ⟨by omega, by omega⟩) (by first | assumption | exact hR _ | exact ⟨by omega, by omega⟩) (fun c124 => ?_) (fun c124 => ?_)
      · refine v_iinc 5 dX7_list_157 (nx := 160) rfl rfl rfl (by decide) ?_
        refine v_goto dX7_list_160 (tgt := 101) (by decide) ?_
        exact ih _ ⟨by omega, by omega⟩ (by omega) (fun y y0 y1 => by
    by_cases e : y = x
    · subst e; exact decide_eq_false (by omega)
    · exact hn y y0 (by omega))
      · refine v_aload_n 0 dX7_list_127 (nx := 128) rfl rfl ?_
        refine m_gA 10 (p := 0) dX7_list_128 (nx := 131) rfl (by decide) fl_X7_9 rfl ?_
        refine v_sipush dX7_list_131 (nx := 134) rfl rfl ?_
        refine v_iload 5 dX7_list_134 (nx := 136) rfl rfl ?_
        refine v_iadd dX7_list_136 (nx := 137) rfl ?_
        refine m_ald10 dX7_list_137 (nx := 138) rfl ⟨by omega, by omega⟩ ?_
        refine v_iload_n 1 dX7_list_138 (nx := 139) rfl rfl ?_
        refine v_icmp_ne dX7_list_139 (tgt := 157) (by decide) (nx := 142) rfl (by first | assumption | exact hR _ | exact ⟨by omega, by omega⟩) (by first | assumption | exact hR _ | exact ⟨by omega, by omega⟩) (fun c139 => ?_) (fun c139 => ?_)
        · refine v_iinc 5 dX7_list_157 (nx := 160) rfl rfl rfl (by decide) ?_
          refine v_goto dX7_list_160 (tgt := 101) (by decide) ?_
          exact ih _ ⟨by omega, by omega⟩ (by omega) (fun y y0 y1 => by
    by_cases e : y = x
    · subst e; exact decide_eq_false (by omega)
    · exact hn y y0 (by omega))
        · refine v_aload_n 0 dX7_list_142 (nx := 143) rfl rfl ?_
          refine v_iload 5 dX7_list_143 (nx := 145) rfl rfl ?_
          refine v_iload_n 3 dX7_list_145 (nx := 146) rfl rfl ?_
          refine v_iload_n 1 dX7_list_146 (nx := 147) rfl rfl ?_
          refine t_callVi (a := 14) (c_X7_aheadOf hR _ _ _ (by exact ⟨by omega, by omega⟩) hpR b3 (by omega)) dX7_list_147 (nx := 150) rfl kX7_aheadOf ml_X7_134 (by decide) (ok_m 14 rfl) rfl rfl rfl rfl (Nat.le_of_ble_eq_true rfl) ⟨by decide, by decide⟩ ⟨by decide, by decide⟩ ?_
          refine v_iload_n 2 dX7_list_150 (nx := 151) rfl rfl ?_
          refine v_icmp_ne dX7_list_151 (tgt := 157) (by decide) (nx := 154) rfl (ahead_R b3) (by assumption) (fun c151 => ?_) (fun c151 => ?_)
          · refine v_iinc 5 dX7_list_157 (nx := 160) rfl rfl rfl (by decide) ?_
            refine v_goto dX7_list_160 (tgt := 101) (by decide) ?_
            exact ih _ ⟨by omega, by omega⟩ (by omega) (fun y y0 y1 => by
    by_cases e : y = x
    · subst e; exact decide_eq_false (by omega)
    · exact hn y y0 (by omega))
          · refine v_iload 5 dX7_list_154 (nx := 156) rfl rfl ?_
            exact t_iret dX7_list_156 rfl (lf0 (by unfold s_list; rw [← hw]; unfold s_listW; rw [if_neg (by omega), if_neg (by omega), if_neg (by omega), ← hc, if_neg (by omega)]; have e : x = fstI (fun y => decide ((N (484 + y) = w ∧ N (544 + y) = p) ∧ aheadN N y w p = i)) 0 (N 3) := fstI_eq (by omega) (by omega) (Or.inr ⟨by omega, by omega, decide_eq_true ⟨⟨by omega, by omega⟩, by omega⟩, hn⟩); rw [← e, if_neg (by omega)]))

set_option maxRecDepth 100000 in
theorem c_X7_list {g : GG} {kp : Bool} {σ : SS} {N K G F : Int → Int} {k f : Int} (hR : ∀ j, inR (N j)) (p : Int) (i : Int) (hp : inR p) (hi : inR i) (b0 : 0 ≤ N 0 ∧ N 0 ≤ 12) (b1 : 0 ≤ N 1 ∧ N 1 ≤ 16) (b2 : 0 ≤ N 2 ∧ N 2 ≤ 8) (b3 : 0 ≤ N 3 ∧ N 3 ≤ 60) : XC g kp 2 mX7_list [rf g (ad 14 0 0), vi p, vi i] (mkS σ N K G F k f) (some (vi (s_list N p i).1)) (mkS σ (s_list N p i).2.1 K G F k (f + (s_list N p i).2.2)) := by
  refine TC.of (by decide) (Nat.le_of_ble_eq_true rfl) rfl ?_
  refine v_aload_n 0 dX7_list_0 (nx := 1) rfl rfl ?_
  refine v_iload_n 1 dX7_list_1 (nx := 2) rfl rfl ?_
  refine t_callVi (a := 14) (c_X7_isPoint _ (by assumption) (by omega)) dX7_list_2 (nx := 5) rfl kX7_isPoint ml_X7_35 (by decide) (ok_m 14 rfl) rfl rfl rfl rfl (Nat.le_of_ble_eq_true rfl) ⟨by decide, by decide⟩ ⟨by decide, by decide⟩ ?_
  refine v_ifB_ne dX7_list_5 (tgt := 14) (by decide) (nx := 8) rfl (fun c5 => ?_) (fun c5 => ?_)
  · refine v_aload_n 0 dX7_list_14 (nx := 15) rfl rfl ?_
    refine v_iload_n 1 dX7_list_15 (nx := 16) rfl rfl ?_
    refine t_callVi (a := 14) (c_X7_kindOf _ (by omega)) dX7_list_16 (nx := 19) rfl kX7_kindOf ml_X7_39 (by decide) (ok_m 14 rfl) rfl rfl rfl rfl (Nat.le_of_ble_eq_true rfl) ⟨by decide, by decide⟩ ⟨by decide, by decide⟩ ?_
    refine v_if_eq dX7_list_19 (tgt := 38) (by decide) (nx := 22) rfl (by first | assumption | exact hR _ | exact ⟨by omega, by omega⟩) (fun c19 => ?_) (fun c19 => ?_)
    · refine v_aload_n 0 dX7_list_38 (nx := 39) rfl rfl ?_
      refine v_iload_n 1 dX7_list_39 (nx := 40) rfl rfl ?_
      refine t_callVi (a := 14) (c_X7_kindOf _ (by omega)) dX7_list_40 (nx := 43) rfl kX7_kindOf ml_X7_39 (by decide) (ok_m 14 rfl) rfl rfl rfl rfl (Nat.le_of_ble_eq_true rfl) ⟨by decide, by decide⟩ ⟨by decide, by decide⟩ ?_
      refine v_if_ne dX7_list_43 (tgt := 50) (by decide) (nx := 46) rfl (by first | assumption | exact hR _ | exact ⟨by omega, by omega⟩) (fun c43 => ?_) (fun c43 => ?_)
      · exfalso; omega
      · refine v_iconst dX7_list_46 (nx := 47) rfl ?_
        refine v_goto dX7_list_47 (tgt := 51) (by decide) ?_
        refine v_istore_n dX7_list_51 (nx := 52) rfl rfl (by decide) ?_
        refine v_iload_n 3 dX7_list_52 (nx := 53) rfl rfl ?_
        refine v_if_ne dX7_list_53 (tgt := 64) (by decide) (nx := 56) rfl (by first | assumption | exact hR _ | exact ⟨by omega, by omega⟩) (fun c53 => ?_) (fun c53 => ?_)
        · exfalso; omega
        · refine v_aload_n 0 dX7_list_56 (nx := 57) rfl rfl ?_
          refine v_iload_n 1 dX7_list_57 (nx := 58) rfl rfl ?_
          refine t_callVi (a := 14) (c_X7_waitingAt hR _ (by assumption) b3) dX7_list_58 (nx := 61) rfl kX7_waitingAt ml_X7_59 (by decide) (ok_m 14 rfl) rfl rfl rfl rfl (Nat.le_of_ble_eq_true rfl) ⟨by decide, by decide⟩ ⟨by decide, by decide⟩ ?_
          refine v_goto dX7_list_61 (tgt := 69) (by decide) ?_
          have hcb0 := cntI_b (P := wP N 0 p) b3.1
          have hcb3 := cntI_b (P := wP N 3 p) b3.1
          refine v_istore dX7_list_69 (nx := 71) rfl rfl (by decide) ?_
          refine v_iload_n 2 dX7_list_71 (nx := 72) rfl rfl ?_
          refine v_iconst dX7_list_72 (nx := 73) rfl ?_
          refine v_icmp_ne dX7_list_73 (tgt := 79) (by decide) (nx := 76) rfl (by first | assumption | exact hR _ | exact ⟨by omega, by omega⟩) (by first | assumption | exact hR _ | exact ⟨by omega, by omega⟩) (fun c73 => ?_) (fun c73 => ?_)
          · refine v_iload_n 2 dX7_list_79 (nx := 80) rfl rfl ?_
            refine v_iconst dX7_list_80 (nx := 81) rfl ?_
            refine v_iload 4 dX7_list_81 (nx := 83) rfl rfl ?_
            refine v_iconst dX7_list_83 (nx := 84) rfl ?_
            refine v_isub dX7_list_84 (nx := 85) rfl ?_
            refine t_callSi (c_X7_in _ _ _ (by first | assumption | exact hR _ | exact ⟨by omega, by omega⟩) (by first | assumption | exact hR _ | exact ⟨by omega, by omega⟩) (by first | assumption | exact hR _ | exact ⟨by omega, by omega⟩)) dX7_list_85 (nx := 88) rfl kX7_in ml_X7_27 rfl rfl (Nat.le_of_ble_eq_true rfl) ⟨by decide, by decide⟩ ⟨by decide, by decide⟩ ?_
            refine v_ifB_ne dX7_list_88 (tgt := 98) (by decide) (nx := 91) rfl (fun c88 => ?_) (fun c88 => ?_)
            · refine v_iconst dX7_list_98 (nx := 99) rfl ?_
              refine v_istore dX7_list_99 (nx := 101) rfl rfl (by decide) ?_
              exact l_X7_list hR p i _ _ hp hi b3 (by omega) (by omega) (by first | rw [if_pos (by omega)] | rw [if_neg (by omega)]) (by omega) rfl (by omega) (N 3 + 1).toNat 0 ⟨by omega, by omega⟩ (by omega) (fun y y0 y1 => by omega)
            · refine v_aload_n 0 dX7_list_91 (nx := 92) rfl rfl ?_
              refine v_bipush dX7_list_92 (nx := 94) rfl rfl ?_
              refine t_callVi (a := 14) (c_X7_finding _) dX7_list_94 (nx := 97) rfl kX7_finding ml_X7_31 (by decide) (ok_m 14 rfl) rfl rfl rfl rfl (Nat.le_of_ble_eq_true rfl) ⟨by decide, by decide⟩ ⟨by decide, by decide⟩ ?_
              exact t_iret dX7_list_97 rfl (by first | exact lf1 (by unfold s_list; (first | rewrite [if_pos (by omega)] | rewrite [if_neg (by omega)] | skip); unfold s_listW; (repeat (first | rewrite [if_pos (by omega)] | rewrite [if_neg (by omega)])); first | rfl | (refine Prod.ext rfl (Prod.ext (congrArg (uI _ _) ?_) rfl); unfold uI; (repeat rw [if_neg (by omega)]))) | exact lf0 (by unfold s_list; (first | rewrite [if_pos (by omega)] | rewrite [if_neg (by omega)] | skip); unfold s_listW; (repeat (first | rewrite [if_pos (by omega)] | rewrite [if_neg (by omega)])); first | rfl | (refine Prod.ext rfl (Prod.ext (congrArg (uI _ _) ?_) rfl); unfold uI; (repeat rw [if_neg (by omega)]))) | (exfalso; omega))
          · refine v_iload 4 dX7_list_76 (nx := 78) rfl rfl ?_
            exact t_iret dX7_list_78 rfl (by first | exact lf1 (by unfold s_list; (first | rewrite [if_pos (by omega)] | rewrite [if_neg (by omega)] | skip); unfold s_listW; (repeat (first | rewrite [if_pos (by omega)] | rewrite [if_neg (by omega)])); first | rfl | (refine Prod.ext rfl (Prod.ext (congrArg (uI _ _) ?_) rfl); unfold uI; (repeat rw [if_neg (by omega)]))) | exact lf0 (by unfold s_list; (first | rewrite [if_pos (by omega)] | rewrite [if_neg (by omega)] | skip); unfold s_listW; (repeat (first | rewrite [if_pos (by omega)] | rewrite [if_neg (by omega)])); first | rfl | (refine Prod.ext rfl (Prod.ext (congrArg (uI _ _) ?_) rfl); unfold uI; (repeat rw [if_neg (by omega)]))) | (exfalso; omega))
    · refine v_aload_n 0 dX7_list_22 (nx := 23) rfl rfl ?_
      refine v_iload_n 1 dX7_list_23 (nx := 24) rfl rfl ?_
      refine t_callVi (a := 14) (c_X7_kindOf _ (by omega)) dX7_list_24 (nx := 27) rfl kX7_kindOf ml_X7_39 (by decide) (ok_m 14 rfl) rfl rfl rfl rfl (Nat.le_of_ble_eq_true rfl) ⟨by decide, by decide⟩ ⟨by decide, by decide⟩ ?_
      refine v_iconst dX7_list_27 (nx := 28) rfl ?_
      refine v_icmp_eq dX7_list_28 (tgt := 38) (by decide) (nx := 31) rfl (by first | assumption | exact hR _ | exact ⟨by omega, by omega⟩) (by first | assumption | exact hR _ | exact ⟨by omega, by omega⟩) (fun c28 => ?_) (fun c28 => ?_)
      · refine v_aload_n 0 dX7_list_38 (nx := 39) rfl rfl ?_
        refine v_iload_n 1 dX7_list_39 (nx := 40) rfl rfl ?_
        refine t_callVi (a := 14) (c_X7_kindOf _ (by omega)) dX7_list_40 (nx := 43) rfl kX7_kindOf ml_X7_39 (by decide) (ok_m 14 rfl) rfl rfl rfl rfl (Nat.le_of_ble_eq_true rfl) ⟨by decide, by decide⟩ ⟨by decide, by decide⟩ ?_
        refine v_if_ne dX7_list_43 (tgt := 50) (by decide) (nx := 46) rfl (by first | assumption | exact hR _ | exact ⟨by omega, by omega⟩) (fun c43 => ?_) (fun c43 => ?_)
        · refine v_iconst dX7_list_50 (nx := 51) rfl ?_
          refine v_istore_n dX7_list_51 (nx := 52) rfl rfl (by decide) ?_
          refine v_iload_n 3 dX7_list_52 (nx := 53) rfl rfl ?_
          refine v_if_ne dX7_list_53 (tgt := 64) (by decide) (nx := 56) rfl (by first | assumption | exact hR _ | exact ⟨by omega, by omega⟩) (fun c53 => ?_) (fun c53 => ?_)
          · refine v_aload_n 0 dX7_list_64 (nx := 65) rfl rfl ?_
            refine v_iload_n 1 dX7_list_65 (nx := 66) rfl rfl ?_
            refine t_callVi (a := 14) (c_X7_storedAt hR _ (by assumption) b3) dX7_list_66 (nx := 69) rfl kX7_storedAt ml_X7_116 (by decide) (ok_m 14 rfl) rfl rfl rfl rfl (Nat.le_of_ble_eq_true rfl) ⟨by decide, by decide⟩ ⟨by decide, by decide⟩ ?_
            have hcb0 := cntI_b (P := wP N 0 p) b3.1
            have hcb3 := cntI_b (P := wP N 3 p) b3.1
            refine v_istore dX7_list_69 (nx := 71) rfl rfl (by decide) ?_
            refine v_iload_n 2 dX7_list_71 (nx := 72) rfl rfl ?_
            refine v_iconst dX7_list_72 (nx := 73) rfl ?_
            refine v_icmp_ne dX7_list_73 (tgt := 79) (by decide) (nx := 76) rfl (by first | assumption | exact hR _ | exact ⟨by omega, by omega⟩) (by first | assumption | exact hR _ | exact ⟨by omega, by omega⟩) (fun c73 => ?_) (fun c73 => ?_)
            · refine v_iload_n 2 dX7_list_79 (nx := 80) rfl rfl ?_
              refine v_iconst dX7_list_80 (nx := 81) rfl ?_
              refine v_iload 4 dX7_list_81 (nx := 83) rfl rfl ?_
              refine v_iconst dX7_list_83 (nx := 84) rfl ?_
              refine v_isub dX7_list_84 (nx := 85) rfl ?_
              refine t_callSi (c_X7_in _ _ _ (by first | assumption | exact hR _ | exact ⟨by omega, by omega⟩) (by first | assumption | exact hR _ | exact ⟨by omega, by omega⟩) (by first | assumption | exact hR _ | exact ⟨by omega, by omega⟩)) dX7_list_85 (nx := 88) rfl kX7_in ml_X7_27 rfl rfl (Nat.le_of_ble_eq_true rfl) ⟨by decide, by decide⟩ ⟨by decide, by decide⟩ ?_
              refine v_ifB_ne dX7_list_88 (tgt := 98) (by decide) (nx := 91) rfl (fun c88 => ?_) (fun c88 => ?_)
              · refine v_iconst dX7_list_98 (nx := 99) rfl ?_
                refine v_istore dX7_list_99 (nx := 101) rfl rfl (by decide) ?_
                exact l_X7_list hR p i _ _ hp hi b3 (by omega) (by omega) (by first | rw [if_pos (by omega)] | rw [if_neg (by omega)]) (by omega) rfl (by omega) (N 3 + 1).toNat 0 ⟨by omega, by omega⟩ (by omega) (fun y y0 y1 => by omega)
              · refine v_aload_n 0 dX7_list_91 (nx := 92) rfl rfl ?_
                refine v_bipush dX7_list_92 (nx := 94) rfl rfl ?_
                refine t_callVi (a := 14) (c_X7_finding _) dX7_list_94 (nx := 97) rfl kX7_finding ml_X7_31 (by decide) (ok_m 14 rfl) rfl rfl rfl rfl (Nat.le_of_ble_eq_true rfl) ⟨by decide, by decide⟩ ⟨by decide, by decide⟩ ?_
                exact t_iret dX7_list_97 rfl (by first | exact lf1 (by unfold s_list; (first | rewrite [if_pos (by omega)] | rewrite [if_neg (by omega)] | skip); unfold s_listW; (repeat (first | rewrite [if_pos (by omega)] | rewrite [if_neg (by omega)])); first | rfl | (refine Prod.ext rfl (Prod.ext (congrArg (uI _ _) ?_) rfl); unfold uI; (repeat rw [if_neg (by omega)]))) | exact lf0 (by unfold s_list; (first | rewrite [if_pos (by omega)] | rewrite [if_neg (by omega)] | skip); unfold s_listW; (repeat (first | rewrite [if_pos (by omega)] | rewrite [if_neg (by omega)])); first | rfl | (refine Prod.ext rfl (Prod.ext (congrArg (uI _ _) ?_) rfl); unfold uI; (repeat rw [if_neg (by omega)]))) | (exfalso; omega))
            · refine v_iload 4 dX7_list_76 (nx := 78) rfl rfl ?_
              exact t_iret dX7_list_78 rfl (by first | exact lf1 (by unfold s_list; (first | rewrite [if_pos (by omega)] | rewrite [if_neg (by omega)] | skip); unfold s_listW; (repeat (first | rewrite [if_pos (by omega)] | rewrite [if_neg (by omega)])); first | rfl | (refine Prod.ext rfl (Prod.ext (congrArg (uI _ _) ?_) rfl); unfold uI; (repeat rw [if_neg (by omega)]))) | exact lf0 (by unfold s_list; (first | rewrite [if_pos (by omega)] | rewrite [if_neg (by omega)] | skip); unfold s_listW; (repeat (first | rewrite [if_pos (by omega)] | rewrite [if_neg (by omega)])); first | rfl | (refine Prod.ext rfl (Prod.ext (congrArg (uI _ _) ?_) rfl); unfold uI; (repeat rw [if_neg (by omega)]))) | (exfalso; omega))
          · exfalso; omega
        · exfalso; omega
      · refine v_aload_n 0 dX7_list_31 (nx := 32) rfl rfl ?_
        refine v_bipush dX7_list_32 (nx := 34) rfl rfl ?_
        refine t_callVi (a := 14) (c_X7_finding _) dX7_list_34 (nx := 37) rfl kX7_finding ml_X7_31 (by decide) (ok_m 14 rfl) rfl rfl rfl rfl (Nat.le_of_ble_eq_true rfl) ⟨by decide, by decide⟩ ⟨by decide, by decide⟩ ?_
        exact t_iret dX7_list_37 rfl (by first | exact lf1 (by unfold s_list; (first | rewrite [if_pos (by omega)] | rewrite [if_neg (by omega)] | skip); unfold s_listW; (repeat (first | rewrite [if_pos (by omega)] | rewrite [if_neg (by omega)])); first | rfl | (refine Prod.ext rfl (Prod.ext (congrArg (uI _ _) ?_) rfl); unfold uI; (repeat rw [if_neg (by omega)]))) | exact lf0 (by unfold s_list; (first | rewrite [if_pos (by omega)] | rewrite [if_neg (by omega)] | skip); unfold s_listW; (repeat (first | rewrite [if_pos (by omega)] | rewrite [if_neg (by omega)])); first | rfl | (refine Prod.ext rfl (Prod.ext (congrArg (uI _ _) ?_) rfl); unfold uI; (repeat rw [if_neg (by omega)]))) | (exfalso; omega))
  · refine v_aload_n 0 dX7_list_8 (nx := 9) rfl rfl ?_
    refine v_iconst dX7_list_9 (nx := 10) rfl ?_
    refine t_callVi (a := 14) (c_X7_finding _) dX7_list_10 (nx := 13) rfl kX7_finding ml_X7_31 (by decide) (ok_m 14 rfl) rfl rfl rfl rfl (Nat.le_of_ble_eq_true rfl) ⟨by decide, by decide⟩ ⟨by decide, by decide⟩ ?_
    exact t_iret dX7_list_13 rfl (by first | exact lf1 (by unfold s_list; (first | rewrite [if_pos (by omega)] | rewrite [if_neg (by omega)] | skip); unfold s_listW; (repeat (first | rewrite [if_pos (by omega)] | rewrite [if_neg (by omega)])); first | rfl | (refine Prod.ext rfl (Prod.ext (congrArg (uI _ _) ?_) rfl); unfold uI; (repeat rw [if_neg (by omega)]))) | exact lf0 (by unfold s_list; (first | rewrite [if_pos (by omega)] | rewrite [if_neg (by omega)] | skip); unfold s_listW; (repeat (first | rewrite [if_pos (by omega)] | rewrite [if_neg (by omega)])); first | rfl | (refine Prod.ext rfl (Prod.ext (congrArg (uI _ _) ?_) rfl); unfold uI; (repeat rw [if_neg (by omega)]))) | (exfalso; omega))
