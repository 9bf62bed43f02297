set_option maxRecDepth 100000 in
theorem c_X7_in {g : GG} {kp : Bool} {σ : SS} {N K G F : Int → Int} {k f : Int} (v lo hi : Int) (hv : inR v) (hl : inR lo) (hh : inR hi) : XC g kp 0 mX7_in [vi v, vi lo, vi hi] (mkS σ N K G F k f) (some (vi (if lo ≤ v ∧ v ≤ hi then 1 else 0))) (mkS σ N K G F k f) := by
  refine TC.of (by decide) (Nat.le_of_ble_eq_true rfl) rfl ?_
  refine v_iload_n 0 dX7_in_0 (nx := 1) rfl rfl ?_
  refine v_iload_n 1 dX7_in_1 (nx := 2) rfl rfl ?_
  refine v_icmp_lt dX7_in_2 (tgt := 14) (by decide) (nx := 5) rfl (by first | assumption | exact hR _ | exact ⟨by omega, by omega⟩) (by first | assumption | exact hR _ | exact ⟨by omega, by omega⟩) (fun c2 => ?_) (fun c2 => ?_)
  · refine v_iconst dX7_in_14 (nx := 15) rfl ?_
    exact t_zret dX7_in_15 rfl (by first | exact Or.inl rfl | exact Or.inr rfl | assumption) ⟨by first | rw [if_pos (by omega)] | rw [if_neg (by omega)], rfl⟩
  · refine v_iload_n 0 dX7_in_5 (nx := 6) rfl rfl ?_
    refine v_iload_n 2 dX7_in_6 (nx := 7) rfl rfl ?_
    refine v_icmp_gt dX7_in_7 (tgt := 14) (by decide) (nx := 10) rfl (by first | assumption | exact hR _ | exact ⟨by omega, by omega⟩) (by first | assumption | exact hR _ | exact ⟨by omega, by omega⟩) (fun c7 => ?_) (fun c7 => ?_)
    · refine v_iconst dX7_in_14 (nx := 15) rfl ?_
      exact t_zret dX7_in_15 rfl (by first | exact Or.inl rfl | exact Or.inr rfl | assumption) ⟨by first | rw [if_pos (by omega)] | rw [if_neg (by omega)], rfl⟩
    · refine v_iconst dX7_in_10 (nx := 11) rfl ?_
      refine v_goto dX7_in_11 (tgt := 15) (by decide) ?_
      exact t_zret dX7_in_15 rfl (by first | exact Or.inl rfl | exact Or.inr rfl | assumption) ⟨by first | rw [if_pos (by omega)] | rw [if_neg (by omega)], rfl⟩

set_option maxRecDepth 100000 in
theorem c_X7_finding {g : GG} {kp : Bool} {σ : SS} {N K G F : Int → Int} {k f : Int} (w : Int) : XC g kp 0 mX7_finding [rf g (ad 14 0 0), vi w] (mkS σ N K G F k f) (some (vi w)) (mkS σ N K G F k (f + 1)) := by
  refine TC.of (by decide) (Nat.le_of_ble_eq_true rfl) rfl ?_
  refine v_aload_n 0 dX7_finding_0 (nx := 1) rfl rfl ?_
  refine v_dup dX7_finding_1 (nx := 2) rfl rfl ?_
  refine m_gI (p := 3) dX7_finding_2 (nx := 5) rfl (by decide) fl_X7_23 rfl ?_
  refine v_iconst dX7_finding_5 (nx := 6) rfl ?_
  refine v_iadd dX7_finding_6 (nx := 7) rfl ?_
  refine m_pf dX7_finding_7 (nx := 10) rfl fl_X7_23 ?_
  refine v_iload_n 1 dX7_finding_10 (nx := 11) rfl rfl ?_
  exact t_iret dX7_finding_11 rfl ⟨rfl, rfl⟩

set_option maxRecDepth 100000 in
theorem c_X7_isPoint {g : GG} {kp : Bool} {σ : SS} {N K G F : Int → Int} {k f : Int} (p : Int) (hp : inR p) (hn : 0 ≤ N 0 ∧ N 0 ≤ 60) : XC g kp 1 mX7_isPoint [rf g (ad 14 0 0), vi p] (mkS σ N K G F k f) (some (vi (if 0 ≤ p ∧ p < N 0 then 1 else 0))) (mkS σ N K G F k f) := by
  refine TC.of (by decide) (Nat.le_of_ble_eq_true rfl) rfl ?_
  refine v_iload_n 1 dX7_isPoint_0 (nx := 1) rfl rfl ?_
  refine v_iconst dX7_isPoint_1 (nx := 2) rfl ?_
  refine v_aload_n 0 dX7_isPoint_2 (nx := 3) rfl rfl ?_
  refine m_gA 10 (p := 0) dX7_isPoint_3 (nx := 6) rfl (by decide) fl_X7_9 rfl ?_
  refine v_iconst dX7_isPoint_6 (nx := 7) rfl ?_
  refine m_ald10 dX7_isPoint_7 (nx := 8) rfl ⟨by omega, by omega⟩ ?_
  refine v_iconst dX7_isPoint_8 (nx := 9) rfl ?_
  refine v_isub dX7_isPoint_9 (nx := 10) rfl ?_
  refine t_callSi (c_X7_in p 0 (N 0 - 1) hp ⟨by omega, by omega⟩ ⟨by omega, by omega⟩) dX7_isPoint_10 (nx := 13) rfl kX7_in ml_X7_27 rfl rfl (Nat.le_of_ble_eq_true rfl) ⟨by decide, by decide⟩ ⟨by decide, by decide⟩ ?_
  exact t_zret dX7_isPoint_13 rfl if01 ⟨by congr 2; exact if_iff (by omega) _ _, rfl⟩

set_option maxRecDepth 100000 in
theorem c_X7_isBelt {g : GG} {kp : Bool} {σ : SS} {N K G F : Int → Int} {k f : Int} (p : Int) (hp : inR p) (hn : 0 ≤ N 1 ∧ N 1 ≤ 60) : XC g kp 1 mX7_isBelt [rf g (ad 14 0 0), vi p] (mkS σ N K G F k f) (some (vi (if 0 ≤ p ∧ p < N 1 then 1 else 0))) (mkS σ N K G F k f) := by
  refine TC.of (by decide) (Nat.le_of_ble_eq_true rfl) rfl ?_
  refine v_iload_n 1 dX7_isBelt_0 (nx := 1) rfl rfl ?_
  refine v_iconst dX7_isBelt_1 (nx := 2) rfl ?_
  refine v_aload_n 0 dX7_isBelt_2 (nx := 3) rfl rfl ?_
  refine m_gA 10 (p := 0) dX7_isBelt_3 (nx := 6) rfl (by decide) fl_X7_9 rfl ?_
  refine v_iconst dX7_isBelt_6 (nx := 7) rfl ?_
  refine m_ald10 dX7_isBelt_7 (nx := 8) rfl ⟨by omega, by omega⟩ ?_
  refine v_iconst dX7_isBelt_8 (nx := 9) rfl ?_
  refine v_isub dX7_isBelt_9 (nx := 10) rfl ?_
  refine t_callSi (c_X7_in p 0 (N 1 - 1) hp ⟨by omega, by omega⟩ ⟨by omega, by omega⟩) dX7_isBelt_10 (nx := 13) rfl kX7_in ml_X7_27 rfl rfl (Nat.le_of_ble_eq_true rfl) ⟨by decide, by decide⟩ ⟨by decide, by decide⟩ ?_
  exact t_zret dX7_isBelt_13 rfl if01 ⟨by congr 2; exact if_iff (by omega) _ _, rfl⟩

set_option maxRecDepth 100000 in
theorem c_X7_isFlight {g : GG} {kp : Bool} {σ : SS} {N K G F : Int → Int} {k f : Int} (p : Int) (hp : inR p) (hn : 0 ≤ N 2 ∧ N 2 ≤ 60) : XC g kp 1 mX7_isFlight [rf g (ad 14 0 0), vi p] (mkS σ N K G F k f) (some (vi (if 0 ≤ p ∧ p < N 2 then 1 else 0))) (mkS σ N K G F k f) := by
  refine TC.of (by decide) (Nat.le_of_ble_eq_true rfl) rfl ?_
  refine v_iload_n 1 dX7_isFlight_0 (nx := 1) rfl rfl ?_
  refine v_iconst dX7_isFlight_1 (nx := 2) rfl ?_
  refine v_aload_n 0 dX7_isFlight_2 (nx := 3) rfl rfl ?_
  refine m_gA 10 (p := 0) dX7_isFlight_3 (nx := 6) rfl (by decide) fl_X7_9 rfl ?_
  refine v_iconst dX7_isFlight_6 (nx := 7) rfl ?_
  refine m_ald10 dX7_isFlight_7 (nx := 8) rfl ⟨by omega, by omega⟩ ?_
  refine v_iconst dX7_isFlight_8 (nx := 9) rfl ?_
  refine v_isub dX7_isFlight_9 (nx := 10) rfl ?_
  refine t_callSi (c_X7_in p 0 (N 2 - 1) hp ⟨by omega, by omega⟩ ⟨by omega, by omega⟩) dX7_isFlight_10 (nx := 13) rfl kX7_in ml_X7_27 rfl rfl (Nat.le_of_ble_eq_true rfl) ⟨by decide, by decide⟩ ⟨by decide, by decide⟩ ?_
  exact t_zret dX7_isFlight_13 rfl if01 ⟨by congr 2; exact if_iff (by omega) _ _, rfl⟩

set_option maxRecDepth 100000 in
theorem c_X7_isBag {g : GG} {kp : Bool} {σ : SS} {N K G F : Int → Int} {k f : Int} (p : Int) (hp : inR p) (hn : 0 ≤ N 3 ∧ N 3 ≤ 60) : XC g kp 1 mX7_isBag [rf g (ad 14 0 0), vi p] (mkS σ N K G F k f) (some (vi (if 0 ≤ p ∧ p < N 3 then 1 else 0))) (mkS σ N K G F k f) := by
  refine TC.of (by decide) (Nat.le_of_ble_eq_true rfl) rfl ?_
  refine v_iload_n 1 dX7_isBag_0 (nx := 1) rfl rfl ?_
  refine v_iconst dX7_isBag_1 (nx := 2) rfl ?_
  refine v_aload_n 0 dX7_isBag_2 (nx := 3) rfl rfl ?_
  refine m_gA 10 (p := 0) dX7_isBag_3 (nx := 6) rfl (by decide) fl_X7_9 rfl ?_
  refine v_iconst dX7_isBag_6 (nx := 7) rfl ?_
  refine m_ald10 dX7_isBag_7 (nx := 8) rfl ⟨by omega, by omega⟩ ?_
  refine v_iconst dX7_isBag_8 (nx := 9) rfl ?_
  refine v_isub dX7_isBag_9 (nx := 10) rfl ?_
  refine t_callSi (c_X7_in p 0 (N 3 - 1) hp ⟨by omega, by omega⟩ ⟨by omega, by omega⟩) dX7_isBag_10 (nx := 13) rfl kX7_in ml_X7_27 rfl rfl (Nat.le_of_ble_eq_true rfl) ⟨by decide, by decide⟩ ⟨by decide, by decide⟩ ?_
  exact t_zret dX7_isBag_13 rfl if01 ⟨by congr 2; exact if_iff (by omega) _ _, rfl⟩

set_option maxRecDepth 100000 in
theorem c_X7_kindOf {g : GG} {kp : Bool} {σ : SS} {N K G F : Int → Int} {k f : Int} (p : Int) (hp : 0 ≤ p ∧ p < 12) : XC g kp 0 mX7_kindOf [rf g (ad 14 0 0), vi p] (mkS σ N K G F k f) (some (vi (N (8 + p)))) (mkS σ N K G F k f) := by
  refine TC.of (by decide) (Nat.le_of_ble_eq_true rfl) rfl ?_
  refine v_aload_n 0 dX7_kindOf_0 (nx := 1) rfl rfl ?_
  refine m_gA 10 (p := 0) dX7_kindOf_1 (nx := 4) rfl (by decide) fl_X7_9 rfl ?_
  refine v_bipush dX7_kindOf_4 (nx := 6) rfl rfl ?_
  refine v_iload_n 1 dX7_kindOf_6 (nx := 7) rfl rfl ?_
  refine v_iadd dX7_kindOf_7 (nx := 8) rfl ?_
  refine m_ald10 dX7_kindOf_8 (nx := 9) rfl ⟨by omega, by omega⟩ ?_
  exact t_iret dX7_kindOf_9 rfl ⟨rfl, rfl⟩
