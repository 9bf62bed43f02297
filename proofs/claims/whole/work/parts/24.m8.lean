set_option maxRecDepth 100000 in
theorem l_X7_move {g : GG} {kp : Bool} {σ : SS} {N K G F : Int → Int} {k f : Int} (hG : ∀ g, G g = 0 ∨ G g = 1) (b : Int) (hb : 0 ≤ b ∧ b < 16) : ∀ (m : Nat) (c : Int) (M : NN), (-1 ≤ c ∧ c < 11) → (c + 1 < m) → (∀ j, inR (M j)) → (∀ c, 0 ≤ c → c < 12 → 0 ≤ M (148 + 12 * b + c) ∧ M (148 + 12 * b + c) ≤ 60) → V g (rmD 0 0 0) mX7_move (ZT g kp ((fun r τ => r = none ∧ τ = mkS σ (mvs G b (c + 1).toNat M) K G F k f))) E0 26 [(0, rf g (ad 14 0 0)), (1, vi b), (2, vi c)] [] (vw g kp (mkS σ M K G F k f)) (sz kp) 0 0 := by
  intro m
  induction m with
  | zero => intro c M hc hm hR hM; exfalso; omega
  | succ m ih =>
    intro c M hc hm hR hM
    refine v_iload_n 2 dX7_move_26 (nx := 27) rfl rfl ?_
    refine v_if_lt dX7_move_27 (tgt := 119) (by decide) (nx := 30) rfl (by first | assumption | exact hR _ | exact ⟨by omega, by omega⟩) (fun c27 => ?_) (fun c27 => ?_)
    · exact t_ret dX7_move_119 rfl ⟨rfl, by rw [show (c + 1).toNat = 0 by omega]; rfl⟩
    · have h1 := hM c (by omega) (by omega)
      have h2 := hM (c + 1) (by omega) (by omega)
      rw [show 148 + 12 * b + (c + 1) = 148 + 12 * b + c + 1 by omega] at h2
      have e1 : (c + 1).toNat = c.toNat + 1 := by omega
      have e2 : ((c.toNat : Nat) : Int) = c := by omega
      refine v_sipush dX7_move_30 (nx := 33) rfl rfl ?_
      refine v_bipush dX7_move_33 (nx := 35) rfl rfl ?_
      refine v_iload_n 1 dX7_move_35 (nx := 36) rfl rfl ?_
      refine v_imul dX7_move_36 (nx := 37) rfl ?_
      refine v_iadd dX7_move_37 (nx := 38) rfl ?_
      refine v_iload_n 2 dX7_move_38 (nx := 39) rfl rfl ?_
      refine v_iadd dX7_move_39 (nx := 40) rfl ?_
      refine v_istore_n dX7_move_40 (nx := 41) rfl rfl (by decide) ?_
      refine v_aload_n 0 dX7_move_41 (nx := 42) rfl rfl ?_
      refine m_gA 10 (p := 0) dX7_move_42 (nx := 45) rfl (by decide) fl_X7_9 rfl ?_
      refine v_iload_n 3 dX7_move_45 (nx := 46) rfl rfl ?_
      refine m_ald10 dX7_move_46 (nx := 47) rfl ⟨by omega, by omega⟩ ?_
      refine v_iconst dX7_move_47 (nx := 48) rfl ?_
      refine v_isub dX7_move_48 (nx := 49) rfl ?_
      refine v_istore dX7_move_49 (nx := 51) rfl rfl (by decide) ?_
      refine v_iload 4 dX7_move_51 (nx := 53) rfl rfl ?_
      refine v_if_lt dX7_move_53 (tgt := 113) (by decide) (nx := 56) rfl (by first | assumption | exact hR _ | exact ⟨by omega, by omega⟩) (fun c53 => ?_) (fun c53 => ?_)
      · refine v_iinc 2 dX7_move_113 (nx := 116) rfl rfl rfl (by decide) ?_
        refine v_goto dX7_move_116 (tgt := 26) (by decide) ?_
        exact V.lpick [0, 1, 2] rfl ((by
    have hs : mvs G b (c + 1).toNat M = mvs G b c.toNat M := by
      rw [e1]
      show mvs G b c.toNat (mv1 M G b (c.toNat : Int)) = _
      rw [e2]
      unfold mv1
      rw [if_pos (by omega)]
    rw [hs, show c.toNat = (c + -1 + 1).toNat by omega]
    exact ih _ _ ⟨by omega, by omega⟩ (by omega) hR hM))
      · have hg := hG (M (148 + 12 * b + c) - 1)
        refine v_aload_n 0 dX7_move_56 (nx := 57) rfl rfl ?_
        refine m_gA 12 (p := 4) dX7_move_57 (nx := 60) rfl (by decide) fl_X7_16 rfl ?_
        refine v_iload 4 dX7_move_60 (nx := 62) rfl rfl ?_
        refine m_zld dX7_move_62 (nx := 63) rfl ⟨by omega, by omega⟩ ?_
        refine v_if_ne dX7_move_63 (tgt := 113) (by decide) (nx := 66) rfl ⟨by omega, by omega⟩ (fun c63 => ?_) (fun c63 => ?_)
        · refine v_iinc 2 dX7_move_113 (nx := 116) rfl rfl rfl (by decide) ?_
          refine v_goto dX7_move_116 (tgt := 26) (by decide) ?_
          exact V.lpick [0, 1, 2] rfl ((by
    have hs : mvs G b (c + 1).toNat M = mvs G b c.toNat M := by
      rw [e1]
      show mvs G b c.toNat (mv1 M G b (c.toNat : Int)) = _
      rw [e2]
      unfold mv1
      rw [if_pos (by omega)]
    rw [hs, show c.toNat = (c + -1 + 1).toNat by omega]
    exact ih _ _ ⟨by omega, by omega⟩ (by omega) hR hM))
        · refine v_aload_n 0 dX7_move_66 (nx := 67) rfl rfl ?_
          refine m_gA 10 (p := 0) dX7_move_67 (nx := 70) rfl (by decide) fl_X7_9 rfl ?_
          refine v_iload_n 3 dX7_move_70 (nx := 71) rfl rfl ?_
          refine v_iconst dX7_move_71 (nx := 72) rfl ?_
          refine v_iadd dX7_move_72 (nx := 73) rfl ?_
          refine m_ald10 dX7_move_73 (nx := 74) rfl ⟨by omega, by omega⟩ ?_
          refine v_if_eq dX7_move_74 (tgt := 80) (by decide) (nx := 77) rfl (by first | assumption | exact hR _ | exact ⟨by omega, by omega⟩) (fun c74 => ?_) (fun c74 => ?_)
          · refine v_aload_n 0 dX7_move_80 (nx := 81) rfl rfl ?_
            refine m_gA 10 (p := 0) dX7_move_81 (nx := 84) rfl (by decide) fl_X7_9 rfl ?_
            refine v_iload_n 3 dX7_move_84 (nx := 85) rfl rfl ?_
            refine v_iconst dX7_move_85 (nx := 86) rfl ?_
            refine v_iadd dX7_move_86 (nx := 87) rfl ?_
            refine v_iload 4 dX7_move_87 (nx := 89) rfl rfl ?_
            refine v_iconst dX7_move_89 (nx := 90) rfl ?_
            refine v_iadd dX7_move_90 (nx := 91) rfl ?_
            refine m_ast10 dX7_move_91 (nx := 92) rfl ⟨by omega, by omega⟩ ?_
            refine v_aload_n 0 dX7_move_92 (nx := 93) rfl rfl ?_
            refine m_gA 10 (p := 0) dX7_move_93 (nx := 96) rfl (by decide) fl_X7_9 rfl ?_
            refine v_iload_n 3 dX7_move_96 (nx := 97) rfl rfl ?_
            refine v_iconst dX7_move_97 (nx := 98) rfl ?_
            refine m_ast10 dX7_move_98 (nx := 99) rfl ⟨by omega, by omega⟩ ?_
            refine v_aload_n 0 dX7_move_99 (nx := 100) rfl rfl ?_
            refine m_gA 10 (p := 0) dX7_move_100 (nx := 103) rfl (by decide) fl_X7_9 rfl ?_
            refine v_sipush dX7_move_103 (nx := 106) rfl rfl ?_
            refine v_iload 4 dX7_move_106 (nx := 108) rfl rfl ?_
            refine v_iadd dX7_move_108 (nx := 109) rfl ?_
            refine v_iload_n 2 dX7_move_109 (nx := 110) rfl rfl ?_
            refine v_iconst dX7_move_110 (nx := 111) rfl ?_
            refine v_iadd dX7_move_111 (nx := 112) rfl ?_
            refine m_ast10 dX7_move_112 (nx := 113) rfl ⟨by omega, by omega⟩ ?_
            refine v_iinc 2 dX7_move_113 (nx := 116) rfl rfl rfl (by decide) ?_
            refine v_goto dX7_move_116 (tgt := 26) (by decide) ?_
            exact V.lpick [0, 1, 2] rfl ((by
    have hs : mvs G b (c + 1).toNat M = mvs G b c.toNat (uI (uI (uI M (148 + 12 * b + c + 1) (M (148 + 12 * b + c) - 1 + 1)) (148 + 12 * b + c) 0) (604 + (M (148 + 12 * b + c) - 1)) (c + 1)) := by
      rw [e1]
      show mvs G b c.toNat (mv1 M G b (c.toNat : Int)) = _
      rw [e2]
      unfold mv1
      rw [if_neg (by omega)]
    rw [hs, show c.toNat = (c + -1 + 1).toNat by omega]
    exact ih _ _ ⟨by omega, by omega⟩ (by omega) (inR_uI (inR_uI (inR_uI hR ⟨by omega, by omega⟩) ⟨by decide, by decide⟩) ⟨by omega, by omega⟩) (fun x x0 x1 => by
      have hx := hM x x0 x1
      rw [uI_n (by omega)]
      by_cases q1 : 148 + 12 * b + x = 148 + 12 * b + c
      · rw [q1, uI_s]; omega
      · rw [uI_n q1]
        by_cases q2 : 148 + 12 * b + x = 148 + 12 * b + c + 1
        · rw [q2, uI_s]; omega
        · rw [uI_n q2]; exact hx)))
          · refine v_goto dX7_move_77 (tgt := 113) (by decide) ?_
            refine v_iinc 2 dX7_move_113 (nx := 116) rfl rfl rfl (by decide) ?_
            refine v_goto dX7_move_116 (tgt := 26) (by decide) ?_
            exact V.lpick [0, 1, 2] rfl ((by
    have hs : mvs G b (c + 1).toNat M = mvs G b c.toNat M := by
      rw [e1]
      show mvs G b c.toNat (mv1 M G b (c.toNat : Int)) = _
      rw [e2]
      unfold mv1
      rw [if_pos (by omega)]
    rw [hs, show c.toNat = (c + -1 + 1).toNat by omega]
    exact ih _ _ ⟨by omega, by omega⟩ (by omega) hR hM))

set_option maxRecDepth 100000 in
theorem c_X7_move {g : GG} {kp : Bool} {σ : SS} {N K G F : Int → Int} {k f : Int} {kk : Int} (hI : IV N kk) (hG : ∀ g, G g = 0 ∨ G g = 1) (b : Int) (hb : 0 ≤ b ∧ b < N 1) : XC g kp 0 mX7_move [rf g (ad 14 0 0), vi b] (mkS σ N K G F k f) none (mkS σ (mvN N G b) K G F k f) := by
  refine TC.of (by decide) (Nat.le_of_ble_eq_true rfl) rfl ?_
  obtain ⟨b0, b1, b2, b3, b4, b5⟩ := hI.n
  have hR := hI.r
  obtain ⟨q1, q2, q3, q4, q5, q6⟩ := hI.b hb.1 hb.2
  refine v_aload_n 0 dX7_move_0 (nx := 1) rfl rfl ?_
  refine m_gA 10 (p := 0) dX7_move_1 (nx := 4) rfl (by decide) fl_X7_9 rfl ?_
  refine v_bipush dX7_move_4 (nx := 6) rfl rfl ?_
  refine v_iload_n 1 dX7_move_6 (nx := 7) rfl rfl ?_
  refine v_iadd dX7_move_7 (nx := 8) rfl ?_
  refine m_ald10 dX7_move_8 (nx := 9) rfl ⟨by omega, by omega⟩ ?_
  refine v_iconst dX7_move_9 (nx := 10) rfl ?_
  refine v_icmp_ne dX7_move_10 (tgt := 14) (by decide) (nx := 13) rfl (by first | assumption | exact hR _ | exact ⟨by omega, by omega⟩) (by first | assumption | exact hR _ | exact ⟨by omega, by omega⟩) (fun c10 => ?_) (fun c10 => ?_)
  · refine v_aload_n 0 dX7_move_14 (nx := 15) rfl rfl ?_
    refine m_gA 10 (p := 0) dX7_move_15 (nx := 18) rfl (by decide) fl_X7_9 rfl ?_
    refine v_bipush dX7_move_18 (nx := 20) rfl rfl ?_
    refine v_iload_n 1 dX7_move_20 (nx := 21) rfl rfl ?_
    refine v_iadd dX7_move_21 (nx := 22) rfl ?_
    refine m_ald10 dX7_move_22 (nx := 23) rfl ⟨by omega, by omega⟩ ?_
    refine v_iconst dX7_move_23 (nx := 24) rfl ?_
    refine v_isub dX7_move_24 (nx := 25) rfl ?_
    refine v_istore_n dX7_move_25 (nx := 26) rfl rfl (by decide) ?_
    exact (by
    have := l_X7_move (g := g) (kp := kp) (σ := σ) (K := K) (F := F) (k := k) (f := f) (N := N) hG b (by omega) 13 (N (100 + b) - 2) N ⟨by omega, by omega⟩ (by omega) hR (fun c c0 c1 => by have := hI.cv hb.1 hb.2 c0 c1; omega)
    rw [show N (100 + b) - 2 + 1 = N (100 + b) - 1 by omega] at this
    rw [show mvN N G b = mvs G b (N (100 + b) - 1).toNat N by unfold mvN; rw [if_neg (by omega)]]
    exact this)
  · exact t_ret dX7_move_13 rfl ⟨rfl, by unfold mvN; rw [if_pos (by omega)]⟩

theorem rdyN_b {N G : NN} {kk b : Int} (hI : IV N kk) (hb : 0 ≤ b ∧ b < N 1) : rdyN N G b = -1 ∨ (0 ≤ rdyN N G b ∧ rdyN N G b < N 3 ∧ rdyN N G b = N (148 + 12 * b + N (100 + b) - 1) - 1 ∧ G (rdyN N G b) = 0 ∧ N (116 + b) = 0) := by
  obtain ⟨q1, q2, q3, q4, q5, q6⟩ := hI.b hb.1 hb.2
  have hcv := hI.cv (c := N (100 + b) - 1) hb.1 hb.2 (by omega) (by omega)
  rw [show 148 + 12 * b + (N (100 + b) - 1) = 148 + 12 * b + N (100 + b) - 1 by omega] at hcv
  unfold rdyN
  by_cases h1 : N (116 + b) = 1
  · rw [if_pos h1]; exact Or.inl rfl
  · rw [if_neg h1]
    by_cases h2 : N (148 + 12 * b + N (100 + b) - 1) - 1 < 0 ∨ G (N (148 + 12 * b + N (100 + b) - 1) - 1) ≠ 0
    · rw [if_pos h2]; exact Or.inl rfl
    · rw [if_neg h2]
      exact Or.inr ⟨by omega, by omega, rfl, Classical.byContradiction fun q => h2 (Or.inr q), by omega⟩
theorem inR_lies {N : NN} {g w p d : Int} (h : ∀ j, inR (N j)) (h1 : inR w) (h2 : inR p) (h3 : inR d) (j : Int) : inR (liesN N g w p d j) := inR_uI (inR_uI (inR_uI h h1) h2) h3 j
theorem lies_lo {N : NN} {g w p d j : Int} (hg : 0 ≤ g) (h : j < 484) : liesN N g w p d j = N j := by
  unfold liesN
  rw [uI_n (by omega), uI_n (by omega), uI_n (by omega)]
theorem lies_hi {N : NN} {g w p d j : Int} (hg : g < 60) (h : 664 ≤ j) : liesN N g w p d j = N j := by
  unfold liesN
  rw [uI_n (by omega), uI_n (by omega), uI_n (by omega)]

set_option maxRecDepth 100000 in
theorem c_X7_takeFrom {g : GG} {kp : Bool} {σ : SS} {N K G F : Int → Int} {k f : Int} {kk : Int} (hI : IV N kk) (hG : ∀ g, G g = 0 ∨ G g = 1) (b p w : Int) (hb : 0 ≤ b ∧ b < N 1) (hp : 0 ≤ p ∧ p < 12) (hw : 0 ≤ w ∧ w ≤ 7) (hr : 0 ≤ rdyN N G b) : XC g kp 1 mX7_takeFrom [rf g (ad 14 0 0), vi b, vi p, vi w] (mkS σ N K G F k f) none (mkS σ (tkN N G b p w) K G F k f) := by
  refine TC.of (by decide) (Nat.le_of_ble_eq_true rfl) rfl ?_
  obtain ⟨b0, b1, b2, b3, b4, b5⟩ := hI.n
  have hR := hI.r
  obtain ⟨q1, q2, q3, q4, q5, q6⟩ := hI.b hb.1 hb.2
  have hrb := rdyN_b (G := G) hI hb
  have hg6 := hI.g (g := rdyN N G b) (by omega) (by omega)
  have hst := hg6.2.2.1
  refine v_aload_n 0 dX7_takeFrom_0 (nx := 1) rfl rfl ?_
  refine v_iload_n 1 dX7_takeFrom_1 (nx := 2) rfl rfl ?_
  refine t_callVi (a := 14) (c_X7_ready hI hG _ hb) dX7_takeFrom_2 (nx := 5) rfl kX7_ready ml_X7_100 (by decide) (ok_m 14 rfl) rfl rfl rfl rfl (Nat.le_of_ble_eq_true rfl) ⟨by decide, by decide⟩ ⟨by decide, by decide⟩ ?_
  refine v_istore dX7_takeFrom_5 (nx := 7) rfl rfl (by decide) ?_
  refine v_aload_n 0 dX7_takeFrom_7 (nx := 8) rfl rfl ?_
  refine m_gA 10 (p := 0) dX7_takeFrom_8 (nx := 11) rfl (by decide) fl_X7_9 rfl ?_
  refine v_sipush dX7_takeFrom_11 (nx := 14) rfl rfl ?_
  refine v_bipush dX7_takeFrom_14 (nx := 16) rfl rfl ?_
  refine v_iload_n 1 dX7_takeFrom_16 (nx := 17) rfl rfl ?_
  refine v_imul dX7_takeFrom_17 (nx := 18) rfl ?_
  refine v_iadd dX7_takeFrom_18 (nx := 19) rfl ?_
  refine v_aload_n 0 dX7_takeFrom_19 (nx := 20) rfl rfl ?_
  refine m_gA 10 (p := 0) dX7_takeFrom_20 (nx := 23) rfl (by decide) fl_X7_9 rfl ?_
  refine v_bipush dX7_takeFrom_23 (nx := 25) rfl rfl ?_
  refine v_iload_n 1 dX7_takeFrom_25 (nx := 26) rfl rfl ?_
  refine v_iadd dX7_takeFrom_26 (nx := 27) rfl ?_
  refine m_ald10 dX7_takeFrom_27 (nx := 28) rfl ⟨by omega, by omega⟩ ?_
  refine v_iadd dX7_takeFrom_28 (nx := 29) rfl ?_
  refine v_iconst dX7_takeFrom_29 (nx := 30) rfl ?_
  refine v_isub dX7_takeFrom_30 (nx := 31) rfl ?_
  refine v_iconst dX7_takeFrom_31 (nx := 32) rfl ?_
  refine m_ast10 dX7_takeFrom_32 (nx := 33) rfl ⟨by omega, by omega⟩ ?_
  refine v_aload_n 0 dX7_takeFrom_33 (nx := 34) rfl rfl ?_
  refine v_iload 4 dX7_takeFrom_34 (nx := 36) rfl rfl ?_
  refine v_iload_n 3 dX7_takeFrom_36 (nx := 37) rfl rfl ?_
  refine v_iload_n 2 dX7_takeFrom_37 (nx := 38) rfl rfl ?_
  refine v_aload_n 0 dX7_takeFrom_38 (nx := 39) rfl rfl ?_
  refine m_gA 10 (p := 0) dX7_takeFrom_39 (nx := 42) rfl (by decide) fl_X7_9 rfl ?_
  refine v_iconst dX7_takeFrom_42 (nx := 43) rfl ?_
  refine m_ald10e (z := N 4) dX7_takeFrom_43 (nx := 44) rfl ⟨by omega, by omega⟩ (by first | rfl | (repeat rw [uI_n (by omega)])) ?_
  refine t_callVv (a := 14) (c_X7_lies _ _ _ _ (by omega)) dX7_takeFrom_44 (nx := 47) rfl kX7_lies ml_X7_45 (by decide) (ok_m 14 rfl) rfl rfl rfl rfl (Nat.le_of_ble_eq_true rfl) ⟨by decide, by decide⟩ ⟨by decide, by decide⟩ ?_
  refine v_iload_n 3 dX7_takeFrom_47 (nx := 48) rfl rfl ?_
  refine v_iconst dX7_takeFrom_48 (nx := 49) rfl ?_
  refine v_icmp_ne dX7_takeFrom_49 (tgt := 65) (by decide) (nx := 52) rfl (by first | assumption | exact hR _ | exact ⟨by omega, by omega⟩) (by first | assumption | exact hR _ | exact ⟨by omega, by omega⟩) (fun c49 => ?_) (fun c49 => ?_)
  · refine v_aload_n 0 dX7_takeFrom_65 (nx := 66) rfl rfl ?_
    refine v_iload 4 dX7_takeFrom_66 (nx := 68) rfl rfl ?_
    refine v_iload_n 2 dX7_takeFrom_68 (nx := 69) rfl rfl ?_
    refine t_callVv (a := 14) (c_X7_goes (by first | exact inR_uI (inR_lies (inR_uI hR ⟨by decide, by decide⟩) ⟨by omega, by omega⟩ ⟨by omega, by omega⟩ (hR 4)) ⟨by omega, by omega⟩ | exact inR_lies (inR_uI hR ⟨by decide, by decide⟩) ⟨by omega, by omega⟩ ⟨by omega, by omega⟩ (hR 4)) _ _ (by omega) (by first | (rw [uI_n (by omega), lies_hi (by omega) (by omega), uI_n (by omega)]; omega) | (rw [lies_hi (by omega) (by omega), uI_n (by omega)]; omega))) dX7_takeFrom_69 (nx := 72) rfl kX7_goes ml_X7_91 (by decide) (ok_m 14 rfl) rfl rfl rfl rfl (Nat.le_of_ble_eq_true rfl) ⟨by decide, by decide⟩ ⟨by decide, by decide⟩ ?_
    exact t_ret dX7_takeFrom_72 rfl ⟨rfl, by unfold tkN; first | rw [if_pos (by omega)] | rw [if_neg (by omega)]⟩
  · refine v_aload_n 0 dX7_takeFrom_52 (nx := 53) rfl rfl ?_
    refine m_gA 10 (p := 0) dX7_takeFrom_53 (nx := 56) rfl (by decide) fl_X7_9 rfl ?_
    refine v_bipush dX7_takeFrom_56 (nx := 58) rfl rfl ?_
    refine v_iload_n 2 dX7_takeFrom_58 (nx := 59) rfl rfl ?_
    refine v_iadd dX7_takeFrom_59 (nx := 60) rfl ?_
    refine v_iload 4 dX7_takeFrom_60 (nx := 62) rfl rfl ?_
    refine v_iconst dX7_takeFrom_62 (nx := 63) rfl ?_
    refine v_iadd dX7_takeFrom_63 (nx := 64) rfl ?_
    refine m_ast10 dX7_takeFrom_64 (nx := 65) rfl ⟨by omega, by omega⟩ ?_
    refine v_aload_n 0 dX7_takeFrom_65 (nx := 66) rfl rfl ?_
    refine v_iload 4 dX7_takeFrom_66 (nx := 68) rfl rfl ?_
    refine v_iload_n 2 dX7_takeFrom_68 (nx := 69) rfl rfl ?_
    refine t_callVv (a := 14) (c_X7_goes (by first | exact inR_uI (inR_lies (inR_uI hR ⟨by decide, by decide⟩) ⟨by omega, by omega⟩ ⟨by omega, by omega⟩ (hR 4)) ⟨by omega, by omega⟩ | exact inR_lies (inR_uI hR ⟨by decide, by decide⟩) ⟨by omega, by omega⟩ ⟨by omega, by omega⟩ (hR 4)) _ _ (by omega) (by first | (rw [uI_n (by omega), lies_hi (by omega) (by omega), uI_n (by omega)]; omega) | (rw [lies_hi (by omega) (by omega), uI_n (by omega)]; omega))) dX7_takeFrom_69 (nx := 72) rfl kX7_goes ml_X7_91 (by decide) (ok_m 14 rfl) rfl rfl rfl rfl (Nat.le_of_ble_eq_true rfl) ⟨by decide, by decide⟩ ⟨by decide, by decide⟩ ?_
    exact t_ret dX7_takeFrom_72 rfl ⟨rfl, by unfold tkN; first | rw [if_pos (by omega)] | rw [if_neg (by omega)]⟩

set_option maxRecDepth 100000 in
theorem l_X7_readyInlet {g : GG} {kp : Bool} {σ : SS} {N K G F : Int → Int} {k f : Int} {kk : Int} (hI : IV N kk) (hG : ∀ g, G g = 0 ∨ G g = 1) (p : Int) (hp : inR p) : ∀ (m : Nat) (x : Int), (0 ≤ x ∧ x ≤ N 1) → (N 1 - x < m) → (∀ y, 0 ≤ y → y < x → (fun y => decide (N (84 + y) = p ∧ 0 ≤ rdyN N G y)) y = false) → V g (rmD 1 0 0) mX7_readyInlet (ZT g kp (fun r τ => r = (some (vi (rdyI N G p))) ∧ τ = (mkS σ N K G F k f))) E0 2 [(0, rf g (ad 14 0 0)), (1, vi p), (2, vi x)] [] (vw g kp (mkS σ N K G F k f)) (sz kp) 0 0 := by
  intro m
  induction m with
  | zero => intro x hx hm hn; exfalso; omega
  | succ m ih =>
    intro x hx hm hn
    obtain ⟨b0, b1, b2, b3, b4, b5⟩ := hI.n
    have hR := hI.r
    refine v_iload_n 2 dX7_readyInlet_2 (nx := 3) rfl rfl ?_
    refine v_aload_n 0 dX7_readyInlet_3 (nx := 4) rfl rfl ?_
    refine m_gA 10 (p := 0) dX7_readyInlet_4 (nx := 7) rfl (by decide) fl_X7_9 rfl ?_
    refine v_iconst dX7_readyInlet_7 (nx := 8) rfl ?_
    refine m_ald10 dX7_readyInlet_8 (nx := 9) rfl ⟨by omega, by omega⟩ ?_
    refine v_icmp_ge dX7_readyInlet_9 (tgt := 41) (by decide) (nx := 12) rfl (by first | assumption | exact hR _ | exact ⟨by omega, by omega⟩) (by first | assumption | exact hR _ | exact ⟨by omega, by omega⟩) (fun c9 => ?_) (fun c9 => ?_)
    · refine v_iconst dX7_readyInlet_41 (nx := 42) rfl ?_
      exact t_iret dX7_readyInlet_42 rfl ⟨by rw [show -1 = rdyI N G p from fstI_eq (by omega) (by omega) (Or.inl ⟨rfl, fun y y0 y1 => hn y y0 (by omega)⟩)], rfl⟩
    · refine v_aload_n 0 dX7_readyInlet_12 (nx := 13) rfl rfl ?_
      refine m_gA 10 (p := 0) dX7_readyInlet_13 (nx := 16) rfl (by decide) fl_X7_9 rfl ?_
      refine v_bipush dX7_readyInlet_16 (nx := 18) rfl rfl ?_
      refine v_iload_n 2 dX7_readyInlet_18 (nx := 19) rfl rfl ?_
      refine v_iadd dX7_readyInlet_19 (nx := 20) rfl ?_
      refine m_ald10 dX7_readyInlet_20 (nx := 21) rfl ⟨by omega, by omega⟩ ?_
      refine v_iload_n 1 dX7_readyInlet_21 (nx := 22) rfl rfl ?_
      refine v_icmp_ne dX7_readyInlet_22 (tgt := 35) (by decide) (nx := 25) rfl (by first | assumption | exact hR _ | exact ⟨by omega, by omega⟩) (by first | assumption | exact hR _ | exact ⟨by omega, by omega⟩) (fun c22 => ?_) (fun c22 => ?_)
      · refine v_iinc 2 dX7_readyInlet_35 (nx := 38) rfl rfl rfl (by decide) ?_
        refine v_goto dX7_readyInlet_38 (tgt := 2) (by decide) ?_
        exact (ih _ ⟨by omega, by omega⟩ (by omega) (fun y y0 y1 => by
    by_cases e : y = x
    · subst e; exact decide_eq_false (by omega)
    · exact hn y y0 (by omega)))
      · have hrb := rdyN_b (G := G) hI (b := x) (by omega)
        refine v_aload_n 0 dX7_readyInlet_25 (nx := 26) rfl rfl ?_
        refine v_iload_n 2 dX7_readyInlet_26 (nx := 27) rfl rfl ?_
        refine t_callVi (a := 14) (c_X7_ready hI hG _ (by omega)) dX7_readyInlet_27 (nx := 30) rfl kX7_ready ml_X7_100 (by decide) (ok_m 14 rfl) rfl rfl rfl rfl (Nat.le_of_ble_eq_true rfl) ⟨by decide, by decide⟩ ⟨by decide, by decide⟩ ?_
        refine v_if_lt dX7_readyInlet_30 (tgt := 35) (by decide) (nx := 33) rfl (by first | assumption | exact hR _ | exact ⟨by omega, by omega⟩) (fun c30 => ?_) (fun c30 => ?_)
        · refine v_iinc 2 dX7_readyInlet_35 (nx := 38) rfl rfl rfl (by decide) ?_
          refine v_goto dX7_readyInlet_38 (tgt := 2) (by decide) ?_
          exact (ih _ ⟨by omega, by omega⟩ (by omega) (fun y y0 y1 => by
    by_cases e : y = x
    · subst e; exact decide_eq_false (by omega)
    · exact hn y y0 (by omega)))
        · refine v_iload_n 2 dX7_readyInlet_33 (nx := 34) rfl rfl ?_
          exact t_iret dX7_readyInlet_34 rfl ⟨by rw [show x = rdyI N G p from fstI_eq (by omega) (by omega) (Or.inr ⟨by omega, by omega, decide_eq_true (by omega), hn⟩)], rfl⟩

set_option maxRecDepth 100000 in
theorem c_X7_readyInlet {g : GG} {kp : Bool} {σ : SS} {N K G F : Int → Int} {k f : Int} {kk : Int} (hI : IV N kk) (hG : ∀ g, G g = 0 ∨ G g = 1) (p : Int) (hp : inR p) : XC g kp 1 mX7_readyInlet [rf g (ad 14 0 0), vi p] (mkS σ N K G F k f) (some (vi (rdyI N G p))) (mkS σ N K G F k f) := by
  refine TC.of (by decide) (Nat.le_of_ble_eq_true rfl) rfl ?_
  obtain ⟨b0, b1, b2, b3, b4, b5⟩ := hI.n
  have hR := hI.r
  refine v_iconst dX7_readyInlet_0 (nx := 1) rfl ?_
  refine v_istore_n dX7_readyInlet_1 (nx := 2) rfl rfl (by decide) ?_
  exact (l_X7_readyInlet hI hG p hp (N 1 + 1).toNat 0 ⟨by omega, by omega⟩ (by omega) (fun y y0 y1 => by omega))

set_option maxRecDepth 100000 in
theorem l_X7_inlets {g : GG} {kp : Bool} {σ : SS} {N K G F : Int → Int} {k f : Int} (hR : ∀ j, inR (N j)) (p : Int) (hp : inR p) (b1 : 0 ≤ N 1 ∧ N 1 ≤ 16) : ∀ (m : Nat) (x c : Int), (0 ≤ x ∧ x ≤ N 1) → (N 1 - x < m) → (c = cntI (inl N p) x) → V g (rmD 0 0 0) mX7_inlets (ZT g kp (fun r τ => r = (some (vi (cntI (inl N p) (N 1)))) ∧ τ = (mkS σ N K G F k f))) E0 4 [(0, rf g (ad 14 0 0)), (1, vi p), (2, vi c), (3, vi x)] [] (vw g kp (mkS σ N K G F k f)) (sz kp) 0 0 := by
  intro m
  induction m with
  | zero => intro x c hx hm hc; exfalso; omega
  | succ m ih =>
    intro x c hx hm hc
    have hcb := cntI_b (P := inl N p) hx.1
    rw [← hc] at hcb
    refine v_iload_n 3 dX7_inlets_4 (nx := 5) rfl rfl ?_
    refine v_aload_n 0 dX7_inlets_5 (nx := 6) rfl rfl ?_
    refine m_gA 10 (p := 0) dX7_inlets_6 (nx := 9) rfl (by decide) fl_X7_9 rfl ?_
    refine v_iconst dX7_inlets_9 (nx := 10) rfl ?_
    refine m_ald10 dX7_inlets_10 (nx := 11) rfl ⟨by omega, by omega⟩ ?_
    refine v_icmp_ge dX7_inlets_11 (tgt := 41) (by decide) (nx := 14) rfl (by first | assumption | exact hR _ | exact ⟨by omega, by omega⟩) (by first | assumption | exact hR _ | exact ⟨by omega, by omega⟩) (fun c11 => ?_) (fun c11 => ?_)
    · refine v_iload_n 2 dX7_inlets_41 (nx := 42) rfl rfl ?_
      exact t_iret dX7_inlets_42 rfl ⟨by rw [hc, show x = N 1 by omega], rfl⟩
    · refine v_iload_n 2 dX7_inlets_14 (nx := 15) rfl rfl ?_
      refine v_aload_n 0 dX7_inlets_15 (nx := 16) rfl rfl ?_
      refine m_gA 10 (p := 0) dX7_inlets_16 (nx := 19) rfl (by decide) fl_X7_9 rfl ?_
      refine v_bipush dX7_inlets_19 (nx := 21) rfl rfl ?_
      refine v_iload_n 3 dX7_inlets_21 (nx := 22) rfl rfl ?_
      refine v_iadd dX7_inlets_22 (nx := 23) rfl ?_
      refine m_ald10 dX7_inlets_23 (nx := 24) rfl ⟨by omega, by omega⟩ ?_
      refine v_iload_n 1 dX7_inlets_24 (nx := 25) rfl rfl ?_
      refine v_icmp_ne dX7_inlets_25 (tgt := 32) (by decide) (nx := 28) rfl (by first | assumption | exact hR _ | exact ⟨by omega, by omega⟩) (by first | assumption | exact hR _ | exact ⟨by omega, by omega⟩) (fun c25 => ?_) (fun c25 => ?_)
      · refine v_iconst dX7_inlets_32 (nx := 33) rfl ?_
        refine v_iadd dX7_inlets_33 (nx := 34) rfl ?_
        refine v_istore_n dX7_inlets_34 (nx := 35) rfl rfl (by decide) ?_
        refine v_iinc 3 dX7_inlets_35 (nx := 38) rfl rfl rfl (by decide) ?_
        refine v_goto dX7_inlets_38 (tgt := 4) (by decide) ?_
        exact ih _ _ ⟨by omega, by omega⟩ (by omega) (by first | exact cn_t hc hx.1 (decide_eq_true (by omega)) | exact cn_f hc hx.1 (decide_eq_false (by omega)) | exact cn_n hc hx.1 (decide_eq_false (by omega)))
      · refine v_iconst dX7_inlets_28 (nx := 29) rfl ?_
        refine v_goto dX7_inlets_29 (tgt := 33) (by decide) ?_
        refine v_iadd dX7_inlets_33 (nx := 34) rfl ?_
        refine v_istore_n dX7_inlets_34 (nx := 35) rfl rfl (by decide) ?_
        refine v_iinc 3 dX7_inlets_35 (nx := 38) rfl rfl rfl (by decide) ?_
        refine v_goto dX7_inlets_38 (tgt := 4) (by decide) ?_
        exact ih _ _ ⟨by omega, by omega⟩ (by omega) (by first | exact cn_t hc hx.1 (decide_eq_true (by omega)) | exact cn_f hc hx.1 (decide_eq_false (by omega)) | exact cn_n hc hx.1 (decide_eq_false (by omega)))

set_option maxRecDepth 100000 in
theorem c_X7_inlets {g : GG} {kp : Bool} {σ : SS} {N K G F : Int → Int} {k f : Int} (hR : ∀ j, inR (N j)) (p : Int) (hp : inR p) (b1 : 0 ≤ N 1 ∧ N 1 ≤ 16) : XC g kp 0 mX7_inlets [rf g (ad 14 0 0), vi p] (mkS σ N K G F k f) (some (vi (cntI (inl N p) (N 1)))) (mkS σ N K G F k f) := by
  refine TC.of (by decide) (Nat.le_of_ble_eq_true rfl) rfl ?_
  refine v_iconst dX7_inlets_0 (nx := 1) rfl ?_
  refine v_istore_n dX7_inlets_1 (nx := 2) rfl rfl (by decide) ?_
  refine v_iconst dX7_inlets_2 (nx := 3) rfl ?_
  refine v_istore_n dX7_inlets_3 (nx := 4) rfl rfl (by decide) ?_
  exact l_X7_inlets hR p hp b1 (N 1 + 1).toNat 0 0 ⟨by omega, by omega⟩ (by omega) cntI_0.symm

set_option maxRecDepth 100000 in
theorem l_X7_nextInlet2 {g : GG} {kp : Bool} {σ : SS} {N K G F : Int → Int} {k f : Int} (hR : ∀ j, inR (N j)) (p b : Int) (hp : inR p) (b1 : 0 ≤ N 1 ∧ N 1 ≤ 16) (hb : -1 ≤ b ∧ b < N 1) : ∀ (m : Nat) (x : Int), (b + 1 ≤ x ∧ x ≤ N 1) → (N 1 - x < m) → (∀ y, b + 1 ≤ y → y < x → inl N p y = false) → V g (rmD 0 0 0) mX7_nextInlet (ZT g kp (fun r τ => r = (some (vi (nxtI N p b))) ∧ τ = (mkS σ N K G F k f))) E0 49 [(0, rf g (ad 14 0 0)), (1, vi p), (2, vi b), (3, vi (fstI (inl N p) 0 (N 1))), (4, vi x)] [] (vw g kp (mkS σ N K G F k f)) (sz kp) 0 0 := by
  intro m
  induction m with
  | zero => intro x hx hm hn; exfalso; omega
  | succ m ih =>
    intro x hx hm hn
    refine v_iload 4 dX7_nextInlet_49 (nx := 51) rfl rfl ?_
    refine v_aload_n 0 dX7_nextInlet_51 (nx := 52) rfl rfl ?_
    refine m_gA 10 (p := 0) dX7_nextInlet_52 (nx := 55) rfl (by decide) fl_X7_9 rfl ?_
    refine v_iconst dX7_nextInlet_55 (nx := 56) rfl ?_
    refine m_ald10 dX7_nextInlet_56 (nx := 57) rfl ⟨by omega, by omega⟩ ?_
    refine v_icmp_ge dX7_nextInlet_57 (tgt := 83) (by decide) (nx := 60) rfl (by first | assumption | exact hR _ | exact ⟨by omega, by omega⟩) (by first | assumption | exact hR _ | exact ⟨by omega, by omega⟩) (fun c57 => ?_) (fun c57 => ?_)
    · refine v_iload_n 3 dX7_nextInlet_83 (nx := 84) rfl rfl ?_
      exact t_iret dX7_nextInlet_84 rfl ⟨by unfold nxtI; rw [← show -1 = fstI (inl N p) (b + 1) (N 1) from fstI_eq (by omega) (by omega) (Or.inl ⟨rfl, fun y y0 y1 => hn y y0 (by omega)⟩), if_neg (by omega)], rfl⟩
    · refine v_aload_n 0 dX7_nextInlet_60 (nx := 61) rfl rfl ?_
      refine m_gA 10 (p := 0) dX7_nextInlet_61 (nx := 64) rfl (by decide) fl_X7_9 rfl ?_
      refine v_bipush dX7_nextInlet_64 (nx := 66) rfl rfl ?_
      refine v_iload 4 dX7_nextInlet_66 (nx := 68) rfl rfl ?_
      refine v_iadd dX7_nextInlet_68 (nx := 69) rfl ?_
      refine m_ald10 dX7_nextInlet_69 (nx := 70) rfl ⟨by omega, by omega⟩ ?_
      refine v_iload_n 1 dX7_nextInlet_70 (nx := 71) rfl rfl ?_
      refine v_icmp_ne dX7_nextInlet_71 (tgt := 77) (by decide) (nx := 74) rfl (by first | assumption | exact hR _ | exact ⟨by omega, by omega⟩) (by first | assumption | exact hR _ | exact ⟨by omega, by omega⟩) (fun c71 => ?_) (fun c71 => ?_)
      · refine v_iinc 4 dX7_nextInlet_77 (nx := 80) rfl rfl rfl (by decide) ?_
        refine v_goto dX7_nextInlet_80 (tgt := 49) (by decide) ?_
        exact (ih _ ⟨by omega, by omega⟩ (by omega) (fun y y0 y1 => by
    by_cases e : y = x
    · subst e; exact decide_eq_false (by omega)
    · exact hn y y0 (by omega)))
      · refine v_iload 4 dX7_nextInlet_74 (nx := 76) rfl rfl ?_
        exact t_iret dX7_nextInlet_76 rfl ⟨by unfold nxtI; rw [← show x = fstI (inl N p) (b + 1) (N 1) from fstI_eq (by omega) (by omega) (Or.inr ⟨by omega, by omega, decide_eq_true (by omega), hn⟩), if_pos (by omega)], rfl⟩

set_option maxRecDepth 100000 in
theorem l_X7_nextInlet1 {g : GG} {kp : Bool} {σ : SS} {N K G F : Int → Int} {k f : Int} (hR : ∀ j, inR (N j)) (p b : Int) (hp : inR p) (b1 : 0 ≤ N 1 ∧ N 1 ≤ 16) (hb : -1 ≤ b ∧ b < N 1) : ∀ (m : Nat) (x c : Int), (-1 ≤ x ∧ x < N 1) → (x + 1 < m) → (isF (inl N p) (x + 1) (N 1) c) → V g (rmD 0 0 0) mX7_nextInlet (ZT g kp (fun r τ => r = (some (vi (nxtI N p b))) ∧ τ = (mkS σ N K G F k f))) E0 12 [(0, rf g (ad 14 0 0)), (1, vi p), (2, vi b), (3, vi c), (4, vi x)] [] (vw g kp (mkS σ N K G F k f)) (sz kp) 0 0 := by
  intro m
  induction m with
  | zero => intro x c hx hm hc; exfalso; omega
  | succ m ih =>
    intro x c hx hm hc
    refine v_iload 4 dX7_nextInlet_12 (nx := 14) rfl rfl ?_
    refine v_if_lt dX7_nextInlet_14 (tgt := 44) (by decide) (nx := 17) rfl (by first | assumption | exact hR _ | exact ⟨by omega, by omega⟩) (fun c14 => ?_) (fun c14 => ?_)
    · refine v_iload_n 2 dX7_nextInlet_44 (nx := 45) rfl rfl ?_
      refine v_iconst dX7_nextInlet_45 (nx := 46) rfl ?_
      refine v_iadd dX7_nextInlet_46 (nx := 47) rfl ?_
      refine v_istore dX7_nextInlet_47 (nx := 49) rfl rfl (by decide) ?_
      exact (by
    have e : c = fstI (inl N p) 0 (N 1) := fstI_eq (by omega) (by omega) (by rw [show (0 : Int) = x + 1 by omega]; exact hc)
    rw [e]
    exact l_X7_nextInlet2 hR p b hp b1 hb (N 1 + 2).toNat (b + 1) ⟨by omega, by omega⟩ (by omega) (fun y y0 y1 => by omega))
    · refine v_aload_n 0 dX7_nextInlet_17 (nx := 18) rfl rfl ?_
      refine m_gA 10 (p := 0) dX7_nextInlet_18 (nx := 21) rfl (by decide) fl_X7_9 rfl ?_
      refine v_bipush dX7_nextInlet_21 (nx := 23) rfl rfl ?_
      refine v_iload 4 dX7_nextInlet_23 (nx := 25) rfl rfl ?_
      refine v_iadd dX7_nextInlet_25 (nx := 26) rfl ?_
      refine m_ald10 dX7_nextInlet_26 (nx := 27) rfl ⟨by omega, by omega⟩ ?_
      refine v_iload_n 1 dX7_nextInlet_27 (nx := 28) rfl rfl ?_
      refine v_icmp_ne dX7_nextInlet_28 (tgt := 36) (by decide) (nx := 31) rfl (by first | assumption | exact hR _ | exact ⟨by omega, by omega⟩) (by first | assumption | exact hR _ | exact ⟨by omega, by omega⟩) (fun c28 => ?_) (fun c28 => ?_)
      · refine v_iload_n 3 dX7_nextInlet_36 (nx := 37) rfl rfl ?_
        refine v_istore_n dX7_nextInlet_37 (nx := 38) rfl rfl (by decide) ?_
        refine v_iinc 4 dX7_nextInlet_38 (nx := 41) rfl rfl rfl (by decide) ?_
        refine v_goto dX7_nextInlet_41 (tgt := 12) (by decide) ?_
        exact (ih _ _ ⟨by omega, by omega⟩ (by omega) (by
    rw [show x + -1 + 1 = x by omega]
    have hf : inl N p x = false := decide_eq_false (by omega)
    rcases hc with ⟨h1, h2⟩ | ⟨h1, h2, h3, h4⟩
    · exact Or.inl ⟨h1, fun y y0 y1 => by
        by_cases e : y = x
        · rw [e]; exact hf
        · exact h2 y (by omega) y1⟩
    · exact Or.inr ⟨by omega, h2, h3, fun y y0 y1 => by
        by_cases e : y = x
        · rw [e]; exact hf
        · exact h4 y (by omega) y1⟩))
      · refine v_iload 4 dX7_nextInlet_31 (nx := 33) rfl rfl ?_
        refine v_goto dX7_nextInlet_33 (tgt := 37) (by decide) ?_
        refine v_istore_n dX7_nextInlet_37 (nx := 38) rfl rfl (by decide) ?_
        refine v_iinc 4 dX7_nextInlet_38 (nx := 41) rfl rfl rfl (by decide) ?_
        refine v_goto dX7_nextInlet_41 (tgt := 12) (by decide) ?_
        exact (ih _ _ ⟨by omega, by omega⟩ (by omega) (by
    rw [show x + -1 + 1 = x by omega]
    refine Or.inr ⟨by omega, by omega, decide_eq_true (by omega), fun y y0 y1 => by omega⟩))

set_option maxRecDepth 100000 in
theorem c_X7_nextInlet {g : GG} {kp : Bool} {σ : SS} {N K G F : Int → Int} {k f : Int} (hR : ∀ j, inR (N j)) (p b : Int) (hp : inR p) (b1 : 0 ≤ N 1 ∧ N 1 ≤ 16) (hb : -1 ≤ b ∧ b < N 1) : XC g kp 0 mX7_nextInlet [rf g (ad 14 0 0), vi p, vi b] (mkS σ N K G F k f) (some (vi (nxtI N p b))) (mkS σ N K G F k f) := by
  refine TC.of (by decide) (Nat.le_of_ble_eq_true rfl) rfl ?_
  refine v_iconst dX7_nextInlet_0 (nx := 1) rfl ?_
  refine v_istore_n dX7_nextInlet_1 (nx := 2) rfl rfl (by decide) ?_
  refine v_aload_n 0 dX7_nextInlet_2 (nx := 3) rfl rfl ?_
  refine m_gA 10 (p := 0) dX7_nextInlet_3 (nx := 6) rfl (by decide) fl_X7_9 rfl ?_
  refine v_iconst dX7_nextInlet_6 (nx := 7) rfl ?_
  refine m_ald10 dX7_nextInlet_7 (nx := 8) rfl ⟨by omega, by omega⟩ ?_
  refine v_iconst dX7_nextInlet_8 (nx := 9) rfl ?_
  refine v_isub dX7_nextInlet_9 (nx := 10) rfl ?_
  refine v_istore dX7_nextInlet_10 (nx := 12) rfl rfl (by decide) ?_
  exact (l_X7_nextInlet1 hR p b hp b1 hb (N 1 + 2).toNat (N 1 - 1) (-1) ⟨by omega, by omega⟩ (by omega) (Or.inl ⟨rfl, fun y y0 y1 => by omega⟩))
