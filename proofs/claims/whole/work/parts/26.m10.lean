theorem chs_s {G N : NN} {p x : Int} (h : 0 ≤ x) : chs G p N (x + 1).toNat = ch1 G p (chs G p N x.toNat) x := by
  rw [toNat_s h]
  show ch1 G p (chs G p N x.toNat) (x.toNat : Int) = _
  rw [Int.toNat_of_nonneg h]
theorem gvs_s {N G : NN} {x : Int} (h : 0 ≤ x) : gvs N G (x + 1).toNat = gvN (gvs N G x.toNat).1 (gvs N G x.toNat).2 x := by
  rw [toNat_s h]
  show gvN (gvs N G x.toNat).1 (gvs N G x.toNat).2 (x.toNat : Int) = _
  rw [Int.toNat_of_nonneg h]
theorem mvA_s {N G : NN} {x : Int} (h : 0 ≤ x) : mvA N G (x + 1).toNat = mvN (mvA N G x.toNat) G x := by
  rw [toNat_s h]
  show mvN (mvA N G x.toNat) G (x.toNat : Int) = _
  rw [Int.toNat_of_nonneg h]
theorem tks_s {N G : NN} {x : Int} (h : 0 ≤ x) : tks N G (x + 1).toNat = tkA (tks N G x.toNat) G x := by
  rw [toNat_s h]
  show tkA (tks N G x.toNat) G (x.toNat : Int) = _
  rw [Int.toNat_of_nonneg h]
theorem ticks_s {N : NN} {x : Int} (h : 0 ≤ x) : ticks N (x + 1).toNat = tick1 (ticks N x.toNat) := by
  rw [toNat_s h]
  rfl

set_option maxRecDepth 100000 in
theorem l_X7_chute {g : GG} {kp : Bool} {σ : SS} {N K G F : Int → Int} {k f : Int} (hG : ∀ g, G g = 0 ∨ G g = 1) (p : Int) (hp : 0 ≤ p ∧ p < 12) (hch : ∀ x, 0 ≤ x → x ≤ N 1 → ∃ k', IV (chs G p N x.toNat) k' ∧ chs G p N x.toNat 1 = N 1) : ∀ (m : Nat) (x : Int) (M : NN), (0 ≤ x ∧ x ≤ N 1) → (N 1 - x < m) → (M = chs G p N x.toNat) → V g (rmD 3 0 0) mX7_takeAt (ZT g kp ((fun r τ => r = none ∧ τ = mkS σ (chs G p N (N 1).toNat) K G F k f))) E0 13 [(0, rf g (ad 14 0 0)), (1, vi p), (2, vi 5), (3, vi x)] [] (vw g kp (mkS σ M K G F k f)) (sz kp) 0 0 := by
  intro m
  induction m with
  | zero => intro x M hx hm hM; exfalso; omega
  | succ m ih =>
    intro x M hx hm hM
    obtain ⟨kk, hI, hM1⟩ := hch x hx.1 hx.2
    rw [← hM] at hI hM1
    obtain ⟨b0, b1, b2, b3, b4, b5⟩ := hI.n
    have hR := hI.r
    have hcs : chs G p N (x + 1).toNat = ch1 G p M x := by rw [chs_s hx.1, ← hM]
    refine v_iload_n 3 dX7_takeAt_13 (nx := 14) rfl rfl ?_
    refine v_aload_n 0 dX7_takeAt_14 (nx := 15) rfl rfl ?_
    refine m_gA 10 (p := 0) dX7_takeAt_15 (nx := 18) rfl (by decide) fl_X7_9 rfl ?_
    refine v_iconst dX7_takeAt_18 (nx := 19) rfl ?_
    refine m_ald10 dX7_takeAt_19 (nx := 20) rfl ⟨by omega, by omega⟩ ?_
    refine v_icmp_ge dX7_takeAt_20 (tgt := 130) (by decide) (nx := 23) rfl (by first | assumption | exact hR _ | exact ⟨by omega, by omega⟩) (by first | assumption | exact hR _ | exact ⟨by omega, by omega⟩) (fun c20 => ?_) (fun c20 => ?_)
    · exact t_ret dX7_takeAt_130 rfl ⟨rfl, by rw [hM, show x = N 1 by omega]⟩
    · refine v_aload_n 0 dX7_takeAt_23 (nx := 24) rfl rfl ?_
      refine m_gA 10 (p := 0) dX7_takeAt_24 (nx := 27) rfl (by decide) fl_X7_9 rfl ?_
      refine v_bipush dX7_takeAt_27 (nx := 29) rfl rfl ?_
      refine v_iload_n 3 dX7_takeAt_29 (nx := 30) rfl rfl ?_
      refine v_iadd dX7_takeAt_30 (nx := 31) rfl ?_
      refine m_ald10 dX7_takeAt_31 (nx := 32) rfl ⟨by omega, by omega⟩ ?_
      refine v_iload_n 1 dX7_takeAt_32 (nx := 33) rfl rfl ?_
      refine v_icmp_ne dX7_takeAt_33 (tgt := 124) (by decide) (nx := 36) rfl (by first | assumption | exact hR _ | exact ⟨by omega, by omega⟩) (by first | assumption | exact hR _ | exact ⟨by omega, by omega⟩) (fun c33 => ?_) (fun c33 => ?_)
      · refine v_iinc 3 dX7_takeAt_124 (nx := 127) rfl rfl rfl (by decide) ?_
        refine v_goto dX7_takeAt_127 (tgt := 13) (by decide) ?_
        exact (ih _ _ ⟨by omega, by omega⟩ (by omega) (by
    rw [hcs]
    unfold ch1
    rw [if_neg (by omega)]))
      · have hrb := rdyN_b (G := G) hI (b := x) (by omega)
        refine v_aload_n 0 dX7_takeAt_36 (nx := 37) rfl rfl ?_
        refine v_iload_n 3 dX7_takeAt_37 (nx := 38) rfl rfl ?_
        refine t_callVi (a := 14) (c_X7_ready hI hG _ (by omega)) dX7_takeAt_38 (nx := 41) rfl kX7_ready ml_X7_100 (by decide) (ok_m 14 rfl) rfl rfl rfl rfl (Nat.le_of_ble_eq_true rfl) ⟨by decide, by decide⟩ ⟨by decide, by decide⟩ ?_
        refine v_if_lt dX7_takeAt_41 (tgt := 124) (by decide) (nx := 44) rfl (by first | assumption | exact hR _ | exact ⟨by omega, by omega⟩) (fun c41 => ?_) (fun c41 => ?_)
        · refine v_iinc 3 dX7_takeAt_124 (nx := 127) rfl rfl rfl (by decide) ?_
          refine v_goto dX7_takeAt_127 (tgt := 13) (by decide) ?_
          exact (ih _ _ ⟨by omega, by omega⟩ (by omega) (by
    rw [hcs]
    unfold ch1
    rw [if_neg (by omega)]))
        · have hgq := (hI.g (g := rdyN M G x) (by omega) (by omega)).1
          have hfq := hI.f hgq.1 hgq.2
          refine v_aload_n 0 dX7_takeAt_44 (nx := 45) rfl rfl ?_
          refine m_gA 10 (p := 0) dX7_takeAt_45 (nx := 48) rfl (by decide) fl_X7_9 rfl ?_
          refine v_sipush dX7_takeAt_48 (nx := 51) rfl rfl ?_
          refine v_aload_n 0 dX7_takeAt_51 (nx := 52) rfl rfl ?_
          refine v_iload_n 3 dX7_takeAt_52 (nx := 53) rfl rfl ?_
          refine t_callVi (a := 14) (c_X7_ready hI hG _ (by omega)) dX7_takeAt_53 (nx := 56) rfl kX7_ready ml_X7_100 (by decide) (ok_m 14 rfl) rfl rfl rfl rfl (Nat.le_of_ble_eq_true rfl) ⟨by decide, by decide⟩ ⟨by decide, by decide⟩ ?_
          refine v_iadd dX7_takeAt_56 (nx := 57) rfl ?_
          refine m_ald10 dX7_takeAt_57 (nx := 58) rfl ⟨by omega, by omega⟩ ?_
          refine v_istore dX7_takeAt_58 (nx := 60) rfl rfl (by decide) ?_
          refine v_aload_n 0 dX7_takeAt_60 (nx := 61) rfl rfl ?_
          refine m_gA 10 (p := 0) dX7_takeAt_61 (nx := 64) rfl (by decide) fl_X7_9 rfl ?_
          refine v_sipush dX7_takeAt_64 (nx := 67) rfl rfl ?_
          refine v_iload 4 dX7_takeAt_67 (nx := 69) rfl rfl ?_
          refine v_iadd dX7_takeAt_69 (nx := 70) rfl ?_
          refine m_ald10 dX7_takeAt_70 (nx := 71) rfl ⟨by omega, by omega⟩ ?_
          refine v_iload_n 1 dX7_takeAt_71 (nx := 72) rfl rfl ?_
          refine v_icmp_ne dX7_takeAt_72 (tgt := 79) (by decide) (nx := 75) rfl (by first | assumption | exact hR _ | exact ⟨by omega, by omega⟩) (by first | assumption | exact hR _ | exact ⟨by omega, by omega⟩) (fun c72 => ?_) (fun c72 => ?_)
          · refine v_iconst dX7_takeAt_79 (nx := 80) rfl ?_
            refine v_istore dX7_takeAt_80 (nx := 82) rfl rfl (by decide) ?_
            refine v_aload_n 0 dX7_takeAt_82 (nx := 83) rfl rfl ?_
            refine v_iload_n 3 dX7_takeAt_83 (nx := 84) rfl rfl ?_
            refine v_iload_n 1 dX7_takeAt_84 (nx := 85) rfl rfl ?_
            refine v_iload 5 dX7_takeAt_85 (nx := 87) rfl rfl ?_
            refine v_if_ne dX7_takeAt_87 (tgt := 95) (by decide) (nx := 90) rfl (by first | assumption | exact hR _ | exact ⟨by omega, by omega⟩) (fun c87 => ?_) (fun c87 => ?_)
            · exfalso; omega
            · refine v_bipush dX7_takeAt_90 (nx := 92) rfl rfl ?_
              refine v_goto dX7_takeAt_92 (tgt := 121) (by decide) ?_
              refine t_callVv (a := 14) (c_X7_takeFrom hI hG _ _ _ (by omega) hp (by omega) (by omega)) dX7_takeAt_121 (nx := 124) rfl kX7_takeFrom ml_X7_109 (by decide) (ok_m 14 rfl) rfl rfl rfl rfl (Nat.le_of_ble_eq_true rfl) ⟨by decide, by decide⟩ ⟨by decide, by decide⟩ ?_
              refine v_iinc 3 dX7_takeAt_124 (nx := 127) rfl rfl rfl (by decide) ?_
              refine v_goto dX7_takeAt_127 (tgt := 13) (by decide) ?_
              exact V.lpick [0, 1, 2, 3] rfl ((ih _ _ ⟨by omega, by omega⟩ (by omega) (by
    rw [hcs]
    unfold ch1
    rw [if_pos (by omega), show chW M G x p = 7 from by unfold chW; first | rw [if_pos (by omega)] | rw [if_neg (by omega), if_pos (by omega)] | rw [if_neg (by omega), if_neg (by omega)]])))
          · refine v_iconst dX7_takeAt_75 (nx := 76) rfl ?_
            refine v_goto dX7_takeAt_76 (tgt := 80) (by decide) ?_
            refine v_istore dX7_takeAt_80 (nx := 82) rfl rfl (by decide) ?_
            refine v_aload_n 0 dX7_takeAt_82 (nx := 83) rfl rfl ?_
            refine v_iload_n 3 dX7_takeAt_83 (nx := 84) rfl rfl ?_
            refine v_iload_n 1 dX7_takeAt_84 (nx := 85) rfl rfl ?_
            refine v_iload 5 dX7_takeAt_85 (nx := 87) rfl rfl ?_
            refine v_if_ne dX7_takeAt_87 (tgt := 95) (by decide) (nx := 90) rfl (by first | assumption | exact hR _ | exact ⟨by omega, by omega⟩) (fun c87 => ?_) (fun c87 => ?_)
            · refine v_aload_n 0 dX7_takeAt_95 (nx := 96) rfl rfl ?_
              refine m_gA 10 (p := 0) dX7_takeAt_96 (nx := 99) rfl (by decide) fl_X7_9 rfl ?_
              refine v_iconst dX7_takeAt_99 (nx := 100) rfl ?_
              refine m_ald10 dX7_takeAt_100 (nx := 101) rfl ⟨by omega, by omega⟩ ?_
              refine v_aload_n 0 dX7_takeAt_101 (nx := 102) rfl rfl ?_
              refine m_gA 10 (p := 0) dX7_takeAt_102 (nx := 105) rfl (by decide) fl_X7_9 rfl ?_
              refine v_sipush dX7_takeAt_105 (nx := 108) rfl rfl ?_
              refine v_iload 4 dX7_takeAt_108 (nx := 110) rfl rfl ?_
              refine v_iadd dX7_takeAt_110 (nx := 111) rfl ?_
              refine m_ald10 dX7_takeAt_111 (nx := 112) rfl ⟨by omega, by omega⟩ ?_
              refine v_icmp_ge dX7_takeAt_112 (tgt := 119) (by decide) (nx := 115) rfl (by first | assumption | exact hR _ | exact ⟨by omega, by omega⟩) (by first | assumption | exact hR _ | exact ⟨by omega, by omega⟩) (fun c112 => ?_) (fun c112 => ?_)
              · refine v_bipush dX7_takeAt_119 (nx := 121) rfl rfl ?_
                refine t_callVv (a := 14) (c_X7_takeFrom hI hG _ _ _ (by omega) hp (by omega) (by omega)) dX7_takeAt_121 (nx := 124) rfl kX7_takeFrom ml_X7_109 (by decide) (ok_m 14 rfl) rfl rfl rfl rfl (Nat.le_of_ble_eq_true rfl) ⟨by decide, by decide⟩ ⟨by decide, by decide⟩ ?_
                refine v_iinc 3 dX7_takeAt_124 (nx := 127) rfl rfl rfl (by decide) ?_
                refine v_goto dX7_takeAt_127 (tgt := 13) (by decide) ?_
                exact V.lpick [0, 1, 2, 3] rfl ((ih _ _ ⟨by omega, by omega⟩ (by omega) (by
    rw [hcs]
    unfold ch1
    rw [if_pos (by omega), show chW M G x p = 6 from by unfold chW; first | rw [if_pos (by omega)] | rw [if_neg (by omega), if_pos (by omega)] | rw [if_neg (by omega), if_neg (by omega)]])))
              · refine v_iconst dX7_takeAt_115 (nx := 116) rfl ?_
                refine v_goto dX7_takeAt_116 (tgt := 121) (by decide) ?_
                refine t_callVv (a := 14) (c_X7_takeFrom hI hG _ _ _ (by omega) hp (by omega) (by omega)) dX7_takeAt_121 (nx := 124) rfl kX7_takeFrom ml_X7_109 (by decide) (ok_m 14 rfl) rfl rfl rfl rfl (Nat.le_of_ble_eq_true rfl) ⟨by decide, by decide⟩ ⟨by decide, by decide⟩ ?_
                refine v_iinc 3 dX7_takeAt_124 (nx := 127) rfl rfl rfl (by decide) ?_
                refine v_goto dX7_takeAt_127 (tgt := 13) (by decide) ?_
                exact V.lpick [0, 1, 2, 3] rfl ((ih _ _ ⟨by omega, by omega⟩ (by omega) (by
    rw [hcs]
    unfold ch1
    rw [if_pos (by omega), show chW M G x p = 5 from by unfold chW; first | rw [if_pos (by omega)] | rw [if_neg (by omega), if_pos (by omega)] | rw [if_neg (by omega), if_neg (by omega)]])))
            · exfalso; omega

set_option maxRecDepth 100000 in
theorem c_X7_takeAt {g : GG} {kp : Bool} {σ : SS} {N K G F : Int → Int} {k f : Int} {kk : Int} (hI : IV N kk) (hG : ∀ g, G g = 0 ∨ G g = 1) (p : Int) (hp : 0 ≤ p ∧ p < N 0) (hch : N (8 + p) = 5 → ∀ x, 0 ≤ x → x ≤ N 1 → ∃ k', IV (chs G p N x.toNat) k' ∧ chs G p N x.toNat 1 = N 1) : XC g kp 3 mX7_takeAt [rf g (ad 14 0 0), vi p] (mkS σ N K G F k f) none (mkS σ (tkA N G p) K G F k f) := by
  refine TC.of (by decide) (Nat.le_of_ble_eq_true rfl) rfl ?_
  obtain ⟨b0, b1, b2, b3, b4, b5⟩ := hI.n
  have hR := hI.r
  obtain ⟨p1, p2, p3, p4, p5, p6, p7⟩ := hI.p hp.1 hp.2
  have hri : rdyI N G p = -1 ∨ (0 ≤ rdyI N G p ∧ rdyI N G p < N 1) := fstI_b (by omega) b1.1
  have hcb := cntI_b (P := wP N 3 p) b3.1
  refine v_aload_n 0 dX7_takeAt_0 (nx := 1) rfl rfl ?_
  refine v_iload_n 1 dX7_takeAt_1 (nx := 2) rfl rfl ?_
  refine t_callVi (a := 14) (c_X7_kindOf _ (by omega)) dX7_takeAt_2 (nx := 5) rfl kX7_kindOf ml_X7_39 (by decide) (ok_m 14 rfl) rfl rfl rfl rfl (Nat.le_of_ble_eq_true rfl) ⟨by decide, by decide⟩ ⟨by decide, by decide⟩ ?_
  refine v_istore_n dX7_takeAt_5 (nx := 6) rfl rfl (by decide) ?_
  refine v_iload_n 2 dX7_takeAt_6 (nx := 7) rfl rfl ?_
  refine v_iconst dX7_takeAt_7 (nx := 8) rfl ?_
  refine v_icmp_ne dX7_takeAt_8 (tgt := 131) (by decide) (nx := 11) rfl (by first | assumption | exact hR _ | exact ⟨by omega, by omega⟩) (by first | assumption | exact hR _ | exact ⟨by omega, by omega⟩) (fun c8 => ?_) (fun c8 => ?_)
  · refine v_iload_n 2 dX7_takeAt_131 (nx := 132) rfl rfl ?_
    refine v_iconst dX7_takeAt_132 (nx := 133) rfl ?_
    refine v_icmp_ne dX7_takeAt_133 (tgt := 171) (by decide) (nx := 136) rfl (by first | assumption | exact hR _ | exact ⟨by omega, by omega⟩) (by first | assumption | exact hR _ | exact ⟨by omega, by omega⟩) (fun c133 => ?_) (fun c133 => ?_)
    · refine v_iload_n 2 dX7_takeAt_171 (nx := 172) rfl rfl ?_
      refine v_if_eq dX7_takeAt_172 (tgt := 187) (by decide) (nx := 175) rfl (by first | assumption | exact hR _ | exact ⟨by omega, by omega⟩) (fun c172 => ?_) (fun c172 => ?_)
      · exact t_ret dX7_takeAt_187 rfl ⟨rfl, by unfold tkA; (repeat (first | rw [if_pos (by omega)] | rw [if_neg (by omega)]))⟩
      · refine v_aload_n 0 dX7_takeAt_175 (nx := 176) rfl rfl ?_
        refine m_gA 10 (p := 0) dX7_takeAt_176 (nx := 179) rfl (by decide) fl_X7_9 rfl ?_
        refine v_bipush dX7_takeAt_179 (nx := 181) rfl rfl ?_
        refine v_iload_n 1 dX7_takeAt_181 (nx := 182) rfl rfl ?_
        refine v_iadd dX7_takeAt_182 (nx := 183) rfl ?_
        refine m_ald10 dX7_takeAt_183 (nx := 184) rfl ⟨by omega, by omega⟩ ?_
        refine v_if_eq dX7_takeAt_184 (tgt := 188) (by decide) (nx := 187) rfl (by first | assumption | exact hR _ | exact ⟨by omega, by omega⟩) (fun c184 => ?_) (fun c184 => ?_)
        · refine v_iload_n 2 dX7_takeAt_188 (nx := 189) rfl rfl ?_
          refine v_iconst dX7_takeAt_189 (nx := 190) rfl ?_
          refine v_icmp_ne dX7_takeAt_190 (tgt := 199) (by decide) (nx := 193) rfl (by first | assumption | exact hR _ | exact ⟨by omega, by omega⟩) (by first | assumption | exact hR _ | exact ⟨by omega, by omega⟩) (fun c190 => ?_) (fun c190 => ?_)
          · refine v_aload_n 0 dX7_takeAt_199 (nx := 200) rfl rfl ?_
            refine v_iload_n 1 dX7_takeAt_200 (nx := 201) rfl rfl ?_
            refine t_callVi (a := 14) (c_X7_readyInlet hI hG _ (by exact ⟨by omega, by omega⟩)) dX7_takeAt_201 (nx := 204) rfl kX7_readyInlet ml_X7_113 (by decide) (ok_m 14 rfl) rfl rfl rfl rfl (Nat.le_of_ble_eq_true rfl) ⟨by decide, by decide⟩ ⟨by decide, by decide⟩ ?_
            refine v_istore_n dX7_takeAt_204 (nx := 205) rfl rfl (by decide) ?_
            refine v_iload_n 3 dX7_takeAt_205 (nx := 206) rfl rfl ?_
            refine v_if_lt dX7_takeAt_206 (tgt := 216) (by decide) (nx := 209) rfl (by first | assumption | exact hR _ | exact ⟨by omega, by omega⟩) (fun c206 => ?_) (fun c206 => ?_)
            · exact t_ret dX7_takeAt_216 rfl ⟨rfl, by unfold tkA; (repeat (first | rw [if_pos (by omega)] | rw [if_neg (by omega)]))⟩
            · have hrr : 0 ≤ rdyN N G (rdyI N G p) := by
                rcases fstI_is (P := fun b => decide (N (84 + b) = p ∧ 0 ≤ rdyN N G b)) (lo := 0) (hi := N 1) (by omega) b1.1 with ⟨h1, -⟩ | ⟨-, -, h3, -⟩
                · have e : rdyI N G p = -1 := h1
                  omega
                · exact (of_decide_eq_true h3).2
              refine v_aload_n 0 dX7_takeAt_209 (nx := 210) rfl rfl ?_
              refine v_iload_n 3 dX7_takeAt_210 (nx := 211) rfl rfl ?_
              refine v_iload_n 1 dX7_takeAt_211 (nx := 212) rfl rfl ?_
              refine v_iconst dX7_takeAt_212 (nx := 213) rfl ?_
              refine t_callVv (a := 14) (c_X7_takeFrom hI hG _ _ _ (by omega) (by omega) (by omega) hrr) dX7_takeAt_213 (nx := 216) rfl kX7_takeFrom ml_X7_109 (by decide) (ok_m 14 rfl) rfl rfl rfl rfl (Nat.le_of_ble_eq_true rfl) ⟨by decide, by decide⟩ ⟨by decide, by decide⟩ ?_
              exact t_ret dX7_takeAt_216 rfl ⟨rfl, by unfold tkA; (repeat (first | rw [if_pos (by omega)] | rw [if_neg (by omega)]))⟩
          · refine v_aload_n 0 dX7_takeAt_193 (nx := 194) rfl rfl ?_
            refine v_iload_n 1 dX7_takeAt_194 (nx := 195) rfl rfl ?_
            refine t_callVv (a := 14) (c_X7_merge hI hG _ hp (by omega)) dX7_takeAt_195 (nx := 198) rfl kX7_merge ml_X7_119 (by decide) (ok_m 14 rfl) rfl rfl rfl rfl (Nat.le_of_ble_eq_true rfl) ⟨by decide, by decide⟩ ⟨by decide, by decide⟩ ?_
            exact t_ret dX7_takeAt_198 rfl ⟨rfl, by unfold tkA; (repeat (first | rw [if_pos (by omega)] | rw [if_neg (by omega)]))⟩
        · exact t_ret dX7_takeAt_187 rfl ⟨rfl, by unfold tkA; (repeat (first | rw [if_pos (by omega)] | rw [if_neg (by omega)]))⟩
    · refine v_aload_n 0 dX7_takeAt_136 (nx := 137) rfl rfl ?_
      refine v_iload_n 1 dX7_takeAt_137 (nx := 138) rfl rfl ?_
      refine t_callVi (a := 14) (c_X7_readyInlet hI hG _ (by exact ⟨by omega, by omega⟩)) dX7_takeAt_138 (nx := 141) rfl kX7_readyInlet ml_X7_113 (by decide) (ok_m 14 rfl) rfl rfl rfl rfl (Nat.le_of_ble_eq_true rfl) ⟨by decide, by decide⟩ ⟨by decide, by decide⟩ ?_
      refine v_istore_n dX7_takeAt_141 (nx := 142) rfl rfl (by decide) ?_
      refine v_iload_n 3 dX7_takeAt_142 (nx := 143) rfl rfl ?_
      refine v_if_lt dX7_takeAt_143 (tgt := 170) (by decide) (nx := 146) rfl (by first | assumption | exact hR _ | exact ⟨by omega, by omega⟩) (fun c143 => ?_) (fun c143 => ?_)
      · exact t_ret dX7_takeAt_170 rfl ⟨rfl, by unfold tkA; (repeat (first | rw [if_pos (by omega)] | rw [if_neg (by omega)]))⟩
      · have hrr : 0 ≤ rdyN N G (rdyI N G p) := by
          rcases fstI_is (P := fun b => decide (N (84 + b) = p ∧ 0 ≤ rdyN N G b)) (lo := 0) (hi := N 1) (by omega) b1.1 with ⟨h1, -⟩ | ⟨-, -, h3, -⟩
          · have e : rdyI N G p = -1 := h1
            omega
          · exact (of_decide_eq_true h3).2
        refine v_aload_n 0 dX7_takeAt_146 (nx := 147) rfl rfl ?_
        refine v_iload_n 1 dX7_takeAt_147 (nx := 148) rfl rfl ?_
        refine t_callVi (a := 14) (c_X7_storedAt hR _ (by exact ⟨by omega, by omega⟩) b3) dX7_takeAt_148 (nx := 151) rfl kX7_storedAt ml_X7_116 (by decide) (ok_m 14 rfl) rfl rfl rfl rfl (Nat.le_of_ble_eq_true rfl) ⟨by decide, by decide⟩ ⟨by decide, by decide⟩ ?_
        refine v_aload_n 0 dX7_takeAt_151 (nx := 152) rfl rfl ?_
        refine m_gA 10 (p := 0) dX7_takeAt_152 (nx := 155) rfl (by decide) fl_X7_9 rfl ?_
        refine v_bipush dX7_takeAt_155 (nx := 157) rfl rfl ?_
        refine v_iload_n 1 dX7_takeAt_157 (nx := 158) rfl rfl ?_
        refine v_iadd dX7_takeAt_158 (nx := 159) rfl ?_
        refine m_ald10 dX7_takeAt_159 (nx := 160) rfl ⟨by omega, by omega⟩ ?_
        refine v_icmp_ge dX7_takeAt_160 (tgt := 170) (by decide) (nx := 163) rfl (by first | assumption | exact hR _ | exact ⟨by omega, by omega⟩) (by first | assumption | exact hR _ | exact ⟨by omega, by omega⟩) (fun c160 => ?_) (fun c160 => ?_)
        · exact t_ret dX7_takeAt_170 rfl ⟨rfl, by unfold tkA; (repeat (first | rw [if_pos (by omega)] | rw [if_neg (by omega)]))⟩
        · refine v_aload_n 0 dX7_takeAt_163 (nx := 164) rfl rfl ?_
          refine v_iload_n 3 dX7_takeAt_164 (nx := 165) rfl rfl ?_
          refine v_iload_n 1 dX7_takeAt_165 (nx := 166) rfl rfl ?_
          refine v_iconst dX7_takeAt_166 (nx := 167) rfl ?_
          refine t_callVv (a := 14) (c_X7_takeFrom hI hG _ _ _ (by omega) (by omega) (by omega) hrr) dX7_takeAt_167 (nx := 170) rfl kX7_takeFrom ml_X7_109 (by decide) (ok_m 14 rfl) rfl rfl rfl rfl (Nat.le_of_ble_eq_true rfl) ⟨by decide, by decide⟩ ⟨by decide, by decide⟩ ?_
          exact t_ret dX7_takeAt_170 rfl ⟨rfl, by unfold tkA; (repeat (first | rw [if_pos (by omega)] | rw [if_neg (by omega)]))⟩
  · refine v_iconst dX7_takeAt_11 (nx := 12) rfl ?_
    refine v_istore_n dX7_takeAt_12 (nx := 13) rfl rfl (by decide) ?_
    exact (by
    rw [c8, show tkA N G p = chs G p N (N 1).toNat by unfold tkA; rw [if_pos c8]]
    exact l_X7_chute (N := N) hG p (by omega) (hch c8) (N 1 + 1).toNat 0 N ⟨by omega, by omega⟩ (by omega) rfl)

set_option maxRecDepth 100000 in
theorem c_X7_giveAt {g : GG} {kp : Bool} {σ : SS} {N K G F : Int → Int} {k f : Int} {kk : Int} (hI : IV N kk) (p : Int) (hp : 0 ≤ p ∧ p < N 0) : TC g kp 3 mX7_giveAt [rf g (ad 14 0 0), vi p] (mkS σ N K G F k f) (fun r τ => r = none ∧ ∃ F' : NN, τ = mkS σ (gvN N G p).1 K (gvN N G p).2 F' k f) := by
  refine TC.of (by decide) (Nat.le_of_ble_eq_true rfl) rfl ?_
  obtain ⟨b0, b1, b2, b3, b4, b5⟩ := hI.n
  have hR := hI.r
  obtain ⟨p1, p2, p3, p4, p5, p6, p7⟩ := hI.p hp.1 hp.2
  have hw := mnI_b (P := wP N 0 p) (K := fun g => N (604 + g)) b3.1
  have e1 : fstW N p = mnI (wP N 0 p) (fun g => N (604 + g)) (N 3) := rfl
  rw [← e1] at hw
  have ho := mnI_b (P := fun g => decide ((N (484 + g) = 3 ∧ N (544 + g) = p) ∧ N (348 + N (364 + g)) ≤ N 4)) (K := fun g => N (604 + g)) b3.1
  have e2 : fstO N p = mnI (fun g => decide ((N (484 + g) = 3 ∧ N (544 + g) = p) ∧ N (348 + N (364 + g)) ≤ N 4)) (fun g => N (604 + g)) (N 3) := rfl
  rw [← e2] at ho
  have hs : outS N p = -1 ∨ (0 ≤ outS N p ∧ outS N p < N 1) := fstI_b (by omega) b1.1
  have hs0 : outA N p 0 = -1 ∨ (0 ≤ outA N p 0 ∧ outA N p 0 < N 1) := fstI_b (by omega) b1.1
  have hs1 : outA N p 1 = -1 ∨ (0 ≤ outA N p 1 ∧ outA N p 1 < N 1) := fstI_b (by omega) b1.1
  have hhv := hI.hv hp.1 hp.2
  refine v_aload_n 0 dX7_giveAt_0 (nx := 1) rfl rfl ?_
  refine v_iload_n 1 dX7_giveAt_1 (nx := 2) rfl rfl ?_
  refine t_callVi (a := 14) (c_X7_kindOf _ (by omega)) dX7_giveAt_2 (nx := 5) rfl kX7_kindOf ml_X7_39 (by decide) (ok_m 14 rfl) rfl rfl rfl rfl (Nat.le_of_ble_eq_true rfl) ⟨by decide, by decide⟩ ⟨by decide, by decide⟩ ?_
  refine v_istore_n dX7_giveAt_5 (nx := 6) rfl rfl (by decide) ?_
  refine v_iload_n 2 dX7_giveAt_6 (nx := 7) rfl rfl ?_
  refine v_if_ne dX7_giveAt_7 (tgt := 40) (by decide) (nx := 10) rfl (by first | assumption | exact hR _ | exact ⟨by omega, by omega⟩) (fun c7 => ?_) (fun c7 => ?_)
  · refine v_iload_n 2 dX7_giveAt_40 (nx := 41) rfl rfl ?_
    refine v_iconst dX7_giveAt_41 (nx := 42) rfl ?_
    refine v_icmp_ne dX7_giveAt_42 (tgt := 76) (by decide) (nx := 45) rfl (by first | assumption | exact hR _ | exact ⟨by omega, by omega⟩) (by first | assumption | exact hR _ | exact ⟨by omega, by omega⟩) (fun c42 => ?_) (fun c42 => ?_)
    · refine v_aload_n 0 dX7_giveAt_76 (nx := 77) rfl rfl ?_
      refine m_gA 10 (p := 0) dX7_giveAt_77 (nx := 80) rfl (by decide) fl_X7_9 rfl ?_
      refine v_bipush dX7_giveAt_80 (nx := 82) rfl rfl ?_
      refine v_iload_n 1 dX7_giveAt_82 (nx := 83) rfl rfl ?_
      refine v_iadd dX7_giveAt_83 (nx := 84) rfl ?_
      refine m_ald10 dX7_giveAt_84 (nx := 85) rfl ⟨by omega, by omega⟩ ?_
      refine v_iconst dX7_giveAt_85 (nx := 86) rfl ?_
      refine v_isub dX7_giveAt_86 (nx := 87) rfl ?_
      refine v_istore_n dX7_giveAt_87 (nx := 88) rfl rfl (by decide) ?_
      refine v_iload_n 2 dX7_giveAt_88 (nx := 89) rfl rfl ?_
      refine v_iconst dX7_giveAt_89 (nx := 90) rfl ?_
      refine v_icmp_eq dX7_giveAt_90 (tgt := 97) (by decide) (nx := 93) rfl (by first | assumption | exact hR _ | exact ⟨by omega, by omega⟩) (by first | assumption | exact hR _ | exact ⟨by omega, by omega⟩) (fun c90 => ?_) (fun c90 => ?_)
      · exact t_ret dX7_giveAt_97 rfl ⟨rfl, _, by unfold gvN; (repeat (first | rw [if_pos (by first | omega | exact ⟨by omega, rfl⟩ | exact rfl)] | rw [if_neg (by first | omega | (intro q; exact rfl q.2) | exact rfl)]))⟩
      · refine v_iload_n 3 dX7_giveAt_93 (nx := 94) rfl rfl ?_
        refine v_if_ge dX7_giveAt_94 (tgt := 98) (by decide) (nx := 97) rfl (by first | assumption | exact hR _ | exact ⟨by omega, by omega⟩) (fun c94 => ?_) (fun c94 => ?_)
        · have hh2 : N (484 + (N (32 + p) - 1)) = 2 ∧ N (544 + (N (32 + p) - 1)) = p := by
            rcases p4 with h | h
            · omega
            · exact h.2
          obtain ⟨hg1, -, -, hgw⟩ := hI.g (g := N (32 + p) - 1) (by omega) (by omega)
          rw [hh2.1] at hgw
          have hgd : 0 ≤ N (604 + (N (32 + p) - 1)) ∧ N (604 + (N (32 + p) - 1)) ≤ N 4 := by
            rcases hgw with ⟨w, -⟩ | ⟨w, -⟩ | ⟨-, -, -, -, h⟩ | ⟨w, -⟩ | ⟨w, -⟩ | ⟨w, -⟩
            · omega
            · omega
            · exact h
            · omega
            · omega
            · omega
          refine v_iload_n 2 dX7_giveAt_98 (nx := 99) rfl rfl ?_
          refine v_iconst dX7_giveAt_99 (nx := 100) rfl ?_
          refine v_icmp_ne dX7_giveAt_100 (tgt := 111) (by decide) (nx := 103) rfl (by first | assumption | exact hR _ | exact ⟨by omega, by omega⟩) (by first | assumption | exact hR _ | exact ⟨by omega, by omega⟩) (fun c100 => ?_) (fun c100 => ?_)
          · refine v_iload_n 2 dX7_giveAt_111 (nx := 112) rfl rfl ?_
            refine v_iconst dX7_giveAt_112 (nx := 113) rfl ?_
            refine v_icmp_ne dX7_giveAt_113 (tgt := 125) (by decide) (nx := 116) rfl (by first | assumption | exact hR _ | exact ⟨by omega, by omega⟩) (by first | assumption | exact hR _ | exact ⟨by omega, by omega⟩) (fun c113 => ?_) (fun c113 => ?_)
            · refine v_aload_n 0 dX7_giveAt_125 (nx := 126) rfl rfl ?_
              refine v_iload_n 1 dX7_giveAt_126 (nx := 127) rfl rfl ?_
              refine v_aload_n 0 dX7_giveAt_127 (nx := 128) rfl rfl ?_
              refine m_gA 10 (p := 0) dX7_giveAt_128 (nx := 131) rfl (by decide) fl_X7_9 rfl ?_
              refine v_sipush dX7_giveAt_131 (nx := 134) rfl rfl ?_
              refine v_iload_n 3 dX7_giveAt_134 (nx := 135) rfl rfl ?_
              refine v_iadd dX7_giveAt_135 (nx := 136) rfl ?_
              refine m_ald10 dX7_giveAt_136 (nx := 137) rfl ⟨by omega, by omega⟩ ?_
              refine t_callViQ (a := 14) (c_X7_outletFor hI _ _ (by exact ⟨by omega, by omega⟩) hg1) dX7_giveAt_137 (nx := 140) rfl kX7_outletFor ml_X7_72 (by decide) (ok_m 14 rfl) rfl rfl rfl rfl (Nat.le_of_ble_eq_true rfl) ⟨by decide, by decide⟩ ⟨by decide, by decide⟩ (fun τ hq => ?_)
              obtain ⟨F', rfl⟩ := hq
              have hof : outF N p (N (364 + (N (32 + p) - 1))) = -1 ∨ (0 ≤ outF N p (N (364 + (N (32 + p) - 1))) ∧ outF N p (N (364 + (N (32 + p) - 1))) < N 1) := mnI_b b1.1
              have hbe : beltN N p (N (32 + p) - 1) = outF N p (N (364 + (N (32 + p) - 1))) := by unfold beltN; rw [if_neg (by omega), if_neg (by omega)]
              rw [← hbe] at hof
              rw [← hbe]
              skip
              refine v_istore dX7_giveAt_140 (nx := 142) rfl rfl (by decide) ?_
              refine v_aload_n 0 dX7_giveAt_142 (nx := 143) rfl rfl ?_
              refine v_iload_n 3 dX7_giveAt_143 (nx := 144) rfl rfl ?_
              refine v_iload 4 dX7_giveAt_144 (nx := 146) rfl rfl ?_
              refine t_callVi (a := 14) (c_X7_put hR _ _ (by omega) (by omega)) dX7_giveAt_146 (nx := 149) rfl kX7_put ml_X7_87 (by decide) (ok_m 14 rfl) rfl rfl rfl rfl (Nat.le_of_ble_eq_true rfl) ⟨by decide, by decide⟩ ⟨by decide, by decide⟩ ?_
              refine v_ifB_eq dX7_giveAt_149 (tgt := 162) (by decide) (nx := 152) rfl (fun c149 => ?_) (fun c149 => ?_)
              · rw [if_neg c149]
                exact t_ret dX7_giveAt_162 rfl ⟨rfl, _, by unfold gvN; (repeat (first | rw [if_pos (by first | omega | exact ⟨by omega, c149⟩ | exact c149)] | rw [if_neg (by first | omega | (intro q; exact c149 q.2) | exact c149)]))⟩
              · rw [if_pos c149]
                refine v_aload_n 0 dX7_giveAt_152 (nx := 153) rfl rfl ?_
                refine m_gA 10 (p := 0) dX7_giveAt_153 (nx := 156) rfl (by decide) fl_X7_9 rfl ?_
                refine v_bipush dX7_giveAt_156 (nx := 158) rfl rfl ?_
                refine v_iload_n 1 dX7_giveAt_158 (nx := 159) rfl rfl ?_
                refine v_iadd dX7_giveAt_159 (nx := 160) rfl ?_
                refine v_iconst dX7_giveAt_160 (nx := 161) rfl ?_
                refine m_ast10 dX7_giveAt_161 (nx := 162) rfl ⟨by omega, by omega⟩ ?_
                exact t_ret dX7_giveAt_162 rfl ⟨rfl, _, by unfold gvN; (repeat (first | rw [if_pos (by first | omega | exact ⟨by omega, c149⟩ | exact c149)] | rw [if_neg (by first | omega | (intro q; exact c149 q.2) | exact c149)]))⟩
            · refine v_aload_n 0 dX7_giveAt_116 (nx := 117) rfl rfl ?_
              refine v_iload_n 1 dX7_giveAt_117 (nx := 118) rfl rfl ?_
              refine v_iload_n 3 dX7_giveAt_118 (nx := 119) rfl rfl ?_
              refine t_callVi (a := 14) (c_X7_screened hI _ _ (by omega) (by omega) (p2 c113) (by omega)) dX7_giveAt_119 (nx := 122) rfl kX7_screened ml_X7_97 (by decide) (ok_m 14 rfl) rfl rfl rfl rfl (Nat.le_of_ble_eq_true rfl) ⟨by decide, by decide⟩ ⟨by decide, by decide⟩ ?_
              have hsc : scrN N p (N (32 + p) - 1) = -1 ∨ (0 ≤ scrN N p (N (32 + p) - 1) ∧ scrN N p (N (32 + p) - 1) < 16) := by
                unfold scrN
                split
                · exact Or.inl rfl
                · split <;> omega
              have hbe : beltN N p (N (32 + p) - 1) = scrN N p (N (32 + p) - 1) := by unfold beltN; rw [if_neg (by omega), if_pos (by omega)]
              rw [← hbe] at hsc
              rw [← hbe]
              refine v_goto dX7_giveAt_122 (tgt := 140) (by decide) ?_
              skip
              refine v_istore dX7_giveAt_140 (nx := 142) rfl rfl (by decide) ?_
              refine v_aload_n 0 dX7_giveAt_142 (nx := 143) rfl rfl ?_
              refine v_iload_n 3 dX7_giveAt_143 (nx := 144) rfl rfl ?_
              refine v_iload 4 dX7_giveAt_144 (nx := 146) rfl rfl ?_
              refine t_callVi (a := 14) (c_X7_put hR _ _ (by omega) (by omega)) dX7_giveAt_146 (nx := 149) rfl kX7_put ml_X7_87 (by decide) (ok_m 14 rfl) rfl rfl rfl rfl (Nat.le_of_ble_eq_true rfl) ⟨by decide, by decide⟩ ⟨by decide, by decide⟩ ?_
              refine v_ifB_eq dX7_giveAt_149 (tgt := 162) (by decide) (nx := 152) rfl (fun c149 => ?_) (fun c149 => ?_)
              · rw [if_neg c149]
                exact t_ret dX7_giveAt_162 rfl ⟨rfl, _, by unfold gvN; (repeat (first | rw [if_pos (by first | omega | exact ⟨by omega, c149⟩ | exact c149)] | rw [if_neg (by first | omega | (intro q; exact c149 q.2) | exact c149)]))⟩
              · rw [if_pos c149]
                refine v_aload_n 0 dX7_giveAt_152 (nx := 153) rfl rfl ?_
                refine m_gA 10 (p := 0) dX7_giveAt_153 (nx := 156) rfl (by decide) fl_X7_9 rfl ?_
                refine v_bipush dX7_giveAt_156 (nx := 158) rfl rfl ?_
                refine v_iload_n 1 dX7_giveAt_158 (nx := 159) rfl rfl ?_
                refine v_iadd dX7_giveAt_159 (nx := 160) rfl ?_
                refine v_iconst dX7_giveAt_160 (nx := 161) rfl ?_
                refine m_ast10 dX7_giveAt_161 (nx := 162) rfl ⟨by omega, by omega⟩ ?_
                exact t_ret dX7_giveAt_162 rfl ⟨rfl, _, by unfold gvN; (repeat (first | rw [if_pos (by first | omega | exact ⟨by omega, c149⟩ | exact c149)] | rw [if_neg (by first | omega | (intro q; exact c149 q.2) | exact c149)]))⟩
          · refine v_aload_n 0 dX7_giveAt_103 (nx := 104) rfl rfl ?_
            refine v_iload_n 1 dX7_giveAt_104 (nx := 105) rfl rfl ?_
            refine t_callVi (a := 14) (c_X7_outlet hR _ (by exact ⟨by omega, by omega⟩) b1) dX7_giveAt_105 (nx := 108) rfl kX7_outlet ml_X7_84 (by decide) (ok_m 14 rfl) rfl rfl rfl rfl (Nat.le_of_ble_eq_true rfl) ⟨by decide, by decide⟩ ⟨by decide, by decide⟩ ?_
            have hbe : beltN N p (N (32 + p) - 1) = outS N p := by unfold beltN; rw [if_pos (by omega)]
            rw [← hbe] at hs
            rw [← hbe]
            refine v_goto dX7_giveAt_108 (tgt := 140) (by decide) ?_
            skip
            refine v_istore dX7_giveAt_140 (nx := 142) rfl rfl (by decide) ?_
            refine v_aload_n 0 dX7_giveAt_142 (nx := 143) rfl rfl ?_
            refine v_iload_n 3 dX7_giveAt_143 (nx := 144) rfl rfl ?_
            refine v_iload 4 dX7_giveAt_144 (nx := 146) rfl rfl ?_
            refine t_callVi (a := 14) (c_X7_put hR _ _ (by omega) (by omega)) dX7_giveAt_146 (nx := 149) rfl kX7_put ml_X7_87 (by decide) (ok_m 14 rfl) rfl rfl rfl rfl (Nat.le_of_ble_eq_true rfl) ⟨by decide, by decide⟩ ⟨by decide, by decide⟩ ?_
            refine v_ifB_eq dX7_giveAt_149 (tgt := 162) (by decide) (nx := 152) rfl (fun c149 => ?_) (fun c149 => ?_)
            · rw [if_neg c149]
              exact t_ret dX7_giveAt_162 rfl ⟨rfl, _, by unfold gvN; (repeat (first | rw [if_pos (by first | omega | exact ⟨by omega, c149⟩ | exact c149)] | rw [if_neg (by first | omega | (intro q; exact c149 q.2) | exact c149)]))⟩
            · rw [if_pos c149]
              refine v_aload_n 0 dX7_giveAt_152 (nx := 153) rfl rfl ?_
              refine m_gA 10 (p := 0) dX7_giveAt_153 (nx := 156) rfl (by decide) fl_X7_9 rfl ?_
              refine v_bipush dX7_giveAt_156 (nx := 158) rfl rfl ?_
              refine v_iload_n 1 dX7_giveAt_158 (nx := 159) rfl rfl ?_
              refine v_iadd dX7_giveAt_159 (nx := 160) rfl ?_
              refine v_iconst dX7_giveAt_160 (nx := 161) rfl ?_
              refine m_ast10 dX7_giveAt_161 (nx := 162) rfl ⟨by omega, by omega⟩ ?_
              exact t_ret dX7_giveAt_162 rfl ⟨rfl, _, by unfold gvN; (repeat (first | rw [if_pos (by first | omega | exact ⟨by omega, c149⟩ | exact c149)] | rw [if_neg (by first | omega | (intro q; exact c149 q.2) | exact c149)]))⟩
        · exact t_ret dX7_giveAt_97 rfl ⟨rfl, _, by unfold gvN; (repeat (first | rw [if_pos (by first | omega | exact ⟨by omega, rfl⟩ | exact rfl)] | rw [if_neg (by first | omega | (intro q; exact rfl q.2) | exact rfl)]))⟩
    · refine v_aload_n 0 dX7_giveAt_45 (nx := 46) rfl rfl ?_
      refine v_iload_n 1 dX7_giveAt_46 (nx := 47) rfl rfl ?_
      refine t_callVi (a := 14) (c_X7_firstOpened hI _ (by exact ⟨by omega, by omega⟩)) dX7_giveAt_47 (nx := 50) rfl kX7_firstOpened ml_X7_94 (by decide) (ok_m 14 rfl) rfl rfl rfl rfl (Nat.le_of_ble_eq_true rfl) ⟨by decide, by decide⟩ ⟨by decide, by decide⟩ ?_
      refine v_istore_n dX7_giveAt_50 (nx := 51) rfl rfl (by decide) ?_
      refine v_iload_n 3 dX7_giveAt_51 (nx := 52) rfl rfl ?_
      refine v_if_lt dX7_giveAt_52 (tgt := 72) (by decide) (nx := 55) rfl (by first | assumption | exact hR _ | exact ⟨by omega, by omega⟩) (fun c52 => ?_) (fun c52 => ?_)
      · refine v_iconst dX7_giveAt_72 (nx := 73) rfl ?_
        refine v_istore dX7_giveAt_73 (nx := 75) rfl rfl (by decide) ?_
        exact t_ret dX7_giveAt_75 rfl ⟨rfl, _, by unfold gvN; (repeat (first | rw [if_pos (by first | omega | exact ⟨by omega, rfl⟩ | exact rfl)] | rw [if_neg (by first | omega | (intro q; exact rfl q.2) | exact rfl)]))⟩
      · refine v_aload_n 0 dX7_giveAt_55 (nx := 56) rfl rfl ?_
        refine v_iload_n 3 dX7_giveAt_56 (nx := 57) rfl rfl ?_
        refine v_aload_n 0 dX7_giveAt_57 (nx := 58) rfl rfl ?_
        refine v_iload_n 1 dX7_giveAt_58 (nx := 59) rfl rfl ?_
        refine t_callVi (a := 14) (c_X7_outlet hR _ (by exact ⟨by omega, by omega⟩) b1) dX7_giveAt_59 (nx := 62) rfl kX7_outlet ml_X7_84 (by decide) (ok_m 14 rfl) rfl rfl rfl rfl (Nat.le_of_ble_eq_true rfl) ⟨by decide, by decide⟩ ⟨by decide, by decide⟩ ?_
        refine t_callVi (a := 14) (c_X7_put hR _ _ (by omega) (by omega)) dX7_giveAt_62 (nx := 65) rfl kX7_put ml_X7_87 (by decide) (ok_m 14 rfl) rfl rfl rfl rfl (Nat.le_of_ble_eq_true rfl) ⟨by decide, by decide⟩ ⟨by decide, by decide⟩ ?_
        refine v_ifB_eq dX7_giveAt_65 (tgt := 72) (by decide) (nx := 68) rfl (fun c65 => ?_) (fun c65 => ?_)
        · rw [if_neg c65]
          refine v_iconst dX7_giveAt_72 (nx := 73) rfl ?_
          refine v_istore dX7_giveAt_73 (nx := 75) rfl rfl (by decide) ?_
          exact t_ret dX7_giveAt_75 rfl ⟨rfl, _, by unfold gvN; (repeat (first | rw [if_pos (by first | omega | exact ⟨by omega, c65⟩ | exact c65)] | rw [if_neg (by first | omega | (intro q; exact c65 q.2) | exact c65)]))⟩
        · rw [if_pos c65]
          refine v_iconst dX7_giveAt_68 (nx := 69) rfl ?_
          refine v_goto dX7_giveAt_69 (tgt := 73) (by decide) ?_
          refine v_istore dX7_giveAt_73 (nx := 75) rfl rfl (by decide) ?_
          exact t_ret dX7_giveAt_75 rfl ⟨rfl, _, by unfold gvN; (repeat (first | rw [if_pos (by first | omega | exact ⟨by omega, c65⟩ | exact c65)] | rw [if_neg (by first | omega | (intro q; exact c65 q.2) | exact c65)]))⟩
  · refine v_aload_n 0 dX7_giveAt_10 (nx := 11) rfl rfl ?_
    refine v_iload_n 1 dX7_giveAt_11 (nx := 12) rfl rfl ?_
    refine t_callVi (a := 14) (c_X7_firstWaiting hI _ (by exact ⟨by omega, by omega⟩)) dX7_giveAt_12 (nx := 15) rfl kX7_firstWaiting ml_X7_81 (by decide) (ok_m 14 rfl) rfl rfl rfl rfl (Nat.le_of_ble_eq_true rfl) ⟨by decide, by decide⟩ ⟨by decide, by decide⟩ ?_
    refine v_istore_n dX7_giveAt_15 (nx := 16) rfl rfl (by decide) ?_
    refine v_iload_n 3 dX7_giveAt_16 (nx := 17) rfl rfl ?_
    refine v_if_lt dX7_giveAt_17 (tgt := 39) (by decide) (nx := 20) rfl (by first | assumption | exact hR _ | exact ⟨by omega, by omega⟩) (fun c17 => ?_) (fun c17 => ?_)
    · exact t_ret dX7_giveAt_39 rfl ⟨rfl, _, by unfold gvN; (repeat (first | rw [if_pos (by first | omega | exact ⟨by omega, rfl⟩ | exact rfl)] | rw [if_neg (by first | omega | (intro q; exact rfl q.2) | exact rfl)]))⟩
    · refine v_aload_n 0 dX7_giveAt_20 (nx := 21) rfl rfl ?_
      refine v_iload_n 3 dX7_giveAt_21 (nx := 22) rfl rfl ?_
      refine v_aload_n 0 dX7_giveAt_22 (nx := 23) rfl rfl ?_
      refine v_iload_n 1 dX7_giveAt_23 (nx := 24) rfl rfl ?_
      refine t_callVi (a := 14) (c_X7_outlet hR _ (by exact ⟨by omega, by omega⟩) b1) dX7_giveAt_24 (nx := 27) rfl kX7_outlet ml_X7_84 (by decide) (ok_m 14 rfl) rfl rfl rfl rfl (Nat.le_of_ble_eq_true rfl) ⟨by decide, by decide⟩ ⟨by decide, by decide⟩ ?_
      refine t_callVi (a := 14) (c_X7_put hR _ _ (by omega) (by omega)) dX7_giveAt_27 (nx := 30) rfl kX7_put ml_X7_87 (by decide) (ok_m 14 rfl) rfl rfl rfl rfl (Nat.le_of_ble_eq_true rfl) ⟨by decide, by decide⟩ ⟨by decide, by decide⟩ ?_
      refine v_ifB_eq dX7_giveAt_30 (tgt := 39) (by decide) (nx := 33) rfl (fun c30 => ?_) (fun c30 => ?_)
      · rw [if_neg c30]
        exact t_ret dX7_giveAt_39 rfl ⟨rfl, _, by unfold gvN; (repeat (first | rw [if_pos (by first | omega | exact ⟨by omega, c30⟩ | exact c30)] | rw [if_neg (by first | omega | (intro q; exact c30 q.2) | exact c30)]))⟩
      · rw [if_pos c30]
        have hfb := of_decide_eq_true c30
        have hgs := (hI.g (g := fstW N p) (by omega) (by omega)).2.2.1.1
        refine v_aload_n 0 dX7_giveAt_33 (nx := 34) rfl rfl ?_
        refine v_iload_n 3 dX7_giveAt_34 (nx := 35) rfl rfl ?_
        refine v_iload_n 1 dX7_giveAt_35 (nx := 36) rfl rfl ?_
        refine t_callVv (a := 14) (c_X7_goes (N := putN N (fstW N p) (outS N p)) (inR_lies (inR_uI hR ⟨by omega, by omega⟩) ⟨by decide, by decide⟩ ⟨by omega, by omega⟩ ⟨by decide, by decide⟩) _ _ (by omega) (by unfold putN; rw [lies_hi (by omega) (by omega), uI_n (by omega)]; exact hgs)) dX7_giveAt_36 (nx := 39) rfl kX7_goes ml_X7_91 (by decide) (ok_m 14 rfl) rfl rfl rfl rfl (Nat.le_of_ble_eq_true rfl) ⟨by decide, by decide⟩ ⟨by decide, by decide⟩ ?_
        exact t_ret dX7_giveAt_39 rfl ⟨rfl, _, by unfold gvN; (repeat (first | rw [if_pos (by first | omega | exact ⟨by omega, c30⟩ | exact c30)] | rw [if_neg (by first | omega | (intro q; exact c30 q.2) | exact c30)]))⟩

/-- what a tick wants of the array: the invariant at each of its stages -/
def TKOK (N : NN) : Prop :=
  ((0 ≤ N 0 ∧ N 0 ≤ 12) ∧ (0 ≤ N 1 ∧ N 1 ≤ 16) ∧ 0 ≤ N 4 ∧ N 4 < 1000000) ∧
  (∀ x, 0 ≤ x → x ≤ N 0 → ∃ k', IV (gvs N g0 x.toNat).1 k' ∧ GI (gvs N g0 x.toNat).1 (gvs N g0 x.toNat).2 ∧ (gvs N g0 x.toNat).1 0 = N 0 ∧ (gvs N g0 x.toNat).1 1 = N 1) ∧
  (∀ x, 0 ≤ x → x ≤ N 1 → ∃ k', IV (mvA (gvs N g0 (N 0).toNat).1 (gvs N g0 (N 0).toNat).2 x.toNat) k' ∧ mvA (gvs N g0 (N 0).toNat).1 (gvs N g0 (N 0).toNat).2 x.toNat 0 = N 0 ∧ mvA (gvs N g0 (N 0).toNat).1 (gvs N g0 (N 0).toNat).2 x.toNat 1 = N 1) ∧
  (∀ x, 0 ≤ x → x ≤ N 0 → ∃ k', IV (tks (mvA (gvs N g0 (N 0).toNat).1 (gvs N g0 (N 0).toNat).2 (N 1).toNat) (gvs N g0 (N 0).toNat).2 x.toNat) k' ∧ tks (mvA (gvs N g0 (N 0).toNat).1 (gvs N g0 (N 0).toNat).2 (N 1).toNat) (gvs N g0 (N 0).toNat).2 x.toNat 0 = N 0 ∧ tks (mvA (gvs N g0 (N 0).toNat).1 (gvs N g0 (N 0).toNat).2 (N 1).toNat) (gvs N g0 (N 0).toNat).2 x.toNat 4 = N 4 ∧
    (x < N 0 → tks (mvA (gvs N g0 (N 0).toNat).1 (gvs N g0 (N 0).toNat).2 (N 1).toNat) (gvs N g0 (N 0).toNat).2 x.toNat (8 + x) = 5 → ∀ y, 0 ≤ y → y ≤ tks (mvA (gvs N g0 (N 0).toNat).1 (gvs N g0 (N 0).toNat).2 (N 1).toNat) (gvs N g0 (N 0).toNat).2 x.toNat 1 → ∃ k'', IV (chs (gvs N g0 (N 0).toNat).2 x (tks (mvA (gvs N g0 (N 0).toNat).1 (gvs N g0 (N 0).toNat).2 (N 1).toNat) (gvs N g0 (N 0).toNat).2 x.toNat) y.toNat) k'' ∧ chs (gvs N g0 (N 0).toNat).2 x (tks (mvA (gvs N g0 (N 0).toNat).1 (gvs N g0 (N 0).toNat).2 (N 1).toNat) (gvs N g0 (N 0).toNat).2 x.toNat) y.toNat 1 = tks (mvA (gvs N g0 (N 0).toNat).1 (gvs N g0 (N 0).toNat).2 (N 1).toNat) (gvs N g0 (N 0).toNat).2 x.toNat 1))
def GZ (G : NN) : Prop := (∀ g, G g = 0 ∨ G g = 1) ∧ ∀ g, ¬ (0 ≤ g ∧ g < 60) → G g = 0
theorem GI.z {N G : NN} (h : GI N G) (h3 : N 3 ≤ 60) : GZ G := ⟨h.1, fun g q => h.2.1 g (by omega)⟩

set_option maxRecDepth 100000 in
theorem l_X7_tick4 {g : GG} {kp : Bool} {σ : SS} {N K G F : Int → Int} {k f : Int} (hT : TKOK N) : ∀ (m : Nat) (x : Int) (M : NN) (F' : NN) (A : NN) (B : NN), (0 ≤ x ∧ x ≤ N 0) → (N 0 - x < m) → (A = (mvA (gvs N g0 (N 0).toNat).1 (gvs N g0 (N 0).toNat).2 (N 1).toNat)) → (B = (gvs N g0 (N 0).toNat).2) → (M = tks A B x.toNat) → V g (rmD 4 0 0) mX7_tickOnce (ZT g kp ((fun r τ => r = none ∧ ∃ F' G' : NN, GZ G' ∧ τ = mkS σ (tick1 N) K G' F' k f))) E0 69 [(0, rf g (ad 14 0 0)), (1, vi x)] [] (vw g kp (mkS σ M K B F' k f)) (sz kp) 0 0 := by
  intro m
  induction m with
  | zero => intro x M F' A B hx hm hA hB hM; exfalso; omega
  | succ m ih =>
    intro x M F' A B hx hm hA hB hM
    obtain ⟨⟨n0, n1, n4⟩, t1, t2, t3⟩ := hT
    obtain ⟨kk, hI, hM0, hM4, hchh⟩ := t3 x hx.1 hx.2
    obtain ⟨k1, hI1, hGI, -⟩ := t1 (N 0) n0.1 (Int.le_refl _)
    rw [← hA, ← hB, ← hM] at hI hM0 hM4 hchh
    rw [← hB] at hGI
    have hgz := hGI.z hI1.n.2.2.2.1.2
    obtain ⟨b0, b1, b2, b3, b4, b5⟩ := hI.n
    have hR := hI.r
    refine v_iload_n 1 dX7_tickOnce_69 (nx := 70) rfl rfl ?_
    refine v_aload_n 0 dX7_tickOnce_70 (nx := 71) rfl rfl ?_
    refine m_gA 10 (p := 0) dX7_tickOnce_71 (nx := 74) rfl (by decide) fl_X7_9 rfl ?_
    refine v_iconst dX7_tickOnce_74 (nx := 75) rfl ?_
    refine m_ald10 dX7_tickOnce_75 (nx := 76) rfl ⟨by omega, by omega⟩ ?_
    refine v_icmp_ge dX7_tickOnce_76 (tgt := 90) (by decide) (nx := 79) rfl (by first | assumption | exact hR _ | exact ⟨by omega, by omega⟩) (by first | assumption | exact hR _ | exact ⟨by omega, by omega⟩) (fun c76 => ?_) (fun c76 => ?_)
    · refine v_aload_n 0 dX7_tickOnce_90 (nx := 91) rfl rfl ?_
      refine m_gA 10 (p := 0) dX7_tickOnce_91 (nx := 94) rfl (by decide) fl_X7_9 rfl ?_
      refine v_iconst dX7_tickOnce_94 (nx := 95) rfl ?_
      refine v_dup2 dX7_tickOnce_95 (nx := 96) rfl rfl rfl ?_
      refine m_ald10e (z := N 4) dX7_tickOnce_96 (nx := 97) rfl ⟨by omega, by omega⟩ hM4 ?_
      refine v_iconst dX7_tickOnce_97 (nx := 98) rfl ?_
      refine v_iadd dX7_tickOnce_98 (nx := 99) rfl ?_
      refine m_ast10 dX7_tickOnce_99 (nx := 100) rfl ⟨by omega, by omega⟩ ?_
      exact t_ret dX7_tickOnce_100 rfl ⟨rfl, F', B, hgz, by unfold tick1; rw [← hA, ← hB, hM, show x = N 0 by omega]⟩
    · refine v_aload_n 0 dX7_tickOnce_79 (nx := 80) rfl rfl ?_
      refine v_iload_n 1 dX7_tickOnce_80 (nx := 81) rfl rfl ?_
      refine t_callVv (a := 14) (c_X7_takeAt hI hGI.1 _ (by omega) (hchh (by omega))) dX7_tickOnce_81 (nx := 84) rfl kX7_takeAt ml_X7_128 (by decide) (ok_m 14 rfl) rfl rfl rfl rfl (Nat.le_of_ble_eq_true rfl) ⟨by decide, by decide⟩ ⟨by decide, by decide⟩ ?_
      refine v_iinc 1 dX7_tickOnce_84 (nx := 87) rfl rfl rfl (by decide) ?_
      refine v_goto dX7_tickOnce_87 (tgt := 69) (by decide) ?_
      exact (ih _ _ _ _ _ ⟨by omega, by omega⟩ (by omega) hA hB (by rw [tks_s hx.1, ← hM]))

set_option maxRecDepth 100000 in
theorem l_X7_tick3 {g : GG} {kp : Bool} {σ : SS} {N K G F : Int → Int} {k f : Int} (hT : TKOK N) : ∀ (m : Nat) (x : Int) (M : NN) (F' : NN) (A : NN) (B : NN), (0 ≤ x ∧ x ≤ N 1) → (N 1 - x < m) → (A = (gvs N g0 (N 0).toNat).1) → (B = (gvs N g0 (N 0).toNat).2) → (M = mvA A B x.toNat) → V g (rmD 4 0 0) mX7_tickOnce (ZT g kp ((fun r τ => r = none ∧ ∃ F' G' : NN, GZ G' ∧ τ = mkS σ (tick1 N) K G' F' k f))) E0 46 [(0, rf g (ad 14 0 0)), (1, vi x)] [] (vw g kp (mkS σ M K B F' k f)) (sz kp) 0 0 := by
  intro m
  induction m with
  | zero => intro x M F' A B hx hm hA hB hM; exfalso; omega
  | succ m ih =>
    intro x M F' A B hx hm hA hB hM
    obtain ⟨⟨n0, n1, n4⟩, t1, t2, t3⟩ := id hT
    obtain ⟨kk, hI, hM0, hM1⟩ := t2 x hx.1 hx.2
    obtain ⟨k1, hI1, hGI, -⟩ := t1 (N 0) n0.1 (Int.le_refl _)
    rw [← hA, ← hB, ← hM] at hI hM0 hM1
    rw [← hB] at hGI
    obtain ⟨b0, b1, b2, b3, b4, b5⟩ := hI.n
    have hR := hI.r
    refine v_iload_n 1 dX7_tickOnce_46 (nx := 47) rfl rfl ?_
    refine v_aload_n 0 dX7_tickOnce_47 (nx := 48) rfl rfl ?_
    refine m_gA 10 (p := 0) dX7_tickOnce_48 (nx := 51) rfl (by decide) fl_X7_9 rfl ?_
    refine v_iconst dX7_tickOnce_51 (nx := 52) rfl ?_
    refine m_ald10 dX7_tickOnce_52 (nx := 53) rfl ⟨by omega, by omega⟩ ?_
    refine v_icmp_ge dX7_tickOnce_53 (tgt := 67) (by decide) (nx := 56) rfl (by first | assumption | exact hR _ | exact ⟨by omega, by omega⟩) (by first | assumption | exact hR _ | exact ⟨by omega, by omega⟩) (fun c53 => ?_) (fun c53 => ?_)
    · refine v_iconst dX7_tickOnce_67 (nx := 68) rfl ?_
      refine v_istore_n dX7_tickOnce_68 (nx := 69) rfl rfl (by decide) ?_
      exact (l_X7_tick4 (F := F) (G := G) hT (N 0 + 1).toNat 0 _ _ _ _ ⟨by omega, by omega⟩ (by omega) (by rw [hM, hA, hB, show x = N 1 by omega]) hB rfl)
    · refine v_aload_n 0 dX7_tickOnce_56 (nx := 57) rfl rfl ?_
      refine v_iload_n 1 dX7_tickOnce_57 (nx := 58) rfl rfl ?_
      refine t_callVv (a := 14) (c_X7_move hI hGI.1 _ (by omega)) dX7_tickOnce_58 (nx := 61) rfl kX7_move ml_X7_125 (by decide) (ok_m 14 rfl) rfl rfl rfl rfl (Nat.le_of_ble_eq_true rfl) ⟨by decide, by decide⟩ ⟨by decide, by decide⟩ ?_
      refine v_iinc 1 dX7_tickOnce_61 (nx := 64) rfl rfl rfl (by decide) ?_
      refine v_goto dX7_tickOnce_64 (tgt := 46) (by decide) ?_
      exact (ih _ _ _ _ _ ⟨by omega, by omega⟩ (by omega) hA hB (by rw [mvA_s hx.1, ← hM]))

set_option maxRecDepth 100000 in
theorem l_X7_tick2 {g : GG} {kp : Bool} {σ : SS} {N K G F : Int → Int} {k f : Int} (hT : TKOK N) : ∀ (m : Nat) (x : Int) (M : NN) (B : NN) (F' : NN), (0 ≤ x ∧ x ≤ N 0) → (N 0 - x < m) → ((M, B) = gvs N g0 x.toNat) → V g (rmD 4 0 0) mX7_tickOnce (ZT g kp ((fun r τ => r = none ∧ ∃ F' G' : NN, GZ G' ∧ τ = mkS σ (tick1 N) K G' F' k f))) E0 23 [(0, rf g (ad 14 0 0)), (1, vi x)] [] (vw g kp (mkS σ M K B F' k f)) (sz kp) 0 0 := by
  intro m
  induction m with
  | zero => intro x M B F' hx hm hM; exfalso; omega
  | succ m ih =>
    intro x M B F' hx hm hM
    obtain ⟨⟨n0, n1, n4⟩, t1, t2, t3⟩ := id hT
    obtain ⟨kk, hI, hGI, hM0, hM1⟩ := t1 x hx.1 hx.2
    rw [← hM] at hI hGI hM0 hM1
    dsimp only at hI hGI hM0 hM1
    obtain ⟨b0, b1, b2, b3, b4, b5⟩ := hI.n
    have hR := hI.r
    refine v_iload_n 1 dX7_tickOnce_23 (nx := 24) rfl rfl ?_
    refine v_aload_n 0 dX7_tickOnce_24 (nx := 25) rfl rfl ?_
    refine m_gA 10 (p := 0) dX7_tickOnce_25 (nx := 28) rfl (by decide) fl_X7_9 rfl ?_
    refine v_iconst dX7_tickOnce_28 (nx := 29) rfl ?_
    refine m_ald10 dX7_tickOnce_29 (nx := 30) rfl ⟨by omega, by omega⟩ ?_
    refine v_icmp_ge dX7_tickOnce_30 (tgt := 44) (by decide) (nx := 33) rfl (by first | assumption | exact hR _ | exact ⟨by omega, by omega⟩) (by first | assumption | exact hR _ | exact ⟨by omega, by omega⟩) (fun c30 => ?_) (fun c30 => ?_)
    · refine v_iconst dX7_tickOnce_44 (nx := 45) rfl ?_
      refine v_istore_n dX7_tickOnce_45 (nx := 46) rfl rfl (by decide) ?_
      exact (l_X7_tick3 (F := F) (G := G) hT (N 1 + 1).toNat 0 _ _ M B ⟨by omega, by omega⟩ (by omega) (by rw [show M = (M, B).1 from rfl, hM, show x = N 0 by omega]) (by rw [show B = (M, B).2 from rfl, hM, show x = N 0 by omega]) rfl)
    · refine v_aload_n 0 dX7_tickOnce_33 (nx := 34) rfl rfl ?_
      refine v_iload_n 1 dX7_tickOnce_34 (nx := 35) rfl rfl ?_
      refine t_callVvQ (a := 14) (c_X7_giveAt hI _ (by omega)) dX7_tickOnce_35 (nx := 38) rfl kX7_giveAt ml_X7_122 (by decide) (ok_m 14 rfl) rfl rfl rfl rfl (Nat.le_of_ble_eq_true rfl) ⟨by decide, by decide⟩ ⟨by decide, by decide⟩ (fun τ hq => ?_)
      obtain ⟨F2, rfl⟩ := hq
      refine v_iinc 1 dX7_tickOnce_38 (nx := 41) rfl rfl rfl (by decide) ?_
      refine v_goto dX7_tickOnce_41 (tgt := 23) (by decide) ?_
      exact (ih _ _ _ _ ⟨by omega, by omega⟩ (by omega) (by rw [gvs_s hx.1, ← hM]))

set_option maxRecDepth 100000 in
theorem l_X7_tick1 {g : GG} {kp : Bool} {σ : SS} {N K G F : Int → Int} {k f : Int} (hT : TKOK N) (hz : GZ G) : ∀ (m : Nat) (x : Int), (0 ≤ x ∧ x ≤ 60) → (60 - x < m) → V g (rmD 4 0 0) mX7_tickOnce (ZT g kp ((fun r τ => r = none ∧ ∃ F' G' : NN, GZ G' ∧ τ = mkS σ (tick1 N) K G' F' k f))) E0 2 [(0, rf g (ad 14 0 0)), (1, vi x)] [] (vw g kp (mkS σ N K (cpy g0 G x) F k f)) (sz kp) 0 0 := by
  intro m
  induction m with
  | zero => intro x hx hm; exfalso; omega
  | succ m ih =>
    intro x hx hm
    obtain ⟨⟨n0, n1, n4⟩, t1, t2, t3⟩ := id hT
    refine v_iload_n 1 dX7_tickOnce_2 (nx := 3) rfl rfl ?_
    refine v_bipush dX7_tickOnce_3 (nx := 5) rfl rfl ?_
    refine v_icmp_ge dX7_tickOnce_5 (tgt := 21) (by decide) (nx := 8) rfl (by first | assumption | exact hR _ | exact ⟨by omega, by omega⟩) (by first | assumption | exact hR _ | exact ⟨by omega, by omega⟩) (fun c5 => ?_) (fun c5 => ?_)
    · refine v_iconst dX7_tickOnce_21 (nx := 22) rfl ?_
      refine v_istore_n dX7_tickOnce_22 (nx := 23) rfl rfl (by decide) ?_
      exact (by
    have e : cpy g0 G x = g0 := by
      funext j
      unfold cpy
      by_cases q : 0 ≤ j ∧ j < x
      · rw [if_pos q]
      · rw [if_neg q, hz.2 j (by omega)]; rfl
    rw [e]
    exact l_X7_tick2 (F := F) (G := G) hT (N 0 + 1).toNat 0 N g0 F ⟨by omega, by omega⟩ (by omega) rfl)
    · refine v_aload_n 0 dX7_tickOnce_8 (nx := 9) rfl rfl ?_
      refine m_gA 12 (p := 4) dX7_tickOnce_9 (nx := 12) rfl (by decide) fl_X7_16 rfl ?_
      refine v_iload_n 1 dX7_tickOnce_12 (nx := 13) rfl rfl ?_
      refine v_iconst dX7_tickOnce_13 (nx := 14) rfl ?_
      refine m_zst dX7_tickOnce_14 (nx := 15) rfl ⟨by omega, by omega⟩ (by first | exact Or.inl rfl | exact Or.inr rfl) ?_
      refine v_iinc 1 dX7_tickOnce_15 (nx := 18) rfl rfl rfl (by decide) ?_
      refine v_goto dX7_tickOnce_18 (tgt := 2) (by decide) ?_
      exact (by rw [show uI (cpy g0 G x) x 0 = cpy g0 G (x + 1) from cpy_s hx.1]; exact ih _ ⟨by omega, by omega⟩ (by omega))

set_option maxRecDepth 100000 in
theorem c_X7_tickOnce {g : GG} {kp : Bool} {σ : SS} {N K G F : Int → Int} {k f : Int} (hT : TKOK N) (hz : GZ G) : TC g kp 4 mX7_tickOnce [rf g (ad 14 0 0)] (mkS σ N K G F k f) (fun r τ => r = none ∧ ∃ F' G' : NN, GZ G' ∧ τ = mkS σ (tick1 N) K G' F' k f) := by
  refine TC.of (by decide) (Nat.le_of_ble_eq_true rfl) rfl ?_
  refine v_iconst dX7_tickOnce_0 (nx := 1) rfl ?_
  refine v_istore_n dX7_tickOnce_1 (nx := 2) rfl rfl (by decide) ?_
  exact (by
    have := l_X7_tick1 (g := g) (kp := kp) (σ := σ) (K := K) (F := F) (k := k) (f := f) hT hz 61 0 ⟨by omega, by omega⟩ (by omega)
    rw [cpy_0] at this
    exact this)

set_option maxRecDepth 100000 in
theorem l_X7_tick0 {g : GG} {kp : Bool} {σ : SS} {N K G F : Int → Int} {k f : Int} (n : Int) (hn : 1 ≤ n ∧ n ≤ 100) (hT : ∀ x, 0 ≤ x → x < n → TKOK (ticks N x.toNat)) : ∀ (m : Nat) (x : Int) (M : NN) (G' : NN) (F' : NN), (0 ≤ x ∧ x ≤ n) → (n - x < m) → (GZ G') → (M = ticks N x.toNat) → V g (rmD 5 0 0) mX7_tick (ZT g kp ((fun r τ => r = some (vi (s_tick N n).1) ∧ ∃ F' G' : NN, GZ G' ∧ τ = mkS σ (s_tick N n).2.1 K G' F' k (f + (s_tick N n).2.2)))) E0 18 [(0, rf g (ad 14 0 0)), (1, vi n), (2, vi x)] [] (vw g kp (mkS σ M K G' F' k f)) (sz kp) 0 0 := by
  intro m
  induction m with
  | zero => intro x M G' F' hx hm hz hM; exfalso; omega
  | succ m ih =>
    intro x M G' F' hx hm hz hM
    refine v_iload_n 2 dX7_tick_18 (nx := 19) rfl rfl ?_
    refine v_iload_n 1 dX7_tick_19 (nx := 20) rfl rfl ?_
    refine v_icmp_ge dX7_tick_20 (tgt := 33) (by decide) (nx := 23) rfl (by first | assumption | exact hR _ | exact ⟨by omega, by omega⟩) (by first | assumption | exact hR _ | exact ⟨by omega, by omega⟩) (fun c20 => ?_) (fun c20 => ?_)
    · refine v_aload_n 0 dX7_tick_33 (nx := 34) rfl rfl ?_
      refine m_gA 10 (p := 0) dX7_tick_34 (nx := 37) rfl (by decide) fl_X7_9 rfl ?_
      refine v_iconst dX7_tick_37 (nx := 38) rfl ?_
      refine m_ald10 dX7_tick_38 (nx := 39) rfl ⟨by omega, by omega⟩ ?_
      exact t_iret dX7_tick_39 rfl (by rw [show s_tick N n = (M 4, M, 0) by unfold s_tick; rw [if_neg (by omega), hM, show x = n by omega]]; exact ⟨rfl, F', G', hz, by rw [Int.add_zero]⟩)
    · refine v_aload_n 0 dX7_tick_23 (nx := 24) rfl rfl ?_
      refine t_callVvQ (a := 14) (c_X7_tickOnce (by rw [hM]; exact hT x hx.1 (by omega)) hz) dX7_tick_24 (nx := 27) rfl kX7_tickOnce ml_X7_131 (by decide) (ok_m 14 rfl) rfl rfl rfl rfl (Nat.le_of_ble_eq_true rfl) ⟨by decide, by decide⟩ ⟨by decide, by decide⟩ (fun τ hq => ?_)
      obtain ⟨F2, G2, hz2, rfl⟩ := hq
      refine v_iinc 2 dX7_tick_27 (nx := 30) rfl rfl rfl (by decide) ?_
      refine v_goto dX7_tick_30 (tgt := 18) (by decide) ?_
      exact (ih _ _ _ _ ⟨by omega, by omega⟩ (by omega) hz2 (by rw [ticks_s hx.1, ← hM]))

set_option maxRecDepth 100000 in
theorem c_X7_tick {g : GG} {kp : Bool} {σ : SS} {N K G F : Int → Int} {k f : Int} (n : Int) (hn : inR n) (hz : GZ G) (hT : ∀ x, 0 ≤ x → x < n → TKOK (ticks N x.toNat)) : TC g kp 5 mX7_tick [rf g (ad 14 0 0), vi n] (mkS σ N K G F k f) (fun r τ => r = some (vi (s_tick N n).1) ∧ ∃ F' G' : NN, GZ G' ∧ τ = mkS σ (s_tick N n).2.1 K G' F' k (f + (s_tick N n).2.2)) := by
  refine TC.of (by decide) (Nat.le_of_ble_eq_true rfl) rfl ?_
  refine v_iload_n 1 dX7_tick_0 (nx := 1) rfl rfl ?_
  refine v_iconst dX7_tick_1 (nx := 2) rfl ?_
  refine v_bipush dX7_tick_2 (nx := 4) rfl rfl ?_
  refine t_callSi (c_X7_in _ _ _ (by first | assumption | exact hR _ | exact ⟨by omega, by omega⟩) (by first | assumption | exact hR _ | exact ⟨by omega, by omega⟩) (by first | assumption | exact hR _ | exact ⟨by omega, by omega⟩)) dX7_tick_4 (nx := 7) rfl kX7_in ml_X7_27 rfl rfl (Nat.le_of_ble_eq_true rfl) ⟨by decide, by decide⟩ ⟨by decide, by decide⟩ ?_
  refine v_ifB_ne dX7_tick_7 (tgt := 16) (by decide) (nx := 10) rfl (fun c7 => ?_) (fun c7 => ?_)
  · refine v_iconst dX7_tick_16 (nx := 17) rfl ?_
    refine v_istore_n dX7_tick_17 (nx := 18) rfl rfl (by decide) ?_
    exact (l_X7_tick0 (G := G) (F := F) n (by omega) hT (n + 1).toNat 0 N G F ⟨by omega, by omega⟩ (by omega) hz rfl)
  · refine v_aload_n 0 dX7_tick_10 (nx := 11) rfl rfl ?_
    refine v_iconst dX7_tick_11 (nx := 12) rfl ?_
    refine t_callVi (a := 14) (c_X7_finding _) dX7_tick_12 (nx := 15) rfl kX7_finding ml_X7_31 (by decide) (ok_m 14 rfl) rfl rfl rfl rfl (Nat.le_of_ble_eq_true rfl) ⟨by decide, by decide⟩ ⟨by decide, by decide⟩ ?_
    exact t_iret dX7_tick_15 rfl (by rw [show s_tick N n = (-1, N, 1) by unfold s_tick; rw [if_pos (by omega)]; rfl]; exact ⟨rfl, F, G, hz, rfl⟩)
