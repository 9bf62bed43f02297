theorem rnd_s {N : NN} {ch : Int} {A : NN} {x : Int} (h : 0 ≤ x) : rnd N ch A (x + 1).toNat = rlx N ch (rnd N ch A x.toNat) x := by
  rw [toNat_s h]
  show rlx N ch (rnd N ch A x.toNat) (x.toNat : Int) = _
  rw [Int.toNat_of_nonneg h]

set_option maxRecDepth 100000 in
theorem l_X7_ff2 {g : GG} {kp : Bool} {σ : SS} {N K G F : Int → Int} {k f : Int} (hR : ∀ j, inR (N j)) (ch : Int) (hch : inR ch) (ho : okF N ch) (r : Nat) (hr : r ≤ 12) (out : ∀ (F2 : NN) (mo : Int), (∀ p, 0 ≤ p → p < 12 → F2 p = farI N ch (r + 1) p) → ((mo = 0 ∧ stF N ch (farI N ch r)) ∨ (mo = 1 ∧ r < 12)) → V g (rmD 1 0 0) mX7_findFar (ZT g kp (fun r τ => r = none ∧ ∃ F' : NN, (∀ p, 0 ≤ p → p < 12 → F' p = farS N ch p) ∧ τ = mkS σ N K G F' k f)) E0 30 [(0, rf g (ad 14 0 0)), (1, vi ch), (2, vi mo)] [] (vw g kp (mkS σ N K G F2 k f)) (sz kp) 0 0) : ∀ (m : Nat) (x : Int) (mo : Int) (F' : NN), (0 ≤ x ∧ x ≤ N 1) → (N 1 - x < m) → (∀ p, 0 ≤ p → p < 12 → F' p = rnd N ch (farI N ch r) x.toNat p) → ((mo = 0 ∧ rnd N ch (farI N ch r) x.toNat = farI N ch r) ∨ (mo = 1 ∧ r < 12)) → V g (rmD 1 0 0) mX7_findFar (ZT g kp ((fun r τ => r = none ∧ ∃ F' : NN, (∀ p, 0 ≤ p → p < 12 → F' p = farS N ch p) ∧ τ = mkS σ N K G F' k f))) E0 38 [(0, rf g (ad 14 0 0)), (1, vi ch), (2, vi mo), (3, vi x)] [] (vw g kp (mkS σ N K G F' k f)) (sz kp) 0 0 := by
  intro m
  induction m with
  | zero => intro x mo F' hx hm hF hmo; exfalso; omega
  | succ m ih =>
    intro x mo F' hx hm hF hmo
    have h1 := ho.1
    have hsg := rnd_sg ho (farI_sg ho r) x.toNat (by omega)
    have hbd := rnd_bd ho (farI_bd ho r) x.toNat (by omega)
    refine v_iload_n 3 dX7_findFar_38 (nx := 39) rfl rfl ?_
    refine v_aload_n 0 dX7_findFar_39 (nx := 40) rfl rfl ?_
    refine m_gA 10 (p := 0) dX7_findFar_40 (nx := 43) rfl (by decide) fl_X7_9 rfl ?_
    refine v_iconst dX7_findFar_43 (nx := 44) rfl ?_
    refine m_ald10 dX7_findFar_44 (nx := 45) rfl ⟨by omega, by omega⟩ ?_
    refine v_icmp_ge dX7_findFar_45 (tgt := 191) (by decide) (nx := 48) rfl (by first | assumption | exact hR _ | exact ⟨by omega, by omega⟩) (by first | assumption | exact hR _ | exact ⟨by omega, by omega⟩) (fun c45 => ?_) (fun c45 => ?_)
    · refine v_goto dX7_findFar_191 (tgt := 30) (by decide) ?_
      exact V.lpick [0, 1, 2] rfl ((out _ _ (fun p p0 p1 => by rw [hF p p0 p1, show x = N 1 by omega]; rfl) (by
    rcases hmo with ⟨e1, e2⟩ | e
    · exact Or.inl ⟨e1, rnd_fix ho (by rw [show x = N 1 by omega] at e2; exact e2)⟩
    · exact Or.inr e)))
    · have hb := ho.2.2 x (by omega) (by omega)
      have hFt := hF (N (84 + x)) (by omega) (by omega)
      have hFf := hF (N (68 + x)) (by omega) (by omega)
      have hst := hsg (N (84 + x))
      have hsf := hsg (N (68 + x))
      have hbt := bdF_132 hbd (N (84 + x))
      have hbf := bdF_132 hbd (N (68 + x))
      refine v_aload_n 0 dX7_findFar_48 (nx := 49) rfl rfl ?_
      refine m_gA 10 (p := 0) dX7_findFar_49 (nx := 52) rfl (by decide) fl_X7_9 rfl ?_
      refine v_bipush dX7_findFar_52 (nx := 54) rfl rfl ?_
      refine v_iload_n 3 dX7_findFar_54 (nx := 55) rfl rfl ?_
      refine v_iadd dX7_findFar_55 (nx := 56) rfl ?_
      refine m_ald10 dX7_findFar_56 (nx := 57) rfl ⟨by omega, by omega⟩ ?_
      refine v_istore dX7_findFar_57 (nx := 59) rfl rfl (by decide) ?_
      refine v_aload_n 0 dX7_findFar_59 (nx := 60) rfl rfl ?_
      refine m_gA 10 (p := 0) dX7_findFar_60 (nx := 63) rfl (by decide) fl_X7_9 rfl ?_
      refine v_bipush dX7_findFar_63 (nx := 65) rfl rfl ?_
      refine v_iload_n 3 dX7_findFar_65 (nx := 66) rfl rfl ?_
      refine v_iadd dX7_findFar_66 (nx := 67) rfl ?_
      refine m_ald10 dX7_findFar_67 (nx := 68) rfl ⟨by omega, by omega⟩ ?_
      refine v_istore dX7_findFar_68 (nx := 70) rfl rfl (by decide) ?_
      refine v_iload 5 dX7_findFar_70 (nx := 72) rfl rfl ?_
      refine v_iload_n 1 dX7_findFar_72 (nx := 73) rfl rfl ?_
      refine v_icmp_eq dX7_findFar_73 (tgt := 95) (by decide) (nx := 76) rfl (by first | assumption | exact hR _ | exact ⟨by omega, by omega⟩) (by first | assumption | exact hR _ | exact ⟨by omega, by omega⟩) (fun c73 => ?_) (fun c73 => ?_)
      · refine v_iconst dX7_findFar_95 (nx := 96) rfl ?_
        refine v_goto dX7_findFar_96 (tgt := 100) (by decide) ?_
        refine v_istore dX7_findFar_100 (nx := 102) rfl rfl (by decide) ?_
        refine v_aload_n 0 dX7_findFar_102 (nx := 103) rfl rfl ?_
        refine m_gA 10 (p := 0) dX7_findFar_103 (nx := 106) rfl (by decide) fl_X7_9 rfl ?_
        refine v_bipush dX7_findFar_106 (nx := 108) rfl rfl ?_
        refine v_iload_n 3 dX7_findFar_108 (nx := 109) rfl rfl ?_
        refine v_iadd dX7_findFar_109 (nx := 110) rfl ?_
        refine m_ald10 dX7_findFar_110 (nx := 111) rfl ⟨by omega, by omega⟩ ?_
        refine v_iconst dX7_findFar_111 (nx := 112) rfl ?_
        refine v_icmp_eq dX7_findFar_112 (tgt := 185) (by decide) (nx := 115) rfl (by first | assumption | exact hR _ | exact ⟨by omega, by omega⟩) (by first | assumption | exact hR _ | exact ⟨by omega, by omega⟩) (fun c112 => ?_) (fun c112 => ?_)
        · refine v_iinc 3 dX7_findFar_185 (nx := 188) rfl rfl rfl (by decide) ?_
          refine v_goto dX7_findFar_188 (tgt := 38) (by decide) ?_
          exact V.lpick [0, 1, 2, 3] rfl ((ih _ _ _ ⟨by omega, by omega⟩ (by omega) (fun p p0 p1 => by rw [rnd_s hx.1, show rlx N ch (rnd N ch (farI N ch r) x.toNat) x = rnd N ch (farI N ch r) x.toNat from by unfold rlx; first | rw [if_pos (by omega)] | rw [if_neg (by omega), if_neg (by omega)]]; exact hF p p0 p1) (by rw [rnd_s hx.1, show rlx N ch (rnd N ch (farI N ch r) x.toNat) x = rnd N ch (farI N ch r) x.toNat from by unfold rlx; first | rw [if_pos (by omega)] | rw [if_neg (by omega), if_neg (by omega)]]; exact hmo)))
        · refine v_iload 6 dX7_findFar_115 (nx := 117) rfl rfl ?_
          refine v_if_eq dX7_findFar_117 (tgt := 185) (by decide) (nx := 120) rfl (by first | assumption | exact hR _ | exact ⟨by omega, by omega⟩) (fun c117 => ?_) (fun c117 => ?_)
          · exfalso; omega
          · refine v_aload_n 0 dX7_findFar_120 (nx := 121) rfl rfl ?_
            refine m_gA 13 (p := 5) dX7_findFar_121 (nx := 124) rfl (by decide) fl_X7_20 rfl ?_
            refine v_iload 5 dX7_findFar_124 (nx := 126) rfl rfl ?_
            refine m_ald13 dX7_findFar_126 (nx := 127) rfl ⟨by omega, by omega⟩ ?_
            refine v_if_ge dX7_findFar_127 (tgt := 133) (by decide) (nx := 130) rfl (by first | assumption | exact hR _ | exact ⟨by omega, by omega⟩) (fun c127 => ?_) (fun c127 => ?_)
            · refine v_aload_n 0 dX7_findFar_133 (nx := 134) rfl rfl ?_
              refine m_gA 10 (p := 0) dX7_findFar_134 (nx := 137) rfl (by decide) fl_X7_9 rfl ?_
              refine v_bipush dX7_findFar_137 (nx := 139) rfl rfl ?_
              refine v_iload_n 3 dX7_findFar_139 (nx := 140) rfl rfl ?_
              refine v_iadd dX7_findFar_140 (nx := 141) rfl ?_
              refine m_ald10 dX7_findFar_141 (nx := 142) rfl ⟨by omega, by omega⟩ ?_
              refine v_aload_n 0 dX7_findFar_142 (nx := 143) rfl rfl ?_
              refine m_gA 13 (p := 5) dX7_findFar_143 (nx := 146) rfl (by decide) fl_X7_20 rfl ?_
              refine v_iload 5 dX7_findFar_146 (nx := 148) rfl rfl ?_
              refine m_ald13 dX7_findFar_148 (nx := 149) rfl ⟨by omega, by omega⟩ ?_
              refine v_iadd dX7_findFar_149 (nx := 150) rfl ?_
              refine v_istore dX7_findFar_150 (nx := 152) rfl rfl (by decide) ?_
              refine v_aload_n 0 dX7_findFar_152 (nx := 153) rfl rfl ?_
              refine m_gA 13 (p := 5) dX7_findFar_153 (nx := 156) rfl (by decide) fl_X7_20 rfl ?_
              refine v_iload 4 dX7_findFar_156 (nx := 158) rfl rfl ?_
              refine m_ald13 dX7_findFar_158 (nx := 159) rfl ⟨by omega, by omega⟩ ?_
              refine v_if_lt dX7_findFar_159 (tgt := 174) (by decide) (nx := 162) rfl (by first | assumption | exact hR _ | exact ⟨by omega, by omega⟩) (fun c159 => ?_) (fun c159 => ?_)
              · have hus : usB N ch x := ⟨by omega, by omega⟩
                have hrl : rnd N ch (farI N ch r) (x + 1).toNat = uI (rnd N ch (farI N ch r) x.toNat) (N (68 + x)) (N (100 + x) + (rnd N ch (farI N ch r) x.toNat) (N (84 + x))) := by
                  rw [rnd_s hx.1]
                  unfold rlx
                  rw [if_neg (by intro q; rcases q with q | q | q; exact hus.1 q; exact q hus.2; omega), if_pos (by omega)]
                have hr12 : r < 12 := by
                  rcases hmo with ⟨e1, e2⟩ | ⟨e1, e2⟩
                  · rcases Nat.lt_or_ge r 12 with q | q
                    · exact q
                    · exfalso
                      have e12 : r = 12 := by omega
                      have hs := far12 ho x (by omega) (by omega)
                      rw [e12] at e2 hrl hFf hFt hst hsf
                      rw [rnd_s hx.1, e2, hs] at hrl
                      rw [e2] at hFf hFt hst hsf
                      have e3 := congrFun hrl (N (68 + x))
                      rw [uI_s] at e3
                      omega
                  · exact e2
                refine v_aload_n 0 dX7_findFar_174 (nx := 175) rfl rfl ?_
                refine m_gA 13 (p := 5) dX7_findFar_175 (nx := 178) rfl (by decide) fl_X7_20 rfl ?_
                refine v_iload 4 dX7_findFar_178 (nx := 180) rfl rfl ?_
                refine v_iload 7 dX7_findFar_180 (nx := 182) rfl rfl ?_
                refine m_ast13 dX7_findFar_182 (nx := 183) rfl ⟨by omega, by omega⟩ ?_
                refine v_iconst dX7_findFar_183 (nx := 184) rfl ?_
                refine v_istore_n dX7_findFar_184 (nx := 185) rfl rfl (by decide) ?_
                refine v_iinc 3 dX7_findFar_185 (nx := 188) rfl rfl rfl (by decide) ?_
                refine v_goto dX7_findFar_188 (tgt := 38) (by decide) ?_
                exact V.lpick [0, 1, 2, 3] rfl ((ih _ _ _ ⟨by omega, by omega⟩ (by omega) (fun p p0 p1 => by
    rw [hrl]
    by_cases e : p = N (68 + x)
    · rw [e, uI_s, uI_s, hFt]
    · rw [uI_n e, uI_n e]; exact hF p p0 p1) (Or.inr ⟨rfl, hr12⟩)))
              · refine v_iload 7 dX7_findFar_162 (nx := 164) rfl rfl ?_
                refine v_aload_n 0 dX7_findFar_164 (nx := 165) rfl rfl ?_
                refine m_gA 13 (p := 5) dX7_findFar_165 (nx := 168) rfl (by decide) fl_X7_20 rfl ?_
                refine v_iload 4 dX7_findFar_168 (nx := 170) rfl rfl ?_
                refine m_ald13 dX7_findFar_170 (nx := 171) rfl ⟨by omega, by omega⟩ ?_
                refine v_icmp_ge dX7_findFar_171 (tgt := 185) (by decide) (nx := 174) rfl (by first | assumption | exact hR _ | exact ⟨by omega, by omega⟩) (by first | assumption | exact hR _ | exact ⟨by omega, by omega⟩) (fun c171 => ?_) (fun c171 => ?_)
                · refine v_iinc 3 dX7_findFar_185 (nx := 188) rfl rfl rfl (by decide) ?_
                  refine v_goto dX7_findFar_188 (tgt := 38) (by decide) ?_
                  exact V.lpick [0, 1, 2, 3] rfl ((ih _ _ _ ⟨by omega, by omega⟩ (by omega) (fun p p0 p1 => by rw [rnd_s hx.1, show rlx N ch (rnd N ch (farI N ch r) x.toNat) x = rnd N ch (farI N ch r) x.toNat from by unfold rlx; first | rw [if_pos (by omega)] | rw [if_neg (by omega), if_neg (by omega)]]; exact hF p p0 p1) (by rw [rnd_s hx.1, show rlx N ch (rnd N ch (farI N ch r) x.toNat) x = rnd N ch (farI N ch r) x.toNat from by unfold rlx; first | rw [if_pos (by omega)] | rw [if_neg (by omega), if_neg (by omega)]]; exact hmo)))
                · have hus : usB N ch x := ⟨by omega, by omega⟩
                  have hrl : rnd N ch (farI N ch r) (x + 1).toNat = uI (rnd N ch (farI N ch r) x.toNat) (N (68 + x)) (N (100 + x) + (rnd N ch (farI N ch r) x.toNat) (N (84 + x))) := by
                    rw [rnd_s hx.1]
                    unfold rlx
                    rw [if_neg (by intro q; rcases q with q | q | q; exact hus.1 q; exact q hus.2; omega), if_pos (by omega)]
                  have hr12 : r < 12 := by
                    rcases hmo with ⟨e1, e2⟩ | ⟨e1, e2⟩
                    · rcases Nat.lt_or_ge r 12 with q | q
                      · exact q
                      · exfalso
                        have e12 : r = 12 := by omega
                        have hs := far12 ho x (by omega) (by omega)
                        rw [e12] at e2 hrl hFf hFt hst hsf
                        rw [rnd_s hx.1, e2, hs] at hrl
                        rw [e2] at hFf hFt hst hsf
                        have e3 := congrFun hrl (N (68 + x))
                        rw [uI_s] at e3
                        omega
                    · exact e2
                  refine v_aload_n 0 dX7_findFar_174 (nx := 175) rfl rfl ?_
                  refine m_gA 13 (p := 5) dX7_findFar_175 (nx := 178) rfl (by decide) fl_X7_20 rfl ?_
                  refine v_iload 4 dX7_findFar_178 (nx := 180) rfl rfl ?_
                  refine v_iload 7 dX7_findFar_180 (nx := 182) rfl rfl ?_
                  refine m_ast13 dX7_findFar_182 (nx := 183) rfl ⟨by omega, by omega⟩ ?_
                  refine v_iconst dX7_findFar_183 (nx := 184) rfl ?_
                  refine v_istore_n dX7_findFar_184 (nx := 185) rfl rfl (by decide) ?_
                  refine v_iinc 3 dX7_findFar_185 (nx := 188) rfl rfl rfl (by decide) ?_
                  refine v_goto dX7_findFar_188 (tgt := 38) (by decide) ?_
                  exact V.lpick [0, 1, 2, 3] rfl ((ih _ _ _ ⟨by omega, by omega⟩ (by omega) (fun p p0 p1 => by
    rw [hrl]
    by_cases e : p = N (68 + x)
    · rw [e, uI_s, uI_s, hFt]
    · rw [uI_n e, uI_n e]; exact hF p p0 p1) (Or.inr ⟨rfl, hr12⟩)))
            · refine v_goto dX7_findFar_130 (tgt := 185) (by decide) ?_
              refine v_iinc 3 dX7_findFar_185 (nx := 188) rfl rfl rfl (by decide) ?_
              refine v_goto dX7_findFar_188 (tgt := 38) (by decide) ?_
              exact V.lpick [0, 1, 2, 3] rfl ((ih _ _ _ ⟨by omega, by omega⟩ (by omega) (fun p p0 p1 => by rw [rnd_s hx.1, show rlx N ch (rnd N ch (farI N ch r) x.toNat) x = rnd N ch (farI N ch r) x.toNat from by unfold rlx; first | rw [if_pos (by omega)] | rw [if_neg (by omega), if_neg (by omega)]]; exact hF p p0 p1) (by rw [rnd_s hx.1, show rlx N ch (rnd N ch (farI N ch r) x.toNat) x = rnd N ch (farI N ch r) x.toNat from by unfold rlx; first | rw [if_pos (by omega)] | rw [if_neg (by omega), if_neg (by omega)]]; exact hmo)))
      · refine v_aload_n 0 dX7_findFar_76 (nx := 77) rfl rfl ?_
        refine v_iload 5 dX7_findFar_77 (nx := 79) rfl rfl ?_
        refine t_callVi (a := 14) (c_X7_kindOf _ (by omega)) dX7_findFar_79 (nx := 82) rfl kX7_kindOf ml_X7_39 (by decide) (ok_m 14 rfl) rfl rfl rfl rfl (Nat.le_of_ble_eq_true rfl) ⟨by decide, by decide⟩ ⟨by decide, by decide⟩ ?_
        refine v_if_eq dX7_findFar_82 (tgt := 99) (by decide) (nx := 85) rfl (by first | assumption | exact hR _ | exact ⟨by omega, by omega⟩) (fun c82 => ?_) (fun c82 => ?_)
        · refine v_iconst dX7_findFar_99 (nx := 100) rfl ?_
          refine v_istore dX7_findFar_100 (nx := 102) rfl rfl (by decide) ?_
          refine v_aload_n 0 dX7_findFar_102 (nx := 103) rfl rfl ?_
          refine m_gA 10 (p := 0) dX7_findFar_103 (nx := 106) rfl (by decide) fl_X7_9 rfl ?_
          refine v_bipush dX7_findFar_106 (nx := 108) rfl rfl ?_
          refine v_iload_n 3 dX7_findFar_108 (nx := 109) rfl rfl ?_
          refine v_iadd dX7_findFar_109 (nx := 110) rfl ?_
          refine m_ald10 dX7_findFar_110 (nx := 111) rfl ⟨by omega, by omega⟩ ?_
          refine v_iconst dX7_findFar_111 (nx := 112) rfl ?_
          refine v_icmp_eq dX7_findFar_112 (tgt := 185) (by decide) (nx := 115) rfl (by first | assumption | exact hR _ | exact ⟨by omega, by omega⟩) (by first | assumption | exact hR _ | exact ⟨by omega, by omega⟩) (fun c112 => ?_) (fun c112 => ?_)
          · refine v_iinc 3 dX7_findFar_185 (nx := 188) rfl rfl rfl (by decide) ?_
            refine v_goto dX7_findFar_188 (tgt := 38) (by decide) ?_
            exact V.lpick [0, 1, 2, 3] rfl ((ih _ _ _ ⟨by omega, by omega⟩ (by omega) (fun p p0 p1 => by rw [rnd_s hx.1, show rlx N ch (rnd N ch (farI N ch r) x.toNat) x = rnd N ch (farI N ch r) x.toNat from by unfold rlx; first | rw [if_pos (by omega)] | rw [if_neg (by omega), if_neg (by omega)]]; exact hF p p0 p1) (by rw [rnd_s hx.1, show rlx N ch (rnd N ch (farI N ch r) x.toNat) x = rnd N ch (farI N ch r) x.toNat from by unfold rlx; first | rw [if_pos (by omega)] | rw [if_neg (by omega), if_neg (by omega)]]; exact hmo)))
          · refine v_iload 6 dX7_findFar_115 (nx := 117) rfl rfl ?_
            refine v_if_eq dX7_findFar_117 (tgt := 185) (by decide) (nx := 120) rfl (by first | assumption | exact hR _ | exact ⟨by omega, by omega⟩) (fun c117 => ?_) (fun c117 => ?_)
            · refine v_iinc 3 dX7_findFar_185 (nx := 188) rfl rfl rfl (by decide) ?_
              refine v_goto dX7_findFar_188 (tgt := 38) (by decide) ?_
              exact V.lpick [0, 1, 2, 3] rfl ((ih _ _ _ ⟨by omega, by omega⟩ (by omega) (fun p p0 p1 => by rw [rnd_s hx.1, show rlx N ch (rnd N ch (farI N ch r) x.toNat) x = rnd N ch (farI N ch r) x.toNat from by unfold rlx; first | rw [if_pos (by omega)] | rw [if_neg (by omega), if_neg (by omega)]]; exact hF p p0 p1) (by rw [rnd_s hx.1, show rlx N ch (rnd N ch (farI N ch r) x.toNat) x = rnd N ch (farI N ch r) x.toNat from by unfold rlx; first | rw [if_pos (by omega)] | rw [if_neg (by omega), if_neg (by omega)]]; exact hmo)))
            · exfalso; omega
        · refine v_aload_n 0 dX7_findFar_85 (nx := 86) rfl rfl ?_
          refine v_iload 5 dX7_findFar_86 (nx := 88) rfl rfl ?_
          refine t_callVi (a := 14) (c_X7_kindOf _ (by omega)) dX7_findFar_88 (nx := 91) rfl kX7_kindOf ml_X7_39 (by decide) (ok_m 14 rfl) rfl rfl rfl rfl (Nat.le_of_ble_eq_true rfl) ⟨by decide, by decide⟩ ⟨by decide, by decide⟩ ?_
          refine v_iconst dX7_findFar_91 (nx := 92) rfl ?_
          refine v_icmp_eq dX7_findFar_92 (tgt := 99) (by decide) (nx := 95) rfl (by first | assumption | exact hR _ | exact ⟨by omega, by omega⟩) (by first | assumption | exact hR _ | exact ⟨by omega, by omega⟩) (fun c92 => ?_) (fun c92 => ?_)
          · refine v_iconst dX7_findFar_99 (nx := 100) rfl ?_
            refine v_istore dX7_findFar_100 (nx := 102) rfl rfl (by decide) ?_
            refine v_aload_n 0 dX7_findFar_102 (nx := 103) rfl rfl ?_
            refine m_gA 10 (p := 0) dX7_findFar_103 (nx := 106) rfl (by decide) fl_X7_9 rfl ?_
            refine v_bipush dX7_findFar_106 (nx := 108) rfl rfl ?_
            refine v_iload_n 3 dX7_findFar_108 (nx := 109) rfl rfl ?_
            refine v_iadd dX7_findFar_109 (nx := 110) rfl ?_
            refine m_ald10 dX7_findFar_110 (nx := 111) rfl ⟨by omega, by omega⟩ ?_
            refine v_iconst dX7_findFar_111 (nx := 112) rfl ?_
            refine v_icmp_eq dX7_findFar_112 (tgt := 185) (by decide) (nx := 115) rfl (by first | assumption | exact hR _ | exact ⟨by omega, by omega⟩) (by first | assumption | exact hR _ | exact ⟨by omega, by omega⟩) (fun c112 => ?_) (fun c112 => ?_)
            · refine v_iinc 3 dX7_findFar_185 (nx := 188) rfl rfl rfl (by decide) ?_
              refine v_goto dX7_findFar_188 (tgt := 38) (by decide) ?_
              exact V.lpick [0, 1, 2, 3] rfl ((ih _ _ _ ⟨by omega, by omega⟩ (by omega) (fun p p0 p1 => by rw [rnd_s hx.1, show rlx N ch (rnd N ch (farI N ch r) x.toNat) x = rnd N ch (farI N ch r) x.toNat from by unfold rlx; first | rw [if_pos (by omega)] | rw [if_neg (by omega), if_neg (by omega)]]; exact hF p p0 p1) (by rw [rnd_s hx.1, show rlx N ch (rnd N ch (farI N ch r) x.toNat) x = rnd N ch (farI N ch r) x.toNat from by unfold rlx; first | rw [if_pos (by omega)] | rw [if_neg (by omega), if_neg (by omega)]]; exact hmo)))
            · refine v_iload 6 dX7_findFar_115 (nx := 117) rfl rfl ?_
              refine v_if_eq dX7_findFar_117 (tgt := 185) (by decide) (nx := 120) rfl (by first | assumption | exact hR _ | exact ⟨by omega, by omega⟩) (fun c117 => ?_) (fun c117 => ?_)
              · refine v_iinc 3 dX7_findFar_185 (nx := 188) rfl rfl rfl (by decide) ?_
                refine v_goto dX7_findFar_188 (tgt := 38) (by decide) ?_
                exact V.lpick [0, 1, 2, 3] rfl ((ih _ _ _ ⟨by omega, by omega⟩ (by omega) (fun p p0 p1 => by rw [rnd_s hx.1, show rlx N ch (rnd N ch (farI N ch r) x.toNat) x = rnd N ch (farI N ch r) x.toNat from by unfold rlx; first | rw [if_pos (by omega)] | rw [if_neg (by omega), if_neg (by omega)]]; exact hF p p0 p1) (by rw [rnd_s hx.1, show rlx N ch (rnd N ch (farI N ch r) x.toNat) x = rnd N ch (farI N ch r) x.toNat from by unfold rlx; first | rw [if_pos (by omega)] | rw [if_neg (by omega), if_neg (by omega)]]; exact hmo)))
              · exfalso; omega
          · refine v_iconst dX7_findFar_95 (nx := 96) rfl ?_
            refine v_goto dX7_findFar_96 (tgt := 100) (by decide) ?_
            refine v_istore dX7_findFar_100 (nx := 102) rfl rfl (by decide) ?_
            refine v_aload_n 0 dX7_findFar_102 (nx := 103) rfl rfl ?_
            refine m_gA 10 (p := 0) dX7_findFar_103 (nx := 106) rfl (by decide) fl_X7_9 rfl ?_
            refine v_bipush dX7_findFar_106 (nx := 108) rfl rfl ?_
            refine v_iload_n 3 dX7_findFar_108 (nx := 109) rfl rfl ?_
            refine v_iadd dX7_findFar_109 (nx := 110) rfl ?_
            refine m_ald10 dX7_findFar_110 (nx := 111) rfl ⟨by omega, by omega⟩ ?_
            refine v_iconst dX7_findFar_111 (nx := 112) rfl ?_
            refine v_icmp_eq dX7_findFar_112 (tgt := 185) (by decide) (nx := 115) rfl (by first | assumption | exact hR _ | exact ⟨by omega, by omega⟩) (by first | assumption | exact hR _ | exact ⟨by omega, by omega⟩) (fun c112 => ?_) (fun c112 => ?_)
            · refine v_iinc 3 dX7_findFar_185 (nx := 188) rfl rfl rfl (by decide) ?_
              refine v_goto dX7_findFar_188 (tgt := 38) (by decide) ?_
              exact V.lpick [0, 1, 2, 3] rfl ((ih _ _ _ ⟨by omega, by omega⟩ (by omega) (fun p p0 p1 => by rw [rnd_s hx.1, show rlx N ch (rnd N ch (farI N ch r) x.toNat) x = rnd N ch (farI N ch r) x.toNat from by unfold rlx; first | rw [if_pos (by omega)] | rw [if_neg (by omega), if_neg (by omega)]]; exact hF p p0 p1) (by rw [rnd_s hx.1, show rlx N ch (rnd N ch (farI N ch r) x.toNat) x = rnd N ch (farI N ch r) x.toNat from by unfold rlx; first | rw [if_pos (by omega)] | rw [if_neg (by omega), if_neg (by omega)]]; exact hmo)))
            · refine v_iload 6 dX7_findFar_115 (nx := 117) rfl rfl ?_
              refine v_if_eq dX7_findFar_117 (tgt := 185) (by decide) (nx := 120) rfl (by first | assumption | exact hR _ | exact ⟨by omega, by omega⟩) (fun c117 => ?_) (fun c117 => ?_)
              · exfalso; omega
              · refine v_aload_n 0 dX7_findFar_120 (nx := 121) rfl rfl ?_
                refine m_gA 13 (p := 5) dX7_findFar_121 (nx := 124) rfl (by decide) fl_X7_20 rfl ?_
                refine v_iload 5 dX7_findFar_124 (nx := 126) rfl rfl ?_
                refine m_ald13 dX7_findFar_126 (nx := 127) rfl ⟨by omega, by omega⟩ ?_
                refine v_if_ge dX7_findFar_127 (tgt := 133) (by decide) (nx := 130) rfl (by first | assumption | exact hR _ | exact ⟨by omega, by omega⟩) (fun c127 => ?_) (fun c127 => ?_)
                · refine v_aload_n 0 dX7_findFar_133 (nx := 134) rfl rfl ?_
                  refine m_gA 10 (p := 0) dX7_findFar_134 (nx := 137) rfl (by decide) fl_X7_9 rfl ?_
                  refine v_bipush dX7_findFar_137 (nx := 139) rfl rfl ?_
                  refine v_iload_n 3 dX7_findFar_139 (nx := 140) rfl rfl ?_
                  refine v_iadd dX7_findFar_140 (nx := 141) rfl ?_
                  refine m_ald10 dX7_findFar_141 (nx := 142) rfl ⟨by omega, by omega⟩ ?_
                  refine v_aload_n 0 dX7_findFar_142 (nx := 143) rfl rfl ?_
                  refine m_gA 13 (p := 5) dX7_findFar_143 (nx := 146) rfl (by decide) fl_X7_20 rfl ?_
                  refine v_iload 5 dX7_findFar_146 (nx := 148) rfl rfl ?_
                  refine m_ald13 dX7_findFar_148 (nx := 149) rfl ⟨by omega, by omega⟩ ?_
                  refine v_iadd dX7_findFar_149 (nx := 150) rfl ?_
                  refine v_istore dX7_findFar_150 (nx := 152) rfl rfl (by decide) ?_
                  refine v_aload_n 0 dX7_findFar_152 (nx := 153) rfl rfl ?_
                  refine m_gA 13 (p := 5) dX7_findFar_153 (nx := 156) rfl (by decide) fl_X7_20 rfl ?_
                  refine v_iload 4 dX7_findFar_156 (nx := 158) rfl rfl ?_
                  refine m_ald13 dX7_findFar_158 (nx := 159) rfl ⟨by omega, by omega⟩ ?_
                  refine v_if_lt dX7_findFar_159 (tgt := 174) (by decide) (nx := 162) rfl (by first | assumption | exact hR _ | exact ⟨by omega, by omega⟩) (fun c159 => ?_) (fun c159 => ?_)
                  · have hus : usB N ch x := ⟨by omega, by omega⟩
                    have hrl : rnd N ch (farI N ch r) (x + 1).toNat = uI (rnd N ch (farI N ch r) x.toNat) (N (68 + x)) (N (100 + x) + (rnd N ch (farI N ch r) x.toNat) (N (84 + x))) := by
                      rw [rnd_s hx.1]
                      unfold rlx
                      rw [if_neg (by intro q; rcases q with q | q | q; exact hus.1 q; exact q hus.2; omega), if_pos (by omega)]
                    have hr12 : r < 12 := by
                      rcases hmo with ⟨e1, e2⟩ | ⟨e1, e2⟩
                      · rcases Nat.lt_or_ge r 12 with q | q
                        · exact q
                        · exfalso
                          have e12 : r = 12 := by omega
                          have hs := far12 ho x (by omega) (by omega)
                          rw [e12] at e2 hrl hFf hFt hst hsf
                          rw [rnd_s hx.1, e2, hs] at hrl
                          rw [e2] at hFf hFt hst hsf
                          have e3 := congrFun hrl (N (68 + x))
                          rw [uI_s] at e3
                          omega
                      · exact e2
                    refine v_aload_n 0 dX7_findFar_174 (nx := 175) rfl rfl ?_
                    refine m_gA 13 (p := 5) dX7_findFar_175 (nx := 178) rfl (by decide) fl_X7_20 rfl ?_
                    refine v_iload 4 dX7_findFar_178 (nx := 180) rfl rfl ?_
                    refine v_iload 7 dX7_findFar_180 (nx := 182) rfl rfl ?_
                    refine m_ast13 dX7_findFar_182 (nx := 183) rfl ⟨by omega, by omega⟩ ?_
                    refine v_iconst dX7_findFar_183 (nx := 184) rfl ?_
                    refine v_istore_n dX7_findFar_184 (nx := 185) rfl rfl (by decide) ?_
                    refine v_iinc 3 dX7_findFar_185 (nx := 188) rfl rfl rfl (by decide) ?_
                    refine v_goto dX7_findFar_188 (tgt := 38) (by decide) ?_
                    exact V.lpick [0, 1, 2, 3] rfl ((ih _ _ _ ⟨by omega, by omega⟩ (by omega) (fun p p0 p1 => by
    rw [hrl]
    by_cases e : p = N (68 + x)
    · rw [e, uI_s, uI_s, hFt]
    · rw [uI_n e, uI_n e]; exact hF p p0 p1) (Or.inr ⟨rfl, hr12⟩)))
                  · refine v_iload 7 dX7_findFar_162 (nx := 164) rfl rfl ?_
                    refine v_aload_n 0 dX7_findFar_164 (nx := 165) rfl rfl ?_
                    refine m_gA 13 (p := 5) dX7_findFar_165 (nx := 168) rfl (by decide) fl_X7_20 rfl ?_
                    refine v_iload 4 dX7_findFar_168 (nx := 170) rfl rfl ?_
                    refine m_ald13 dX7_findFar_170 (nx := 171) rfl ⟨by omega, by omega⟩ ?_
                    refine v_icmp_ge dX7_findFar_171 (tgt := 185) (by decide) (nx := 174) rfl (by first | assumption | exact hR _ | exact ⟨by omega, by omega⟩) (by first | assumption | exact hR _ | exact ⟨by omega, by omega⟩) (fun c171 => ?_) (fun c171 => ?_)
                    · refine v_iinc 3 dX7_findFar_185 (nx := 188) rfl rfl rfl (by decide) ?_
                      refine v_goto dX7_findFar_188 (tgt := 38) (by decide) ?_
                      exact V.lpick [0, 1, 2, 3] rfl ((ih _ _ _ ⟨by omega, by omega⟩ (by omega) (fun p p0 p1 => by rw [rnd_s hx.1, show rlx N ch (rnd N ch (farI N ch r) x.toNat) x = rnd N ch (farI N ch r) x.toNat from by unfold rlx; first | rw [if_pos (by omega)] | rw [if_neg (by omega), if_neg (by omega)]]; exact hF p p0 p1) (by rw [rnd_s hx.1, show rlx N ch (rnd N ch (farI N ch r) x.toNat) x = rnd N ch (farI N ch r) x.toNat from by unfold rlx; first | rw [if_pos (by omega)] | rw [if_neg (by omega), if_neg (by omega)]]; exact hmo)))
                    · have hus : usB N ch x := ⟨by omega, by omega⟩
                      have hrl : rnd N ch (farI N ch r) (x + 1).toNat = uI (rnd N ch (farI N ch r) x.toNat) (N (68 + x)) (N (100 + x) + (rnd N ch (farI N ch r) x.toNat) (N (84 + x))) := by
                        rw [rnd_s hx.1]
                        unfold rlx
                        rw [if_neg (by intro q; rcases q with q | q | q; exact hus.1 q; exact q hus.2; omega), if_pos (by omega)]
                      have hr12 : r < 12 := by
                        rcases hmo with ⟨e1, e2⟩ | ⟨e1, e2⟩
                        · rcases Nat.lt_or_ge r 12 with q | q
                          · exact q
                          · exfalso
                            have e12 : r = 12 := by omega
                            have hs := far12 ho x (by omega) (by omega)
                            rw [e12] at e2 hrl hFf hFt hst hsf
                            rw [rnd_s hx.1, e2, hs] at hrl
                            rw [e2] at hFf hFt hst hsf
                            have e3 := congrFun hrl (N (68 + x))
                            rw [uI_s] at e3
                            omega
                        · exact e2
                      refine v_aload_n 0 dX7_findFar_174 (nx := 175) rfl rfl ?_
                      refine m_gA 13 (p := 5) dX7_findFar_175 (nx := 178) rfl (by decide) fl_X7_20 rfl ?_
                      refine v_iload 4 dX7_findFar_178 (nx := 180) rfl rfl ?_
                      refine v_iload 7 dX7_findFar_180 (nx := 182) rfl rfl ?_
                      refine m_ast13 dX7_findFar_182 (nx := 183) rfl ⟨by omega, by omega⟩ ?_
                      refine v_iconst dX7_findFar_183 (nx := 184) rfl ?_
                      refine v_istore_n dX7_findFar_184 (nx := 185) rfl rfl (by decide) ?_
                      refine v_iinc 3 dX7_findFar_185 (nx := 188) rfl rfl rfl (by decide) ?_
                      refine v_goto dX7_findFar_188 (tgt := 38) (by decide) ?_
                      exact V.lpick [0, 1, 2, 3] rfl ((ih _ _ _ ⟨by omega, by omega⟩ (by omega) (fun p p0 p1 => by
    rw [hrl]
    by_cases e : p = N (68 + x)
    · rw [e, uI_s, uI_s, hFt]
    · rw [uI_n e, uI_n e]; exact hF p p0 p1) (Or.inr ⟨rfl, hr12⟩)))
                · refine v_goto dX7_findFar_130 (tgt := 185) (by decide) ?_
                  refine v_iinc 3 dX7_findFar_185 (nx := 188) rfl rfl rfl (by decide) ?_
                  refine v_goto dX7_findFar_188 (tgt := 38) (by decide) ?_
                  exact V.lpick [0, 1, 2, 3] rfl ((ih _ _ _ ⟨by omega, by omega⟩ (by omega) (fun p p0 p1 => by rw [rnd_s hx.1, show rlx N ch (rnd N ch (farI N ch r) x.toNat) x = rnd N ch (farI N ch r) x.toNat from by unfold rlx; first | rw [if_pos (by omega)] | rw [if_neg (by omega), if_neg (by omega)]]; exact hF p p0 p1) (by rw [rnd_s hx.1, show rlx N ch (rnd N ch (farI N ch r) x.toNat) x = rnd N ch (farI N ch r) x.toNat from by unfold rlx; first | rw [if_pos (by omega)] | rw [if_neg (by omega), if_neg (by omega)]]; exact hmo)))

set_option maxRecDepth 100000 in
theorem l_X7_ff1 {g : GG} {kp : Bool} {σ : SS} {N K G F : Int → Int} {k f : Int} (hR : ∀ j, inR (N j)) (ch : Int) (hch : inR ch) (ho : okF N ch) : ∀ (m : Nat) (r : Nat) (mo : Int) (F' : NN), (r ≤ 12) → (12 - (r : Int) + mo < m) → (∀ p, 0 ≤ p → p < 12 → F' p = farI N ch r p) → ((mo = 0 ∧ stF N ch (farI N ch r)) ∨ mo = 1) → V g (rmD 1 0 0) mX7_findFar (ZT g kp ((fun r τ => r = none ∧ ∃ F' : NN, (∀ p, 0 ≤ p → p < 12 → F' p = farS N ch p) ∧ τ = mkS σ N K G F' k f))) E0 30 [(0, rf g (ad 14 0 0)), (1, vi ch), (2, vi mo)] [] (vw g kp (mkS σ N K G F' k f)) (sz kp) 0 0 := by
  intro m
  induction m with
  | zero => intro r mo F' hr hm hF hmo; exfalso; omega
  | succ m ih =>
    intro r mo F' hr hm hF hmo
    have h1 := ho.1
    refine v_iload_n 2 dX7_findFar_30 (nx := 31) rfl rfl ?_
    refine v_if_eq dX7_findFar_31 (tgt := 194) (by decide) (nx := 34) rfl (by first | assumption | exact hR _ | exact ⟨by omega, by omega⟩) (fun c31 => ?_) (fun c31 => ?_)
    · exact t_ret dX7_findFar_194 rfl ⟨rfl, F', fun p p0 p1 => by
      rcases hmo with ⟨e1, e2⟩ | e
      · rw [hF p p0 p1]; unfold farS; rw [far_more ho e2 hr]
      · exfalso; omega, rfl⟩
    · refine v_iconst dX7_findFar_34 (nx := 35) rfl ?_
      refine v_istore_n dX7_findFar_35 (nx := 36) rfl rfl (by decide) ?_
      refine v_iconst dX7_findFar_36 (nx := 37) rfl ?_
      refine v_istore_n dX7_findFar_37 (nx := 38) rfl rfl (by decide) ?_
      exact (l_X7_ff2 (F := F) hR ch hch ho r hr (fun F2 mo2 q1 q2 => by
    rcases q2 with ⟨e1, e2⟩ | ⟨e1, e2⟩
    · refine ih r mo2 F2 hr (by omega) (fun p p0 p1 => ?_) (Or.inl ⟨e1, e2⟩)
      rw [q1 p p0 p1]
      show rnd N ch (farI N ch r) (N 1).toNat p = _
      rw [st_rnd e2 _ (N1_nat ho)]
    · exact ih (r + 1) mo2 F2 (by omega) (by omega) q1 (Or.inr e1)) (N 1 + 1).toNat 0 0 F' ⟨by omega, by omega⟩ (by omega) hF (Or.inl ⟨rfl, rfl⟩))

set_option maxRecDepth 100000 in
theorem l_X7_ff0 {g : GG} {kp : Bool} {σ : SS} {N K G F : Int → Int} {k f : Int} (hR : ∀ j, inR (N j)) (ch : Int) (hch : inR ch) (ho : okF N ch) : ∀ (m : Nat) (x : Int) (F' : NN), (0 ≤ x ∧ x ≤ 12) → (12 - x < m) → (∀ p, 0 ≤ p → p < x → F' p = -1) → V g (rmD 1 0 0) mX7_findFar (ZT g kp ((fun r τ => r = none ∧ ∃ F' : NN, (∀ p, 0 ≤ p → p < 12 → F' p = farS N ch p) ∧ τ = mkS σ N K G F' k f))) E0 2 [(0, rf g (ad 14 0 0)), (1, vi ch), (2, vi x)] [] (vw g kp (mkS σ N K G F' k f)) (sz kp) 0 0 := by
  intro m
  induction m with
  | zero => intro x F' hx hm hF; exfalso; omega
  | succ m ih =>
    intro x F' hx hm hF
    have h2 := ho.2.1
    refine v_iload_n 2 dX7_findFar_2 (nx := 3) rfl rfl ?_
    refine v_bipush dX7_findFar_3 (nx := 5) rfl rfl ?_
    refine v_icmp_ge dX7_findFar_5 (tgt := 21) (by decide) (nx := 8) rfl (by first | assumption | exact hR _ | exact ⟨by omega, by omega⟩) (by first | assumption | exact hR _ | exact ⟨by omega, by omega⟩) (fun c5 => ?_) (fun c5 => ?_)
    · refine v_aload_n 0 dX7_findFar_21 (nx := 22) rfl rfl ?_
      refine m_gA 13 (p := 5) dX7_findFar_22 (nx := 25) rfl (by decide) fl_X7_20 rfl ?_
      refine v_iload_n 1 dX7_findFar_25 (nx := 26) rfl rfl ?_
      refine v_iconst dX7_findFar_26 (nx := 27) rfl ?_
      refine m_ast13 dX7_findFar_27 (nx := 28) rfl ⟨by omega, by omega⟩ ?_
      refine v_iconst dX7_findFar_28 (nx := 29) rfl ?_
      refine v_istore_n dX7_findFar_29 (nx := 30) rfl rfl (by decide) ?_
      exact (l_X7_ff1 (F := F) hR ch hch ho 14 0 1 _ (by omega) (by omega) (fun p p0 p1 => by
    show _ = far0 ch p
    unfold far0
    by_cases e : p = ch
    · rw [if_pos e, e, uI_s]
    · rw [if_neg e, uI_n e]; exact hF p p0 (by omega)) (Or.inr rfl))
    · refine v_aload_n 0 dX7_findFar_8 (nx := 9) rfl rfl ?_
      refine m_gA 13 (p := 5) dX7_findFar_9 (nx := 12) rfl (by decide) fl_X7_20 rfl ?_
      refine v_iload_n 2 dX7_findFar_12 (nx := 13) rfl rfl ?_
      refine v_iconst dX7_findFar_13 (nx := 14) rfl ?_
      refine m_ast13 dX7_findFar_14 (nx := 15) rfl ⟨by omega, by omega⟩ ?_
      refine v_iinc 2 dX7_findFar_15 (nx := 18) rfl rfl rfl (by decide) ?_
      refine v_goto dX7_findFar_18 (tgt := 2) (by decide) ?_
      exact (ih _ _ ⟨by omega, by omega⟩ (by omega) (fun p p0 p1 => by
    by_cases e : p = x
    · rw [e, uI_s]
    · rw [uI_n e]; exact hF p p0 (by omega)))

set_option maxRecDepth 100000 in
theorem c_X7_findFar {g : GG} {kp : Bool} {σ : SS} {N K G F : Int → Int} {k f : Int} (hR : ∀ j, inR (N j)) (ch : Int) (hch : inR ch) (ho : okF N ch) : TC g kp 1 mX7_findFar [rf g (ad 14 0 0), vi ch] (mkS σ N K G F k f) (fun r τ => r = none ∧ ∃ F' : NN, (∀ p, 0 ≤ p → p < 12 → F' p = farS N ch p) ∧ τ = mkS σ N K G F' k f) := by
  refine TC.of (by decide) (Nat.le_of_ble_eq_true rfl) rfl ?_
  refine v_iconst dX7_findFar_0 (nx := 1) rfl ?_
  refine v_istore_n dX7_findFar_1 (nx := 2) rfl rfl (by decide) ?_
  exact (l_X7_ff0 (F := F) hR ch hch ho 13 0 F ⟨by omega, by omega⟩ (by omega) (fun p p0 p1 => by omega))
