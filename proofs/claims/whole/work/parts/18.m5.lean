theorem clr_0 {N : NN} {n : Int} : clr N n 0 = N := by
  funext j
  unfold clr
  rw [if_neg (by omega)]
theorem clr_s {N : NN} {n c : Int} (h : 0 ≤ c) : uI (clr N n c) (148 + 12 * n + c) 0 = clr N n (c + 1) := by
  funext j
  unfold uI clr
  by_cases e : j = 148 + 12 * n + c
  · rw [if_pos e, if_pos (by omega)]
  · rw [if_neg e]
    by_cases e2 : 148 + 12 * n ≤ j ∧ j < 148 + 12 * n + c
    · rw [if_pos e2, if_pos (by omega)]
    · rw [if_neg e2, if_neg (by omega)]
theorem clr_n {N : NN} {n c j : Int} (h : j < 148 + 12 * n ∨ 148 + 12 * n + c ≤ j) : clr N n c j = N j := if_neg (by omega)
/-- a stretch copied -/
def cpy (A B : NN) (n : Int) : NN := fun j => if 0 ≤ j ∧ j < n then A j else B j
theorem cpy_0 {A B : NN} : cpy A B 0 = B := by
  funext j
  unfold cpy
  rw [if_neg (by omega)]
theorem cpy_s {A B : NN} {n : Int} (h : 0 ≤ n) : uI (cpy A B n) n (A n) = cpy A B (n + 1) := by
  funext j
  unfold uI cpy
  by_cases e : j = n
  · subst e; rw [if_pos rfl, if_pos (by omega)]
  · rw [if_neg e]
    by_cases e2 : 0 ≤ j ∧ j < n
    · rw [if_pos e2, if_pos (by omega)]
    · rw [if_neg e2, if_neg (by omega)]

set_option maxRecDepth 100000 in
theorem l_X7_belt {g : GG} {kp : Bool} {σ : SS} {N K G F : Int → Int} {k f : Int} (hR : ∀ j, inR (N j)) (fr to cells : Int) (b0 : 0 ≤ N 0 ∧ N 0 ≤ 12) (b1 : 0 ≤ N 1 ∧ N 1 ≤ 16) (h1 : 0 ≤ fr ∧ fr < N 0) (h2 : 0 ≤ to ∧ to < N 0) (h3 : 1 ≤ cells ∧ cells ≤ 12) (h4 : ¬ fr = to) (h5 : ¬ N (8 + fr) = 5) (h6 : ¬ N (8 + to) = 0) (h7 : ¬ N 1 = 16) : ∀ (m : Nat) (x : Int), (0 ≤ x ∧ x ≤ 12) → (12 - x < m) → V g (rmD 2 0 0) mX7_belt (ZT g kp (fun r τ => r = (some (vi (s_belt N fr to cells).1)) ∧ τ = (mkS σ (s_belt N fr to cells).2.1 K G F k (f + (s_belt N fr to cells).2.2)))) E0 149 [(0, rf g (ad 14 0 0)), (1, vi fr), (2, vi to), (3, vi cells), (4, vi (N 1)), (5, vi x)] [] (vw g kp (mkS σ (clr (uI (uI (uI (uI (uI N (68 + N 1) fr) (84 + N 1) to) (100 + N 1) cells) (116 + N 1) 0) (132 + N 1) 1) (N 1) x) K G F k f)) (sz kp) 0 0 := by
  intro m
  induction m with
  | zero => intro x hx hm; exfalso; omega
  | succ m ih =>
    intro x hx hm
    refine v_iload 5 dX7_belt_149 (nx := 151) rfl rfl ?_
    refine v_bipush dX7_belt_151 (nx := 153) rfl rfl ?_
    refine v_icmp_ge dX7_belt_153 (tgt := 180) (by decide) (nx := 156) rfl (by first | assumption | exact hR _ | exact ⟨by omega, by omega⟩) (by first | assumption | exact hR _ | exact ⟨by omega, by omega⟩) (fun c153 => ?_) (fun c153 => ?_)
    · obtain rfl : x = 12 := by omega
      refine v_aload_n 0 dX7_belt_180 (nx := 181) rfl rfl ?_
      refine v_iload_n 2 dX7_belt_181 (nx := 182) rfl rfl ?_
      refine t_callVi (a := 14) (c_X7_kindOf _ (by omega)) dX7_belt_182 (nx := 185) rfl kX7_kindOf ml_X7_39 (by decide) (ok_m 14 rfl) rfl rfl rfl rfl (Nat.le_of_ble_eq_true rfl) ⟨by decide, by decide⟩ ⟨by decide, by decide⟩ ?_
      refine v_top (z' := N (8 + to)) (by unfold clr; rw [if_neg (by omega)]; repeat rw [uI_n (by omega)]) ?_
      refine v_iconst dX7_belt_185 (nx := 186) rfl ?_
      refine v_icmp_ne dX7_belt_186 (tgt := 224) (by decide) (nx := 189) rfl (by first | assumption | exact hR _ | exact ⟨by omega, by omega⟩) (by first | assumption | exact hR _ | exact ⟨by omega, by omega⟩) (fun c186 => ?_) (fun c186 => ?_)
      · refine v_aload_n 0 dX7_belt_224 (nx := 225) rfl rfl ?_
        refine m_gA 10 (p := 0) dX7_belt_225 (nx := 228) rfl (by decide) fl_X7_9 rfl ?_
        refine v_iconst dX7_belt_228 (nx := 229) rfl ?_
        refine v_dup2 dX7_belt_229 (nx := 230) rfl rfl rfl ?_
        refine m_ald10e (z := N 1) dX7_belt_230 (nx := 231) rfl ⟨by omega, by omega⟩ (by first | (unfold clr; rw [if_neg (by omega)]; repeat rw [uI_n (by omega)]) | (rw [uI_n (by omega), uI_n (by omega)]; unfold clr; rw [if_neg (by omega)]; repeat rw [uI_n (by omega)])) ?_
        refine v_iconst dX7_belt_231 (nx := 232) rfl ?_
        refine v_iadd dX7_belt_232 (nx := 233) rfl ?_
        refine m_ast10 dX7_belt_233 (nx := 234) rfl ⟨by omega, by omega⟩ ?_
        refine v_iload 4 dX7_belt_234 (nx := 236) rfl rfl ?_
        exact t_iret dX7_belt_236 rfl (lf0 (by unfold s_belt s_belt1; (repeat (first | rewrite [if_pos (by omega)] | rewrite [if_neg (by omega)])); rfl))
      · refine v_aload_n 0 dX7_belt_189 (nx := 190) rfl rfl ?_
        refine m_gA 10 (p := 0) dX7_belt_190 (nx := 193) rfl (by decide) fl_X7_9 rfl ?_
        refine v_bipush dX7_belt_193 (nx := 195) rfl rfl ?_
        refine v_iload_n 2 dX7_belt_195 (nx := 196) rfl rfl ?_
        refine v_iadd dX7_belt_196 (nx := 197) rfl ?_
        refine m_ald10e (z := N (44 + to)) dX7_belt_197 (nx := 198) rfl ⟨by omega, by omega⟩ (by unfold clr; rw [if_neg (by omega)]; repeat rw [uI_n (by omega)]) ?_
        refine v_if_ne dX7_belt_198 (tgt := 224) (by decide) (nx := 201) rfl (by first | assumption | exact hR _ | exact ⟨by omega, by omega⟩) (fun c198 => ?_) (fun c198 => ?_)
        · refine v_aload_n 0 dX7_belt_224 (nx := 225) rfl rfl ?_
          refine m_gA 10 (p := 0) dX7_belt_225 (nx := 228) rfl (by decide) fl_X7_9 rfl ?_
          refine v_iconst dX7_belt_228 (nx := 229) rfl ?_
          refine v_dup2 dX7_belt_229 (nx := 230) rfl rfl rfl ?_
          refine m_ald10e (z := N 1) dX7_belt_230 (nx := 231) rfl ⟨by omega, by omega⟩ (by first | (unfold clr; rw [if_neg (by omega)]; repeat rw [uI_n (by omega)]) | (rw [uI_n (by omega), uI_n (by omega)]; unfold clr; rw [if_neg (by omega)]; repeat rw [uI_n (by omega)])) ?_
          refine v_iconst dX7_belt_231 (nx := 232) rfl ?_
          refine v_iadd dX7_belt_232 (nx := 233) rfl ?_
          refine m_ast10 dX7_belt_233 (nx := 234) rfl ⟨by omega, by omega⟩ ?_
          refine v_iload 4 dX7_belt_234 (nx := 236) rfl rfl ?_
          exact t_iret dX7_belt_236 rfl (lf0 (by unfold s_belt s_belt1; (repeat (first | rewrite [if_pos (by omega)] | rewrite [if_neg (by omega)])); rfl))
        · refine v_aload_n 0 dX7_belt_201 (nx := 202) rfl rfl ?_
          refine m_gA 10 (p := 0) dX7_belt_202 (nx := 205) rfl (by decide) fl_X7_9 rfl ?_
          refine v_bipush dX7_belt_205 (nx := 207) rfl rfl ?_
          refine v_iload_n 2 dX7_belt_207 (nx := 208) rfl rfl ?_
          refine v_iadd dX7_belt_208 (nx := 209) rfl ?_
          refine v_iload 4 dX7_belt_209 (nx := 211) rfl rfl ?_
          refine v_iconst dX7_belt_211 (nx := 212) rfl ?_
          refine v_iadd dX7_belt_212 (nx := 213) rfl ?_
          refine m_ast10 dX7_belt_213 (nx := 214) rfl ⟨by omega, by omega⟩ ?_
          refine v_aload_n 0 dX7_belt_214 (nx := 215) rfl rfl ?_
          refine m_gA 10 (p := 0) dX7_belt_215 (nx := 218) rfl (by decide) fl_X7_9 rfl ?_
          refine v_bipush dX7_belt_218 (nx := 220) rfl rfl ?_
          refine v_iload_n 2 dX7_belt_220 (nx := 221) rfl rfl ?_
          refine v_iadd dX7_belt_221 (nx := 222) rfl ?_
          refine v_iconst dX7_belt_222 (nx := 223) rfl ?_
          refine m_ast10 dX7_belt_223 (nx := 224) rfl ⟨by omega, by omega⟩ ?_
          refine v_aload_n 0 dX7_belt_224 (nx := 225) rfl rfl ?_
          refine m_gA 10 (p := 0) dX7_belt_225 (nx := 228) rfl (by decide) fl_X7_9 rfl ?_
          refine v_iconst dX7_belt_228 (nx := 229) rfl ?_
          refine v_dup2 dX7_belt_229 (nx := 230) rfl rfl rfl ?_
          refine m_ald10e (z := N 1) dX7_belt_230 (nx := 231) rfl ⟨by omega, by omega⟩ (by first | (unfold clr; rw [if_neg (by omega)]; repeat rw [uI_n (by omega)]) | (rw [uI_n (by omega), uI_n (by omega)]; unfold clr; rw [if_neg (by omega)]; repeat rw [uI_n (by omega)])) ?_
          refine v_iconst dX7_belt_231 (nx := 232) rfl ?_
          refine v_iadd dX7_belt_232 (nx := 233) rfl ?_
          refine m_ast10 dX7_belt_233 (nx := 234) rfl ⟨by omega, by omega⟩ ?_
          refine v_iload 4 dX7_belt_234 (nx := 236) rfl rfl ?_
          exact t_iret dX7_belt_236 rfl (lf0 (by unfold s_belt s_belt1; (repeat (first | rewrite [if_pos (by omega)] | rewrite [if_neg (by omega)])); rfl))
    · refine v_aload_n 0 dX7_belt_156 (nx := 157) rfl rfl ?_
      refine m_gA 10 (p := 0) dX7_belt_157 (nx := 160) rfl (by decide) fl_X7_9 rfl ?_
      refine v_sipush dX7_belt_160 (nx := 163) rfl rfl ?_
      refine v_bipush dX7_belt_163 (nx := 165) rfl rfl ?_
      refine v_iload 4 dX7_belt_165 (nx := 167) rfl rfl ?_
      refine v_imul dX7_belt_167 (nx := 168) rfl ?_
      refine v_iadd dX7_belt_168 (nx := 169) rfl ?_
      refine v_iload 5 dX7_belt_169 (nx := 171) rfl rfl ?_
      refine v_iadd dX7_belt_171 (nx := 172) rfl ?_
      refine v_iconst dX7_belt_172 (nx := 173) rfl ?_
      refine m_ast10 dX7_belt_173 (nx := 174) rfl ⟨by omega, by omega⟩ ?_
      refine v_iinc 5 dX7_belt_174 (nx := 177) rfl rfl rfl (by decide) ?_
      refine v_goto dX7_belt_177 (tgt := 149) (by decide) ?_
      exact (by rw [clr_s hx.1]; exact ih _ ⟨by omega, by omega⟩ (by omega))

set_option maxRecDepth 100000 in
theorem c_X7_belt {g : GG} {kp : Bool} {σ : SS} {N K G F : Int → Int} {k f : Int} (hR : ∀ j, inR (N j)) (fr : Int) (to : Int) (cells : Int) (hfr : inR fr) (hto : inR to) (hcells : inR cells) (b0 : 0 ≤ N 0 ∧ N 0 ≤ 12) (b1 : 0 ≤ N 1 ∧ N 1 ≤ 16) (b2 : 0 ≤ N 2 ∧ N 2 ≤ 8) (b3 : 0 ≤ N 3 ∧ N 3 ≤ 60) : XC g kp 2 mX7_belt [rf g (ad 14 0 0), vi fr, vi to, vi cells] (mkS σ N K G F k f) (some (vi (s_belt N fr to cells).1)) (mkS σ (s_belt N fr to cells).2.1 K G F k (f + (s_belt N fr to cells).2.2)) := by
  refine TC.of (by decide) (Nat.le_of_ble_eq_true rfl) rfl ?_
  refine v_aload_n 0 dX7_belt_0 (nx := 1) rfl rfl ?_
  refine v_iload_n 1 dX7_belt_1 (nx := 2) rfl rfl ?_
  refine t_callVi (a := 14) (c_X7_isPoint _ (by assumption) (by omega)) dX7_belt_2 (nx := 5) rfl kX7_isPoint ml_X7_35 (by decide) (ok_m 14 rfl) rfl rfl rfl rfl (Nat.le_of_ble_eq_true rfl) ⟨by decide, by decide⟩ ⟨by decide, by decide⟩ ?_
  refine v_ifB_eq dX7_belt_5 (tgt := 26) (by decide) (nx := 8) rfl (fun c5 => ?_) (fun c5 => ?_)
  · refine v_aload_n 0 dX7_belt_26 (nx := 27) rfl rfl ?_
    refine v_iconst dX7_belt_27 (nx := 28) rfl ?_
    refine t_callVi (a := 14) (c_X7_finding _) dX7_belt_28 (nx := 31) rfl kX7_finding ml_X7_31 (by decide) (ok_m 14 rfl) rfl rfl rfl rfl (Nat.le_of_ble_eq_true rfl) ⟨by decide, by decide⟩ ⟨by decide, by decide⟩ ?_
    exact t_iret dX7_belt_31 rfl (by first | exact lf1 (by unfold s_belt; (repeat (first | rewrite [if_pos (by omega)] | rewrite [if_neg (by omega)])); first | rfl | (refine Prod.ext rfl (Prod.ext (congrArg (uI _ _) ?_) rfl); unfold uI; (repeat rw [if_neg (by omega)]))) | exact lf0 (by unfold s_belt; (repeat (first | rewrite [if_pos (by omega)] | rewrite [if_neg (by omega)])); first | rfl | (refine Prod.ext rfl (Prod.ext (congrArg (uI _ _) ?_) rfl); unfold uI; (repeat rw [if_neg (by omega)]))) | (exfalso; omega))
  · refine v_aload_n 0 dX7_belt_8 (nx := 9) rfl rfl ?_
    refine v_iload_n 2 dX7_belt_9 (nx := 10) rfl rfl ?_
    refine t_callVi (a := 14) (c_X7_isPoint _ (by assumption) (by omega)) dX7_belt_10 (nx := 13) rfl kX7_isPoint ml_X7_35 (by decide) (ok_m 14 rfl) rfl rfl rfl rfl (Nat.le_of_ble_eq_true rfl) ⟨by decide, by decide⟩ ⟨by decide, by decide⟩ ?_
    refine v_ifB_eq dX7_belt_13 (tgt := 26) (by decide) (nx := 16) rfl (fun c13 => ?_) (fun c13 => ?_)
    · refine v_aload_n 0 dX7_belt_26 (nx := 27) rfl rfl ?_
      refine v_iconst dX7_belt_27 (nx := 28) rfl ?_
      refine t_callVi (a := 14) (c_X7_finding _) dX7_belt_28 (nx := 31) rfl kX7_finding ml_X7_31 (by decide) (ok_m 14 rfl) rfl rfl rfl rfl (Nat.le_of_ble_eq_true rfl) ⟨by decide, by decide⟩ ⟨by decide, by decide⟩ ?_
      exact t_iret dX7_belt_31 rfl (by first | exact lf1 (by unfold s_belt; (repeat (first | rewrite [if_pos (by omega)] | rewrite [if_neg (by omega)])); first | rfl | (refine Prod.ext rfl (Prod.ext (congrArg (uI _ _) ?_) rfl); unfold uI; (repeat rw [if_neg (by omega)]))) | exact lf0 (by unfold s_belt; (repeat (first | rewrite [if_pos (by omega)] | rewrite [if_neg (by omega)])); first | rfl | (refine Prod.ext rfl (Prod.ext (congrArg (uI _ _) ?_) rfl); unfold uI; (repeat rw [if_neg (by omega)]))) | (exfalso; omega))
    · refine v_iload_n 3 dX7_belt_16 (nx := 17) rfl rfl ?_
      refine v_iconst dX7_belt_17 (nx := 18) rfl ?_
      refine v_bipush dX7_belt_18 (nx := 20) rfl rfl ?_
      refine t_callSi (c_X7_in _ _ _ (by first | assumption | exact hR _ | exact ⟨by omega, by omega⟩) (by first | assumption | exact hR _ | exact ⟨by omega, by omega⟩) (by first | assumption | exact hR _ | exact ⟨by omega, by omega⟩)) dX7_belt_20 (nx := 23) rfl kX7_in ml_X7_27 rfl rfl (Nat.le_of_ble_eq_true rfl) ⟨by decide, by decide⟩ ⟨by decide, by decide⟩ ?_
      refine v_ifB_ne dX7_belt_23 (tgt := 32) (by decide) (nx := 26) rfl (fun c23 => ?_) (fun c23 => ?_)
      · refine v_iload_n 1 dX7_belt_32 (nx := 33) rfl rfl ?_
        refine v_iload_n 2 dX7_belt_33 (nx := 34) rfl rfl ?_
        refine v_icmp_ne dX7_belt_34 (tgt := 44) (by decide) (nx := 37) rfl (by first | assumption | exact hR _ | exact ⟨by omega, by omega⟩) (by first | assumption | exact hR _ | exact ⟨by omega, by omega⟩) (fun c34 => ?_) (fun c34 => ?_)
        · refine v_aload_n 0 dX7_belt_44 (nx := 45) rfl rfl ?_
          refine v_iload_n 1 dX7_belt_45 (nx := 46) rfl rfl ?_
          refine t_callVi (a := 14) (c_X7_kindOf _ (by omega)) dX7_belt_46 (nx := 49) rfl kX7_kindOf ml_X7_39 (by decide) (ok_m 14 rfl) rfl rfl rfl rfl (Nat.le_of_ble_eq_true rfl) ⟨by decide, by decide⟩ ⟨by decide, by decide⟩ ?_
          refine v_iconst dX7_belt_49 (nx := 50) rfl ?_
          refine v_icmp_eq dX7_belt_50 (tgt := 61) (by decide) (nx := 53) rfl (by first | assumption | exact hR _ | exact ⟨by omega, by omega⟩) (by first | assumption | exact hR _ | exact ⟨by omega, by omega⟩) (fun c50 => ?_) (fun c50 => ?_)
          · refine v_aload_n 0 dX7_belt_61 (nx := 62) rfl rfl ?_
            refine v_bipush dX7_belt_62 (nx := 64) rfl rfl ?_
            refine t_callVi (a := 14) (c_X7_finding _) dX7_belt_64 (nx := 67) rfl kX7_finding ml_X7_31 (by decide) (ok_m 14 rfl) rfl rfl rfl rfl (Nat.le_of_ble_eq_true rfl) ⟨by decide, by decide⟩ ⟨by decide, by decide⟩ ?_
            exact t_iret dX7_belt_67 rfl (by first | exact lf1 (by unfold s_belt; (repeat (first | rewrite [if_pos (by omega)] | rewrite [if_neg (by omega)])); first | rfl | (refine Prod.ext rfl (Prod.ext (congrArg (uI _ _) ?_) rfl); unfold uI; (repeat rw [if_neg (by omega)]))) | exact lf0 (by unfold s_belt; (repeat (first | rewrite [if_pos (by omega)] | rewrite [if_neg (by omega)])); first | rfl | (refine Prod.ext rfl (Prod.ext (congrArg (uI _ _) ?_) rfl); unfold uI; (repeat rw [if_neg (by omega)]))) | (exfalso; omega))
          · refine v_aload_n 0 dX7_belt_53 (nx := 54) rfl rfl ?_
            refine v_iload_n 2 dX7_belt_54 (nx := 55) rfl rfl ?_
            refine t_callVi (a := 14) (c_X7_kindOf _ (by omega)) dX7_belt_55 (nx := 58) rfl kX7_kindOf ml_X7_39 (by decide) (ok_m 14 rfl) rfl rfl rfl rfl (Nat.le_of_ble_eq_true rfl) ⟨by decide, by decide⟩ ⟨by decide, by decide⟩ ?_
            refine v_if_ne dX7_belt_58 (tgt := 68) (by decide) (nx := 61) rfl (by first | assumption | exact hR _ | exact ⟨by omega, by omega⟩) (fun c58 => ?_) (fun c58 => ?_)
            · refine v_aload_n 0 dX7_belt_68 (nx := 69) rfl rfl ?_
              refine m_gA 10 (p := 0) dX7_belt_69 (nx := 72) rfl (by decide) fl_X7_9 rfl ?_
              refine v_iconst dX7_belt_72 (nx := 73) rfl ?_
              refine m_ald10 dX7_belt_73 (nx := 74) rfl ⟨by omega, by omega⟩ ?_
              refine v_istore dX7_belt_74 (nx := 76) rfl rfl (by decide) ?_
              refine v_iload 4 dX7_belt_76 (nx := 78) rfl rfl ?_
              refine v_bipush dX7_belt_78 (nx := 80) rfl rfl ?_
              refine v_icmp_ne dX7_belt_80 (tgt := 90) (by decide) (nx := 83) rfl (by first | assumption | exact hR _ | exact ⟨by omega, by omega⟩) (by first | assumption | exact hR _ | exact ⟨by omega, by omega⟩) (fun c80 => ?_) (fun c80 => ?_)
              · refine v_aload_n 0 dX7_belt_90 (nx := 91) rfl rfl ?_
                refine m_gA 10 (p := 0) dX7_belt_91 (nx := 94) rfl (by decide) fl_X7_9 rfl ?_
                refine v_bipush dX7_belt_94 (nx := 96) rfl rfl ?_
                refine v_iload 4 dX7_belt_96 (nx := 98) rfl rfl ?_
                refine v_iadd dX7_belt_98 (nx := 99) rfl ?_
                refine v_iload_n 1 dX7_belt_99 (nx := 100) rfl rfl ?_
                refine m_ast10 dX7_belt_100 (nx := 101) rfl ⟨by omega, by omega⟩ ?_
                refine v_aload_n 0 dX7_belt_101 (nx := 102) rfl rfl ?_
                refine m_gA 10 (p := 0) dX7_belt_102 (nx := 105) rfl (by decide) fl_X7_9 rfl ?_
                refine v_bipush dX7_belt_105 (nx := 107) rfl rfl ?_
                refine v_iload 4 dX7_belt_107 (nx := 109) rfl rfl ?_
                refine v_iadd dX7_belt_109 (nx := 110) rfl ?_
                refine v_iload_n 2 dX7_belt_110 (nx := 111) rfl rfl ?_
                refine m_ast10 dX7_belt_111 (nx := 112) rfl ⟨by omega, by omega⟩ ?_
                refine v_aload_n 0 dX7_belt_112 (nx := 113) rfl rfl ?_
                refine m_gA 10 (p := 0) dX7_belt_113 (nx := 116) rfl (by decide) fl_X7_9 rfl ?_
                refine v_bipush dX7_belt_116 (nx := 118) rfl rfl ?_
                refine v_iload 4 dX7_belt_118 (nx := 120) rfl rfl ?_
                refine v_iadd dX7_belt_120 (nx := 121) rfl ?_
                refine v_iload_n 3 dX7_belt_121 (nx := 122) rfl rfl ?_
                refine m_ast10 dX7_belt_122 (nx := 123) rfl ⟨by omega, by omega⟩ ?_
                refine v_aload_n 0 dX7_belt_123 (nx := 124) rfl rfl ?_
                refine m_gA 10 (p := 0) dX7_belt_124 (nx := 127) rfl (by decide) fl_X7_9 rfl ?_
                refine v_bipush dX7_belt_127 (nx := 129) rfl rfl ?_
                refine v_iload 4 dX7_belt_129 (nx := 131) rfl rfl ?_
                refine v_iadd dX7_belt_131 (nx := 132) rfl ?_
                refine v_iconst dX7_belt_132 (nx := 133) rfl ?_
                refine m_ast10 dX7_belt_133 (nx := 134) rfl ⟨by omega, by omega⟩ ?_
                refine v_aload_n 0 dX7_belt_134 (nx := 135) rfl rfl ?_
                refine m_gA 10 (p := 0) dX7_belt_135 (nx := 138) rfl (by decide) fl_X7_9 rfl ?_
                refine v_sipush dX7_belt_138 (nx := 141) rfl rfl ?_
                refine v_iload 4 dX7_belt_141 (nx := 143) rfl rfl ?_
                refine v_iadd dX7_belt_143 (nx := 144) rfl ?_
                refine v_iconst dX7_belt_144 (nx := 145) rfl ?_
                refine m_ast10 dX7_belt_145 (nx := 146) rfl ⟨by omega, by omega⟩ ?_
                refine v_iconst dX7_belt_146 (nx := 147) rfl ?_
                refine v_istore dX7_belt_147 (nx := 149) rfl rfl (by decide) ?_
                exact (by rw [show (uI (uI (uI (uI (uI N (68 + N 1) fr) (84 + N 1) to) (100 + N 1) cells) (116 + N 1) 0) (132 + N 1) 1) = clr (uI (uI (uI (uI (uI N (68 + N 1) fr) (84 + N 1) to) (100 + N 1) cells) (116 + N 1) 0) (132 + N 1) 1) (N 1) 0 from clr_0.symm]; exact l_X7_belt hR fr to cells b0 b1 (by omega) (by omega) (by omega) (by omega) (by omega) (by omega) (by omega) 13 0 ⟨by omega, by omega⟩ (by omega))
              · refine v_aload_n 0 dX7_belt_83 (nx := 84) rfl rfl ?_
                refine v_bipush dX7_belt_84 (nx := 86) rfl rfl ?_
                refine t_callVi (a := 14) (c_X7_finding _) dX7_belt_86 (nx := 89) rfl kX7_finding ml_X7_31 (by decide) (ok_m 14 rfl) rfl rfl rfl rfl (Nat.le_of_ble_eq_true rfl) ⟨by decide, by decide⟩ ⟨by decide, by decide⟩ ?_
                exact t_iret dX7_belt_89 rfl (by first | exact lf1 (by unfold s_belt; (repeat (first | rewrite [if_pos (by omega)] | rewrite [if_neg (by omega)])); first | rfl | (refine Prod.ext rfl (Prod.ext (congrArg (uI _ _) ?_) rfl); unfold uI; (repeat rw [if_neg (by omega)]))) | exact lf0 (by unfold s_belt; (repeat (first | rewrite [if_pos (by omega)] | rewrite [if_neg (by omega)])); first | rfl | (refine Prod.ext rfl (Prod.ext (congrArg (uI _ _) ?_) rfl); unfold uI; (repeat rw [if_neg (by omega)]))) | (exfalso; omega))
            · refine v_aload_n 0 dX7_belt_61 (nx := 62) rfl rfl ?_
              refine v_bipush dX7_belt_62 (nx := 64) rfl rfl ?_
              refine t_callVi (a := 14) (c_X7_finding _) dX7_belt_64 (nx := 67) rfl kX7_finding ml_X7_31 (by decide) (ok_m 14 rfl) rfl rfl rfl rfl (Nat.le_of_ble_eq_true rfl) ⟨by decide, by decide⟩ ⟨by decide, by decide⟩ ?_
              exact t_iret dX7_belt_67 rfl (by first | exact lf1 (by unfold s_belt; (repeat (first | rewrite [if_pos (by omega)] | rewrite [if_neg (by omega)])); first | rfl | (refine Prod.ext rfl (Prod.ext (congrArg (uI _ _) ?_) rfl); unfold uI; (repeat rw [if_neg (by omega)]))) | exact lf0 (by unfold s_belt; (repeat (first | rewrite [if_pos (by omega)] | rewrite [if_neg (by omega)])); first | rfl | (refine Prod.ext rfl (Prod.ext (congrArg (uI _ _) ?_) rfl); unfold uI; (repeat rw [if_neg (by omega)]))) | (exfalso; omega))
        · refine v_aload_n 0 dX7_belt_37 (nx := 38) rfl rfl ?_
          refine v_bipush dX7_belt_38 (nx := 40) rfl rfl ?_
          refine t_callVi (a := 14) (c_X7_finding _) dX7_belt_40 (nx := 43) rfl kX7_finding ml_X7_31 (by decide) (ok_m 14 rfl) rfl rfl rfl rfl (Nat.le_of_ble_eq_true rfl) ⟨by decide, by decide⟩ ⟨by decide, by decide⟩ ?_
          exact t_iret dX7_belt_43 rfl (by first | exact lf1 (by unfold s_belt; (repeat (first | rewrite [if_pos (by omega)] | rewrite [if_neg (by omega)])); first | rfl | (refine Prod.ext rfl (Prod.ext (congrArg (uI _ _) ?_) rfl); unfold uI; (repeat rw [if_neg (by omega)]))) | exact lf0 (by unfold s_belt; (repeat (first | rewrite [if_pos (by omega)] | rewrite [if_neg (by omega)])); first | rfl | (refine Prod.ext rfl (Prod.ext (congrArg (uI _ _) ?_) rfl); unfold uI; (repeat rw [if_neg (by omega)]))) | (exfalso; omega))
      · refine v_aload_n 0 dX7_belt_26 (nx := 27) rfl rfl ?_
        refine v_iconst dX7_belt_27 (nx := 28) rfl ?_
        refine t_callVi (a := 14) (c_X7_finding _) dX7_belt_28 (nx := 31) rfl kX7_finding ml_X7_31 (by decide) (ok_m 14 rfl) rfl rfl rfl rfl (Nat.le_of_ble_eq_true rfl) ⟨by decide, by decide⟩ ⟨by decide, by decide⟩ ?_
        exact t_iret dX7_belt_31 rfl (by first | exact lf1 (by unfold s_belt; (repeat (first | rewrite [if_pos (by omega)] | rewrite [if_neg (by omega)])); first | rfl | (refine Prod.ext rfl (Prod.ext (congrArg (uI _ _) ?_) rfl); unfold uI; (repeat rw [if_neg (by omega)]))) | exact lf0 (by unfold s_belt; (repeat (first | rewrite [if_pos (by omega)] | rewrite [if_neg (by omega)])); first | rfl | (refine Prod.ext rfl (Prod.ext (congrArg (uI _ _) ?_) rfl); unfold uI; (repeat rw [if_neg (by omega)]))) | (exfalso; omega))

set_option maxRecDepth 100000 in
theorem l_X7_keep {g : GG} {kp : Bool} {σ : SS} {N K G F : Int → Int} {k f : Int}  : ∀ (m : Nat) (x : Int), (0 ≤ x ∧ x ≤ 4324) → (4324 - x < m) → V g (rmD 1 0 0) mX7_keep (ZT g kp (fun r τ => r = (some (vi (N 4))) ∧ τ = (mkS σ N (cpy N K 4324) G F 1 f))) E0 2 [(0, rf g (ad 14 0 0)), (1, vi x)] [] (vw g kp (mkS σ N (cpy N K x) G F k f)) (sz kp) 0 0 := by
  intro m
  induction m with
  | zero => intro x hx hm; exfalso; omega
  | succ m ih =>
    intro x hx hm
    refine v_iload_n 1 dX7_keep_2 (nx := 3) rfl rfl ?_
    refine v_sipush dX7_keep_3 (nx := 6) rfl rfl ?_
    refine v_icmp_ge dX7_keep_6 (tgt := 27) (by decide) (nx := 9) rfl (by first | assumption | exact hR _ | exact ⟨by omega, by omega⟩) (by first | assumption | exact hR _ | exact ⟨by omega, by omega⟩) (fun c6 => ?_) (fun c6 => ?_)
    · obtain rfl : x = 4324 := by omega
      refine v_aload_n 0 dX7_keep_27 (nx := 28) rfl rfl ?_
      refine v_iconst dX7_keep_28 (nx := 29) rfl ?_
      refine m_pk dX7_keep_29 (nx := 32) rfl fl_X7_138 (by first | exact Or.inl rfl | exact Or.inr rfl) ?_
      refine v_aload_n 0 dX7_keep_32 (nx := 33) rfl rfl ?_
      refine m_gA 10 (p := 0) dX7_keep_33 (nx := 36) rfl (by decide) fl_X7_9 rfl ?_
      refine v_iconst dX7_keep_36 (nx := 37) rfl ?_
      refine m_ald10 dX7_keep_37 (nx := 38) rfl ⟨by omega, by omega⟩ ?_
      exact t_iret dX7_keep_38 rfl ⟨rfl, rfl⟩
    · refine v_aload_n 0 dX7_keep_9 (nx := 10) rfl rfl ?_
      refine m_gA 11 (p := 1) dX7_keep_10 (nx := 13) rfl (by decide) fl_X7_13 rfl ?_
      refine v_iload_n 1 dX7_keep_13 (nx := 14) rfl rfl ?_
      refine v_aload_n 0 dX7_keep_14 (nx := 15) rfl rfl ?_
      refine m_gA 10 (p := 0) dX7_keep_15 (nx := 18) rfl (by decide) fl_X7_9 rfl ?_
      refine v_iload_n 1 dX7_keep_18 (nx := 19) rfl rfl ?_
      refine m_ald10 dX7_keep_19 (nx := 20) rfl ⟨by omega, by omega⟩ ?_
      refine m_ast11 dX7_keep_20 (nx := 21) rfl ⟨by omega, by omega⟩ ?_
      refine v_iinc 1 dX7_keep_21 (nx := 24) rfl rfl rfl (by decide) ?_
      refine v_goto dX7_keep_24 (tgt := 2) (by decide) ?_
      exact (by rw [cpy_s hx.1]; exact ih _ ⟨by omega, by omega⟩ (by omega))

set_option maxRecDepth 100000 in
theorem c_X7_keep {g : GG} {kp : Bool} {σ : SS} {N K G F : Int → Int} {k f : Int}  : XC g kp 1 mX7_keep [rf g (ad 14 0 0)] (mkS σ N K G F k f) (some (vi (N 4))) (mkS σ N (cpy N K 4324) G F 1 f) := by
  refine TC.of (by decide) (Nat.le_of_ble_eq_true rfl) rfl ?_
  refine v_iconst dX7_keep_0 (nx := 1) rfl ?_
  refine v_istore_n dX7_keep_1 (nx := 2) rfl rfl (by decide) ?_
  exact (by rw [show K = cpy N K 0 from cpy_0.symm]; have := l_X7_keep (g := g) (kp := kp) (σ := σ) (N := N) (K := K) (G := G) (F := F) (k := k) (f := f) 4325 0 ⟨by omega, by omega⟩ (by omega); rw [cpy_0] at this ⊢; exact this)

set_option maxRecDepth 100000 in
theorem l_X7_back {g : GG} {kp : Bool} {σ : SS} {N K G F : Int → Int} {k f : Int}  : ∀ (m : Nat) (x : Int), (0 ≤ x ∧ x ≤ 4324) → (4324 - x < m) → V g (rmD 1 0 0) mX7_back (ZT g kp (fun r τ => r = (some (vi (K 4))) ∧ τ = (mkS σ (cpy K N 4324) K G F k f))) E0 16 [(0, rf g (ad 14 0 0)), (1, vi x)] [] (vw g kp (mkS σ (cpy K N x) K G F k f)) (sz kp) 0 0 := by
  intro m
  induction m with
  | zero => intro x hx hm; exfalso; omega
  | succ m ih =>
    intro x hx hm
    refine v_iload_n 1 dX7_back_16 (nx := 17) rfl rfl ?_
    refine v_sipush dX7_back_17 (nx := 20) rfl rfl ?_
    refine v_icmp_ge dX7_back_20 (tgt := 41) (by decide) (nx := 23) rfl (by first | assumption | exact hR _ | exact ⟨by omega, by omega⟩) (by first | assumption | exact hR _ | exact ⟨by omega, by omega⟩) (fun c20 => ?_) (fun c20 => ?_)
    · obtain rfl : x = 4324 := by omega
      refine v_aload_n 0 dX7_back_41 (nx := 42) rfl rfl ?_
      refine m_gA 10 (p := 0) dX7_back_42 (nx := 45) rfl (by decide) fl_X7_9 rfl ?_
      refine v_iconst dX7_back_45 (nx := 46) rfl ?_
      refine m_ald10e (z := K 4) dX7_back_46 (nx := 47) rfl ⟨by omega, by omega⟩ (by unfold cpy; rw [if_pos (by omega)]) ?_
      exact t_iret dX7_back_47 rfl ⟨rfl, rfl⟩
    · refine v_aload_n 0 dX7_back_23 (nx := 24) rfl rfl ?_
      refine m_gA 10 (p := 0) dX7_back_24 (nx := 27) rfl (by decide) fl_X7_9 rfl ?_
      refine v_iload_n 1 dX7_back_27 (nx := 28) rfl rfl ?_
      refine v_aload_n 0 dX7_back_28 (nx := 29) rfl rfl ?_
      refine m_gA 11 (p := 1) dX7_back_29 (nx := 32) rfl (by decide) fl_X7_13 rfl ?_
      refine v_iload_n 1 dX7_back_32 (nx := 33) rfl rfl ?_
      refine m_ald11 dX7_back_33 (nx := 34) rfl ⟨by omega, by omega⟩ ?_
      refine m_ast10 dX7_back_34 (nx := 35) rfl ⟨by omega, by omega⟩ ?_
      refine v_iinc 1 dX7_back_35 (nx := 38) rfl rfl rfl (by decide) ?_
      refine v_goto dX7_back_38 (tgt := 16) (by decide) ?_
      exact (by rw [cpy_s hx.1]; exact ih _ ⟨by omega, by omega⟩ (by omega))

set_option maxRecDepth 100000 in
theorem c_X7_back {g : GG} {kp : Bool} {σ : SS} {N K G F : Int → Int} {k f : Int} (hk : k = 0 ∨ k = 1) : XC g kp 1 mX7_back [rf g (ad 14 0 0)] (mkS σ N K G F k f) (some (vi (if k = 0 then -2 else K 4))) (mkS σ (if k = 0 then N else cpy K N 4324) K G F k (if k = 0 then f + 1 else f)) := by
  refine TC.of (by decide) (Nat.le_of_ble_eq_true rfl) rfl ?_
  refine v_aload_n 0 dX7_back_0 (nx := 1) rfl rfl ?_
  refine m_gI (p := 2) dX7_back_1 (nx := 4) rfl (by decide) fl_X7_138 rfl ?_
  refine v_if_ne dX7_back_4 (tgt := 14) (by decide) (nx := 7) rfl (by first | assumption | exact hR _ | exact ⟨by omega, by omega⟩) (fun c4 => ?_) (fun c4 => ?_)
  · refine v_iconst dX7_back_14 (nx := 15) rfl ?_
    refine v_istore_n dX7_back_15 (nx := 16) rfl rfl (by decide) ?_
    exact (by rw [if_neg c4, if_neg c4, if_neg c4]; have := l_X7_back (g := g) (kp := kp) (σ := σ) (N := N) (K := K) (G := G) (F := F) (k := k) (f := f) 4325 0 ⟨by omega, by omega⟩ (by omega); rw [cpy_0] at this; exact this)
  · refine v_aload_n 0 dX7_back_7 (nx := 8) rfl rfl ?_
    refine v_bipush dX7_back_8 (nx := 10) rfl rfl ?_
    refine t_callVi (a := 14) (c_X7_finding _) dX7_back_10 (nx := 13) rfl kX7_finding ml_X7_31 (by decide) (ok_m 14 rfl) rfl rfl rfl rfl (Nat.le_of_ble_eq_true rfl) ⟨by decide, by decide⟩ ⟨by decide, by decide⟩ ?_
    exact t_iret dX7_back_13 rfl ⟨by rw [if_pos c4], by rw [if_pos c4, if_pos c4]⟩

set_option maxRecDepth 100000 in
theorem l_X7_outlet {g : GG} {kp : Bool} {σ : SS} {N K G F : Int → Int} {k f : Int} (hR : ∀ j, inR (N j)) (p : Int) (hp : inR p) (b1 : 0 ≤ N 1 ∧ N 1 ≤ 16) : ∀ (m : Nat) (x : Int), (0 ≤ x ∧ x ≤ N 1) → (N 1 - x < m) → (∀ y, 0 ≤ y → y < x → (fun y => decide (N (68 + y) = p ∧ N (116 + y) = 0)) y = false) → V g (rmD 0 0 0) mX7_outlet (ZT g kp (fun r τ => r = (some (vi (outS N p))) ∧ τ = (mkS σ N K G F k f))) E0 2 [(0, rf g (ad 14 0 0)), (1, vi p), (2, vi x)] [] (vw g kp (mkS σ N K G F k f)) (sz kp) 0 0 := by
  intro m
  induction m with
  | zero => intro x hx hm hn; exfalso; omega
  | succ m ih =>
    intro x hx hm hn
    refine v_iload_n 2 dX7_outlet_2 (nx := 3) rfl rfl ?_
    refine v_aload_n 0 dX7_outlet_3 (nx := 4) rfl rfl ?_
    refine m_gA 10 (p := 0) dX7_outlet_4 (nx := 7) rfl (by decide) fl_X7_9 rfl ?_
    refine v_iconst dX7_outlet_7 (nx := 8) rfl ?_
    refine m_ald10 dX7_outlet_8 (nx := 9) rfl ⟨by omega, by omega⟩ ?_
    refine v_icmp_ge dX7_outlet_9 (tgt := 45) (by decide) (nx := 12) rfl (by first | assumption | exact hR _ | exact ⟨by omega, by omega⟩) (by first | assumption | exact hR _ | exact ⟨by omega, by omega⟩) (fun c9 => ?_) (fun c9 => ?_)
    · refine v_iconst dX7_outlet_45 (nx := 46) rfl ?_
      exact t_iret dX7_outlet_46 rfl ⟨by rw [show -1 = outS N p from fstI_eq (by omega) (by omega) (Or.inl ⟨rfl, fun y y0 y1 => hn y y0 (by omega)⟩)], rfl⟩
    · refine v_aload_n 0 dX7_outlet_12 (nx := 13) rfl rfl ?_
      refine m_gA 10 (p := 0) dX7_outlet_13 (nx := 16) rfl (by decide) fl_X7_9 rfl ?_
      refine v_bipush dX7_outlet_16 (nx := 18) rfl rfl ?_
      refine v_iload_n 2 dX7_outlet_18 (nx := 19) rfl rfl ?_
      refine v_iadd dX7_outlet_19 (nx := 20) rfl ?_
      refine m_ald10 dX7_outlet_20 (nx := 21) rfl ⟨by omega, by omega⟩ ?_
      refine v_iload_n 1 dX7_outlet_21 (nx := 22) rfl rfl ?_
      refine v_icmp_ne dX7_outlet_22 (tgt := 39) (by decide) (nx := 25) rfl (by first | assumption | exact hR _ | exact ⟨by omega, by omega⟩) (by first | assumption | exact hR _ | exact ⟨by omega, by omega⟩) (fun c22 => ?_) (fun c22 => ?_)
      · refine v_iinc 2 dX7_outlet_39 (nx := 42) rfl rfl rfl (by decide) ?_
        refine v_goto dX7_outlet_42 (tgt := 2) (by decide) ?_
        exact ih _ ⟨by omega, by omega⟩ (by omega) (fun y y0 y1 => by
    by_cases e : y = x
    · subst e; exact decide_eq_false (by omega)
    · exact hn y y0 (by omega))
      · refine v_aload_n 0 dX7_outlet_25 (nx := 26) rfl rfl ?_
        refine m_gA 10 (p := 0) dX7_outlet_26 (nx := 29) rfl (by decide) fl_X7_9 rfl ?_
        refine v_bipush dX7_outlet_29 (nx := 31) rfl rfl ?_
        refine v_iload_n 2 dX7_outlet_31 (nx := 32) rfl rfl ?_
        refine v_iadd dX7_outlet_32 (nx := 33) rfl ?_
        refine m_ald10 dX7_outlet_33 (nx := 34) rfl ⟨by omega, by omega⟩ ?_
        refine v_if_ne dX7_outlet_34 (tgt := 39) (by decide) (nx := 37) rfl (by first | assumption | exact hR _ | exact ⟨by omega, by omega⟩) (fun c34 => ?_) (fun c34 => ?_)
        · refine v_iinc 2 dX7_outlet_39 (nx := 42) rfl rfl rfl (by decide) ?_
          refine v_goto dX7_outlet_42 (tgt := 2) (by decide) ?_
          exact ih _ ⟨by omega, by omega⟩ (by omega) (fun y y0 y1 => by
    by_cases e : y = x
    · subst e; exact decide_eq_false (by omega)
    · exact hn y y0 (by omega))
        · refine v_iload_n 2 dX7_outlet_37 (nx := 38) rfl rfl ?_
          exact t_iret dX7_outlet_38 rfl ⟨by rw [show x = outS N p from fstI_eq (by omega) (by omega) (Or.inr ⟨by omega, by omega, decide_eq_true (by omega), hn⟩)], rfl⟩

set_option maxRecDepth 100000 in
theorem c_X7_outlet {g : GG} {kp : Bool} {σ : SS} {N K G F : Int → Int} {k f : Int} (hR : ∀ j, inR (N j)) (p : Int) (hp : inR p) (b1 : 0 ≤ N 1 ∧ N 1 ≤ 16) : XC g kp 0 mX7_outlet [rf g (ad 14 0 0), vi p] (mkS σ N K G F k f) (some (vi (outS N p))) (mkS σ N K G F k f) := by
  refine TC.of (by decide) (Nat.le_of_ble_eq_true rfl) rfl ?_
  refine v_iconst dX7_outlet_0 (nx := 1) rfl ?_
  refine v_istore_n dX7_outlet_1 (nx := 2) rfl rfl (by decide) ?_
  exact l_X7_outlet hR p hp b1 (N 1 + 1).toNat 0 ⟨by omega, by omega⟩ (by omega) (fun y y0 y1 => by omega)

set_option maxRecDepth 100000 in
theorem l_X7_outletAt {g : GG} {kp : Bool} {σ : SS} {N K G F : Int → Int} {k f : Int} (hR : ∀ j, inR (N j)) (p w : Int) (hp : inR p) (hw : 0 ≤ w ∧ w ≤ 1) (b1 : 0 ≤ N 1 ∧ N 1 ≤ 16) : ∀ (m : Nat) (x c : Int), (0 ≤ x ∧ x ≤ N 1) → (N 1 - x < m) → (c = cntI (fun y => decide (N (68 + y) = p)) x) → (c ≤ w) → (∀ y, 0 ≤ y → y < x → (fun b => decide (N (68 + b) = p) && decide (cntI (fun y => decide (N (68 + y) = p)) b = w)) y = false) → V g (rmD 0 0 0) mX7_outletAt (ZT g kp (fun r τ => r = (some (vi (outA N p w))) ∧ τ = (mkS σ N K G F k f))) E0 5 [(0, rf g (ad 14 0 0)), (1, vi p), (2, vi w), (3, vi (w - c)), (4, vi x)] [] (vw g kp (mkS σ N K G F k f)) (sz kp) 0 0 := by
  intro m
  induction m with
  | zero => intro x c hx hm hc hcw hn; exfalso; omega
  | succ m ih =>
    intro x c hx hm hc hcw hn
    have hcb := cntI_b (P := (fun y => decide (N (68 + y) = p))) hx.1
    rw [← hc] at hcb
    refine v_iload 4 dX7_outletAt_5 (nx := 7) rfl rfl ?_
    refine v_aload_n 0 dX7_outletAt_7 (nx := 8) rfl rfl ?_
    refine m_gA 10 (p := 0) dX7_outletAt_8 (nx := 11) rfl (by decide) fl_X7_9 rfl ?_
    refine v_iconst dX7_outletAt_11 (nx := 12) rfl ?_
    refine m_ald10 dX7_outletAt_12 (nx := 13) rfl ⟨by omega, by omega⟩ ?_
    refine v_icmp_ge dX7_outletAt_13 (tgt := 49) (by decide) (nx := 16) rfl (by first | assumption | exact hR _ | exact ⟨by omega, by omega⟩) (by first | assumption | exact hR _ | exact ⟨by omega, by omega⟩) (fun c13 => ?_) (fun c13 => ?_)
    · refine v_iconst dX7_outletAt_49 (nx := 50) rfl ?_
      exact t_iret dX7_outletAt_50 rfl ⟨by rw [show -1 = outA N p w from fstI_eq (by omega) (by omega) (Or.inl ⟨rfl, fun y y0 y1 => hn y y0 (by omega)⟩)], rfl⟩
    · refine v_aload_n 0 dX7_outletAt_16 (nx := 17) rfl rfl ?_
      refine m_gA 10 (p := 0) dX7_outletAt_17 (nx := 20) rfl (by decide) fl_X7_9 rfl ?_
      refine v_bipush dX7_outletAt_20 (nx := 22) rfl rfl ?_
      refine v_iload 4 dX7_outletAt_22 (nx := 24) rfl rfl ?_
      refine v_iadd dX7_outletAt_24 (nx := 25) rfl ?_
      refine m_ald10 dX7_outletAt_25 (nx := 26) rfl ⟨by omega, by omega⟩ ?_
      refine v_iload_n 1 dX7_outletAt_26 (nx := 27) rfl rfl ?_
      refine v_icmp_eq dX7_outletAt_27 (tgt := 33) (by decide) (nx := 30) rfl (by first | assumption | exact hR _ | exact ⟨by omega, by omega⟩) (by first | assumption | exact hR _ | exact ⟨by omega, by omega⟩) (fun c27 => ?_) (fun c27 => ?_)
      · refine v_iload_n 3 dX7_outletAt_33 (nx := 34) rfl rfl ?_
        refine v_if_ne dX7_outletAt_34 (tgt := 40) (by decide) (nx := 37) rfl (by first | assumption | exact hR _ | exact ⟨by omega, by omega⟩) (fun c34 => ?_) (fun c34 => ?_)
        · refine v_iinc 3 dX7_outletAt_40 (nx := 43) rfl rfl rfl (by decide) ?_
          refine v_iinc 4 dX7_outletAt_43 (nx := 46) rfl rfl rfl (by decide) ?_
          refine v_goto dX7_outletAt_46 (tgt := 5) (by decide) ?_
          exact (by rw [show w - c + -1 = w - (c + 1) by omega]; exact ih _ _ ⟨by omega, by omega⟩ (by omega) (cn_t hc hx.1 (decide_eq_true (by omega))) (by omega) (fun y y0 y1 => by
    by_cases e : y = x
    · subst e; dsimp only; rw [← hc, Bool.and_eq_false_iff]; exact Or.inr (decide_eq_false (by omega))
    · exact hn y y0 (by omega)))
        · refine v_iload 4 dX7_outletAt_37 (nx := 39) rfl rfl ?_
          exact t_iret dX7_outletAt_39 rfl ⟨by rw [show x = outA N p w from fstI_eq (by omega) (by omega) (Or.inr ⟨by omega, by omega, by dsimp only; rw [← hc, Bool.and_eq_true]; exact ⟨decide_eq_true (by omega), decide_eq_true (by omega)⟩, hn⟩)], rfl⟩
      · refine v_goto dX7_outletAt_30 (tgt := 43) (by decide) ?_
        refine v_iinc 4 dX7_outletAt_43 (nx := 46) rfl rfl rfl (by decide) ?_
        refine v_goto dX7_outletAt_46 (tgt := 5) (by decide) ?_
        exact (ih _ _ ⟨by omega, by omega⟩ (by omega) (cn_n hc hx.1 (decide_eq_false (by omega))) (by omega) (fun y y0 y1 => by
    by_cases e : y = x
    · subst e; dsimp only; rw [Bool.and_eq_false_iff]; exact Or.inl (decide_eq_false (by omega))
    · exact hn y y0 (by omega)))

set_option maxRecDepth 100000 in
theorem c_X7_outletAt {g : GG} {kp : Bool} {σ : SS} {N K G F : Int → Int} {k f : Int} (hR : ∀ j, inR (N j)) (p w : Int) (hp : inR p) (hw : 0 ≤ w ∧ w ≤ 1) (b1 : 0 ≤ N 1 ∧ N 1 ≤ 16) : XC g kp 0 mX7_outletAt [rf g (ad 14 0 0), vi p, vi w] (mkS σ N K G F k f) (some (vi (outA N p w))) (mkS σ N K G F k f) := by
  refine TC.of (by decide) (Nat.le_of_ble_eq_true rfl) rfl ?_
  refine v_iload_n 2 dX7_outletAt_0 (nx := 1) rfl rfl ?_
  refine v_istore_n dX7_outletAt_1 (nx := 2) rfl rfl (by decide) ?_
  refine v_iconst dX7_outletAt_2 (nx := 3) rfl ?_
  refine v_istore dX7_outletAt_3 (nx := 5) rfl rfl (by decide) ?_
  exact (by have := l_X7_outletAt (g := g) (kp := kp) (σ := σ) (N := N) (K := K) (G := G) (F := F) (k := k) (f := f) hR p w hp hw b1 (N 1 + 1).toNat 0 0 ⟨by omega, by omega⟩ (by omega) cntI_0.symm (by omega) (fun y y0 y1 => by omega); rw [Int.sub_zero] at this; exact this)
