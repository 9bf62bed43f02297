set_option maxRecDepth 100000 in
theorem c_X6_keepT {g : GG} {σ : SS} (hR : RG σ) : XC g true 3 mX6_keep [rf g (ad 9 0 0)] σ (some (vi (σ 7 0 0 4))) (hc σ 1 0 12 16 8 60 1) := by
  refine TC.of (by decide) (Nat.le_of_ble_eq_true rfl) rfl ?_
  have o7 : ok true 7 1 0 := okH (Or.inr ⟨rfl, rfl⟩) ⟨by decide, by decide⟩ rfl
  refine v_aload_n 0 dX6_keep_0 (nx := 1) rfl rfl ?_
  refine t_get (a := 9) (p := 2) (T := TX6) (v := rf g (ad 7 1 0)) dX6_keep_1 (nx := 4) rfl (by decide) (ok_m 9 rfl) rfl rfl iU6 (by decide) fl_X6_23 rfl ?_
  refine v_nonnullR dX6_keep_4 (tgt := 18) (by decide) ?_
  refine v_aload_n 0 dX6_keep_18 (nx := 19) rfl rfl ?_
  refine t_get (a := 9) (p := 2) (T := TX6) (v := rf g (ad 7 1 0)) dX6_keep_19 (nx := 22) rfl (by decide) (ok_m 9 rfl) rfl rfl iU6 (by decide) fl_X6_23 rfl ?_
  refine v_aload_n 0 dX6_keep_22 (nx := 23) rfl rfl ?_
  refine t_get (a := 9) (p := 0) (T := TX6) dX6_keep_23 (nx := 26) rfl (by decide) (ok_m 9 rfl) rfl rfl iU6 (by decide) fl_X6_10 rfl ?_
  refine t_callVv (a := 7) (c_X3_copyFrom hR (t := 1) (t' := 0) (by decide) (Or.inr ⟨rfl, rfl⟩) (Or.inl rfl)) dX6_keep_26 (nx := 29) rfl kX3_copyFrom ml_X6_217 (by decide) (by assumption) rfl rfl rfl rfl (Nat.le_of_ble_eq_true rfl) ⟨by decide, by decide⟩ ⟨by decide, by decide⟩ ?_
  refine v_aload_n 0 dX6_keep_29 (nx := 30) rfl rfl ?_
  refine t_get (a := 9) (p := 0) (T := TX6) dX6_keep_30 (nx := 33) rfl (by decide) (ok_m 9 rfl) rfl rfl iU6 (by decide) fl_X6_10 rfl ?_
  refine t_get (a := 7) (p := 8) (T := TX3) dX6_keep_33 (nx := 36) rfl (by decide) (ok_m 7 rfl) rfl rfl iU3 (by decide) fl_X6_171 rfl ?_
  refine v_top (z' := σ 7 0 0 4) (hc_o (by decide)) ?_
  exact t_iret dX6_keep_36 rfl ⟨rfl, rfl⟩

set_option maxRecDepth 100000 in
theorem c_X6_backF {g : GG} {σ : SS}  : XC g false 1 mX6_back [rf g (ad 9 0 0)] σ (some (vi (-2))) (fd σ 1) := by
  refine TC.of (by decide) (Nat.le_of_ble_eq_true rfl) rfl ?_
  refine v_aload_n 0 dX6_back_0 (nx := 1) rfl rfl ?_
  refine t_get (a := 9) (p := 2) (T := TX6) (v := .null) dX6_back_1 (nx := 4) rfl (by decide) (ok_m 9 rfl) rfl rfl iU6 (by decide) fl_X6_23 rfl ?_
  refine v_nonnullN dX6_back_4 (nx := 7) rfl ?_
  refine v_aload_n 0 dX6_back_7 (nx := 8) rfl rfl ?_
  refine v_bipush dX6_back_8 (nx := 10) rfl rfl ?_
  refine t_callVi (a := 9) (c_X6_finding _) dX6_back_10 (nx := 13) rfl kX6_finding ml_X6_38 (by decide) (ok_m 9 rfl) rfl rfl rfl rfl (Nat.le_of_ble_eq_true rfl) ⟨by decide, by decide⟩ ⟨by decide, by decide⟩ ?_
  exact t_iret dX6_back_13 rfl ⟨rfl, rfl⟩

set_option maxRecDepth 100000 in
theorem c_X6_backT {g : GG} {σ : SS} (hR : RG σ) {K : NN} {kk : Int} (hI : IV K kk) (hK : RH σ 1 K) (h8 : ∀ i j, σ 8 0 i j ≤ 1000000) : TC g true 4 mX6_back [rf g (ad 9 0 0)] σ (fun r τ => r = some (vi (K 4)) ∧ CR σ τ K 0) := by
  refine TC.of (by decide) (Nat.le_of_ble_eq_true rfl) rfl ?_
  have o7 : ok true 7 1 0 := okH (Or.inr ⟨rfl, rfl⟩) ⟨by decide, by decide⟩ rfl
  have hH : RH (hc σ 0 1 12 16 8 60 1) 0 K := hK.copy hI
  have hRc : RG (hc σ 0 1 12 16 8 60 1) := RG_hc hR
  have h8c : ∀ i j, hc σ 0 1 12 16 8 60 1 8 0 i j ≤ 1000000 := fun i j => by rw [show hc σ 0 1 12 16 8 60 1 8 0 i j = σ 8 0 i j from if_neg (fun q => by have := q.2.2.1; have e : wd 8 = 0 := rfl; omega)]; exact h8 i j
  refine v_aload_n 0 dX6_back_0 (nx := 1) rfl rfl ?_
  refine t_get (a := 9) (p := 2) (T := TX6) (v := rf g (ad 7 1 0)) dX6_back_1 (nx := 4) rfl (by decide) (ok_m 9 rfl) rfl rfl iU6 (by decide) fl_X6_23 rfl ?_
  refine v_nonnullR dX6_back_4 (tgt := 14) (by decide) ?_
  refine v_aload_n 0 dX6_back_14 (nx := 15) rfl rfl ?_
  refine t_get (a := 9) (p := 0) (T := TX6) dX6_back_15 (nx := 18) rfl (by decide) (ok_m 9 rfl) rfl rfl iU6 (by decide) fl_X6_10 rfl ?_
  refine v_aload_n 0 dX6_back_18 (nx := 19) rfl rfl ?_
  refine t_get (a := 9) (p := 2) (T := TX6) (v := rf g (ad 7 1 0)) dX6_back_19 (nx := 22) rfl (by decide) (ok_m 9 rfl) rfl rfl iU6 (by decide) fl_X6_23 rfl ?_
  refine t_callVv (a := 7) (c_X3_copyFrom hR (t := 0) (t' := 1) (by decide) (Or.inl rfl) (Or.inr ⟨rfl, rfl⟩)) dX6_back_22 (nx := 25) rfl kX3_copyFrom ml_X6_217 (by decide) (ok_m 7 rfl) rfl rfl rfl rfl (Nat.le_of_ble_eq_true rfl) ⟨by decide, by decide⟩ ⟨by decide, by decide⟩ ?_
  refine v_aload_n 0 dX6_back_25 (nx := 26) rfl rfl ?_
  refine t_get (a := 9) (p := 1) (T := TX6) dX6_back_26 (nx := 29) rfl (by decide) (ok_m 9 rfl) rfl rfl iU6 (by decide) fl_X6_19 rfl ?_
  refine v_aload_n 0 dX6_back_29 (nx := 30) rfl rfl ?_
  refine t_get (a := 9) (p := 0) (T := TX6) dX6_back_30 (nx := 33) rfl (by decide) (ok_m 9 rfl) rfl rfl iU6 (by decide) fl_X6_10 rfl ?_
  refine t_callVvQ (a := 19) (c_X5_measure hRc hI hH.n hH.b hH.p h8c) dX6_back_33 (nx := 36) rfl kX5_measure ml_X6_55 (by decide) (ok_m 19 rfl) rfl rfl rfl rfl (Nat.le_of_ble_eq_true rfl) ⟨by decide, by decide⟩ ⟨by decide, by decide⟩ (fun τ hq => ?_)
  obtain ⟨q1, q2, q3, q4⟩ := hq
  refine v_aload_n 0 dX6_back_36 (nx := 37) rfl rfl ?_
  refine t_get (a := 9) (p := 0) (T := TX6) dX6_back_37 (nx := 40) rfl (by decide) (ok_m 9 rfl) rfl rfl iU6 (by decide) fl_X6_10 rfl ?_
  refine t_get (a := 7) (p := 8) (T := TX3) dX6_back_40 (nx := 43) rfl (by decide) (ok_m 7 rfl) rfl rfl iU3 (by decide) fl_X6_171 rfl ?_
  refine v_top (z' := K 4) (by rw [q1 7 0 0 (by decide)]; exact hH.n.2.2.2.2) ?_
  exact t_iret dX6_back_43 rfl ⟨rfl, CR.ms hH (fun a t i h => by (funext j); exact if_neg (fun q => by (obtain ⟨z1, z2, z3, z4, z5⟩ := q); (have e : 10 ≤ a → lm a 12 16 8 60 1 = 0 := fun h => by unfold lm; (repeat rw [if_neg (by omega)])); omega)) (by show hc σ 0 1 12 16 8 60 1 9 0 0 0 = _; exact if_neg (fun q => by (have := q.2.2.1); (have e : wd 9 = 0 := rfl); omega)) q1 q2 q3 q4⟩
