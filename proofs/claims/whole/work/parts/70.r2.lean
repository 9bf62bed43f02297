theorem CLW : Cond.classLink RX5 9 ("[" ++ (FieldType.array .int).toString) ∈ wU := by decide +kernel
theorem CLH : Cond.classLink RX6 7 RX3 ∈ wU := by decide +kernel
theorem CLV : Cond.classLink RX6 16 RX5 ∈ wU := by decide +kernel
def z0 : SS := fun _ _ _ _ => 0
set_option maxRecDepth 100000 in
theorem c_X5_init {g : GG} {φ : Nat → ce} {n k : Nat} (hk : k < n) (hφ : φ k = .inr (5, [.null])) : CT g 1 13 156 mX5_init [rf g k] φ n (fun r φ' n' => r = none ∧ n' = n + 13 ∧ φ' = va_up (mw g φ n 12 12) k (.inr (5, [rf g n]))) := by
  refine CT.of (by decide) (Nat.le_of_ble_eq_true rfl) rfl ?_
  refine v_aload_n 0 dX5_init_0 (nx := 1) rfl rfl ?_
  refine v_objInit dX5_init_1 (nx := 4) rfl ml_X5_3 io_w co_w ⟨by decide, by decide⟩ (Nat.le_of_ble_eq_true rfl) ?_
  refine v_aload_n 0 dX5_init_4 (nx := 5) rfl rfl ?_
  refine v_bipush dX5_init_5 (nx := 7) rfl rfl ?_
  refine v_bipush dX5_init_7 (nx := 9) rfl rfl ?_
  refine v_mnew (N := 12) (M := 12) dX5_init_9 (nx := 13) rfl CLW alI rfl rfl ⟨by decide, by decide⟩ ⟨by decide, by decide⟩ ?_
  refine v_put (ci := 5) (p := 0) (T := TX5) dX5_init_13 (nx := 16) rfl (by omega) ((if_pos hk).trans hφ) rfl iU5 tyX5 tyX5_ok nmX5 (by decide) fl_X5_11 (by first | exact Or.inl rfl | exact Or.inr ⟨rfl, rfl, rfl⟩) rfl rfl (Nat.le_of_ble_eq_true rfl) ?_
  exact v_ret dX5_init_16 rfl ⟨rfl, by omega, rfl⟩

theorem hk9 : ∀ j : Fin 189, (hkx j.val).1 ≠ 9 := by decide +kernel
theorem bld_kp {g : GG} {kp kp' : Bool} {a : Nat} {t i : Int} {f : Int → Int} (h9 : a ≠ 9) : bld g kp a t i f = bld g kp' a t i f := by
  unfold bld
  split <;> first | rfl | (exfalso; omega)
theorem hb_vw {g : GG} {kp : Bool} {t i : Int} {a : Nat} (h9 : a ≠ 9) : ceq (hb g t 12 16 8 60 a i) (bld g kp a t i (fun _ => 0)) := by
  unfold hb
  split
  · exact Or.inr ⟨2, 12, _, _, rfl, rfl, fun j hj => if_pos hj⟩
  · exact Or.inr ⟨3, 16, _, _, rfl, rfl, fun j hj => if_pos hj⟩
  · exact Or.inr ⟨4, 8, _, _, rfl, rfl, fun j hj => if_pos hj⟩
  · exact Or.inr ⟨5, 60, _, _, rfl, rfl, fun j hj => if_pos hj⟩
  · exact Or.inl (bld_kp h9)
theorem ky_h {k : Nat} (h1 : 1 ≤ k) (h2 : k < 190) : ky k = ((hkx (k - 1)).1, 0, (hkx (k - 1)).2) := by
  unfold ky
  rw [if_neg (by omega), if_pos h2]
theorem ky_s {k : Nat} (h1 : 192 ≤ k) (h2 : k < 204) : ky k = (8, 0, ((k - 192 : Nat) : Int)) := by
  unfold ky
  rw [if_neg (by omega), if_neg (by omega), if_neg (by omega), if_neg (by omega), if_pos h2]
theorem ky_k {k : Nat} (h1 : 209 ≤ k) : ky k = ((hkx (k - 209)).1, 1, (hkx (k - 209)).2) := by
  unfold ky
  rw [if_neg (by omega), if_neg (by omega), if_neg (by omega), if_neg (by omega), if_neg (by omega), if_neg (by omega), if_neg (by omega)]

set_option maxRecDepth 100000 in
theorem c_X6_init {g : GG} {φ : Nat → ce} (hφ : φ 0 = .inr (6, [.null, .null, .null, vi 0])) : CT g 3 203 3602 mX6_init [rf g 0] φ 1 (fun r φ' n' => r = none ∧ n' = 204 ∧ ∀ k, k < 204 → ceq (φ' k) (vw g false z0 k)) := by
  refine CT.of (by decide) (Nat.le_of_ble_eq_true rfl) rfl ?_
  refine v_aload_n 0 dX6_init_0 (nx := 1) rfl rfl ?_
  refine v_objInit dX6_init_1 (nx := 4) rfl ml_X6_1 io_w co_w ⟨by decide, by decide⟩ (Nat.le_of_ble_eq_true rfl) ?_
  refine v_aload_n 0 dX6_init_4 (nx := 5) rfl rfl ?_
  refine v_new (ci := 3) (N := 9) (C := RX3) (T := TX3) (fs := [.null, .null, .null, .null, vi 0, vi 0, vi 0, vi 0, vi 0]) dX6_init_5 (nx := 8) rfl CLH IN3 IT3 rfl iU3 tyX3 tyX3_ok (by intro j hj; match j, hj with | 0, _ => rfl | 1, _ => rfl | 2, _ => rfl | 3, _ => rfl | 4, _ => rfl | 5, _ => rfl | 6, _ => rfl | 7, _ => rfl | 8, _ => rfl) ⟨by decide, by decide⟩ ?_
  refine v_dup dX6_init_8 (nx := 9) rfl rfl ?_
  refine v_callI (x := 0) (c_X3_init (B := 1) (t := 0) rfl va_s) dX6_init_9 (nx := 12) rfl kX3_init ml_X6_9 rfl rfl (Nat.le_of_ble_eq_true rfl) ⟨by decide, by decide⟩ ⟨by decide, by decide⟩ (fun r φ' n' hq => ?_)
  obtain ⟨rfl, rfl, rfl⟩ := hq
  refine v_put (ci := 6) (p := 0) (T := TX6) dX6_init_12 (nx := 15) rfl (by decide) ((show hwf g _ 1 0 12 16 8 60 0 = _ from if_pos (by decide)).trans ((va_n (by decide)).trans hφ)) rfl iU6 tyX6 tyX6_ok nmX6 (by decide) fl_X6_10 (by first | exact Or.inl rfl | exact Or.inr ⟨rfl, rfl, rfl⟩) rfl rfl (Nat.le_of_ble_eq_true rfl) ?_
  refine v_aload_n 0 dX6_init_15 (nx := 16) rfl rfl ?_
  refine v_new (ci := 5) (N := 1) (C := RX5) (T := TX5) (fs := [.null]) dX6_init_16 (nx := 19) rfl CLV IN5 IT5 rfl iU5 tyX5 tyX5_ok (by intro j hj; match j, hj with | 0, _ => rfl) ⟨by decide, by decide⟩ ?_
  refine v_dup dX6_init_19 (nx := 20) rfl rfl ?_
  refine v_callIN (x := 0) (c_X5_init (k := 190) (n := 191) (by decide) va_s) dX6_init_20 (nx := 23) rfl kX5_init (fun U h => h.2.2.2.2.2) rfl rfl (Nat.le_of_ble_eq_true rfl) ⟨by decide, by decide⟩ ⟨by decide, by decide⟩ (fun r φ' n' hq => ?_)
  obtain ⟨rfl, rfl, rfl⟩ := hq
  refine v_put (ci := 6) (p := 1) (T := TX6) dX6_init_23 (nx := 26) rfl (by decide) ((va_n (by decide)).trans ((show mw g _ 191 12 12 0 = _ from if_pos (by decide)).trans ((va_n (by decide)).trans va_s))) rfl iU6 tyX6 tyX6_ok nmX6 (by decide) fl_X6_19 (by first | exact Or.inl rfl | exact Or.inr ⟨rfl, rfl, rfl⟩) rfl rfl (Nat.le_of_ble_eq_true rfl) ?_
  refine v_aload_n 0 dX6_init_26 (nx := 27) rfl rfl ?_
  refine v_null dX6_init_27 (nx := 28) rfl ?_
  refine v_put (ci := 6) (p := 2) (T := TX6) dX6_init_28 (nx := 31) rfl (by decide) va_s rfl iU6 tyX6 tyX6_ok nmX6 (by decide) fl_X6_23 (by first | exact Or.inl rfl | exact Or.inr ⟨rfl, rfl, rfl⟩) rfl rfl (Nat.le_of_ble_eq_true rfl) ?_
  refine v_aload_n 0 dX6_init_31 (nx := 32) rfl rfl ?_
  refine v_iconst dX6_init_32 (nx := 33) rfl ?_
  refine v_put (ci := 6) (p := 3) (T := TX6) dX6_init_33 (nx := 36) rfl (by decide) va_s rfl iU6 tyX6 tyX6_ok nmX6 (by decide) fl_X6_26 (by first | exact Or.inl rfl | exact Or.inr ⟨rfl, rfl, rfl⟩) rfl rfl (Nat.le_of_ble_eq_true rfl) ?_
  refine v_ret dX6_init_36 rfl ⟨rfl, rfl, fun k hk => ?_⟩
  by_cases c0 : k = 0
  · subst c0
    exact Or.inl rfl
  · rw [va_n c0, va_n c0, va_n c0]
    by_cases c1 : k = 190
    · subst c1
      exact Or.inl rfl
    · rw [va_n c1]
      unfold mw
      by_cases c2 : k < 191
      · rw [if_pos c2, va_n c1, va_n c0, hw_o (by omega)]
        unfold vw
        rw [ky_h (by omega) (by omega)]
        exact hb_vw (hk9 ⟨k - 1, by omega⟩)
      · rw [if_neg c2]
        by_cases c3 : k = 191
        · subst c3
          rw [if_pos rfl]
          refine Or.inl ?_
          show (Sum.inl (6, 12, Sum.inr (Sum.inr (Sum.inr (Sum.inr (fun j : Nat => some (g.2.1 + (191 + 1 + j))))))) : ce) = Sum.inl (6, 12, Sum.inr (Sum.inr (Sum.inr (Sum.inr (fun j : Nat => some (g.2.1 + ad 8 0 (j : Int)))))))
          congr 7
        · rw [if_neg c3]
          refine Or.inl ?_
          unfold vw
          rw [ky_s (by omega) (by omega)]
          rfl

set_option maxRecDepth 100000 in
theorem c_X7_init {g : GG} {φ : Nat → ce} (hφ : φ 204 = .inr (7, [.null, .null, vi 0, vi 0, .null, .null])) : CT g 1 4 8720 mX7_init [rf g 204] φ 205 (fun r φ' n' => r = none ∧ n' = 209 ∧ ∀ k, k < 209 → φ' k = if k < 204 then φ k else vw g false z0 k) := by
  refine CT.of (by decide) (Nat.le_of_ble_eq_true rfl) rfl ?_
  refine v_aload_n 0 dX7_init_0 (nx := 1) rfl rfl ?_
  refine v_objInit dX7_init_1 (nx := 4) rfl ml_X7_1 io_w co_w ⟨by decide, by decide⟩ (Nat.le_of_ble_eq_true rfl) ?_
  refine v_aload_n 0 dX7_init_4 (nx := 5) rfl rfl ?_
  refine v_sipush dX7_init_5 (nx := 8) rfl rfl ?_
  refine v_newI (N := 4324) dX7_init_8 (nx := 10) rfl alI rfl (by decide) ⟨by decide, by decide⟩ ?_
  refine v_put (ci := 7) (p := 0) (T := TX7) dX7_init_10 (nx := 13) rfl (by decide) ((va_n (by decide)).trans hφ) rfl iU7 tyX7 tyX7_ok nmX7 (by decide) fl_X7_9 (by first | exact Or.inl rfl | exact Or.inr ⟨rfl, rfl, rfl⟩) rfl rfl (Nat.le_of_ble_eq_true rfl) ?_
  refine v_aload_n 0 dX7_init_13 (nx := 14) rfl rfl ?_
  refine v_sipush dX7_init_14 (nx := 17) rfl rfl ?_
  refine v_newI (N := 4324) dX7_init_17 (nx := 19) rfl alI rfl (by decide) ⟨by decide, by decide⟩ ?_
  refine v_put (ci := 7) (p := 1) (T := TX7) dX7_init_19 (nx := 22) rfl (by decide) ((va_n (by decide)).trans va_s) rfl iU7 tyX7 tyX7_ok nmX7 (by decide) fl_X7_13 (by first | exact Or.inl rfl | exact Or.inr ⟨rfl, rfl, rfl⟩) rfl rfl (Nat.le_of_ble_eq_true rfl) ?_
  refine v_aload_n 0 dX7_init_22 (nx := 23) rfl rfl ?_
  refine v_bipush dX7_init_23 (nx := 25) rfl rfl ?_
  refine v_newZ (N := 60) dX7_init_25 (nx := 27) rfl alZ rfl (by decide) ⟨by decide, by decide⟩ ?_
  refine v_put (ci := 7) (p := 4) (T := TX7) dX7_init_27 (nx := 30) rfl (by decide) ((va_n (by decide)).trans va_s) rfl iU7 tyX7 tyX7_ok nmX7 (by decide) fl_X7_16 (by first | exact Or.inl rfl | exact Or.inr ⟨rfl, rfl, rfl⟩) rfl rfl (Nat.le_of_ble_eq_true rfl) ?_
  refine v_aload_n 0 dX7_init_30 (nx := 31) rfl rfl ?_
  refine v_bipush dX7_init_31 (nx := 33) rfl rfl ?_
  refine v_newI (N := 12) dX7_init_33 (nx := 35) rfl alI rfl (by decide) ⟨by decide, by decide⟩ ?_
  refine v_put (ci := 7) (p := 5) (T := TX7) dX7_init_35 (nx := 38) rfl (by decide) ((va_n (by decide)).trans va_s) rfl iU7 tyX7 tyX7_ok nmX7 (by decide) fl_X7_20 (by first | exact Or.inl rfl | exact Or.inr ⟨rfl, rfl, rfl⟩) rfl rfl (Nat.le_of_ble_eq_true rfl) ?_
  refine v_ret dX7_init_38 rfl ⟨rfl, rfl, fun k hk => ?_⟩
  by_cases c0 : k = 204
  · subst c0
    rfl
  · rw [va_n c0]
    by_cases c1 : k = 208
    · subst c1
      rfl
    · rw [va_n c1, va_n c0]
      by_cases c2 : k = 207
      · subst c2
        rfl
      · rw [va_n c2, va_n c0]
        by_cases c3 : k = 206
        · subst c3
          rfl
        · rw [va_n c3, va_n c0]
          by_cases c4 : k = 205
          · subst c4
            rfl
          · rw [va_n c4, if_pos (by omega)]

/-- hall 1 with nothing in it -/
def z1 (σ : SS) : SS := fun a t i j => if t = 1 ∧ (a < 10 ∨ 15 ≤ a) then 0 else σ a t i j
theorem hk10 : ∀ j : Fin 189, (hkx j.val).1 < 10 ∨ 15 ≤ (hkx j.val).1 := by decide +kernel
theorem ky_209 : ∀ k : Fin 209, (ky k.val).2.1 = 0 ∧ ((ky k.val).1 = 9 → k.val = 0) := by decide +kernel
set_option maxRecDepth 100000 in
theorem c_X6_keepF {g : GG} {σ : SS} (hR : RG σ) : CT g 3 189 3445 mX6_keep [rf g 0] (vw g false σ) (sz false) (fun r φ' n' => r = some (vi (σ 7 0 0 4)) ∧ n' = sz true ∧ φ' = vw g true (hc (z1 σ) 1 0 12 16 8 60 1)) := by
  have o7 : ok true 7 1 0 := okH (Or.inr ⟨rfl, rfl⟩) ⟨by decide, by decide⟩ rfl
  have hR1 : RG (z1 σ) := by
    refine ⟨fun a t i j => ?_, fun a t i j q => ?_⟩
    · unfold z1
      split
      · exact ⟨by decide, by decide⟩
      · exact hR.1 _ _ _ _
    · unfold z1
      split
      · exact Or.inl rfl
      · exact hR.2 _ _ _ _ q
  refine CT.of (by decide) (Nat.le_of_ble_eq_true rfl) rfl ?_
  refine v_aload_n 0 dX6_keep_0 (nx := 1) rfl rfl ?_
  refine t_get (a := 9) (p := 2) (T := TX6) (v := .null) dX6_keep_1 (nx := 4) rfl (by decide) (ok_m 9 rfl) rfl rfl iU6 (by decide) fl_X6_23 rfl ?_
  refine v_nonnullN dX6_keep_4 (nx := 7) rfl ?_
  refine v_aload_n 0 dX6_keep_7 (nx := 8) rfl rfl ?_
  refine v_new (ci := 3) (N := 9) (C := RX3) (T := TX3) (fs := [.null, .null, .null, .null, vi 0, vi 0, vi 0, vi 0, vi 0]) dX6_keep_8 (nx := 11) rfl CLH IN3 IT3 rfl iU3 tyX3 tyX3_ok (by intro j hj; match j, hj with | 0, _ => rfl | 1, _ => rfl | 2, _ => rfl | 3, _ => rfl | 4, _ => rfl | 5, _ => rfl | 6, _ => rfl | 7, _ => rfl | 8, _ => rfl) ⟨by decide, by decide⟩ ?_
  refine v_dup dX6_keep_11 (nx := 12) rfl rfl ?_
  refine v_callI (x := 0) (c_X3_init (B := 209) (t := 1) rfl va_s) dX6_keep_12 (nx := 15) rfl kX3_init ml_X6_9 rfl rfl (Nat.le_of_ble_eq_true rfl) ⟨by decide, by decide⟩ ⟨by decide, by decide⟩ (fun r φ' n' hq => ?_)
  obtain ⟨rfl, rfl, rfl⟩ := hq
  refine v_put (ci := 6) (fs := [rf g 1, rf g 190, .null, vi (σ 9 0 0 0)]) (p := 2) (T := TX6) dX6_keep_15 (nx := 18) rfl (by decide) ((show hwf g _ 209 1 12 16 8 60 0 = _ from if_pos (by decide)).trans ((va_n (by decide)).trans rfl)) rfl iU6 tyX6 tyX6_ok nmX6 (by decide) fl_X6_23 (Or.inl rfl) rfl rfl (Nat.le_of_ble_eq_true rfl) ?_
  refine V.ceq (ψ := vw g true (z1 σ)) (n := sz true) (fun k hk => ?_) ?_
  · have hk' : k < 398 := hk
    by_cases c0 : k = 0
    · subst c0
      exact Or.inl rfl
    · rw [va_n c0]
      by_cases c1 : k < 209
      · obtain ⟨y1, y2⟩ := ky_209 ⟨k, c1⟩
        dsimp only at y1 y2
        rw [show hwf g (va_up (vw g false σ) (sz false) (.inr (3, [.null, .null, .null, .null, vi 0, vi 0, vi 0, vi 0, vi 0]))) 209 1 12 16 8 60 k = vw g false σ k from (if_pos c1).trans (va_n (show k ≠ 209 by omega))]
        refine Or.inl ?_
        unfold vw
        rw [bld_kp (kp' := true) (fun q => c0 (y2 q))]
        congr 1
        funext j
        unfold z1
        rw [y1, if_neg (fun q => absurd q.1 (by decide))]
      · rw [hw_o (by omega)]
        unfold vw
        rw [ky_k (by omega)]
        have e : z1 σ (hkx (k - 209)).1 1 (hkx (k - 209)).2 = fun _ => 0 := by
          funext j
          exact if_pos ⟨rfl, hk10 ⟨k - 209, by omega⟩⟩
        dsimp only
        rw [e]
        exact hb_vw (hk9 ⟨k - 209, by omega⟩)
  refine v_aload_n 0 dX6_keep_18 (nx := 19) rfl rfl ?_
  refine t_get (a := 9) (p := 2) (T := TX6) (v := rf g (ad 7 1 0)) dX6_keep_19 (nx := 22) rfl (by decide) (ok_m 9 rfl) rfl rfl iU6 (by decide) fl_X6_23 rfl ?_
  refine v_aload_n 0 dX6_keep_22 (nx := 23) rfl rfl ?_
  refine t_get (a := 9) (p := 0) (T := TX6) dX6_keep_23 (nx := 26) rfl (by decide) (ok_m 9 rfl) rfl rfl iU6 (by decide) fl_X6_10 rfl ?_
  refine t_callVv (a := 7) (c_X3_copyFrom hR1 (t := 1) (t' := 0) (by decide) (Or.inr ⟨rfl, rfl⟩) (Or.inl rfl)) dX6_keep_26 (nx := 29) rfl kX3_copyFrom ml_X6_217 (by decide) (by assumption) rfl rfl rfl rfl (Nat.le_of_ble_eq_true rfl) ⟨by decide, by decide⟩ ⟨by decide, by decide⟩ ?_
  refine v_aload_n 0 dX6_keep_29 (nx := 30) rfl rfl ?_
  refine t_get (a := 9) (p := 0) (T := TX6) dX6_keep_30 (nx := 33) rfl (by decide) (ok_m 9 rfl) rfl rfl iU6 (by decide) fl_X6_10 rfl ?_
  refine t_get (a := 7) (p := 8) (T := TX3) dX6_keep_33 (nx := 36) rfl (by decide) (ok_m 7 rfl) rfl rfl iU3 (by decide) fl_X6_171 rfl ?_
  refine v_top (z' := σ 7 0 0 4) (hc_o (by decide)) ?_
  exact v_iret dX6_keep_36 rfl ⟨rfl, rfl, rfl⟩
