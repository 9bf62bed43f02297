/-! ===== BagHall: what asks ===== -/
def fd (σ : SS) (x : Int) : SS := up σ 9 0 0 0 (σ 9 0 0 0 + x)
theorem fd0 {σ : SS} : σ = fd σ 0 := by
  funext a t i j
  unfold fd up
  split
  · rename_i h
    obtain ⟨rfl, rfl, rfl, rfl⟩ := h
    omega
  · rfl
theorem cf1 {σ : SS} {s : RR} {x : Int} (h : s.1 = x ∧ s.2.2 = 1) : some (vi x) = some (vi s.1) ∧ fd σ 1 = fd σ s.2.2 := by
  rw [h.1, h.2]; exact ⟨rfl, rfl⟩
theorem cf0 {σ : SS} {s : RR} {x : Int} (h : s.1 = x ∧ s.2.2 = 0) : some (vi x) = some (vi s.1) ∧ σ = fd σ s.2.2 := by
  rw [h.1, h.2]; exact ⟨rfl, fd0⟩

set_option maxRecDepth 100000 in
theorem c_X6_finding {g : GG} {kp : Bool} {σ : SS} (w : Int) : XC g kp 0 mX6_finding [rf g (ad 9 0 0), vi w] σ (some (vi w)) (fd σ 1) := by
  refine TC.of (by decide) (Nat.le_of_ble_eq_true rfl) rfl ?_
  refine v_aload_n 0 dX6_finding_0 (nx := 1) rfl rfl ?_
  refine v_dup dX6_finding_1 (nx := 2) rfl rfl ?_
  refine t_get (a := 9) (p := 3) (T := TX6) dX6_finding_2 (nx := 5) rfl (by decide) (ok_m 9 rfl) rfl rfl iU6 (by decide) fl_X6_26 rfl ?_
  refine v_iconst dX6_finding_5 (nx := 6) rfl ?_
  refine v_iadd dX6_finding_6 (nx := 7) rfl ?_
  refine t_put (a := 9) (j := 0) (p := 3) (T := TX6) dX6_finding_7 (nx := 10) rfl (by decide) (ok_m 9 rfl) rfl rfl iU6 tyX6 tyX6_ok nmX6 (by decide) fl_X6_26 rfl (Or.inl rfl) (Nat.le_of_ble_eq_true rfl) (by rfl) ?_
  refine v_iload_n 1 dX6_finding_10 (nx := 11) rfl rfl ?_
  exact t_iret dX6_finding_11 rfl ⟨rfl, rfl⟩

set_option maxRecDepth 100000 in
theorem c_X6_within {g : GG} {kp : Bool} {σ : SS} (v a b : Int) (hv : inR v) (ha : inR a) (hb : inR b) : XC g kp 0 mX6_within [vi v, vi a, vi b] σ (some (vi (if a ≤ v ∧ v ≤ b then 1 else 0))) σ := by
  refine TC.of (by decide) (Nat.le_of_ble_eq_true rfl) rfl ?_
  refine v_iload_n 0 dX6_within_0 (nx := 1) rfl rfl ?_
  refine v_iload_n 1 dX6_within_1 (nx := 2) rfl rfl ?_
  refine v_icmp_lt dX6_within_2 (tgt := 14) (by decide) (nx := 5) rfl (by first | assumption | exact hR.1 _ _ _ _ | exact ⟨by omega, by omega⟩) (by first | assumption | exact hR.1 _ _ _ _ | exact ⟨by omega, by omega⟩) (fun c2 => ?_) (fun c2 => ?_)
  · refine v_iconst dX6_within_14 (nx := 15) rfl ?_
    exact t_zret dX6_within_15 rfl (by first | exact Or.inl rfl | exact Or.inr rfl | assumption) ⟨by first | rw [if_pos (by omega)] | rw [if_neg (by omega)], rfl⟩
  · refine v_iload_n 0 dX6_within_5 (nx := 6) rfl rfl ?_
    refine v_iload_n 2 dX6_within_6 (nx := 7) rfl rfl ?_
    refine v_icmp_gt dX6_within_7 (tgt := 14) (by decide) (nx := 10) rfl (by first | assumption | exact hR.1 _ _ _ _ | exact ⟨by omega, by omega⟩) (by first | assumption | exact hR.1 _ _ _ _ | exact ⟨by omega, by omega⟩) (fun c7 => ?_) (fun c7 => ?_)
    · refine v_iconst dX6_within_14 (nx := 15) rfl ?_
      exact t_zret dX6_within_15 rfl (by first | exact Or.inl rfl | exact Or.inr rfl | assumption) ⟨by first | rw [if_pos (by omega)] | rw [if_neg (by omega)], rfl⟩
    · refine v_iconst dX6_within_10 (nx := 11) rfl ?_
      refine v_goto dX6_within_11 (tgt := 15) (by decide) ?_
      exact t_zret dX6_within_15 rfl (by first | exact Or.inl rfl | exact Or.inr rfl | assumption) ⟨by first | rw [if_pos (by omega)] | rw [if_neg (by omega)], rfl⟩

set_option maxRecDepth 100000 in
theorem c_X6_isKind {g : GG} {kp : Bool} {σ : SS} (k : Int) (hk : inR k) : XC g kp 1 mX6_isKind [vi k] σ (some (vi (if 0 ≤ k ∧ k ≤ 5 then 1 else 0))) σ := by
  refine TC.of (by decide) (Nat.le_of_ble_eq_true rfl) rfl ?_
  refine v_iload_n 0 dX6_isKind_0 (nx := 1) rfl rfl ?_
  refine v_iconst dX6_isKind_1 (nx := 2) rfl ?_
  refine v_iconst dX6_isKind_2 (nx := 3) rfl ?_
  refine t_callSi (c_X6_within _ _ _ (by first | assumption | exact hR.1 _ _ _ _ | exact ⟨by omega, by omega⟩) (by first | assumption | exact hR.1 _ _ _ _ | exact ⟨by omega, by omega⟩) (by first | assumption | exact hR.1 _ _ _ _ | exact ⟨by omega, by omega⟩)) dX6_isKind_3 (nx := 6) rfl kX6_within ml_X6_62 rfl rfl (Nat.le_of_ble_eq_true rfl) ⟨by decide, by decide⟩ ⟨by decide, by decide⟩ ?_
  exact t_zret dX6_isKind_6 rfl if01 ⟨rfl, rfl⟩

set_option maxRecDepth 100000 in
theorem c_X6_suits {g : GG} {kp : Bool} {σ : SS} (k v : Int) (hk : inR k) (hv : inR v) : XC g kp 1 mX6_suits [vi k, vi v] σ (some (vi (if (k = 2 → 1 ≤ v ∧ v ≤ 9) ∧ (k = 4 → 1 ≤ v ∧ v ≤ 20) then 1 else 0))) σ := by
  refine TC.of (by decide) (Nat.le_of_ble_eq_true rfl) rfl ?_
  refine v_iload_n 0 dX6_suits_0 (nx := 1) rfl rfl ?_
  refine v_iconst dX6_suits_1 (nx := 2) rfl ?_
  refine v_icmp_ne dX6_suits_2 (tgt := 13) (by decide) (nx := 5) rfl (by first | assumption | exact hR.1 _ _ _ _ | exact ⟨by omega, by omega⟩) (by first | assumption | exact hR.1 _ _ _ _ | exact ⟨by omega, by omega⟩) (fun c2 => ?_) (fun c2 => ?_)
  · refine v_iload_n 0 dX6_suits_13 (nx := 14) rfl rfl ?_
    refine v_iconst dX6_suits_14 (nx := 15) rfl ?_
    refine v_icmp_ne dX6_suits_15 (tgt := 28) (by decide) (nx := 18) rfl (by first | assumption | exact hR.1 _ _ _ _ | exact ⟨by omega, by omega⟩) (by first | assumption | exact hR.1 _ _ _ _ | exact ⟨by omega, by omega⟩) (fun c15 => ?_) (fun c15 => ?_)
    · refine v_iconst dX6_suits_28 (nx := 29) rfl ?_
      refine v_goto dX6_suits_29 (tgt := 33) (by decide) ?_
      exact t_zret dX6_suits_33 rfl (by first | exact Or.inl rfl | exact Or.inr rfl | assumption) ⟨by first | rw [if_pos (by omega)] | rw [if_neg (by omega)], rfl⟩
    · refine v_iload_n 1 dX6_suits_18 (nx := 19) rfl rfl ?_
      refine v_iconst dX6_suits_19 (nx := 20) rfl ?_
      refine v_bipush dX6_suits_20 (nx := 22) rfl rfl ?_
      refine t_callSi (c_X6_within _ _ _ (by first | assumption | exact hR.1 _ _ _ _ | exact ⟨by omega, by omega⟩) (by first | assumption | exact hR.1 _ _ _ _ | exact ⟨by omega, by omega⟩) (by first | assumption | exact hR.1 _ _ _ _ | exact ⟨by omega, by omega⟩)) dX6_suits_22 (nx := 25) rfl kX6_within ml_X6_62 rfl rfl (Nat.le_of_ble_eq_true rfl) ⟨by decide, by decide⟩ ⟨by decide, by decide⟩ ?_
      refine v_ifB_eq dX6_suits_25 (tgt := 32) (by decide) (nx := 28) rfl (fun c25 => ?_) (fun c25 => ?_)
      · refine v_iconst dX6_suits_32 (nx := 33) rfl ?_
        exact t_zret dX6_suits_33 rfl (by first | exact Or.inl rfl | exact Or.inr rfl | assumption) ⟨by first | rw [if_pos (by omega)] | rw [if_neg (by omega)], rfl⟩
      · refine v_iconst dX6_suits_28 (nx := 29) rfl ?_
        refine v_goto dX6_suits_29 (tgt := 33) (by decide) ?_
        exact t_zret dX6_suits_33 rfl (by first | exact Or.inl rfl | exact Or.inr rfl | assumption) ⟨by first | rw [if_pos (by omega)] | rw [if_neg (by omega)], rfl⟩
  · refine v_iload_n 1 dX6_suits_5 (nx := 6) rfl rfl ?_
    refine v_iconst dX6_suits_6 (nx := 7) rfl ?_
    refine v_bipush dX6_suits_7 (nx := 9) rfl rfl ?_
    refine t_callSi (c_X6_within _ _ _ (by first | assumption | exact hR.1 _ _ _ _ | exact ⟨by omega, by omega⟩) (by first | assumption | exact hR.1 _ _ _ _ | exact ⟨by omega, by omega⟩) (by first | assumption | exact hR.1 _ _ _ _ | exact ⟨by omega, by omega⟩)) dX6_suits_9 (nx := 12) rfl kX6_within ml_X6_62 rfl rfl (Nat.le_of_ble_eq_true rfl) ⟨by decide, by decide⟩ ⟨by decide, by decide⟩ ?_
    exact t_zret dX6_suits_12 rfl if01 ⟨congrArg (fun x => some (vi x)) (if_iff (by omega) _ _), rfl⟩

set_option maxRecDepth 100000 in
theorem c_X6_as {g : GG} {kp : Bool} {σ : SS} (hR : RG σ) {N : NN} {kk : Int} (hI : IV N kk) (hH : RH σ 0 N) (p : Int) (hp : inR p) (kd : Int) (hkd : inR kd)  : XC g kp 2 mX6_as [rf g (ad 9 0 0), vi p, vi kd] σ (some (vi (s_as N p kd).1)) (fd σ (s_as N p kd).2.2) := by
  refine TC.of (by decide) (Nat.le_of_ble_eq_true rfl) rfl ?_
  obtain ⟨b0, b1, b2, b3, b4, b5⟩ := hI.n
  obtain ⟨n0, n1, n2, n3, n4⟩ := hH.n
  refine v_aload_n 0 dX6_as_0 (nx := 1) rfl rfl ?_
  refine t_get (a := 9) (p := 0) (T := TX6) dX6_as_1 (nx := 4) rfl (by decide) (ok_m 9 rfl) rfl rfl iU6 (by decide) fl_X6_10 rfl ?_
  refine v_iload_n 1 dX6_as_4 (nx := 5) rfl rfl ?_
  refine t_callVi (a := 7) (c_X3_hasPoint hR _ (by first | assumption | exact hR.1 _ _ _ _ | exact ⟨by omega, by omega⟩)) dX6_as_5 (nx := 8) rfl kX3_hasPoint ml_X6_59 (by decide) (ok_m 7 rfl) rfl rfl rfl rfl (Nat.le_of_ble_eq_true rfl) ⟨by decide, by decide⟩ ⟨by decide, by decide⟩ ?_
  refine v_ifB_eq dX6_as_8 (tgt := 18) (by decide) (nx := 11) rfl (fun c8 => ?_) (fun c8 => ?_)
  · refine v_aload_n 0 dX6_as_18 (nx := 19) rfl rfl ?_
    refine v_iconst dX6_as_19 (nx := 20) rfl ?_
    refine t_callVi (a := 9) (c_X6_finding _) dX6_as_20 (nx := 23) rfl kX6_finding ml_X6_38 (by decide) (ok_m 9 rfl) rfl rfl rfl rfl (Nat.le_of_ble_eq_true rfl) ⟨by decide, by decide⟩ ⟨by decide, by decide⟩ ?_
    exact t_iret dX6_as_23 rfl (by first | exact cf1 (by unfold s_as fnd; (repeat (first | rewrite [if_pos (by omega)] | rewrite [if_neg (by omega)])); dsimp only; exact ⟨by omega, rfl⟩) | exact cf0 (by unfold s_as fnd; (repeat (first | rewrite [if_pos (by omega)] | rewrite [if_neg (by omega)])); dsimp only; exact ⟨by omega, rfl⟩) | (exfalso; omega))
  · refine v_iload_n 2 dX6_as_11 (nx := 12) rfl rfl ?_
    refine t_callSi (c_X6_isKind _ (by first | assumption | exact hR.1 _ _ _ _ | exact ⟨by omega, by omega⟩)) dX6_as_12 (nx := 15) rfl kX6_isKind ml_X6_30 rfl rfl (Nat.le_of_ble_eq_true rfl) ⟨by decide, by decide⟩ ⟨by decide, by decide⟩ ?_
    refine v_ifB_ne dX6_as_15 (tgt := 24) (by decide) (nx := 18) rfl (fun c15 => ?_) (fun c15 => ?_)
    · obtain ⟨e0, e1, e2⟩ := hH.p p (by omega) (by omega)
      refine v_aload_n 0 dX6_as_24 (nx := 25) rfl rfl ?_
      refine t_get (a := 9) (p := 0) (T := TX6) dX6_as_25 (nx := 28) rfl (by decide) (ok_m 9 rfl) rfl rfl iU6 (by decide) fl_X6_10 rfl ?_
      refine t_get (a := 7) (p := 0) (T := TX3) dX6_as_28 (nx := 31) rfl (by decide) (ok_m 7 rfl) rfl rfl iU3 (by decide) fl_X6_45 rfl ?_
      refine v_iload_n 1 dX6_as_31 (nx := 32) rfl rfl ?_
      refine t_ldP dX6_as_32 (nx := 33) rfl (ok_m 15 rfl) ⟨by omega, by omega⟩ ?_
      refine t_get (a := 0) (p := 0) (T := TX4) dX6_as_33 (nx := 36) rfl (by decide) (by first | assumption | exact ok_0 ⟨by omega, by omega⟩) rfl rfl iU4 (by decide) fl_X6_66 rfl ?_
      refine v_iload_n 2 dX6_as_36 (nx := 37) rfl rfl ?_
      refine v_icmp_ne dX6_as_37 (tgt := 44) (by decide) (nx := 40) rfl (by first | assumption | exact hR.1 _ _ _ _ | exact ⟨by omega, by omega⟩) (by first | assumption | exact hR.1 _ _ _ _ | exact ⟨by omega, by omega⟩) (fun c37 => ?_) (fun c37 => ?_)
      · refine v_aload_n 0 dX6_as_44 (nx := 45) rfl rfl ?_
        refine v_bipush dX6_as_45 (nx := 47) rfl rfl ?_
        refine t_callVi (a := 9) (c_X6_finding _) dX6_as_47 (nx := 50) rfl kX6_finding ml_X6_38 (by decide) (ok_m 9 rfl) rfl rfl rfl rfl (Nat.le_of_ble_eq_true rfl) ⟨by decide, by decide⟩ ⟨by decide, by decide⟩ ?_
        exact t_iret dX6_as_50 rfl (by first | exact cf1 (by unfold s_as fnd; (repeat (first | rewrite [if_pos (by omega)] | rewrite [if_neg (by omega)])); dsimp only; exact ⟨by omega, rfl⟩) | exact cf0 (by unfold s_as fnd; (repeat (first | rewrite [if_pos (by omega)] | rewrite [if_neg (by omega)])); dsimp only; exact ⟨by omega, rfl⟩) | (exfalso; omega))
      · refine v_iload_n 1 dX6_as_40 (nx := 41) rfl rfl ?_
        refine v_goto dX6_as_41 (tgt := 50) (by decide) ?_
        exact t_iret dX6_as_50 rfl (by first | exact cf1 (by unfold s_as fnd; (repeat (first | rewrite [if_pos (by omega)] | rewrite [if_neg (by omega)])); dsimp only; exact ⟨by omega, rfl⟩) | exact cf0 (by unfold s_as fnd; (repeat (first | rewrite [if_pos (by omega)] | rewrite [if_neg (by omega)])); dsimp only; exact ⟨by omega, rfl⟩) | (exfalso; omega))
    · refine v_aload_n 0 dX6_as_18 (nx := 19) rfl rfl ?_
      refine v_iconst dX6_as_19 (nx := 20) rfl ?_
      refine t_callVi (a := 9) (c_X6_finding _) dX6_as_20 (nx := 23) rfl kX6_finding ml_X6_38 (by decide) (ok_m 9 rfl) rfl rfl rfl rfl (Nat.le_of_ble_eq_true rfl) ⟨by decide, by decide⟩ ⟨by decide, by decide⟩ ?_
      exact t_iret dX6_as_23 rfl (by first | exact cf1 (by unfold s_as fnd; (repeat (first | rewrite [if_pos (by omega)] | rewrite [if_neg (by omega)])); dsimp only; exact ⟨by omega, rfl⟩) | exact cf0 (by unfold s_as fnd; (repeat (first | rewrite [if_pos (by omega)] | rewrite [if_neg (by omega)])); dsimp only; exact ⟨by omega, rfl⟩) | (exfalso; omega))

set_option maxRecDepth 100000 in
theorem c_X6_where {g : GG} {kp : Bool} {σ : SS} (hR : RG σ) {N : NN} {kk : Int} (hI : IV N kk) (hH : RH σ 0 N) (b : Int) (hb : inR b)  : XC g kp 2 mX6_where [rf g (ad 9 0 0), vi b] σ (some (vi (s_where N b).1)) (fd σ (s_where N b).2.2) := by
  refine TC.of (by decide) (Nat.le_of_ble_eq_true rfl) rfl ?_
  obtain ⟨b0, b1, b2, b3, b4, b5⟩ := hI.n
  obtain ⟨n0, n1, n2, n3, n4⟩ := hH.n
  refine v_aload_n 0 dX6_where_0 (nx := 1) rfl rfl ?_
  refine t_get (a := 9) (p := 0) (T := TX6) dX6_where_1 (nx := 4) rfl (by decide) (ok_m 9 rfl) rfl rfl iU6 (by decide) fl_X6_10 rfl ?_
  refine v_iload_n 1 dX6_where_4 (nx := 5) rfl rfl ?_
  refine t_callVi (a := 7) (c_X3_hasBag hR _ (by first | assumption | exact hR.1 _ _ _ _ | exact ⟨by omega, by omega⟩)) dX6_where_5 (nx := 8) rfl kX3_hasBag ml_X6_132 (by decide) (ok_m 7 rfl) rfl rfl rfl rfl (Nat.le_of_ble_eq_true rfl) ⟨by decide, by decide⟩ ⟨by decide, by decide⟩ ?_
  refine v_ifB_eq dX6_where_8 (tgt := 26) (by decide) (nx := 11) rfl (fun c8 => ?_) (fun c8 => ?_)
  · refine v_aload_n 0 dX6_where_26 (nx := 27) rfl rfl ?_
    refine v_iconst dX6_where_27 (nx := 28) rfl ?_
    refine t_callVi (a := 9) (c_X6_finding _) dX6_where_28 (nx := 31) rfl kX6_finding ml_X6_38 (by decide) (ok_m 9 rfl) rfl rfl rfl rfl (Nat.le_of_ble_eq_true rfl) ⟨by decide, by decide⟩ ⟨by decide, by decide⟩ ?_
    exact t_iret dX6_where_31 rfl (by first | exact cf1 (by unfold s_where fnd; (repeat (first | rewrite [if_pos (by omega)] | rewrite [if_neg (by omega)])); dsimp only; exact ⟨by omega, rfl⟩) | exact cf0 (by unfold s_where fnd; (repeat (first | rewrite [if_pos (by omega)] | rewrite [if_neg (by omega)])); dsimp only; exact ⟨by omega, rfl⟩) | (exfalso; omega))
  · obtain ⟨e0, e1, e2, e3, e4, e5⟩ := hH.g b (by omega) (by omega)
    refine v_aload_n 0 dX6_where_11 (nx := 12) rfl rfl ?_
    refine t_get (a := 9) (p := 0) (T := TX6) dX6_where_12 (nx := 15) rfl (by decide) (ok_m 9 rfl) rfl rfl iU6 (by decide) fl_X6_10 rfl ?_
    refine t_get (a := 7) (p := 3) (T := TX3) dX6_where_15 (nx := 18) rfl (by decide) (ok_m 7 rfl) rfl rfl iU3 (by decide) fl_X6_120 rfl ?_
    refine v_iload_n 1 dX6_where_18 (nx := 19) rfl rfl ?_
    refine t_ldG dX6_where_19 (nx := 20) rfl (ok_m 18 rfl) ⟨by omega, by omega⟩ ?_
    refine t_get (a := 5) (p := 2) (T := TX0) dX6_where_20 (nx := 23) rfl (by decide) (by first | assumption | exact ok_5 ⟨by omega, by omega⟩) rfl rfl iU0 (by decide) fl_X6_135 rfl ?_
    refine v_goto dX6_where_23 (tgt := 31) (by decide) ?_
    exact t_iret dX6_where_31 rfl (by first | exact cf1 (by unfold s_where fnd; (repeat (first | rewrite [if_pos (by omega)] | rewrite [if_neg (by omega)])); dsimp only; exact ⟨by omega, rfl⟩) | exact cf0 (by unfold s_where fnd; (repeat (first | rewrite [if_pos (by omega)] | rewrite [if_neg (by omega)])); dsimp only; exact ⟨by omega, rfl⟩) | (exfalso; omega))

set_option maxRecDepth 100000 in
theorem c_X6_place {g : GG} {kp : Bool} {σ : SS} (hR : RG σ) {N : NN} {kk : Int} (hI : IV N kk) (hH : RH σ 0 N) (b : Int) (hb : inR b)  : XC g kp 2 mX6_place [rf g (ad 9 0 0), vi b] σ (some (vi (s_place N b).1)) (fd σ (s_place N b).2.2) := by
  refine TC.of (by decide) (Nat.le_of_ble_eq_true rfl) rfl ?_
  obtain ⟨b0, b1, b2, b3, b4, b5⟩ := hI.n
  obtain ⟨n0, n1, n2, n3, n4⟩ := hH.n
  refine v_aload_n 0 dX6_place_0 (nx := 1) rfl rfl ?_
  refine t_get (a := 9) (p := 0) (T := TX6) dX6_place_1 (nx := 4) rfl (by decide) (ok_m 9 rfl) rfl rfl iU6 (by decide) fl_X6_10 rfl ?_
  refine v_iload_n 1 dX6_place_4 (nx := 5) rfl rfl ?_
  refine t_callVi (a := 7) (c_X3_hasBag hR _ (by first | assumption | exact hR.1 _ _ _ _ | exact ⟨by omega, by omega⟩)) dX6_place_5 (nx := 8) rfl kX3_hasBag ml_X6_132 (by decide) (ok_m 7 rfl) rfl rfl rfl rfl (Nat.le_of_ble_eq_true rfl) ⟨by decide, by decide⟩ ⟨by decide, by decide⟩ ?_
  refine v_ifB_eq dX6_place_8 (tgt := 26) (by decide) (nx := 11) rfl (fun c8 => ?_) (fun c8 => ?_)
  · refine v_aload_n 0 dX6_place_26 (nx := 27) rfl rfl ?_
    refine v_iconst dX6_place_27 (nx := 28) rfl ?_
    refine t_callVi (a := 9) (c_X6_finding _) dX6_place_28 (nx := 31) rfl kX6_finding ml_X6_38 (by decide) (ok_m 9 rfl) rfl rfl rfl rfl (Nat.le_of_ble_eq_true rfl) ⟨by decide, by decide⟩ ⟨by decide, by decide⟩ ?_
    exact t_iret dX6_place_31 rfl (by first | exact cf1 (by unfold s_place fnd; (repeat (first | rewrite [if_pos (by omega)] | rewrite [if_neg (by omega)])); dsimp only; exact ⟨by omega, rfl⟩) | exact cf0 (by unfold s_place fnd; (repeat (first | rewrite [if_pos (by omega)] | rewrite [if_neg (by omega)])); dsimp only; exact ⟨by omega, rfl⟩) | (exfalso; omega))
  · obtain ⟨e0, e1, e2, e3, e4, e5⟩ := hH.g b (by omega) (by omega)
    refine v_aload_n 0 dX6_place_11 (nx := 12) rfl rfl ?_
    refine t_get (a := 9) (p := 0) (T := TX6) dX6_place_12 (nx := 15) rfl (by decide) (ok_m 9 rfl) rfl rfl iU6 (by decide) fl_X6_10 rfl ?_
    refine t_get (a := 7) (p := 3) (T := TX3) dX6_place_15 (nx := 18) rfl (by decide) (ok_m 7 rfl) rfl rfl iU3 (by decide) fl_X6_120 rfl ?_
    refine v_iload_n 1 dX6_place_18 (nx := 19) rfl rfl ?_
    refine t_ldG dX6_place_19 (nx := 20) rfl (ok_m 18 rfl) ⟨by omega, by omega⟩ ?_
    refine t_get (a := 5) (p := 3) (T := TX0) dX6_place_20 (nx := 23) rfl (by decide) (by first | assumption | exact ok_5 ⟨by omega, by omega⟩) rfl rfl iU0 (by decide) fl_X6_144 rfl ?_
    refine v_goto dX6_place_23 (tgt := 31) (by decide) ?_
    exact t_iret dX6_place_31 rfl (by first | exact cf1 (by unfold s_place fnd; (repeat (first | rewrite [if_pos (by omega)] | rewrite [if_neg (by omega)])); dsimp only; exact ⟨by omega, rfl⟩) | exact cf0 (by unfold s_place fnd; (repeat (first | rewrite [if_pos (by omega)] | rewrite [if_neg (by omega)])); dsimp only; exact ⟨by omega, rfl⟩) | (exfalso; omega))

set_option maxRecDepth 100000 in
theorem c_X6_steps {g : GG} {kp : Bool} {σ : SS} (hR : RG σ) {N : NN} {kk : Int} (hI : IV N kk) (hH : RH σ 0 N) (b : Int) (hb : inR b)  : XC g kp 2 mX6_steps [rf g (ad 9 0 0), vi b] σ (some (vi (s_steps N b).1)) (fd σ (s_steps N b).2.2) := by
  refine TC.of (by decide) (Nat.le_of_ble_eq_true rfl) rfl ?_
  obtain ⟨b0, b1, b2, b3, b4, b5⟩ := hI.n
  obtain ⟨n0, n1, n2, n3, n4⟩ := hH.n
  refine v_aload_n 0 dX6_steps_0 (nx := 1) rfl rfl ?_
  refine t_get (a := 9) (p := 0) (T := TX6) dX6_steps_1 (nx := 4) rfl (by decide) (ok_m 9 rfl) rfl rfl iU6 (by decide) fl_X6_10 rfl ?_
  refine v_iload_n 1 dX6_steps_4 (nx := 5) rfl rfl ?_
  refine t_callVi (a := 7) (c_X3_hasBag hR _ (by first | assumption | exact hR.1 _ _ _ _ | exact ⟨by omega, by omega⟩)) dX6_steps_5 (nx := 8) rfl kX3_hasBag ml_X6_132 (by decide) (ok_m 7 rfl) rfl rfl rfl rfl (Nat.le_of_ble_eq_true rfl) ⟨by decide, by decide⟩ ⟨by decide, by decide⟩ ?_
  refine v_ifB_eq dX6_steps_8 (tgt := 26) (by decide) (nx := 11) rfl (fun c8 => ?_) (fun c8 => ?_)
  · refine v_aload_n 0 dX6_steps_26 (nx := 27) rfl rfl ?_
    refine v_iconst dX6_steps_27 (nx := 28) rfl ?_
    refine t_callVi (a := 9) (c_X6_finding _) dX6_steps_28 (nx := 31) rfl kX6_finding ml_X6_38 (by decide) (ok_m 9 rfl) rfl rfl rfl rfl (Nat.le_of_ble_eq_true rfl) ⟨by decide, by decide⟩ ⟨by decide, by decide⟩ ?_
    exact t_iret dX6_steps_31 rfl (by first | exact cf1 (by unfold s_steps fnd; (repeat (first | rewrite [if_pos (by omega)] | rewrite [if_neg (by omega)])); dsimp only; exact ⟨by omega, rfl⟩) | exact cf0 (by unfold s_steps fnd; (repeat (first | rewrite [if_pos (by omega)] | rewrite [if_neg (by omega)])); dsimp only; exact ⟨by omega, rfl⟩) | (exfalso; omega))
  · obtain ⟨e0, e1, e2, e3, e4, e5⟩ := hH.g b (by omega) (by omega)
    refine v_aload_n 0 dX6_steps_11 (nx := 12) rfl rfl ?_
    refine t_get (a := 9) (p := 0) (T := TX6) dX6_steps_12 (nx := 15) rfl (by decide) (ok_m 9 rfl) rfl rfl iU6 (by decide) fl_X6_10 rfl ?_
    refine t_get (a := 7) (p := 3) (T := TX3) dX6_steps_15 (nx := 18) rfl (by decide) (ok_m 7 rfl) rfl rfl iU3 (by decide) fl_X6_120 rfl ?_
    refine v_iload_n 1 dX6_steps_18 (nx := 19) rfl rfl ?_
    refine t_ldG dX6_steps_19 (nx := 20) rfl (ok_m 18 rfl) ⟨by omega, by omega⟩ ?_
    refine t_get (a := 5) (p := 5) (T := TX0) dX6_steps_20 (nx := 23) rfl (by decide) (by first | assumption | exact ok_5 ⟨by omega, by omega⟩) rfl rfl iU0 (by decide) fl_X6_156 rfl ?_
    refine v_goto dX6_steps_23 (tgt := 31) (by decide) ?_
    exact t_iret dX6_steps_31 rfl (by first | exact cf1 (by unfold s_steps fnd; (repeat (first | rewrite [if_pos (by omega)] | rewrite [if_neg (by omega)])); dsimp only; exact ⟨by omega, rfl⟩) | exact cf0 (by unfold s_steps fnd; (repeat (first | rewrite [if_pos (by omega)] | rewrite [if_neg (by omega)])); dsimp only; exact ⟨by omega, rfl⟩) | (exfalso; omega))

set_option maxRecDepth 100000 in
theorem c_X6_cell {g : GG} {kp : Bool} {σ : SS} (hR : RG σ) {N : NN} {kk : Int} (hI : IV N kk) (hH : RH σ 0 N) (b : Int) (hb : inR b) (c : Int) (hc : inR c)  : XC g kp 2 mX6_cell [rf g (ad 9 0 0), vi b, vi c] σ (some (vi (s_cell N b c).1)) (fd σ (s_cell N b c).2.2) := by
  refine TC.of (by decide) (Nat.le_of_ble_eq_true rfl) rfl ?_
  obtain ⟨b0, b1, b2, b3, b4, b5⟩ := hI.n
  obtain ⟨n0, n1, n2, n3, n4⟩ := hH.n
  refine v_aload_n 0 dX6_cell_0 (nx := 1) rfl rfl ?_
  refine t_get (a := 9) (p := 0) (T := TX6) dX6_cell_1 (nx := 4) rfl (by decide) (ok_m 9 rfl) rfl rfl iU6 (by decide) fl_X6_10 rfl ?_
  refine v_iload_n 1 dX6_cell_4 (nx := 5) rfl rfl ?_
  refine t_callVi (a := 7) (c_X3_hasBelt hR _ (by first | assumption | exact hR.1 _ _ _ _ | exact ⟨by omega, by omega⟩)) dX6_cell_5 (nx := 8) rfl kX3_hasBelt ml_X6_85 (by decide) (ok_m 7 rfl) rfl rfl rfl rfl (Nat.le_of_ble_eq_true rfl) ⟨by decide, by decide⟩ ⟨by decide, by decide⟩ ?_
  refine v_ifB_eq dX6_cell_8 (tgt := 33) (by decide) (nx := 11) rfl (fun c8 => ?_) (fun c8 => ?_)
  · refine v_aload_n 0 dX6_cell_33 (nx := 34) rfl rfl ?_
    refine v_iconst dX6_cell_34 (nx := 35) rfl ?_
    refine t_callVi (a := 9) (c_X6_finding _) dX6_cell_35 (nx := 38) rfl kX6_finding ml_X6_38 (by decide) (ok_m 9 rfl) rfl rfl rfl rfl (Nat.le_of_ble_eq_true rfl) ⟨by decide, by decide⟩ ⟨by decide, by decide⟩ ?_
    exact t_iret dX6_cell_38 rfl (by first | exact cf1 (by unfold s_cell fnd; (repeat (first | rewrite [if_pos (by omega)] | rewrite [if_neg (by omega)])); dsimp only; exact ⟨by omega, rfl⟩) | exact cf0 (by unfold s_cell fnd; (repeat (first | rewrite [if_pos (by omega)] | rewrite [if_neg (by omega)])); dsimp only; exact ⟨by omega, rfl⟩) | (exfalso; omega))
  · obtain ⟨e0, e1, e2, e3, e4⟩ := hH.b b (by omega) (by omega)
    obtain ⟨-, -, l1, -⟩ := hI.b (b := b) (by omega) (by omega)
    refine v_iload_n 2 dX6_cell_11 (nx := 12) rfl rfl ?_
    refine v_iconst dX6_cell_12 (nx := 13) rfl ?_
    refine v_aload_n 0 dX6_cell_13 (nx := 14) rfl rfl ?_
    refine t_get (a := 9) (p := 0) (T := TX6) dX6_cell_14 (nx := 17) rfl (by decide) (ok_m 9 rfl) rfl rfl iU6 (by decide) fl_X6_10 rfl ?_
    refine t_get (a := 7) (p := 1) (T := TX3) dX6_cell_17 (nx := 20) rfl (by decide) (ok_m 7 rfl) rfl rfl iU3 (by decide) fl_X6_72 rfl ?_
    refine v_iload_n 1 dX6_cell_20 (nx := 21) rfl rfl ?_
    refine t_ldB dX6_cell_21 (nx := 22) rfl (ok_m 16 rfl) ⟨by omega, by omega⟩ ?_
    refine t_get (a := 2) (p := 2) (T := TX1) dX6_cell_22 (nx := 25) rfl (by decide) (by first | assumption | exact ok_2 ⟨by omega, by omega⟩) rfl rfl iU1 (by decide) fl_X6_174 rfl ?_
    refine v_iconst dX6_cell_25 (nx := 26) rfl ?_
    refine v_isub dX6_cell_26 (nx := 27) rfl ?_
    refine t_callSi (c_X6_within _ _ _ (by first | assumption | exact hR.1 _ _ _ _ | exact ⟨by omega, by omega⟩) (by first | assumption | exact hR.1 _ _ _ _ | exact ⟨by omega, by omega⟩) (by first | assumption | exact hR.1 _ _ _ _ | exact ⟨by omega, by omega⟩)) dX6_cell_27 (nx := 30) rfl kX6_within ml_X6_62 rfl rfl (Nat.le_of_ble_eq_true rfl) ⟨by decide, by decide⟩ ⟨by decide, by decide⟩ ?_
    refine v_ifB_ne dX6_cell_30 (tgt := 39) (by decide) (nx := 33) rfl (fun c30 => ?_) (fun c30 => ?_)
    · have hcc := hH.c b c (by omega) (by omega) (by omega) (by omega)
      have hcv := hI.cv (b := b) (c := c) (by omega) (by omega) (by omega) (by omega)
      refine v_aload_n 0 dX6_cell_39 (nx := 40) rfl rfl ?_
      refine t_get (a := 9) (p := 0) (T := TX6) dX6_cell_40 (nx := 43) rfl (by decide) (ok_m 9 rfl) rfl rfl iU6 (by decide) fl_X6_10 rfl ?_
      refine t_get (a := 7) (p := 1) (T := TX3) dX6_cell_43 (nx := 46) rfl (by decide) (ok_m 7 rfl) rfl rfl iU3 (by decide) fl_X6_72 rfl ?_
      refine v_iload_n 1 dX6_cell_46 (nx := 47) rfl rfl ?_
      refine t_ldB dX6_cell_47 (nx := 48) rfl (ok_m 16 rfl) ⟨by omega, by omega⟩ ?_
      refine t_get (a := 2) (p := 6) (T := TX1) dX6_cell_48 (nx := 51) rfl (by decide) (by first | assumption | exact ok_2 ⟨by omega, by omega⟩) rfl rfl iU1 (by decide) fl_X6_177 rfl ?_
      refine v_iload_n 2 dX6_cell_51 (nx := 52) rfl rfl ?_
      refine t_aldL (a := 3) (L := 12) dX6_cell_52 (nx := 53) rfl rfl (by first | assumption | exact ok_3 ⟨by omega, by omega⟩) rfl ⟨by omega, by omega⟩ ?_
      refine v_istore_n dX6_cell_53 (nx := 54) rfl rfl (by decide) ?_
      refine v_iload_n 3 dX6_cell_54 (nx := 55) rfl rfl ?_
      refine v_iconst dX6_cell_55 (nx := 56) rfl ?_
      refine v_icmp_ne dX6_cell_56 (tgt := 68) (by decide) (nx := 59) rfl (by first | assumption | exact hR.1 _ _ _ _ | exact ⟨by omega, by omega⟩) (by first | assumption | exact hR.1 _ _ _ _ | exact ⟨by omega, by omega⟩) (fun c56 => ?_) (fun c56 => ?_)
      · refine v_iload_n 3 dX6_cell_68 (nx := 69) rfl rfl ?_
        exact t_iret dX6_cell_69 rfl (by first | exact cf1 (by unfold s_cell fnd; (repeat (first | rewrite [if_pos (by omega)] | rewrite [if_neg (by omega)])); dsimp only; exact ⟨by omega, rfl⟩) | exact cf0 (by unfold s_cell fnd; (repeat (first | rewrite [if_pos (by omega)] | rewrite [if_neg (by omega)])); dsimp only; exact ⟨by omega, rfl⟩) | (exfalso; omega))
      · refine v_aload_n 0 dX6_cell_59 (nx := 60) rfl rfl ?_
        refine v_bipush dX6_cell_60 (nx := 62) rfl rfl ?_
        refine t_callVi (a := 9) (c_X6_finding _) dX6_cell_62 (nx := 65) rfl kX6_finding ml_X6_38 (by decide) (ok_m 9 rfl) rfl rfl rfl rfl (Nat.le_of_ble_eq_true rfl) ⟨by decide, by decide⟩ ⟨by decide, by decide⟩ ?_
        refine v_goto dX6_cell_65 (tgt := 69) (by decide) ?_
        exact t_iret dX6_cell_69 rfl (by first | exact cf1 (by unfold s_cell fnd; (repeat (first | rewrite [if_pos (by omega)] | rewrite [if_neg (by omega)])); dsimp only; exact ⟨by omega, rfl⟩) | exact cf0 (by unfold s_cell fnd; (repeat (first | rewrite [if_pos (by omega)] | rewrite [if_neg (by omega)])); dsimp only; exact ⟨by omega, rfl⟩) | (exfalso; omega))
    · refine v_aload_n 0 dX6_cell_33 (nx := 34) rfl rfl ?_
      refine v_iconst dX6_cell_34 (nx := 35) rfl ?_
      refine t_callVi (a := 9) (c_X6_finding _) dX6_cell_35 (nx := 38) rfl kX6_finding ml_X6_38 (by decide) (ok_m 9 rfl) rfl rfl rfl rfl (Nat.le_of_ble_eq_true rfl) ⟨by decide, by decide⟩ ⟨by decide, by decide⟩ ?_
      exact t_iret dX6_cell_38 rfl (by first | exact cf1 (by unfold s_cell fnd; (repeat (first | rewrite [if_pos (by omega)] | rewrite [if_neg (by omega)])); dsimp only; exact ⟨by omega, rfl⟩) | exact cf0 (by unfold s_cell fnd; (repeat (first | rewrite [if_pos (by omega)] | rewrite [if_neg (by omega)])); dsimp only; exact ⟨by omega, rfl⟩) | (exfalso; omega))

set_option maxRecDepth 100000 in
theorem c_X6_holds {g : GG} {kp : Bool} {σ : SS} (hR : RG σ) {N : NN} {kk : Int} (hI : IV N kk) (hH : RH σ 0 N) (p : Int) (hp : inR p)  : XC g kp 2 mX6_holds [rf g (ad 9 0 0), vi p] σ (some (vi (s_holds N p).1)) (fd σ (s_holds N p).2.2) := by
  refine TC.of (by decide) (Nat.le_of_ble_eq_true rfl) rfl ?_
  obtain ⟨b0, b1, b2, b3, b4, b5⟩ := hI.n
  obtain ⟨n0, n1, n2, n3, n4⟩ := hH.n
  refine v_aload_n 0 dX6_holds_0 (nx := 1) rfl rfl ?_
  refine t_get (a := 9) (p := 0) (T := TX6) dX6_holds_1 (nx := 4) rfl (by decide) (ok_m 9 rfl) rfl rfl iU6 (by decide) fl_X6_10 rfl ?_
  refine v_iload_n 1 dX6_holds_4 (nx := 5) rfl rfl ?_
  refine t_callVi (a := 7) (c_X3_hasPoint hR _ (by first | assumption | exact hR.1 _ _ _ _ | exact ⟨by omega, by omega⟩)) dX6_holds_5 (nx := 8) rfl kX3_hasPoint ml_X6_59 (by decide) (ok_m 7 rfl) rfl rfl rfl rfl (Nat.le_of_ble_eq_true rfl) ⟨by decide, by decide⟩ ⟨by decide, by decide⟩ ?_
  refine v_ifB_ne dX6_holds_8 (tgt := 17) (by decide) (nx := 11) rfl (fun c8 => ?_) (fun c8 => ?_)
  · obtain ⟨e0, e1, e2⟩ := hH.p p (by omega) (by omega)
    refine v_aload_n 0 dX6_holds_17 (nx := 18) rfl rfl ?_
    refine t_get (a := 9) (p := 0) (T := TX6) dX6_holds_18 (nx := 21) rfl (by decide) (ok_m 9 rfl) rfl rfl iU6 (by decide) fl_X6_10 rfl ?_
    refine t_get (a := 7) (p := 0) (T := TX3) dX6_holds_21 (nx := 24) rfl (by decide) (ok_m 7 rfl) rfl rfl iU3 (by decide) fl_X6_45 rfl ?_
    refine v_iload_n 1 dX6_holds_24 (nx := 25) rfl rfl ?_
    refine t_ldP dX6_holds_25 (nx := 26) rfl (ok_m 15 rfl) ⟨by omega, by omega⟩ ?_
    refine v_astore_n dX6_holds_26 (nx := 27) rfl rfl (by decide) ?_
    refine v_aload_n 2 dX6_holds_27 (nx := 28) rfl rfl ?_
    refine t_get (a := 0) (p := 0) (T := TX4) dX6_holds_28 (nx := 31) rfl (by decide) (by first | assumption | exact ok_0 ⟨by omega, by omega⟩) rfl rfl iU4 (by decide) fl_X6_66 rfl ?_
    refine v_iconst dX6_holds_31 (nx := 32) rfl ?_
    refine v_icmp_eq dX6_holds_32 (tgt := 58) (by decide) (nx := 35) rfl (by first | assumption | exact hR.1 _ _ _ _ | exact ⟨by omega, by omega⟩) (by first | assumption | exact hR.1 _ _ _ _ | exact ⟨by omega, by omega⟩) (fun c32 => ?_) (fun c32 => ?_)
    · have hh := hold_row hI (hH.r p (by omega) (by omega)) ⟨by omega, by omega⟩ ⟨by omega, by omega⟩
      refine v_aload_n 2 dX6_holds_58 (nx := 59) rfl rfl ?_
      refine t_callVi (a := 0) (c_X4_first hR _ (by omega)) dX6_holds_59 (nx := 62) rfl kX4_first ml_X6_181 (by decide) (by first | assumption | exact ok_0 ⟨by omega, by omega⟩) rfl rfl rfl rfl (Nat.le_of_ble_eq_true rfl) ⟨by decide, by decide⟩ ⟨by decide, by decide⟩ ?_
      refine v_istore_n dX6_holds_62 (nx := 63) rfl rfl (by decide) ?_
      refine v_iload_n 3 dX6_holds_63 (nx := 64) rfl rfl ?_
      refine v_iconst dX6_holds_64 (nx := 65) rfl ?_
      refine v_icmp_ne dX6_holds_65 (tgt := 77) (by decide) (nx := 68) rfl (by split <;> first | exact hR.1 _ _ _ _ | exact ⟨by decide, by decide⟩) ⟨by decide, by decide⟩ (fun c65 => ?_) (fun c65 => ?_)
      · refine v_iload_n 3 dX6_holds_77 (nx := 78) rfl rfl ?_
        exact t_iret dX6_holds_78 rfl (by first | exact cf1 (by unfold s_holds fnd; (repeat (first | rewrite [if_pos (by omega)] | rewrite [if_neg (by omega)])); dsimp only; exact ⟨by first | omega | (split <;> omega), rfl⟩) | exact cf0 (by unfold s_holds fnd; (repeat (first | rewrite [if_pos (by omega)] | rewrite [if_neg (by omega)])); dsimp only; exact ⟨by first | omega | (split <;> omega), rfl⟩) | (exfalso; omega))
      · refine v_aload_n 0 dX6_holds_68 (nx := 69) rfl rfl ?_
        refine v_bipush dX6_holds_69 (nx := 71) rfl rfl ?_
        refine t_callVi (a := 9) (c_X6_finding _) dX6_holds_71 (nx := 74) rfl kX6_finding ml_X6_38 (by decide) (ok_m 9 rfl) rfl rfl rfl rfl (Nat.le_of_ble_eq_true rfl) ⟨by decide, by decide⟩ ⟨by decide, by decide⟩ ?_
        refine v_goto dX6_holds_74 (tgt := 78) (by decide) ?_
        exact t_iret dX6_holds_78 rfl (by first | exact cf1 (by unfold s_holds fnd; (repeat (first | rewrite [if_pos (by omega)] | rewrite [if_neg (by omega)])); dsimp only; exact ⟨by first | omega | (split <;> omega), rfl⟩) | exact cf0 (by unfold s_holds fnd; (repeat (first | rewrite [if_pos (by omega)] | rewrite [if_neg (by omega)])); dsimp only; exact ⟨by first | omega | (split <;> omega), rfl⟩) | (exfalso; omega))
    · refine v_aload_n 2 dX6_holds_35 (nx := 36) rfl rfl ?_
      refine t_get (a := 0) (p := 0) (T := TX4) dX6_holds_36 (nx := 39) rfl (by decide) (by first | assumption | exact ok_0 ⟨by omega, by omega⟩) rfl rfl iU4 (by decide) fl_X6_66 rfl ?_
      refine v_iconst dX6_holds_39 (nx := 40) rfl ?_
      refine v_icmp_eq dX6_holds_40 (tgt := 58) (by decide) (nx := 43) rfl (by first | assumption | exact hR.1 _ _ _ _ | exact ⟨by omega, by omega⟩) (by first | assumption | exact hR.1 _ _ _ _ | exact ⟨by omega, by omega⟩) (fun c40 => ?_) (fun c40 => ?_)
      · have hh := hold_row hI (hH.r p (by omega) (by omega)) ⟨by omega, by omega⟩ ⟨by omega, by omega⟩
        refine v_aload_n 2 dX6_holds_58 (nx := 59) rfl rfl ?_
        refine t_callVi (a := 0) (c_X4_first hR _ (by omega)) dX6_holds_59 (nx := 62) rfl kX4_first ml_X6_181 (by decide) (by first | assumption | exact ok_0 ⟨by omega, by omega⟩) rfl rfl rfl rfl (Nat.le_of_ble_eq_true rfl) ⟨by decide, by decide⟩ ⟨by decide, by decide⟩ ?_
        refine v_istore_n dX6_holds_62 (nx := 63) rfl rfl (by decide) ?_
        refine v_iload_n 3 dX6_holds_63 (nx := 64) rfl rfl ?_
        refine v_iconst dX6_holds_64 (nx := 65) rfl ?_
        refine v_icmp_ne dX6_holds_65 (tgt := 77) (by decide) (nx := 68) rfl (by split <;> first | exact hR.1 _ _ _ _ | exact ⟨by decide, by decide⟩) ⟨by decide, by decide⟩ (fun c65 => ?_) (fun c65 => ?_)
        · refine v_iload_n 3 dX6_holds_77 (nx := 78) rfl rfl ?_
          exact t_iret dX6_holds_78 rfl (by first | exact cf1 (by unfold s_holds fnd; (repeat (first | rewrite [if_pos (by omega)] | rewrite [if_neg (by omega)])); dsimp only; exact ⟨by first | omega | (split <;> omega), rfl⟩) | exact cf0 (by unfold s_holds fnd; (repeat (first | rewrite [if_pos (by omega)] | rewrite [if_neg (by omega)])); dsimp only; exact ⟨by first | omega | (split <;> omega), rfl⟩) | (exfalso; omega))
        · refine v_aload_n 0 dX6_holds_68 (nx := 69) rfl rfl ?_
          refine v_bipush dX6_holds_69 (nx := 71) rfl rfl ?_
          refine t_callVi (a := 9) (c_X6_finding _) dX6_holds_71 (nx := 74) rfl kX6_finding ml_X6_38 (by decide) (ok_m 9 rfl) rfl rfl rfl rfl (Nat.le_of_ble_eq_true rfl) ⟨by decide, by decide⟩ ⟨by decide, by decide⟩ ?_
          refine v_goto dX6_holds_74 (tgt := 78) (by decide) ?_
          exact t_iret dX6_holds_78 rfl (by first | exact cf1 (by unfold s_holds fnd; (repeat (first | rewrite [if_pos (by omega)] | rewrite [if_neg (by omega)])); dsimp only; exact ⟨by first | omega | (split <;> omega), rfl⟩) | exact cf0 (by unfold s_holds fnd; (repeat (first | rewrite [if_pos (by omega)] | rewrite [if_neg (by omega)])); dsimp only; exact ⟨by first | omega | (split <;> omega), rfl⟩) | (exfalso; omega))
      · refine v_aload_n 2 dX6_holds_43 (nx := 44) rfl rfl ?_
        refine t_get (a := 0) (p := 0) (T := TX4) dX6_holds_44 (nx := 47) rfl (by decide) (by first | assumption | exact ok_0 ⟨by omega, by omega⟩) rfl rfl iU4 (by decide) fl_X6_66 rfl ?_
        refine v_iconst dX6_holds_47 (nx := 48) rfl ?_
        refine v_icmp_eq dX6_holds_48 (tgt := 58) (by decide) (nx := 51) rfl (by first | assumption | exact hR.1 _ _ _ _ | exact ⟨by omega, by omega⟩) (by first | assumption | exact hR.1 _ _ _ _ | exact ⟨by omega, by omega⟩) (fun c48 => ?_) (fun c48 => ?_)
        · have hh := hold_row hI (hH.r p (by omega) (by omega)) ⟨by omega, by omega⟩ ⟨by omega, by omega⟩
          refine v_aload_n 2 dX6_holds_58 (nx := 59) rfl rfl ?_
          refine t_callVi (a := 0) (c_X4_first hR _ (by omega)) dX6_holds_59 (nx := 62) rfl kX4_first ml_X6_181 (by decide) (by first | assumption | exact ok_0 ⟨by omega, by omega⟩) rfl rfl rfl rfl (Nat.le_of_ble_eq_true rfl) ⟨by decide, by decide⟩ ⟨by decide, by decide⟩ ?_
          refine v_istore_n dX6_holds_62 (nx := 63) rfl rfl (by decide) ?_
          refine v_iload_n 3 dX6_holds_63 (nx := 64) rfl rfl ?_
          refine v_iconst dX6_holds_64 (nx := 65) rfl ?_
          refine v_icmp_ne dX6_holds_65 (tgt := 77) (by decide) (nx := 68) rfl (by split <;> first | exact hR.1 _ _ _ _ | exact ⟨by decide, by decide⟩) ⟨by decide, by decide⟩ (fun c65 => ?_) (fun c65 => ?_)
          · refine v_iload_n 3 dX6_holds_77 (nx := 78) rfl rfl ?_
            exact t_iret dX6_holds_78 rfl (by first | exact cf1 (by unfold s_holds fnd; (repeat (first | rewrite [if_pos (by omega)] | rewrite [if_neg (by omega)])); dsimp only; exact ⟨by first | omega | (split <;> omega), rfl⟩) | exact cf0 (by unfold s_holds fnd; (repeat (first | rewrite [if_pos (by omega)] | rewrite [if_neg (by omega)])); dsimp only; exact ⟨by first | omega | (split <;> omega), rfl⟩) | (exfalso; omega))
          · refine v_aload_n 0 dX6_holds_68 (nx := 69) rfl rfl ?_
            refine v_bipush dX6_holds_69 (nx := 71) rfl rfl ?_
            refine t_callVi (a := 9) (c_X6_finding _) dX6_holds_71 (nx := 74) rfl kX6_finding ml_X6_38 (by decide) (ok_m 9 rfl) rfl rfl rfl rfl (Nat.le_of_ble_eq_true rfl) ⟨by decide, by decide⟩ ⟨by decide, by decide⟩ ?_
            refine v_goto dX6_holds_74 (tgt := 78) (by decide) ?_
            exact t_iret dX6_holds_78 rfl (by first | exact cf1 (by unfold s_holds fnd; (repeat (first | rewrite [if_pos (by omega)] | rewrite [if_neg (by omega)])); dsimp only; exact ⟨by first | omega | (split <;> omega), rfl⟩) | exact cf0 (by unfold s_holds fnd; (repeat (first | rewrite [if_pos (by omega)] | rewrite [if_neg (by omega)])); dsimp only; exact ⟨by first | omega | (split <;> omega), rfl⟩) | (exfalso; omega))
        · refine v_aload_n 0 dX6_holds_51 (nx := 52) rfl rfl ?_
          refine v_bipush dX6_holds_52 (nx := 54) rfl rfl ?_
          refine t_callVi (a := 9) (c_X6_finding _) dX6_holds_54 (nx := 57) rfl kX6_finding ml_X6_38 (by decide) (ok_m 9 rfl) rfl rfl rfl rfl (Nat.le_of_ble_eq_true rfl) ⟨by decide, by decide⟩ ⟨by decide, by decide⟩ ?_
          exact t_iret dX6_holds_57 rfl (by first | exact cf1 (by unfold s_holds fnd; (repeat (first | rewrite [if_pos (by omega)] | rewrite [if_neg (by omega)])); dsimp only; exact ⟨by first | omega | (split <;> omega), rfl⟩) | exact cf0 (by unfold s_holds fnd; (repeat (first | rewrite [if_pos (by omega)] | rewrite [if_neg (by omega)])); dsimp only; exact ⟨by first | omega | (split <;> omega), rfl⟩) | (exfalso; omega))
  · refine v_aload_n 0 dX6_holds_11 (nx := 12) rfl rfl ?_
    refine v_iconst dX6_holds_12 (nx := 13) rfl ?_
    refine t_callVi (a := 9) (c_X6_finding _) dX6_holds_13 (nx := 16) rfl kX6_finding ml_X6_38 (by decide) (ok_m 9 rfl) rfl rfl rfl rfl (Nat.le_of_ble_eq_true rfl) ⟨by decide, by decide⟩ ⟨by decide, by decide⟩ ?_
    exact t_iret dX6_holds_16 rfl (by first | exact cf1 (by unfold s_holds fnd; (repeat (first | rewrite [if_pos (by omega)] | rewrite [if_neg (by omega)])); dsimp only; exact ⟨by first | omega | (split <;> omega), rfl⟩) | exact cf0 (by unfold s_holds fnd; (repeat (first | rewrite [if_pos (by omega)] | rewrite [if_neg (by omega)])); dsimp only; exact ⟨by first | omega | (split <;> omega), rfl⟩) | (exfalso; omega))

set_option maxRecDepth 100000 in
theorem c_X6_far {g : GG} {kp : Bool} {σ : SS} (hR : RG σ) {N : NN} {kk : Int} (hI : IV N kk) (hH : RH σ 0 N) (p : Int) (hp : inR p) (ch : Int) (hch : inR ch) (hS : SM σ N) : XC g kp 2 mX6_far [rf g (ad 9 0 0), vi p, vi ch] σ (some (vi (s_far N p ch).1)) (fd σ (s_far N p ch).2.2) := by
  refine TC.of (by decide) (Nat.le_of_ble_eq_true rfl) rfl ?_
  obtain ⟨b0, b1, b2, b3, b4, b5⟩ := hI.n
  obtain ⟨n0, n1, n2, n3, n4⟩ := hH.n
  refine v_aload_n 0 dX6_far_0 (nx := 1) rfl rfl ?_
  refine t_get (a := 9) (p := 0) (T := TX6) dX6_far_1 (nx := 4) rfl (by decide) (ok_m 9 rfl) rfl rfl iU6 (by decide) fl_X6_10 rfl ?_
  refine v_iload_n 1 dX6_far_4 (nx := 5) rfl rfl ?_
  refine t_callVi (a := 7) (c_X3_hasPoint hR _ (by first | assumption | exact hR.1 _ _ _ _ | exact ⟨by omega, by omega⟩)) dX6_far_5 (nx := 8) rfl kX3_hasPoint ml_X6_59 (by decide) (ok_m 7 rfl) rfl rfl rfl rfl (Nat.le_of_ble_eq_true rfl) ⟨by decide, by decide⟩ ⟨by decide, by decide⟩ ?_
  refine v_ifB_eq dX6_far_8 (tgt := 22) (by decide) (nx := 11) rfl (fun c8 => ?_) (fun c8 => ?_)
  · refine v_aload_n 0 dX6_far_22 (nx := 23) rfl rfl ?_
    refine v_iconst dX6_far_23 (nx := 24) rfl ?_
    refine t_callVi (a := 9) (c_X6_finding _) dX6_far_24 (nx := 27) rfl kX6_finding ml_X6_38 (by decide) (ok_m 9 rfl) rfl rfl rfl rfl (Nat.le_of_ble_eq_true rfl) ⟨by decide, by decide⟩ ⟨by decide, by decide⟩ ?_
    exact t_iret dX6_far_27 rfl (by first | exact cf1 (by unfold s_far fnd; (repeat (first | rewrite [if_pos (by omega)] | rewrite [if_neg (by omega)])); dsimp only; exact ⟨by omega, rfl⟩) | exact cf0 (by unfold s_far fnd; (repeat (first | rewrite [if_pos (by omega)] | rewrite [if_neg (by omega)])); dsimp only; exact ⟨by omega, rfl⟩) | (exfalso; omega))
  · refine v_aload_n 0 dX6_far_11 (nx := 12) rfl rfl ?_
    refine t_get (a := 9) (p := 0) (T := TX6) dX6_far_12 (nx := 15) rfl (by decide) (ok_m 9 rfl) rfl rfl iU6 (by decide) fl_X6_10 rfl ?_
    refine v_iload_n 2 dX6_far_15 (nx := 16) rfl rfl ?_
    refine t_callVi (a := 7) (c_X3_hasPoint hR _ (by first | assumption | exact hR.1 _ _ _ _ | exact ⟨by omega, by omega⟩)) dX6_far_16 (nx := 19) rfl kX3_hasPoint ml_X6_59 (by decide) (ok_m 7 rfl) rfl rfl rfl rfl (Nat.le_of_ble_eq_true rfl) ⟨by decide, by decide⟩ ⟨by decide, by decide⟩ ?_
    refine v_ifB_ne dX6_far_19 (tgt := 28) (by decide) (nx := 22) rfl (fun c19 => ?_) (fun c19 => ?_)
    · obtain ⟨e0, e1, e2⟩ := hH.p ch (by omega) (by omega)
      refine v_aload_n 0 dX6_far_28 (nx := 29) rfl rfl ?_
      refine t_get (a := 9) (p := 0) (T := TX6) dX6_far_29 (nx := 32) rfl (by decide) (ok_m 9 rfl) rfl rfl iU6 (by decide) fl_X6_10 rfl ?_
      refine t_get (a := 7) (p := 0) (T := TX3) dX6_far_32 (nx := 35) rfl (by decide) (ok_m 7 rfl) rfl rfl iU3 (by decide) fl_X6_45 rfl ?_
      refine v_iload_n 2 dX6_far_35 (nx := 36) rfl rfl ?_
      refine t_ldP dX6_far_36 (nx := 37) rfl (ok_m 15 rfl) ⟨by omega, by omega⟩ ?_
      refine t_get (a := 0) (p := 0) (T := TX4) dX6_far_37 (nx := 40) rfl (by decide) (by first | assumption | exact ok_0 ⟨by omega, by omega⟩) rfl rfl iU4 (by decide) fl_X6_66 rfl ?_
      refine v_iconst dX6_far_40 (nx := 41) rfl ?_
      refine v_icmp_eq dX6_far_41 (tgt := 51) (by decide) (nx := 44) rfl (by first | assumption | exact hR.1 _ _ _ _ | exact ⟨by omega, by omega⟩) (by first | assumption | exact hR.1 _ _ _ _ | exact ⟨by omega, by omega⟩) (fun c41 => ?_) (fun c41 => ?_)
      · have hs := hS ch (by omega) (by omega) (by omega) p (by omega) (by omega)
        have hsg := farI_sg (hI.okF (ch := ch) (by omega) (by omega)) 12 p
        have ef : farS N ch = farI N ch 12 := rfl
        rw [← ef] at hsg
        refine v_aload_n 0 dX6_far_51 (nx := 52) rfl rfl ?_
        refine t_get (a := 9) (p := 1) (T := TX6) dX6_far_52 (nx := 55) rfl (by decide) (ok_m 9 rfl) rfl rfl iU6 (by decide) fl_X6_19 rfl ?_
        refine t_get (a := 19) (p := 0) (T := TX5) dX6_far_55 (nx := 58) rfl (by decide) (ok_m 19 rfl) rfl rfl iU5 (by decide) fl_X6_188 rfl ?_
        refine v_iload_n 2 dX6_far_58 (nx := 59) rfl rfl ?_
        refine t_ldS dX6_far_59 (nx := 60) rfl ⟨by omega, by omega⟩ ?_
        refine v_iload_n 1 dX6_far_60 (nx := 61) rfl rfl ?_
        refine t_aldL (a := 8) (L := 12) dX6_far_61 (nx := 62) rfl rfl (by first | assumption | exact ok_8 ⟨by omega, by omega⟩) rfl ⟨by omega, by omega⟩ ?_
        refine v_istore_n dX6_far_62 (nx := 63) rfl rfl (by decide) ?_
        refine v_iload_n 3 dX6_far_63 (nx := 64) rfl rfl ?_
        refine v_iconst dX6_far_64 (nx := 65) rfl ?_
        refine v_icmp_ne dX6_far_65 (tgt := 77) (by decide) (nx := 68) rfl (by first | assumption | exact hR.1 _ _ _ _ | exact ⟨by omega, by omega⟩) (by first | assumption | exact hR.1 _ _ _ _ | exact ⟨by omega, by omega⟩) (fun c65 => ?_) (fun c65 => ?_)
        · refine v_iload_n 3 dX6_far_77 (nx := 78) rfl rfl ?_
          exact t_iret dX6_far_78 rfl (by first | exact cf1 (by unfold s_far fnd; (repeat (first | rewrite [if_pos (by omega)] | rewrite [if_neg (by omega)])); dsimp only; exact ⟨by omega, rfl⟩) | exact cf0 (by unfold s_far fnd; (repeat (first | rewrite [if_pos (by omega)] | rewrite [if_neg (by omega)])); dsimp only; exact ⟨by omega, rfl⟩) | (exfalso; omega))
        · refine v_aload_n 0 dX6_far_68 (nx := 69) rfl rfl ?_
          refine v_bipush dX6_far_69 (nx := 71) rfl rfl ?_
          refine t_callVi (a := 9) (c_X6_finding _) dX6_far_71 (nx := 74) rfl kX6_finding ml_X6_38 (by decide) (ok_m 9 rfl) rfl rfl rfl rfl (Nat.le_of_ble_eq_true rfl) ⟨by decide, by decide⟩ ⟨by decide, by decide⟩ ?_
          refine v_goto dX6_far_74 (tgt := 78) (by decide) ?_
          exact t_iret dX6_far_78 rfl (by first | exact cf1 (by unfold s_far fnd; (repeat (first | rewrite [if_pos (by omega)] | rewrite [if_neg (by omega)])); dsimp only; exact ⟨by omega, rfl⟩) | exact cf0 (by unfold s_far fnd; (repeat (first | rewrite [if_pos (by omega)] | rewrite [if_neg (by omega)])); dsimp only; exact ⟨by omega, rfl⟩) | (exfalso; omega))
      · refine v_aload_n 0 dX6_far_44 (nx := 45) rfl rfl ?_
        refine v_bipush dX6_far_45 (nx := 47) rfl rfl ?_
        refine t_callVi (a := 9) (c_X6_finding _) dX6_far_47 (nx := 50) rfl kX6_finding ml_X6_38 (by decide) (ok_m 9 rfl) rfl rfl rfl rfl (Nat.le_of_ble_eq_true rfl) ⟨by decide, by decide⟩ ⟨by decide, by decide⟩ ?_
        exact t_iret dX6_far_50 rfl (by first | exact cf1 (by unfold s_far fnd; (repeat (first | rewrite [if_pos (by omega)] | rewrite [if_neg (by omega)])); dsimp only; exact ⟨by omega, rfl⟩) | exact cf0 (by unfold s_far fnd; (repeat (first | rewrite [if_pos (by omega)] | rewrite [if_neg (by omega)])); dsimp only; exact ⟨by omega, rfl⟩) | (exfalso; omega))
    · refine v_aload_n 0 dX6_far_22 (nx := 23) rfl rfl ?_
      refine v_iconst dX6_far_23 (nx := 24) rfl ?_
      refine t_callVi (a := 9) (c_X6_finding _) dX6_far_24 (nx := 27) rfl kX6_finding ml_X6_38 (by decide) (ok_m 9 rfl) rfl rfl rfl rfl (Nat.le_of_ble_eq_true rfl) ⟨by decide, by decide⟩ ⟨by decide, by decide⟩ ?_
      exact t_iret dX6_far_27 rfl (by first | exact cf1 (by unfold s_far fnd; (repeat (first | rewrite [if_pos (by omega)] | rewrite [if_neg (by omega)])); dsimp only; exact ⟨by omega, rfl⟩) | exact cf0 (by unfold s_far fnd; (repeat (first | rewrite [if_pos (by omega)] | rewrite [if_neg (by omega)])); dsimp only; exact ⟨by omega, rfl⟩) | (exfalso; omega))

set_option maxRecDepth 100000 in
theorem c_X6_route {g : GG} {kp : Bool} {σ : SS} (hR : RG σ) {N : NN} {kk : Int} (hI : IV N kk) (hH : RH σ 0 N) (p : Int) (hp : inR p) (fl : Int) (hfl : inR fl) (hS : SM σ N) : XC g kp 2 mX6_route [rf g (ad 9 0 0), vi p, vi fl] σ (some (vi (s_route N p fl).1)) (fd σ (s_route N p fl).2.2) := by
  refine TC.of (by decide) (Nat.le_of_ble_eq_true rfl) rfl ?_
  obtain ⟨b0, b1, b2, b3, b4, b5⟩ := hI.n
  obtain ⟨n0, n1, n2, n3, n4⟩ := hH.n
  refine v_aload_n 0 dX6_route_0 (nx := 1) rfl rfl ?_
  refine t_get (a := 9) (p := 0) (T := TX6) dX6_route_1 (nx := 4) rfl (by decide) (ok_m 9 rfl) rfl rfl iU6 (by decide) fl_X6_10 rfl ?_
  refine v_iload_n 1 dX6_route_4 (nx := 5) rfl rfl ?_
  refine t_callVi (a := 7) (c_X3_hasPoint hR _ (by first | assumption | exact hR.1 _ _ _ _ | exact ⟨by omega, by omega⟩)) dX6_route_5 (nx := 8) rfl kX3_hasPoint ml_X6_59 (by decide) (ok_m 7 rfl) rfl rfl rfl rfl (Nat.le_of_ble_eq_true rfl) ⟨by decide, by decide⟩ ⟨by decide, by decide⟩ ?_
  refine v_ifB_eq dX6_route_8 (tgt := 22) (by decide) (nx := 11) rfl (fun c8 => ?_) (fun c8 => ?_)
  · refine v_aload_n 0 dX6_route_22 (nx := 23) rfl rfl ?_
    refine v_iconst dX6_route_23 (nx := 24) rfl ?_
    refine t_callVi (a := 9) (c_X6_finding _) dX6_route_24 (nx := 27) rfl kX6_finding ml_X6_38 (by decide) (ok_m 9 rfl) rfl rfl rfl rfl (Nat.le_of_ble_eq_true rfl) ⟨by decide, by decide⟩ ⟨by decide, by decide⟩ ?_
    exact t_iret dX6_route_27 rfl (by first | exact cf1 (by unfold s_route fnd; (repeat (first | rewrite [if_pos (by omega)] | rewrite [if_neg (by omega)])); dsimp only; exact ⟨by omega, rfl⟩) | exact cf0 (by unfold s_route fnd; (repeat (first | rewrite [if_pos (by omega)] | rewrite [if_neg (by omega)])); dsimp only; exact ⟨by omega, rfl⟩) | (exfalso; omega))
  · refine v_aload_n 0 dX6_route_11 (nx := 12) rfl rfl ?_
    refine t_get (a := 9) (p := 0) (T := TX6) dX6_route_12 (nx := 15) rfl (by decide) (ok_m 9 rfl) rfl rfl iU6 (by decide) fl_X6_10 rfl ?_
    refine v_iload_n 2 dX6_route_15 (nx := 16) rfl rfl ?_
    refine t_callVi (a := 7) (c_X3_hasFlight hR _ (by first | assumption | exact hR.1 _ _ _ _ | exact ⟨by omega, by omega⟩)) dX6_route_16 (nx := 19) rfl kX3_hasFlight ml_X6_114 (by decide) (ok_m 7 rfl) rfl rfl rfl rfl (Nat.le_of_ble_eq_true rfl) ⟨by decide, by decide⟩ ⟨by decide, by decide⟩ ?_
    refine v_ifB_ne dX6_route_19 (tgt := 28) (by decide) (nx := 22) rfl (fun c19 => ?_) (fun c19 => ?_)
    · obtain ⟨e0, e1, e2⟩ := hH.p p (by omega) (by omega)
      refine v_aload_n 0 dX6_route_28 (nx := 29) rfl rfl ?_
      refine t_get (a := 9) (p := 0) (T := TX6) dX6_route_29 (nx := 32) rfl (by decide) (ok_m 9 rfl) rfl rfl iU6 (by decide) fl_X6_10 rfl ?_
      refine t_get (a := 7) (p := 0) (T := TX3) dX6_route_32 (nx := 35) rfl (by decide) (ok_m 7 rfl) rfl rfl iU3 (by decide) fl_X6_45 rfl ?_
      refine v_iload_n 1 dX6_route_35 (nx := 36) rfl rfl ?_
      refine t_ldP dX6_route_36 (nx := 37) rfl (ok_m 15 rfl) ⟨by omega, by omega⟩ ?_
      refine t_get (a := 0) (p := 0) (T := TX4) dX6_route_37 (nx := 40) rfl (by decide) (by first | assumption | exact ok_0 ⟨by omega, by omega⟩) rfl rfl iU4 (by decide) fl_X6_66 rfl ?_
      refine v_iconst dX6_route_40 (nx := 41) rfl ?_
      refine v_icmp_eq dX6_route_41 (tgt := 51) (by decide) (nx := 44) rfl (by first | assumption | exact hR.1 _ _ _ _ | exact ⟨by omega, by omega⟩) (by first | assumption | exact hR.1 _ _ _ _ | exact ⟨by omega, by omega⟩) (fun c41 => ?_) (fun c41 => ?_)
      · obtain ⟨f0, f1, f2⟩ := hH.f fl (by omega) (by omega)
        obtain ⟨g1, g2, -⟩ := hI.f (f := fl) (by omega) (by omega)
        have hob := mnI_b (P := fun b => decide (N (68 + b) = p ∧ N (116 + b) ≠ 1 ∧ 0 ≤ farS N (N (340 + fl)) (N (84 + b)))) (K := fun b => N (100 + b) + farS N (N (340 + fl)) (N (84 + b))) b1.1
        have ef : outF N p fl = mnI (fun b => decide (N (68 + b) = p ∧ N (116 + b) ≠ 1 ∧ 0 ≤ farS N (N (340 + fl)) (N (84 + b)))) (fun b => N (100 + b) + farS N (N (340 + fl)) (N (84 + b))) (N 1) := rfl
        have ef2 : bestO N (farS N (N (340 + fl))) p = outF N p fl := rfl
        rw [← ef] at hob
        refine v_aload_n 0 dX6_route_51 (nx := 52) rfl rfl ?_
        refine t_get (a := 9) (p := 1) (T := TX6) dX6_route_52 (nx := 55) rfl (by decide) (ok_m 9 rfl) rfl rfl iU6 (by decide) fl_X6_19 rfl ?_
        refine v_aload_n 0 dX6_route_55 (nx := 56) rfl rfl ?_
        refine t_get (a := 9) (p := 0) (T := TX6) dX6_route_56 (nx := 59) rfl (by decide) (ok_m 9 rfl) rfl rfl iU6 (by decide) fl_X6_10 rfl ?_
        refine v_iload_n 1 dX6_route_59 (nx := 60) rfl rfl ?_
        refine v_aload_n 0 dX6_route_60 (nx := 61) rfl rfl ?_
        refine t_get (a := 9) (p := 0) (T := TX6) dX6_route_61 (nx := 64) rfl (by decide) (ok_m 9 rfl) rfl rfl iU6 (by decide) fl_X6_10 rfl ?_
        refine t_get (a := 7) (p := 2) (T := TX3) dX6_route_64 (nx := 67) rfl (by decide) (ok_m 7 rfl) rfl rfl iU3 (by decide) fl_X6_103 rfl ?_
        refine v_iload_n 2 dX6_route_67 (nx := 68) rfl rfl ?_
        refine t_ldF dX6_route_68 (nx := 69) rfl (ok_m 17 rfl) ⟨by omega, by omega⟩ ?_
        refine t_get (a := 4) (p := 0) (T := TX2) dX6_route_69 (nx := 72) rfl (by decide) (by first | assumption | exact ok_4 ⟨by omega, by omega⟩) rfl rfl iU2 (by decide) fl_X6_192 rfl ?_
        rw [f0]
        refine t_callVi (a := 19) (c_X5_shortestOutlet hR hI hH.n hH.b p _ hp (by omega) (fun q q0 q1 => hS _ (by omega) (by omega) (by omega) q q0 q1)) dX6_route_72 (nx := 75) rfl kX5_shortestOutlet ml_X6_195 (by decide) (ok_m 19 rfl) rfl rfl rfl rfl (Nat.le_of_ble_eq_true rfl) ⟨by decide, by decide⟩ ⟨by decide, by decide⟩ ?_
        refine v_istore_n dX6_route_75 (nx := 76) rfl rfl (by decide) ?_
        refine v_iload_n 3 dX6_route_76 (nx := 77) rfl rfl ?_
        refine v_iconst dX6_route_77 (nx := 78) rfl ?_
        refine v_icmp_ne dX6_route_78 (tgt := 90) (by decide) (nx := 81) rfl (by first | assumption | exact hR.1 _ _ _ _ | exact ⟨by omega, by omega⟩) (by first | assumption | exact hR.1 _ _ _ _ | exact ⟨by omega, by omega⟩) (fun c78 => ?_) (fun c78 => ?_)
        · refine v_iload_n 3 dX6_route_90 (nx := 91) rfl rfl ?_
          exact t_iret dX6_route_91 rfl (by first | exact cf1 (by unfold s_route fnd; (repeat (first | rewrite [if_pos (by omega)] | rewrite [if_neg (by omega)])); dsimp only; exact ⟨by omega, rfl⟩) | exact cf0 (by unfold s_route fnd; (repeat (first | rewrite [if_pos (by omega)] | rewrite [if_neg (by omega)])); dsimp only; exact ⟨by omega, rfl⟩) | (exfalso; omega))
        · refine v_aload_n 0 dX6_route_81 (nx := 82) rfl rfl ?_
          refine v_bipush dX6_route_82 (nx := 84) rfl rfl ?_
          refine t_callVi (a := 9) (c_X6_finding _) dX6_route_84 (nx := 87) rfl kX6_finding ml_X6_38 (by decide) (ok_m 9 rfl) rfl rfl rfl rfl (Nat.le_of_ble_eq_true rfl) ⟨by decide, by decide⟩ ⟨by decide, by decide⟩ ?_
          refine v_goto dX6_route_87 (tgt := 91) (by decide) ?_
          exact t_iret dX6_route_91 rfl (by first | exact cf1 (by unfold s_route fnd; (repeat (first | rewrite [if_pos (by omega)] | rewrite [if_neg (by omega)])); dsimp only; exact ⟨by omega, rfl⟩) | exact cf0 (by unfold s_route fnd; (repeat (first | rewrite [if_pos (by omega)] | rewrite [if_neg (by omega)])); dsimp only; exact ⟨by omega, rfl⟩) | (exfalso; omega))
      · refine v_aload_n 0 dX6_route_44 (nx := 45) rfl rfl ?_
        refine v_bipush dX6_route_45 (nx := 47) rfl rfl ?_
        refine t_callVi (a := 9) (c_X6_finding _) dX6_route_47 (nx := 50) rfl kX6_finding ml_X6_38 (by decide) (ok_m 9 rfl) rfl rfl rfl rfl (Nat.le_of_ble_eq_true rfl) ⟨by decide, by decide⟩ ⟨by decide, by decide⟩ ?_
        exact t_iret dX6_route_50 rfl (by first | exact cf1 (by unfold s_route fnd; (repeat (first | rewrite [if_pos (by omega)] | rewrite [if_neg (by omega)])); dsimp only; exact ⟨by omega, rfl⟩) | exact cf0 (by unfold s_route fnd; (repeat (first | rewrite [if_pos (by omega)] | rewrite [if_neg (by omega)])); dsimp only; exact ⟨by omega, rfl⟩) | (exfalso; omega))
    · refine v_aload_n 0 dX6_route_22 (nx := 23) rfl rfl ?_
      refine v_iconst dX6_route_23 (nx := 24) rfl ?_
      refine t_callVi (a := 9) (c_X6_finding _) dX6_route_24 (nx := 27) rfl kX6_finding ml_X6_38 (by decide) (ok_m 9 rfl) rfl rfl rfl rfl (Nat.le_of_ble_eq_true rfl) ⟨by decide, by decide⟩ ⟨by decide, by decide⟩ ?_
      exact t_iret dX6_route_27 rfl (by first | exact cf1 (by unfold s_route fnd; (repeat (first | rewrite [if_pos (by omega)] | rewrite [if_neg (by omega)])); dsimp only; exact ⟨by omega, rfl⟩) | exact cf0 (by unfold s_route fnd; (repeat (first | rewrite [if_pos (by omega)] | rewrite [if_neg (by omega)])); dsimp only; exact ⟨by omega, rfl⟩) | (exfalso; omega))

set_option maxRecDepth 100000 in
theorem c_X6_flown {g : GG} {kp : Bool} {σ : SS} (hR : RG σ) {N : NN} {kk : Int} (hI : IV N kk) (hH : RH σ 0 N) (fl : Int) (hfl : inR fl) (w : Int) (hw : inR w)  : XC g kp 2 mX6_flown [rf g (ad 9 0 0), vi fl, vi w] σ (some (vi (s_flown N fl w).1)) (fd σ (s_flown N fl w).2.2) := by
  refine TC.of (by decide) (Nat.le_of_ble_eq_true rfl) rfl ?_
  obtain ⟨b0, b1, b2, b3, b4, b5⟩ := hI.n
  obtain ⟨n0, n1, n2, n3, n4⟩ := hH.n
  refine v_aload_n 0 dX6_flown_0 (nx := 1) rfl rfl ?_
  refine t_get (a := 9) (p := 0) (T := TX6) dX6_flown_1 (nx := 4) rfl (by decide) (ok_m 9 rfl) rfl rfl iU6 (by decide) fl_X6_10 rfl ?_
  refine v_iload_n 1 dX6_flown_4 (nx := 5) rfl rfl ?_
  refine t_callVi (a := 7) (c_X3_hasFlight hR _ (by first | assumption | exact hR.1 _ _ _ _ | exact ⟨by omega, by omega⟩)) dX6_flown_5 (nx := 8) rfl kX3_hasFlight ml_X6_114 (by decide) (ok_m 7 rfl) rfl rfl rfl rfl (Nat.le_of_ble_eq_true rfl) ⟨by decide, by decide⟩ ⟨by decide, by decide⟩ ?_
  refine v_ifB_ne dX6_flown_8 (tgt := 17) (by decide) (nx := 11) rfl (fun c8 => ?_) (fun c8 => ?_)
  · obtain ⟨f0, f1, f2⟩ := hH.f fl (by omega) (by omega)
    refine v_aload_n 0 dX6_flown_17 (nx := 18) rfl rfl ?_
    refine t_get (a := 9) (p := 0) (T := TX6) dX6_flown_18 (nx := 21) rfl (by decide) (ok_m 9 rfl) rfl rfl iU6 (by decide) fl_X6_10 rfl ?_
    refine t_get (a := 7) (p := 2) (T := TX3) dX6_flown_21 (nx := 24) rfl (by decide) (ok_m 7 rfl) rfl rfl iU3 (by decide) fl_X6_103 rfl ?_
    refine v_iload_n 1 dX6_flown_24 (nx := 25) rfl rfl ?_
    refine t_ldF dX6_flown_25 (nx := 26) rfl (ok_m 17 rfl) ⟨by omega, by omega⟩ ?_
    refine v_astore_n dX6_flown_26 (nx := 27) rfl rfl (by decide) ?_
    refine v_iload_n 2 dX6_flown_27 (nx := 28) rfl rfl ?_
    by_cases e28_0 : w = 0
    · refine v_tabIn dX6_flown_28 (off := 44) (by first | assumption | exact hR.1 _ _ _ _ | exact ⟨by omega, by omega⟩) (by omega) (by omega) (by rw [e28_0]; rfl) (tgt := 72) (by decide) ?_
      refine v_aload_n 3 dX6_flown_72 (nx := 73) rfl rfl ?_
      refine t_get (a := 4) (p := 0) (T := TX2) dX6_flown_73 (nx := 76) rfl (by decide) (by first | assumption | exact ok_4 ⟨by omega, by omega⟩) rfl rfl iU2 (by decide) fl_X6_192 rfl ?_
      exact t_iret dX6_flown_76 rfl (by first | exact cf1 (by unfold s_flown fnd; (repeat (first | rewrite [if_pos (by omega)] | rewrite [if_neg (by omega)])); dsimp only; first | exact ⟨by omega, rfl⟩ | (refine ⟨?_, rfl⟩; unfold cntI; exact cnt_cong _ (fun x _ _ => decide_eq_decide.2 (by omega)))) | exact cf0 (by unfold s_flown fnd; (repeat (first | rewrite [if_pos (by omega)] | rewrite [if_neg (by omega)])); dsimp only; first | exact ⟨by omega, rfl⟩ | (refine ⟨?_, rfl⟩; unfold cntI; exact cnt_cong _ (fun x _ _ => decide_eq_decide.2 (by omega)))) | (exfalso; omega))
    by_cases e28_1 : w = 1
    · refine v_tabIn dX6_flown_28 (off := 49) (by first | assumption | exact hR.1 _ _ _ _ | exact ⟨by omega, by omega⟩) (by omega) (by omega) (by rw [e28_1]; rfl) (tgt := 77) (by decide) ?_
      refine v_aload_n 3 dX6_flown_77 (nx := 78) rfl rfl ?_
      refine t_get (a := 4) (p := 1) (T := TX2) dX6_flown_78 (nx := 81) rfl (by decide) (by first | assumption | exact ok_4 ⟨by omega, by omega⟩) rfl rfl iU2 (by decide) fl_X6_199 rfl ?_
      exact t_iret dX6_flown_81 rfl (by first | exact cf1 (by unfold s_flown fnd; (repeat (first | rewrite [if_pos (by omega)] | rewrite [if_neg (by omega)])); dsimp only; first | exact ⟨by omega, rfl⟩ | (refine ⟨?_, rfl⟩; unfold cntI; exact cnt_cong _ (fun x _ _ => decide_eq_decide.2 (by omega)))) | exact cf0 (by unfold s_flown fnd; (repeat (first | rewrite [if_pos (by omega)] | rewrite [if_neg (by omega)])); dsimp only; first | exact ⟨by omega, rfl⟩ | (refine ⟨?_, rfl⟩; unfold cntI; exact cnt_cong _ (fun x _ _ => decide_eq_decide.2 (by omega)))) | (exfalso; omega))
    by_cases e28_2 : w = 2
    · refine v_tabIn dX6_flown_28 (off := 54) (by first | assumption | exact hR.1 _ _ _ _ | exact ⟨by omega, by omega⟩) (by omega) (by omega) (by rw [e28_2]; rfl) (tgt := 82) (by decide) ?_
      refine v_aload_n 3 dX6_flown_82 (nx := 83) rfl rfl ?_
      refine t_get (a := 4) (p := 2) (T := TX2) dX6_flown_83 (nx := 86) rfl (by decide) (by first | assumption | exact ok_4 ⟨by omega, by omega⟩) rfl rfl iU2 (by decide) fl_X6_202 rfl ?_
      exact t_iret dX6_flown_86 rfl (by first | exact cf1 (by unfold s_flown fnd; (repeat (first | rewrite [if_pos (by omega)] | rewrite [if_neg (by omega)])); dsimp only; first | exact ⟨by omega, rfl⟩ | (refine ⟨?_, rfl⟩; unfold cntI; exact cnt_cong _ (fun x _ _ => decide_eq_decide.2 (by omega)))) | exact cf0 (by unfold s_flown fnd; (repeat (first | rewrite [if_pos (by omega)] | rewrite [if_neg (by omega)])); dsimp only; first | exact ⟨by omega, rfl⟩ | (refine ⟨?_, rfl⟩; unfold cntI; exact cnt_cong _ (fun x _ _ => decide_eq_decide.2 (by omega)))) | (exfalso; omega))
    by_cases e28_3 : w = 3
    · refine v_tabIn dX6_flown_28 (off := 59) (by first | assumption | exact hR.1 _ _ _ _ | exact ⟨by omega, by omega⟩) (by omega) (by omega) (by rw [e28_3]; rfl) (tgt := 87) (by decide) ?_
      refine v_aload_n 0 dX6_flown_87 (nx := 88) rfl rfl ?_
      refine t_get (a := 9) (p := 0) (T := TX6) dX6_flown_88 (nx := 91) rfl (by decide) (ok_m 9 rfl) rfl rfl iU6 (by decide) fl_X6_10 rfl ?_
      refine v_iload_n 1 dX6_flown_91 (nx := 92) rfl rfl ?_
      refine v_iconst dX6_flown_92 (nx := 93) rfl ?_
      refine t_callVi (a := 7) (c_X3_bagsOfFlight_ hR hI hH.n hH.g _ (by first | assumption | exact hR.1 _ _ _ _ | exact ⟨by omega, by omega⟩) _ (by first | assumption | exact hR.1 _ _ _ _ | exact ⟨by omega, by omega⟩)) dX6_flown_93 (nx := 96) rfl kX3_bagsOfFlight_ ml_X6_205 (by decide) (ok_m 7 rfl) rfl rfl rfl rfl (Nat.le_of_ble_eq_true rfl) ⟨by decide, by decide⟩ ⟨by decide, by decide⟩ ?_
      exact t_iret dX6_flown_96 rfl (by first | exact cf1 (by unfold s_flown fnd; (repeat (first | rewrite [if_pos (by omega)] | rewrite [if_neg (by omega)])); dsimp only; first | exact ⟨by omega, rfl⟩ | (refine ⟨?_, rfl⟩; unfold cntI; exact cnt_cong _ (fun x _ _ => decide_eq_decide.2 (by omega)))) | exact cf0 (by unfold s_flown fnd; (repeat (first | rewrite [if_pos (by omega)] | rewrite [if_neg (by omega)])); dsimp only; first | exact ⟨by omega, rfl⟩ | (refine ⟨?_, rfl⟩; unfold cntI; exact cnt_cong _ (fun x _ _ => decide_eq_decide.2 (by omega)))) | (exfalso; omega))
    by_cases e28_4 : w = 4
    · refine v_tabIn dX6_flown_28 (off := 69) (by first | assumption | exact hR.1 _ _ _ _ | exact ⟨by omega, by omega⟩) (by omega) (by omega) (by rw [e28_4]; rfl) (tgt := 97) (by decide) ?_
      refine v_aload_n 0 dX6_flown_97 (nx := 98) rfl rfl ?_
      refine t_get (a := 9) (p := 0) (T := TX6) dX6_flown_98 (nx := 101) rfl (by decide) (ok_m 9 rfl) rfl rfl iU6 (by decide) fl_X6_10 rfl ?_
      refine v_iload_n 1 dX6_flown_101 (nx := 102) rfl rfl ?_
      refine v_bipush dX6_flown_102 (nx := 104) rfl rfl ?_
      refine t_callVi (a := 7) (c_X3_bagsOfFlight_ hR hI hH.n hH.g _ (by first | assumption | exact hR.1 _ _ _ _ | exact ⟨by omega, by omega⟩) _ (by first | assumption | exact hR.1 _ _ _ _ | exact ⟨by omega, by omega⟩)) dX6_flown_104 (nx := 107) rfl kX3_bagsOfFlight_ ml_X6_205 (by decide) (ok_m 7 rfl) rfl rfl rfl rfl (Nat.le_of_ble_eq_true rfl) ⟨by decide, by decide⟩ ⟨by decide, by decide⟩ ?_
      exact t_iret dX6_flown_107 rfl (by first | exact cf1 (by unfold s_flown fnd; (repeat (first | rewrite [if_pos (by omega)] | rewrite [if_neg (by omega)])); dsimp only; first | exact ⟨by omega, rfl⟩ | (refine ⟨?_, rfl⟩; unfold cntI; exact cnt_cong _ (fun x _ _ => decide_eq_decide.2 (by omega)))) | exact cf0 (by unfold s_flown fnd; (repeat (first | rewrite [if_pos (by omega)] | rewrite [if_neg (by omega)])); dsimp only; first | exact ⟨by omega, rfl⟩ | (refine ⟨?_, rfl⟩; unfold cntI; exact cnt_cong _ (fun x _ _ => decide_eq_decide.2 (by omega)))) | (exfalso; omega))
    by_cases e28_5 : w = 5
    · refine v_tabIn dX6_flown_28 (off := 80) (by first | assumption | exact hR.1 _ _ _ _ | exact ⟨by omega, by omega⟩) (by omega) (by omega) (by rw [e28_5]; rfl) (tgt := 108) (by decide) ?_
      refine v_aload_n 0 dX6_flown_108 (nx := 109) rfl rfl ?_
      refine t_get (a := 9) (p := 0) (T := TX6) dX6_flown_109 (nx := 112) rfl (by decide) (ok_m 9 rfl) rfl rfl iU6 (by decide) fl_X6_10 rfl ?_
      refine v_iload_n 1 dX6_flown_112 (nx := 113) rfl rfl ?_
      refine v_bipush dX6_flown_113 (nx := 115) rfl rfl ?_
      refine t_callVi (a := 7) (c_X3_bagsOfFlight_ hR hI hH.n hH.g _ (by first | assumption | exact hR.1 _ _ _ _ | exact ⟨by omega, by omega⟩) _ (by first | assumption | exact hR.1 _ _ _ _ | exact ⟨by omega, by omega⟩)) dX6_flown_115 (nx := 118) rfl kX3_bagsOfFlight_ ml_X6_205 (by decide) (ok_m 7 rfl) rfl rfl rfl rfl (Nat.le_of_ble_eq_true rfl) ⟨by decide, by decide⟩ ⟨by decide, by decide⟩ ?_
      exact t_iret dX6_flown_118 rfl (by first | exact cf1 (by unfold s_flown fnd; (repeat (first | rewrite [if_pos (by omega)] | rewrite [if_neg (by omega)])); dsimp only; first | exact ⟨by omega, rfl⟩ | (refine ⟨?_, rfl⟩; unfold cntI; exact cnt_cong _ (fun x _ _ => decide_eq_decide.2 (by omega)))) | exact cf0 (by unfold s_flown fnd; (repeat (first | rewrite [if_pos (by omega)] | rewrite [if_neg (by omega)])); dsimp only; first | exact ⟨by omega, rfl⟩ | (refine ⟨?_, rfl⟩; unfold cntI; exact cnt_cong _ (fun x _ _ => decide_eq_decide.2 (by omega)))) | (exfalso; omega))
    by_cases e28_6 : w = 6
    · refine v_tabIn dX6_flown_28 (off := 91) (by first | assumption | exact hR.1 _ _ _ _ | exact ⟨by omega, by omega⟩) (by omega) (by omega) (by rw [e28_6]; rfl) (tgt := 119) (by decide) ?_
      refine v_aload_n 0 dX6_flown_119 (nx := 120) rfl rfl ?_
      refine t_get (a := 9) (p := 0) (T := TX6) dX6_flown_120 (nx := 123) rfl (by decide) (ok_m 9 rfl) rfl rfl iU6 (by decide) fl_X6_10 rfl ?_
      refine v_iload_n 1 dX6_flown_123 (nx := 124) rfl rfl ?_
      refine t_callVi (a := 7) (c_X3_bagsOfFlight hR hI hH.n hH.g _ (by first | assumption | exact hR.1 _ _ _ _ | exact ⟨by omega, by omega⟩)) dX6_flown_124 (nx := 127) rfl kX3_bagsOfFlight ml_X6_209 (by decide) (ok_m 7 rfl) rfl rfl rfl rfl (Nat.le_of_ble_eq_true rfl) ⟨by decide, by decide⟩ ⟨by decide, by decide⟩ ?_
      exact t_iret dX6_flown_127 rfl (by first | exact cf1 (by unfold s_flown fnd; (repeat (first | rewrite [if_pos (by omega)] | rewrite [if_neg (by omega)])); dsimp only; first | exact ⟨by omega, rfl⟩ | (refine ⟨?_, rfl⟩; unfold cntI; exact cnt_cong _ (fun x _ _ => decide_eq_decide.2 (by omega)))) | exact cf0 (by unfold s_flown fnd; (repeat (first | rewrite [if_pos (by omega)] | rewrite [if_neg (by omega)])); dsimp only; first | exact ⟨by omega, rfl⟩ | (refine ⟨?_, rfl⟩; unfold cntI; exact cnt_cong _ (fun x _ _ => decide_eq_decide.2 (by omega)))) | (exfalso; omega))
    refine v_tabOut dX6_flown_28 (by first | assumption | exact hR.1 _ _ _ _ | exact ⟨by omega, by omega⟩) (by omega) (tgt := 128) (by decide) ?_
    refine v_aload_n 0 dX6_flown_128 (nx := 129) rfl rfl ?_
    refine v_iconst dX6_flown_129 (nx := 130) rfl ?_
    refine t_callVi (a := 9) (c_X6_finding _) dX6_flown_130 (nx := 133) rfl kX6_finding ml_X6_38 (by decide) (ok_m 9 rfl) rfl rfl rfl rfl (Nat.le_of_ble_eq_true rfl) ⟨by decide, by decide⟩ ⟨by decide, by decide⟩ ?_
    exact t_iret dX6_flown_133 rfl (by first | exact cf1 (by unfold s_flown fnd; (repeat (first | rewrite [if_pos (by omega)] | rewrite [if_neg (by omega)])); dsimp only; first | exact ⟨by omega, rfl⟩ | (refine ⟨?_, rfl⟩; unfold cntI; exact cnt_cong _ (fun x _ _ => decide_eq_decide.2 (by omega)))) | exact cf0 (by unfold s_flown fnd; (repeat (first | rewrite [if_pos (by omega)] | rewrite [if_neg (by omega)])); dsimp only; first | exact ⟨by omega, rfl⟩ | (refine ⟨?_, rfl⟩; unfold cntI; exact cnt_cong _ (fun x _ _ => decide_eq_decide.2 (by omega)))) | (exfalso; omega))
  · refine v_aload_n 0 dX6_flown_11 (nx := 12) rfl rfl ?_
    refine v_iconst dX6_flown_12 (nx := 13) rfl ?_
    refine t_callVi (a := 9) (c_X6_finding _) dX6_flown_13 (nx := 16) rfl kX6_finding ml_X6_38 (by decide) (ok_m 9 rfl) rfl rfl rfl rfl (Nat.le_of_ble_eq_true rfl) ⟨by decide, by decide⟩ ⟨by decide, by decide⟩ ?_
    exact t_iret dX6_flown_16 rfl (by first | exact cf1 (by unfold s_flown fnd; (repeat (first | rewrite [if_pos (by omega)] | rewrite [if_neg (by omega)])); dsimp only; first | exact ⟨by omega, rfl⟩ | (refine ⟨?_, rfl⟩; unfold cntI; exact cnt_cong _ (fun x _ _ => decide_eq_decide.2 (by omega)))) | exact cf0 (by unfold s_flown fnd; (repeat (first | rewrite [if_pos (by omega)] | rewrite [if_neg (by omega)])); dsimp only; first | exact ⟨by omega, rfl⟩ | (refine ⟨?_, rfl⟩; unfold cntI; exact cnt_cong _ (fun x _ _ => decide_eq_decide.2 (by omega)))) | (exfalso; omega))

set_option maxRecDepth 100000 in
theorem c_X6_count {g : GG} {kp : Bool} {σ : SS} (hR : RG σ) {N : NN} {kk : Int} (hI : IV N kk) (hH : RH σ 0 N) (w : Int) (hw : inR w)  : XC g kp 2 mX6_count [rf g (ad 9 0 0), vi w] σ (some (vi (s_count N (σ 9 0 0 0) w).1)) (fd σ (s_count N (σ 9 0 0 0) w).2.2) := by
  refine TC.of (by decide) (Nat.le_of_ble_eq_true rfl) rfl ?_
  obtain ⟨b0, b1, b2, b3, b4, b5⟩ := hI.n
  obtain ⟨n0, n1, n2, n3, n4⟩ := hH.n
  refine v_iload_n 1 dX6_count_0 (nx := 1) rfl rfl ?_
  refine v_iconst dX6_count_1 (nx := 2) rfl ?_
  refine v_bipush dX6_count_2 (nx := 4) rfl rfl ?_
  refine t_callSi (c_X6_within _ _ _ (by first | assumption | exact hR.1 _ _ _ _ | exact ⟨by omega, by omega⟩) (by first | assumption | exact hR.1 _ _ _ _ | exact ⟨by omega, by omega⟩) (by first | assumption | exact hR.1 _ _ _ _ | exact ⟨by omega, by omega⟩)) dX6_count_4 (nx := 7) rfl kX6_within ml_X6_62 rfl rfl (Nat.le_of_ble_eq_true rfl) ⟨by decide, by decide⟩ ⟨by decide, by decide⟩ ?_
  refine v_ifB_eq dX6_count_7 (tgt := 19) (by decide) (nx := 10) rfl (fun c7 => ?_) (fun c7 => ?_)
  · refine v_iload_n 1 dX6_count_19 (nx := 20) rfl rfl ?_
    by_cases e20_8 : w = 8
    · refine v_tabIn dX6_count_20 (off := 44) (by first | assumption | exact hR.1 _ _ _ _ | exact ⟨by omega, by omega⟩) (by omega) (by omega) (by rw [e20_8]; rfl) (tgt := 64) (by decide) ?_
      refine v_aload_n 0 dX6_count_64 (nx := 65) rfl rfl ?_
      refine t_get (a := 9) (p := 0) (T := TX6) dX6_count_65 (nx := 68) rfl (by decide) (ok_m 9 rfl) rfl rfl iU6 (by decide) fl_X6_10 rfl ?_
      refine t_get (a := 7) (p := 7) (T := TX3) dX6_count_68 (nx := 71) rfl (by decide) (ok_m 7 rfl) rfl rfl iU3 (by decide) fl_X6_117 rfl ?_
      exact t_iret dX6_count_71 rfl (by first | exact cf1 (by unfold s_count fnd; (repeat (first | rewrite [if_pos (by omega)] | rewrite [if_neg (by omega)])); dsimp only; exact ⟨by omega, rfl⟩) | exact cf0 (by unfold s_count fnd; (repeat (first | rewrite [if_pos (by omega)] | rewrite [if_neg (by omega)])); dsimp only; exact ⟨by omega, rfl⟩) | (exfalso; omega))
    by_cases e20_9 : w = 9
    · refine v_tabIn dX6_count_20 (off := 52) (by first | assumption | exact hR.1 _ _ _ _ | exact ⟨by omega, by omega⟩) (by omega) (by omega) (by rw [e20_9]; rfl) (tgt := 72) (by decide) ?_
      refine v_aload_n 0 dX6_count_72 (nx := 73) rfl rfl ?_
      refine t_get (a := 9) (p := 0) (T := TX6) dX6_count_73 (nx := 76) rfl (by decide) (ok_m 9 rfl) rfl rfl iU6 (by decide) fl_X6_10 rfl ?_
      refine t_get (a := 7) (p := 4) (T := TX3) dX6_count_76 (nx := 79) rfl (by decide) (ok_m 7 rfl) rfl rfl iU3 (by decide) fl_X6_42 rfl ?_
      exact t_iret dX6_count_79 rfl (by first | exact cf1 (by unfold s_count fnd; (repeat (first | rewrite [if_pos (by omega)] | rewrite [if_neg (by omega)])); dsimp only; exact ⟨by omega, rfl⟩) | exact cf0 (by unfold s_count fnd; (repeat (first | rewrite [if_pos (by omega)] | rewrite [if_neg (by omega)])); dsimp only; exact ⟨by omega, rfl⟩) | (exfalso; omega))
    by_cases e20_10 : w = 10
    · refine v_tabIn dX6_count_20 (off := 60) (by first | assumption | exact hR.1 _ _ _ _ | exact ⟨by omega, by omega⟩) (by omega) (by omega) (by rw [e20_10]; rfl) (tgt := 80) (by decide) ?_
      refine v_aload_n 0 dX6_count_80 (nx := 81) rfl rfl ?_
      refine t_get (a := 9) (p := 0) (T := TX6) dX6_count_81 (nx := 84) rfl (by decide) (ok_m 9 rfl) rfl rfl iU6 (by decide) fl_X6_10 rfl ?_
      refine t_get (a := 7) (p := 5) (T := TX3) dX6_count_84 (nx := 87) rfl (by decide) (ok_m 7 rfl) rfl rfl iU3 (by decide) fl_X6_69 rfl ?_
      exact t_iret dX6_count_87 rfl (by first | exact cf1 (by unfold s_count fnd; (repeat (first | rewrite [if_pos (by omega)] | rewrite [if_neg (by omega)])); dsimp only; exact ⟨by omega, rfl⟩) | exact cf0 (by unfold s_count fnd; (repeat (first | rewrite [if_pos (by omega)] | rewrite [if_neg (by omega)])); dsimp only; exact ⟨by omega, rfl⟩) | (exfalso; omega))
    by_cases e20_11 : w = 11
    · refine v_tabIn dX6_count_20 (off := 68) (by first | assumption | exact hR.1 _ _ _ _ | exact ⟨by omega, by omega⟩) (by omega) (by omega) (by rw [e20_11]; rfl) (tgt := 88) (by decide) ?_
      refine v_aload_n 0 dX6_count_88 (nx := 89) rfl rfl ?_
      refine t_get (a := 9) (p := 0) (T := TX6) dX6_count_89 (nx := 92) rfl (by decide) (ok_m 9 rfl) rfl rfl iU6 (by decide) fl_X6_10 rfl ?_
      refine t_get (a := 7) (p := 6) (T := TX3) dX6_count_92 (nx := 95) rfl (by decide) (ok_m 7 rfl) rfl rfl iU3 (by decide) fl_X6_100 rfl ?_
      exact t_iret dX6_count_95 rfl (by first | exact cf1 (by unfold s_count fnd; (repeat (first | rewrite [if_pos (by omega)] | rewrite [if_neg (by omega)])); dsimp only; exact ⟨by omega, rfl⟩) | exact cf0 (by unfold s_count fnd; (repeat (first | rewrite [if_pos (by omega)] | rewrite [if_neg (by omega)])); dsimp only; exact ⟨by omega, rfl⟩) | (exfalso; omega))
    by_cases e20_12 : w = 12
    · refine v_tabIn dX6_count_20 (off := 76) (by first | assumption | exact hR.1 _ _ _ _ | exact ⟨by omega, by omega⟩) (by omega) (by omega) (by rw [e20_12]; rfl) (tgt := 96) (by decide) ?_
      have hz : cntI (fun g => decide (N (484 + g) = w)) (N 3) = 0 := cnt_none _ (fun x x0 x1 => decide_eq_false (fun q => by have := hI.g (g := x) (by omega) (by omega); have hw2 := this.2.2.2; unfold wI at hw2; omega))
      refine v_aload_n 0 dX6_count_96 (nx := 97) rfl rfl ?_
      refine t_get (a := 9) (p := 0) (T := TX6) dX6_count_97 (nx := 100) rfl (by decide) (ok_m 9 rfl) rfl rfl iU6 (by decide) fl_X6_10 rfl ?_
      refine t_callVi (a := 7) (c_X3_fallenBelts hR hI hH.n hH.b) dX6_count_100 (nx := 103) rfl kX3_fallenBelts ml_X6_214 (by decide) (ok_m 7 rfl) rfl rfl rfl rfl (Nat.le_of_ble_eq_true rfl) ⟨by decide, by decide⟩ ⟨by decide, by decide⟩ ?_
      exact t_iret dX6_count_103 rfl (by first | exact cf1 (by unfold s_count fnd; (repeat (first | rewrite [if_pos (by omega)] | rewrite [if_neg (by omega)])); dsimp only; exact ⟨by omega, rfl⟩) | exact cf0 (by unfold s_count fnd; (repeat (first | rewrite [if_pos (by omega)] | rewrite [if_neg (by omega)])); dsimp only; exact ⟨by omega, rfl⟩) | (exfalso; omega))
    by_cases e20_13 : w = 13
    · refine v_tabIn dX6_count_20 (off := 84) (by first | assumption | exact hR.1 _ _ _ _ | exact ⟨by omega, by omega⟩) (by omega) (by omega) (by rw [e20_13]; rfl) (tgt := 104) (by decide) ?_
      refine v_aload_n 0 dX6_count_104 (nx := 105) rfl rfl ?_
      refine t_get (a := 9) (p := 0) (T := TX6) dX6_count_105 (nx := 108) rfl (by decide) (ok_m 9 rfl) rfl rfl iU6 (by decide) fl_X6_10 rfl ?_
      refine t_get (a := 7) (p := 8) (T := TX3) dX6_count_108 (nx := 111) rfl (by decide) (ok_m 7 rfl) rfl rfl iU3 (by decide) fl_X6_171 rfl ?_
      exact t_iret dX6_count_111 rfl (by first | exact cf1 (by unfold s_count fnd; (repeat (first | rewrite [if_pos (by omega)] | rewrite [if_neg (by omega)])); dsimp only; exact ⟨by omega, rfl⟩) | exact cf0 (by unfold s_count fnd; (repeat (first | rewrite [if_pos (by omega)] | rewrite [if_neg (by omega)])); dsimp only; exact ⟨by omega, rfl⟩) | (exfalso; omega))
    by_cases e20_14 : w = 14
    · refine v_tabIn dX6_count_20 (off := 92) (by first | assumption | exact hR.1 _ _ _ _ | exact ⟨by omega, by omega⟩) (by omega) (by omega) (by rw [e20_14]; rfl) (tgt := 112) (by decide) ?_
      refine v_aload_n 0 dX6_count_112 (nx := 113) rfl rfl ?_
      refine t_get (a := 9) (p := 3) (T := TX6) dX6_count_113 (nx := 116) rfl (by decide) (ok_m 9 rfl) rfl rfl iU6 (by decide) fl_X6_26 rfl ?_
      exact t_iret dX6_count_116 rfl (by first | exact cf1 (by unfold s_count fnd; (repeat (first | rewrite [if_pos (by omega)] | rewrite [if_neg (by omega)])); dsimp only; exact ⟨by omega, rfl⟩) | exact cf0 (by unfold s_count fnd; (repeat (first | rewrite [if_pos (by omega)] | rewrite [if_neg (by omega)])); dsimp only; exact ⟨by omega, rfl⟩) | (exfalso; omega))
    refine v_tabOut dX6_count_20 (by first | assumption | exact hR.1 _ _ _ _ | exact ⟨by omega, by omega⟩) (by omega) (tgt := 117) (by decide) ?_
    refine v_aload_n 0 dX6_count_117 (nx := 118) rfl rfl ?_
    refine v_iconst dX6_count_118 (nx := 119) rfl ?_
    refine t_callVi (a := 9) (c_X6_finding _) dX6_count_119 (nx := 122) rfl kX6_finding ml_X6_38 (by decide) (ok_m 9 rfl) rfl rfl rfl rfl (Nat.le_of_ble_eq_true rfl) ⟨by decide, by decide⟩ ⟨by decide, by decide⟩ ?_
    exact t_iret dX6_count_122 rfl (by first | exact cf1 (by unfold s_count fnd; (repeat (first | rewrite [if_pos (by omega)] | rewrite [if_neg (by omega)])); dsimp only; exact ⟨by omega, rfl⟩) | exact cf0 (by unfold s_count fnd; (repeat (first | rewrite [if_pos (by omega)] | rewrite [if_neg (by omega)])); dsimp only; exact ⟨by omega, rfl⟩) | (exfalso; omega))
  · refine v_aload_n 0 dX6_count_10 (nx := 11) rfl rfl ?_
    refine t_get (a := 9) (p := 0) (T := TX6) dX6_count_11 (nx := 14) rfl (by decide) (ok_m 9 rfl) rfl rfl iU6 (by decide) fl_X6_10 rfl ?_
    refine v_iload_n 1 dX6_count_14 (nx := 15) rfl rfl ?_
    refine t_callVi (a := 7) (c_X3_bagsThatAre hR hI hH.n hH.g _ (by first | assumption | exact hR.1 _ _ _ _ | exact ⟨by omega, by omega⟩)) dX6_count_15 (nx := 18) rfl kX3_bagsThatAre ml_X6_211 (by decide) (ok_m 7 rfl) rfl rfl rfl rfl (Nat.le_of_ble_eq_true rfl) ⟨by decide, by decide⟩ ⟨by decide, by decide⟩ ?_
    exact t_iret dX6_count_18 rfl (by first | exact cf1 (by unfold s_count fnd; (repeat (first | rewrite [if_pos (by omega)] | rewrite [if_neg (by omega)])); dsimp only; exact ⟨by omega, rfl⟩) | exact cf0 (by unfold s_count fnd; (repeat (first | rewrite [if_pos (by omega)] | rewrite [if_neg (by omega)])); dsimp only; exact ⟨by omega, rfl⟩) | (exfalso; omega))
