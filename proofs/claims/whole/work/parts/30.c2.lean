set_option maxRecDepth 100000 in
theorem c_X3_hasPoint {g : GG} {kp : Bool} {σ : SS} (hR : RG σ) (p : Int) (hp : inR p) : XC g kp 0 mX3_hasPoint [rf g (ad 7 0 0), vi p] σ (some (vi (if 0 ≤ p ∧ p < σ 7 0 0 0 then 1 else 0))) σ := by
  refine TC.of (by decide) (Nat.le_of_ble_eq_true rfl) rfl ?_
  refine v_iload_n 1 dX3_hasPoint_0 (nx := 1) rfl rfl ?_
  refine v_if_lt dX3_hasPoint_1 (tgt := 16) (by decide) (nx := 4) rfl (by first | assumption | exact hR.1 _ _ _ _ | exact ⟨by omega, by omega⟩) (fun c1 => ?_) (fun c1 => ?_)
  · refine v_iconst dX3_hasPoint_16 (nx := 17) rfl ?_
    exact t_zret dX3_hasPoint_17 rfl (by first | exact Or.inl rfl | exact Or.inr rfl | assumption) ⟨by first | rw [if_pos (by omega)] | rw [if_neg (by omega)], rfl⟩
  · refine v_iload_n 1 dX3_hasPoint_4 (nx := 5) rfl rfl ?_
    refine v_aload_n 0 dX3_hasPoint_5 (nx := 6) rfl rfl ?_
    refine t_get (a := 7) (p := 4) (T := TX3) dX3_hasPoint_6 (nx := 9) rfl (by decide) (ok_m 7 rfl) rfl rfl iU3 (by decide) fl_X3_39 rfl ?_
    refine v_icmp_ge dX3_hasPoint_9 (tgt := 16) (by decide) (nx := 12) rfl (by first | assumption | exact hR.1 _ _ _ _ | exact ⟨by omega, by omega⟩) (by first | assumption | exact hR.1 _ _ _ _ | exact ⟨by omega, by omega⟩) (fun c9 => ?_) (fun c9 => ?_)
    · refine v_iconst dX3_hasPoint_16 (nx := 17) rfl ?_
      exact t_zret dX3_hasPoint_17 rfl (by first | exact Or.inl rfl | exact Or.inr rfl | assumption) ⟨by first | rw [if_pos (by omega)] | rw [if_neg (by omega)], rfl⟩
    · refine v_iconst dX3_hasPoint_12 (nx := 13) rfl ?_
      refine v_goto dX3_hasPoint_13 (tgt := 17) (by decide) ?_
      exact t_zret dX3_hasPoint_17 rfl (by first | exact Or.inl rfl | exact Or.inr rfl | assumption) ⟨by first | rw [if_pos (by omega)] | rw [if_neg (by omega)], rfl⟩

set_option maxRecDepth 100000 in
theorem c_X3_hasBelt {g : GG} {kp : Bool} {σ : SS} (hR : RG σ) (p : Int) (hp : inR p) : XC g kp 0 mX3_hasBelt [rf g (ad 7 0 0), vi p] σ (some (vi (if 0 ≤ p ∧ p < σ 7 0 0 1 then 1 else 0))) σ := by
  refine TC.of (by decide) (Nat.le_of_ble_eq_true rfl) rfl ?_
  refine v_iload_n 1 dX3_hasBelt_0 (nx := 1) rfl rfl ?_
  refine v_if_lt dX3_hasBelt_1 (tgt := 16) (by decide) (nx := 4) rfl (by first | assumption | exact hR.1 _ _ _ _ | exact ⟨by omega, by omega⟩) (fun c1 => ?_) (fun c1 => ?_)
  · refine v_iconst dX3_hasBelt_16 (nx := 17) rfl ?_
    exact t_zret dX3_hasBelt_17 rfl (by first | exact Or.inl rfl | exact Or.inr rfl | assumption) ⟨by first | rw [if_pos (by omega)] | rw [if_neg (by omega)], rfl⟩
  · refine v_iload_n 1 dX3_hasBelt_4 (nx := 5) rfl rfl ?_
    refine v_aload_n 0 dX3_hasBelt_5 (nx := 6) rfl rfl ?_
    refine t_get (a := 7) (p := 5) (T := TX3) dX3_hasBelt_6 (nx := 9) rfl (by decide) (ok_m 7 rfl) rfl rfl iU3 (by decide) fl_X3_43 rfl ?_
    refine v_icmp_ge dX3_hasBelt_9 (tgt := 16) (by decide) (nx := 12) rfl (by first | assumption | exact hR.1 _ _ _ _ | exact ⟨by omega, by omega⟩) (by first | assumption | exact hR.1 _ _ _ _ | exact ⟨by omega, by omega⟩) (fun c9 => ?_) (fun c9 => ?_)
    · refine v_iconst dX3_hasBelt_16 (nx := 17) rfl ?_
      exact t_zret dX3_hasBelt_17 rfl (by first | exact Or.inl rfl | exact Or.inr rfl | assumption) ⟨by first | rw [if_pos (by omega)] | rw [if_neg (by omega)], rfl⟩
    · refine v_iconst dX3_hasBelt_12 (nx := 13) rfl ?_
      refine v_goto dX3_hasBelt_13 (tgt := 17) (by decide) ?_
      exact t_zret dX3_hasBelt_17 rfl (by first | exact Or.inl rfl | exact Or.inr rfl | assumption) ⟨by first | rw [if_pos (by omega)] | rw [if_neg (by omega)], rfl⟩

set_option maxRecDepth 100000 in
theorem c_X3_hasFlight {g : GG} {kp : Bool} {σ : SS} (hR : RG σ) (p : Int) (hp : inR p) : XC g kp 0 mX3_hasFlight [rf g (ad 7 0 0), vi p] σ (some (vi (if 0 ≤ p ∧ p < σ 7 0 0 2 then 1 else 0))) σ := by
  refine TC.of (by decide) (Nat.le_of_ble_eq_true rfl) rfl ?_
  refine v_iload_n 1 dX3_hasFlight_0 (nx := 1) rfl rfl ?_
  refine v_if_lt dX3_hasFlight_1 (tgt := 16) (by decide) (nx := 4) rfl (by first | assumption | exact hR.1 _ _ _ _ | exact ⟨by omega, by omega⟩) (fun c1 => ?_) (fun c1 => ?_)
  · refine v_iconst dX3_hasFlight_16 (nx := 17) rfl ?_
    exact t_zret dX3_hasFlight_17 rfl (by first | exact Or.inl rfl | exact Or.inr rfl | assumption) ⟨by first | rw [if_pos (by omega)] | rw [if_neg (by omega)], rfl⟩
  · refine v_iload_n 1 dX3_hasFlight_4 (nx := 5) rfl rfl ?_
    refine v_aload_n 0 dX3_hasFlight_5 (nx := 6) rfl rfl ?_
    refine t_get (a := 7) (p := 6) (T := TX3) dX3_hasFlight_6 (nx := 9) rfl (by decide) (ok_m 7 rfl) rfl rfl iU3 (by decide) fl_X3_46 rfl ?_
    refine v_icmp_ge dX3_hasFlight_9 (tgt := 16) (by decide) (nx := 12) rfl (by first | assumption | exact hR.1 _ _ _ _ | exact ⟨by omega, by omega⟩) (by first | assumption | exact hR.1 _ _ _ _ | exact ⟨by omega, by omega⟩) (fun c9 => ?_) (fun c9 => ?_)
    · refine v_iconst dX3_hasFlight_16 (nx := 17) rfl ?_
      exact t_zret dX3_hasFlight_17 rfl (by first | exact Or.inl rfl | exact Or.inr rfl | assumption) ⟨by first | rw [if_pos (by omega)] | rw [if_neg (by omega)], rfl⟩
    · refine v_iconst dX3_hasFlight_12 (nx := 13) rfl ?_
      refine v_goto dX3_hasFlight_13 (tgt := 17) (by decide) ?_
      exact t_zret dX3_hasFlight_17 rfl (by first | exact Or.inl rfl | exact Or.inr rfl | assumption) ⟨by first | rw [if_pos (by omega)] | rw [if_neg (by omega)], rfl⟩

set_option maxRecDepth 100000 in
theorem c_X3_hasBag {g : GG} {kp : Bool} {σ : SS} (hR : RG σ) (p : Int) (hp : inR p) : XC g kp 0 mX3_hasBag [rf g (ad 7 0 0), vi p] σ (some (vi (if 0 ≤ p ∧ p < σ 7 0 0 3 then 1 else 0))) σ := by
  refine TC.of (by decide) (Nat.le_of_ble_eq_true rfl) rfl ?_
  refine v_iload_n 1 dX3_hasBag_0 (nx := 1) rfl rfl ?_
  refine v_if_lt dX3_hasBag_1 (tgt := 16) (by decide) (nx := 4) rfl (by first | assumption | exact hR.1 _ _ _ _ | exact ⟨by omega, by omega⟩) (fun c1 => ?_) (fun c1 => ?_)
  · refine v_iconst dX3_hasBag_16 (nx := 17) rfl ?_
    exact t_zret dX3_hasBag_17 rfl (by first | exact Or.inl rfl | exact Or.inr rfl | assumption) ⟨by first | rw [if_pos (by omega)] | rw [if_neg (by omega)], rfl⟩
  · refine v_iload_n 1 dX3_hasBag_4 (nx := 5) rfl rfl ?_
    refine v_aload_n 0 dX3_hasBag_5 (nx := 6) rfl rfl ?_
    refine t_get (a := 7) (p := 7) (T := TX3) dX3_hasBag_6 (nx := 9) rfl (by decide) (ok_m 7 rfl) rfl rfl iU3 (by decide) fl_X3_49 rfl ?_
    refine v_icmp_ge dX3_hasBag_9 (tgt := 16) (by decide) (nx := 12) rfl (by first | assumption | exact hR.1 _ _ _ _ | exact ⟨by omega, by omega⟩) (by first | assumption | exact hR.1 _ _ _ _ | exact ⟨by omega, by omega⟩) (fun c9 => ?_) (fun c9 => ?_)
    · refine v_iconst dX3_hasBag_16 (nx := 17) rfl ?_
      exact t_zret dX3_hasBag_17 rfl (by first | exact Or.inl rfl | exact Or.inr rfl | assumption) ⟨by first | rw [if_pos (by omega)] | rw [if_neg (by omega)], rfl⟩
    · refine v_iconst dX3_hasBag_12 (nx := 13) rfl ?_
      refine v_goto dX3_hasBag_13 (tgt := 17) (by decide) ?_
      exact t_zret dX3_hasBag_17 rfl (by first | exact Or.inl rfl | exact Or.inr rfl | assumption) ⟨by first | rw [if_pos (by omega)] | rw [if_neg (by omega)], rfl⟩

set_option maxRecDepth 100000 in
theorem c_X3_isOfKind {g : GG} {kp : Bool} {σ : SS} (hR : RG σ) (p kd : Int) (hp : inR p) (hk : inR kd) (h12 : σ 7 0 0 0 ≤ 12) : XC g kp 1 mX3_isOfKind [rf g (ad 7 0 0), vi p, vi kd] σ (some (vi (if (0 ≤ p ∧ p < σ 7 0 0 0) ∧ σ 0 0 p 0 = kd then 1 else 0))) σ := by
  refine TC.of (by decide) (Nat.le_of_ble_eq_true rfl) rfl ?_
  refine v_aload_n 0 dX3_isOfKind_0 (nx := 1) rfl rfl ?_
  refine v_iload_n 1 dX3_isOfKind_1 (nx := 2) rfl rfl ?_
  refine t_callVi (a := 7) (c_X3_hasPoint hR _ (by first | assumption | exact hR.1 _ _ _ _ | exact ⟨by omega, by omega⟩)) dX3_isOfKind_2 (nx := 5) rfl kX3_hasPoint ml_X3_52 (by decide) (ok_m 7 rfl) rfl rfl rfl rfl (Nat.le_of_ble_eq_true rfl) ⟨by decide, by decide⟩ ⟨by decide, by decide⟩ ?_
  refine v_ifB_eq dX3_isOfKind_5 (tgt := 25) (by decide) (nx := 8) rfl (fun c5 => ?_) (fun c5 => ?_)
  · refine v_iconst dX3_isOfKind_25 (nx := 26) rfl ?_
    exact t_zret dX3_isOfKind_26 rfl (by first | exact Or.inl rfl | exact Or.inr rfl | assumption) ⟨by first | rw [if_pos (by omega)] | rw [if_neg (by omega)], rfl⟩
  · refine v_aload_n 0 dX3_isOfKind_8 (nx := 9) rfl rfl ?_
    refine t_get (a := 7) (p := 0) (T := TX3) dX3_isOfKind_9 (nx := 12) rfl (by decide) (ok_m 7 rfl) rfl rfl iU3 (by decide) fl_X3_11 rfl ?_
    refine v_iload_n 1 dX3_isOfKind_12 (nx := 13) rfl rfl ?_
    refine t_ldP dX3_isOfKind_13 (nx := 14) rfl (ok_m 15 rfl) ⟨by omega, by omega⟩ ?_
    refine t_get (a := 0) (p := 0) (T := TX4) dX3_isOfKind_14 (nx := 17) rfl (by decide) (by first | assumption | exact ok_0 ⟨by omega, by omega⟩) rfl rfl iU4 (by decide) fl_X3_56 rfl ?_
    refine v_iload_n 2 dX3_isOfKind_17 (nx := 18) rfl rfl ?_
    refine v_icmp_ne dX3_isOfKind_18 (tgt := 25) (by decide) (nx := 21) rfl (by first | assumption | exact hR.1 _ _ _ _ | exact ⟨by omega, by omega⟩) (by first | assumption | exact hR.1 _ _ _ _ | exact ⟨by omega, by omega⟩) (fun c18 => ?_) (fun c18 => ?_)
    · refine v_iconst dX3_isOfKind_25 (nx := 26) rfl ?_
      exact t_zret dX3_isOfKind_26 rfl (by first | exact Or.inl rfl | exact Or.inr rfl | assumption) ⟨by first | rw [if_pos (by omega)] | rw [if_neg (by omega)], rfl⟩
    · refine v_iconst dX3_isOfKind_21 (nx := 22) rfl ?_
      refine v_goto dX3_isOfKind_22 (tgt := 26) (by decide) ?_
      exact t_zret dX3_isOfKind_26 rfl (by first | exact Or.inl rfl | exact Or.inr rfl | assumption) ⟨by first | rw [if_pos (by omega)] | rw [if_neg (by omega)], rfl⟩

set_option maxRecDepth 100000 in
theorem c_X3_queue {g : GG} {kp : Bool} {σ : SS} (hR : RG σ) (b dk db : Int) (hb : 0 ≤ b ∧ b < σ 7 0 0 3) (hd : 0 ≤ dk ∧ dk < σ 7 0 0 0) (h60 : σ 7 0 0 3 ≤ 60) (h12 : σ 7 0 0 0 ≤ 12) (hdb : db = 0 ∨ db = 1) (hs : 0 ≤ σ 0 0 dk 4 ∧ σ 0 0 dk 4 < 60) : XC g kp 1 mX3_queue [rf g (ad 7 0 0), vi b, vi dk, vi db] σ none (up (up (up (up (up σ 5 0 b 1 db) 5 0 b 2 0) 5 0 b 3 dk) 1 0 dk (σ 0 0 dk 4) b) 0 0 dk 4 (σ 0 0 dk 4 + 1)) := by
  refine TC.of (by decide) (Nat.le_of_ble_eq_true rfl) rfl ?_
  refine v_aload_n 0 dX3_queue_0 (nx := 1) rfl rfl ?_
  refine v_iload_n 1 dX3_queue_1 (nx := 2) rfl rfl ?_
  refine t_callVi (a := 7) (c_X3_hasBag hR _ (by first | assumption | exact hR.1 _ _ _ _ | exact ⟨by omega, by omega⟩)) dX3_queue_2 (nx := 5) rfl kX3_hasBag ml_X3_59 (by decide) (ok_m 7 rfl) rfl rfl rfl rfl (Nat.le_of_ble_eq_true rfl) ⟨by decide, by decide⟩ ⟨by decide, by decide⟩ ?_
  refine v_ifB_eq dX3_queue_5 (tgt := 47) (by decide) (nx := 8) rfl (fun c5 => ?_) (fun c5 => ?_)
  · exact t_ret dX3_queue_47 rfl (by first | exact ⟨rfl, rfl⟩ | (exfalso; omega))
  · refine v_aload_n 0 dX3_queue_8 (nx := 9) rfl rfl ?_
    refine v_iload_n 2 dX3_queue_9 (nx := 10) rfl rfl ?_
    refine t_callVi (a := 7) (c_X3_hasPoint hR _ (by first | assumption | exact hR.1 _ _ _ _ | exact ⟨by omega, by omega⟩)) dX3_queue_10 (nx := 13) rfl kX3_hasPoint ml_X3_52 (by decide) (ok_m 7 rfl) rfl rfl rfl rfl (Nat.le_of_ble_eq_true rfl) ⟨by decide, by decide⟩ ⟨by decide, by decide⟩ ?_
    refine v_ifB_eq dX3_queue_13 (tgt := 47) (by decide) (nx := 16) rfl (fun c13 => ?_) (fun c13 => ?_)
    · exact t_ret dX3_queue_47 rfl (by first | exact ⟨rfl, rfl⟩ | (exfalso; omega))
    · refine v_aload_n 0 dX3_queue_16 (nx := 17) rfl rfl ?_
      refine t_get (a := 7) (p := 3) (T := TX3) dX3_queue_17 (nx := 20) rfl (by decide) (ok_m 7 rfl) rfl rfl iU3 (by decide) fl_X3_31 rfl ?_
      refine v_iload_n 1 dX3_queue_20 (nx := 21) rfl rfl ?_
      refine t_ldG dX3_queue_21 (nx := 22) rfl (ok_m 18 rfl) ⟨by omega, by omega⟩ ?_
      refine v_iload_n 3 dX3_queue_22 (nx := 23) rfl rfl ?_
      refine t_put (a := 5) (j := 1) (p := 1) (T := TX0) dX3_queue_23 (nx := 26) rfl (by decide) (by first | assumption | exact ok_5 ⟨by omega, by omega⟩) rfl rfl iU0 tyX0 tyX0_ok nmX0 (by decide) fl_X3_62 rfl (Or.inr ⟨rfl, by first | assumption | exact Or.inl rfl | exact Or.inr rfl | omega⟩) (Nat.le_of_ble_eq_true rfl) (by rfl) ?_
      refine v_aload_n 0 dX3_queue_26 (nx := 27) rfl rfl ?_
      refine t_get (a := 7) (p := 3) (T := TX3) dX3_queue_27 (nx := 30) rfl (by decide) (ok_m 7 rfl) rfl rfl iU3 (by decide) fl_X3_31 rfl ?_
      refine v_iload_n 1 dX3_queue_30 (nx := 31) rfl rfl ?_
      refine t_ldG dX3_queue_31 (nx := 32) rfl (ok_m 18 rfl) ⟨by omega, by omega⟩ ?_
      refine v_iconst dX3_queue_32 (nx := 33) rfl ?_
      refine v_iload_n 2 dX3_queue_33 (nx := 34) rfl rfl ?_
      refine t_callVv (a := 5) (c_X0_put _ (by omega) _ _) dX3_queue_34 (nx := 37) rfl kX0_put ml_X3_66 (by decide) (by first | assumption | exact ok_5 ⟨by omega, by omega⟩) rfl rfl rfl rfl (Nat.le_of_ble_eq_true rfl) ⟨by decide, by decide⟩ ⟨by decide, by decide⟩ ?_
      refine v_aload_n 0 dX3_queue_37 (nx := 38) rfl rfl ?_
      refine t_get (a := 7) (p := 0) (T := TX3) dX3_queue_38 (nx := 41) rfl (by decide) (ok_m 7 rfl) rfl rfl iU3 (by decide) fl_X3_11 rfl ?_
      refine v_iload_n 2 dX3_queue_41 (nx := 42) rfl rfl ?_
      refine t_ldP dX3_queue_42 (nx := 43) rfl (ok_m 15 rfl) ⟨by omega, by omega⟩ ?_
      refine v_iload_n 1 dX3_queue_43 (nx := 44) rfl rfl ?_
      refine t_callVv (a := 0) (c_X4_join (RG_up (RG_up (RG_up hR ⟨by omega, by omega⟩) ⟨by decide, by decide⟩) ⟨by omega, by omega⟩) _ (by omega) _ hs) dX3_queue_44 (nx := 47) rfl kX4_join ml_X3_70 (by decide) (by first | assumption | exact ok_0 ⟨by omega, by omega⟩) rfl rfl rfl rfl (Nat.le_of_ble_eq_true rfl) ⟨by decide, by decide⟩ ⟨by decide, by decide⟩ ?_
      exact t_ret dX3_queue_47 rfl (by first | exact ⟨rfl, rfl⟩ | (exfalso; omega))

/-- a bag out of its cell or its row -/
def outC (σ : SS) (b : Int) : SS := (if fstI (fun j => decide (σ 3 0 (σ 5 0 b 3) j = b)) 0 (σ 2 0 (σ 5 0 b 3) 2) = -1 then σ else up σ 3 0 (σ 5 0 b 3) (fstI (fun j => decide (σ 3 0 (σ 5 0 b 3) j = b)) 0 (σ 2 0 (σ 5 0 b 3) 2)) (-1))
def outP (σ : SS) (b : Int) : SS := (if fstI (fun j => decide (σ 1 0 (σ 5 0 b 3) j = b)) 0 (σ 0 0 (σ 5 0 b 3) 4) = -1 then σ else up (sK σ 1 (σ 5 0 b 3) (shf (σ 1 0 (σ 5 0 b 3)) (fstI (fun j => decide (σ 1 0 (σ 5 0 b 3) j = b)) 0 (σ 0 0 (σ 5 0 b 3) 4)) (σ 0 0 (σ 5 0 b 3) 4 - 1))) 0 0 (σ 5 0 b 3) 4 (σ 0 0 (σ 5 0 b 3) 4 - 1))
def liftS (σ : SS) (b : Int) : SS := up (up (if σ 5 0 b 2 = 1 then outC σ b else outP σ b) 5 0 b 2 4) 5 0 b 3 (-100)

set_option maxRecDepth 100000 in
theorem c_X3_lift {g : GG} {kp : Bool} {σ : SS} (hR : RG σ) (b : Int) (hb : 0 ≤ b ∧ b < σ 7 0 0 3) (h60 : σ 7 0 0 3 ≤ 60) (h12 : σ 7 0 0 0 ≤ 12) (h16 : σ 7 0 0 1 ≤ 16) (h1 : σ 5 0 b 2 = 1 → (0 ≤ σ 5 0 b 3 ∧ σ 5 0 b 3 < σ 7 0 0 1) ∧ 0 ≤ σ 2 0 (σ 5 0 b 3) 2 ∧ σ 2 0 (σ 5 0 b 3) 2 ≤ 12) (h2 : σ 5 0 b 2 ≠ 1 → (0 ≤ σ 5 0 b 3 ∧ σ 5 0 b 3 < σ 7 0 0 0) ∧ 0 ≤ σ 0 0 (σ 5 0 b 3) 4 ∧ σ 0 0 (σ 5 0 b 3) 4 ≤ 60) : XC g kp 2 mX3_lift [rf g (ad 7 0 0), vi b] σ none (liftS σ b) := by
  refine TC.of (by decide) (Nat.le_of_ble_eq_true rfl) rfl ?_
  refine v_aload_n 0 dX3_lift_0 (nx := 1) rfl rfl ?_
  refine v_iload_n 1 dX3_lift_1 (nx := 2) rfl rfl ?_
  refine t_callVi (a := 7) (c_X3_hasBag hR _ (by first | assumption | exact hR.1 _ _ _ _ | exact ⟨by omega, by omega⟩)) dX3_lift_2 (nx := 5) rfl kX3_hasBag ml_X3_59 (by decide) (ok_m 7 rfl) rfl rfl rfl rfl (Nat.le_of_ble_eq_true rfl) ⟨by decide, by decide⟩ ⟨by decide, by decide⟩ ?_
  refine v_ifB_ne dX3_lift_5 (tgt := 9) (by decide) (nx := 8) rfl (fun c5 => ?_) (fun c5 => ?_)
  · refine v_aload_n 0 dX3_lift_9 (nx := 10) rfl rfl ?_
    refine t_get (a := 7) (p := 3) (T := TX3) dX3_lift_10 (nx := 13) rfl (by decide) (ok_m 7 rfl) rfl rfl iU3 (by decide) fl_X3_31 rfl ?_
    refine v_iload_n 1 dX3_lift_13 (nx := 14) rfl rfl ?_
    refine t_ldG dX3_lift_14 (nx := 15) rfl (ok_m 18 rfl) ⟨by omega, by omega⟩ ?_
    refine v_astore_n dX3_lift_15 (nx := 16) rfl rfl (by decide) ?_
    refine v_aload_n 2 dX3_lift_16 (nx := 17) rfl rfl ?_
    refine t_get (a := 5) (p := 2) (T := TX0) dX3_lift_17 (nx := 20) rfl (by decide) (by first | assumption | exact ok_5 ⟨by omega, by omega⟩) rfl rfl iU0 (by decide) fl_X3_74 rfl ?_
    refine v_iconst dX3_lift_20 (nx := 21) rfl ?_
    refine v_icmp_ne dX3_lift_21 (tgt := 51) (by decide) (nx := 24) rfl (by first | assumption | exact hR.1 _ _ _ _ | exact ⟨by omega, by omega⟩) (by first | assumption | exact hR.1 _ _ _ _ | exact ⟨by omega, by omega⟩) (fun c21 => ?_) (fun c21 => ?_)
    · have hh2 := h2 (by omega)
      refine v_aload_n 0 dX3_lift_51 (nx := 52) rfl rfl ?_
      refine v_aload_n 2 dX3_lift_52 (nx := 53) rfl rfl ?_
      refine t_get (a := 5) (p := 3) (T := TX0) dX3_lift_53 (nx := 56) rfl (by decide) (by first | assumption | exact ok_5 ⟨by omega, by omega⟩) rfl rfl iU0 (by decide) fl_X3_77 rfl ?_
      refine t_callVi (a := 7) (c_X3_hasPoint hR _ (by first | assumption | exact hR.1 _ _ _ _ | exact ⟨by omega, by omega⟩)) dX3_lift_56 (nx := 59) rfl kX3_hasPoint ml_X3_52 (by decide) (ok_m 7 rfl) rfl rfl rfl rfl (Nat.le_of_ble_eq_true rfl) ⟨by decide, by decide⟩ ⟨by decide, by decide⟩ ?_
      refine v_ifB_eq dX3_lift_59 (tgt := 75) (by decide) (nx := 62) rfl (fun c59 => ?_) (fun c59 => ?_)
      · refine v_aload_n 2 dX3_lift_75 (nx := 76) rfl rfl ?_
        refine v_iconst dX3_lift_76 (nx := 77) rfl ?_
        refine v_bipush dX3_lift_77 (nx := 79) rfl rfl ?_
        refine t_callVv (a := 5) (c_X0_put _ (by omega) _ _) dX3_lift_79 (nx := 82) rfl kX0_put ml_X3_66 (by decide) (by first | assumption | exact ok_5 ⟨by omega, by omega⟩) rfl rfl rfl rfl (Nat.le_of_ble_eq_true rfl) ⟨by decide, by decide⟩ ⟨by decide, by decide⟩ ?_
        exact t_ret dX3_lift_82 rfl (by first | (exfalso; omega) | exact ⟨rfl, by unfold liftS outC; rw [if_pos c21]⟩ | exact ⟨rfl, by unfold liftS outP; rw [if_neg c21]⟩)
      · refine v_aload_n 0 dX3_lift_62 (nx := 63) rfl rfl ?_
        refine t_get (a := 7) (p := 0) (T := TX3) dX3_lift_63 (nx := 66) rfl (by decide) (ok_m 7 rfl) rfl rfl iU3 (by decide) fl_X3_11 rfl ?_
        refine v_aload_n 2 dX3_lift_66 (nx := 67) rfl rfl ?_
        refine t_get (a := 5) (p := 3) (T := TX0) dX3_lift_67 (nx := 70) rfl (by decide) (by first | assumption | exact ok_5 ⟨by omega, by omega⟩) rfl rfl iU0 (by decide) fl_X3_77 rfl ?_
        refine t_ldP dX3_lift_70 (nx := 71) rfl (ok_m 15 rfl) ⟨by omega, by omega⟩ ?_
        refine v_iload_n 1 dX3_lift_71 (nx := 72) rfl rfl ?_
        refine t_callVv (a := 0) (c_X4_leave hR _ (by omega) _ (by exact ⟨by omega, by omega⟩) hh2.2) dX3_lift_72 (nx := 75) rfl kX4_leave ml_X3_86 (by decide) (by first | assumption | exact ok_0 ⟨by omega, by omega⟩) rfl rfl rfl rfl (Nat.le_of_ble_eq_true rfl) ⟨by decide, by decide⟩ ⟨by decide, by decide⟩ ?_
        refine v_aload_n 2 dX3_lift_75 (nx := 76) rfl rfl ?_
        refine v_iconst dX3_lift_76 (nx := 77) rfl ?_
        refine v_bipush dX3_lift_77 (nx := 79) rfl rfl ?_
        refine t_callVv (a := 5) (c_X0_put _ (by omega) _ _) dX3_lift_79 (nx := 82) rfl kX0_put ml_X3_66 (by decide) (by first | assumption | exact ok_5 ⟨by omega, by omega⟩) rfl rfl rfl rfl (Nat.le_of_ble_eq_true rfl) ⟨by decide, by decide⟩ ⟨by decide, by decide⟩ ?_
        exact t_ret dX3_lift_82 rfl (by first | (exfalso; omega) | exact ⟨rfl, by unfold liftS outC; rw [if_pos c21]⟩ | exact ⟨rfl, by unfold liftS outP; rw [if_neg c21]⟩)
    · have hh1 := h1 (by omega)
      refine v_aload_n 0 dX3_lift_24 (nx := 25) rfl rfl ?_
      refine v_aload_n 2 dX3_lift_25 (nx := 26) rfl rfl ?_
      refine t_get (a := 5) (p := 3) (T := TX0) dX3_lift_26 (nx := 29) rfl (by decide) (by first | assumption | exact ok_5 ⟨by omega, by omega⟩) rfl rfl iU0 (by decide) fl_X3_77 rfl ?_
      refine t_callVi (a := 7) (c_X3_hasBelt hR _ (by first | assumption | exact hR.1 _ _ _ _ | exact ⟨by omega, by omega⟩)) dX3_lift_29 (nx := 32) rfl kX3_hasBelt ml_X3_80 (by decide) (ok_m 7 rfl) rfl rfl rfl rfl (Nat.le_of_ble_eq_true rfl) ⟨by decide, by decide⟩ ⟨by decide, by decide⟩ ?_
      refine v_ifB_eq dX3_lift_32 (tgt := 75) (by decide) (nx := 35) rfl (fun c32 => ?_) (fun c32 => ?_)
      · refine v_aload_n 2 dX3_lift_75 (nx := 76) rfl rfl ?_
        refine v_iconst dX3_lift_76 (nx := 77) rfl ?_
        refine v_bipush dX3_lift_77 (nx := 79) rfl rfl ?_
        refine t_callVv (a := 5) (c_X0_put _ (by omega) _ _) dX3_lift_79 (nx := 82) rfl kX0_put ml_X3_66 (by decide) (by first | assumption | exact ok_5 ⟨by omega, by omega⟩) rfl rfl rfl rfl (Nat.le_of_ble_eq_true rfl) ⟨by decide, by decide⟩ ⟨by decide, by decide⟩ ?_
        exact t_ret dX3_lift_82 rfl (by first | (exfalso; omega) | exact ⟨rfl, by unfold liftS outC; rw [if_pos c21]⟩ | exact ⟨rfl, by unfold liftS outP; rw [if_neg c21]⟩)
      · refine v_aload_n 0 dX3_lift_35 (nx := 36) rfl rfl ?_
        refine t_get (a := 7) (p := 1) (T := TX3) dX3_lift_36 (nx := 39) rfl (by decide) (ok_m 7 rfl) rfl rfl iU3 (by decide) fl_X3_19 rfl ?_
        refine v_aload_n 2 dX3_lift_39 (nx := 40) rfl rfl ?_
        refine t_get (a := 5) (p := 3) (T := TX0) dX3_lift_40 (nx := 43) rfl (by decide) (by first | assumption | exact ok_5 ⟨by omega, by omega⟩) rfl rfl iU0 (by decide) fl_X3_77 rfl ?_
        refine t_ldB dX3_lift_43 (nx := 44) rfl (ok_m 16 rfl) ⟨by omega, by omega⟩ ?_
        refine v_iload_n 1 dX3_lift_44 (nx := 45) rfl rfl ?_
        refine t_callVv (a := 2) (c_X1_leave hR _ (by omega) _ (by exact ⟨by omega, by omega⟩) hh1.2) dX3_lift_45 (nx := 48) rfl kX1_leave ml_X3_83 (by decide) (by first | assumption | exact ok_2 ⟨by omega, by omega⟩) rfl rfl rfl rfl (Nat.le_of_ble_eq_true rfl) ⟨by decide, by decide⟩ ⟨by decide, by decide⟩ ?_
        refine v_goto dX3_lift_48 (tgt := 75) (by decide) ?_
        refine v_aload_n 2 dX3_lift_75 (nx := 76) rfl rfl ?_
        refine v_iconst dX3_lift_76 (nx := 77) rfl ?_
        refine v_bipush dX3_lift_77 (nx := 79) rfl rfl ?_
        refine t_callVv (a := 5) (c_X0_put _ (by omega) _ _) dX3_lift_79 (nx := 82) rfl kX0_put ml_X3_66 (by decide) (by first | assumption | exact ok_5 ⟨by omega, by omega⟩) rfl rfl rfl rfl (Nat.le_of_ble_eq_true rfl) ⟨by decide, by decide⟩ ⟨by decide, by decide⟩ ?_
        exact t_ret dX3_lift_82 rfl (by first | (exfalso; omega) | exact ⟨rfl, by unfold liftS outC; rw [if_pos c21]⟩ | exact ⟨rfl, by unfold liftS outP; rw [if_neg c21]⟩)
  · exact t_ret dX3_lift_8 rfl (by first | (exfalso; omega) | exact ⟨rfl, by unfold liftS outC; rw [if_pos c21]⟩ | exact ⟨rfl, by unfold liftS outP; rw [if_neg c21]⟩)

set_option maxRecDepth 100000 in
theorem l_X3_inletsOf {g : GG} {kp : Bool} {σ : SS} (hR : RG σ) {N : NN} {kk : Int} (hI : IV N kk) (hN : RHn σ 0 N) (hB : RHb σ 0 N) (p : Int) (hp : inR p) : ∀ (m : Nat) (x : Int) (c : Int), (0 ≤ x ∧ x ≤ N 1) → (N 1 - x < m) → (c = cntI (inl N p) x) → V g (rmD 0 0 0) mX3_inletsOf (ZT g kp (fun r τ => r = (some (vi (cntI (inl N p) (N 1)))) ∧ τ = σ)) E0 4 [(0, rf g (ad 7 0 0)), (1, vi p), (2, vi c), (3, vi x)] [] (vw g kp σ) (sz kp) 0 0 := by
  intro m
  induction m with
  | zero => intro x c hx hm hc; exfalso; omega
  | succ m ih =>
    intro x c hx hm hc
    obtain ⟨b0, b1, b2, b3, b4, b5⟩ := hI.n
    obtain ⟨n0, n1, n2, n3, n4⟩ := hN
    have hcb := cntI_b (P := inl N p) hx.1
    rw [← hc] at hcb
    refine v_iload_n 3 dX3_inletsOf_4 (nx := 5) rfl rfl ?_
    refine v_aload_n 0 dX3_inletsOf_5 (nx := 6) rfl rfl ?_
    refine t_get (a := 7) (p := 5) (T := TX3) dX3_inletsOf_6 (nx := 9) rfl (by decide) (ok_m 7 rfl) rfl rfl iU3 (by decide) fl_X3_43 rfl ?_
    refine v_icmp_ge dX3_inletsOf_9 (tgt := 34) (by decide) (nx := 12) rfl (by first | assumption | exact hR.1 _ _ _ _ | exact ⟨by omega, by omega⟩) (by first | assumption | exact hR.1 _ _ _ _ | exact ⟨by omega, by omega⟩) (fun c9 => ?_) (fun c9 => ?_)
    · refine v_iload_n 2 dX3_inletsOf_34 (nx := 35) rfl rfl ?_
      exact t_iret dX3_inletsOf_35 rfl ⟨by rw [hc, show x = N 1 by omega], rfl⟩
    · obtain ⟨e0, e1, e2, e3, e4⟩ := hB x (by omega) (by omega)
      refine v_aload_n 0 dX3_inletsOf_12 (nx := 13) rfl rfl ?_
      refine t_get (a := 7) (p := 1) (T := TX3) dX3_inletsOf_13 (nx := 16) rfl (by decide) (ok_m 7 rfl) rfl rfl iU3 (by decide) fl_X3_19 rfl ?_
      refine v_iload_n 3 dX3_inletsOf_16 (nx := 17) rfl rfl ?_
      refine t_ldB dX3_inletsOf_17 (nx := 18) rfl (ok_m 16 rfl) ⟨by omega, by omega⟩ ?_
      refine t_get (a := 2) (p := 1) (T := TX1) dX3_inletsOf_18 (nx := 21) rfl (by decide) (by first | assumption | exact ok_2 ⟨by omega, by omega⟩) rfl rfl iU1 (by decide) fl_X3_87 rfl ?_
      refine v_iload_n 1 dX3_inletsOf_21 (nx := 22) rfl rfl ?_
      refine v_icmp_ne dX3_inletsOf_22 (tgt := 28) (by decide) (nx := 25) rfl (by first | assumption | exact hR.1 _ _ _ _ | exact ⟨by omega, by omega⟩) (by first | assumption | exact hR.1 _ _ _ _ | exact ⟨by omega, by omega⟩) (fun c22 => ?_) (fun c22 => ?_)
      · refine v_iinc 3 dX3_inletsOf_28 (nx := 31) rfl rfl rfl (by decide) ?_
        refine v_goto dX3_inletsOf_31 (tgt := 4) (by decide) ?_
        exact ih _ _ ⟨by omega, by omega⟩ (by omega) (by first | exact cn_t hc hx.1 (decide_eq_true (by omega)) | exact cn_f hc hx.1 (decide_eq_false (by omega)) | exact cn_n hc hx.1 (decide_eq_false (by omega)))
      · refine v_iinc 2 dX3_inletsOf_25 (nx := 28) rfl rfl rfl (by decide) ?_
        refine v_iinc 3 dX3_inletsOf_28 (nx := 31) rfl rfl rfl (by decide) ?_
        refine v_goto dX3_inletsOf_31 (tgt := 4) (by decide) ?_
        exact ih _ _ ⟨by omega, by omega⟩ (by omega) (by first | exact cn_t hc hx.1 (decide_eq_true (by omega)) | exact cn_f hc hx.1 (decide_eq_false (by omega)) | exact cn_n hc hx.1 (decide_eq_false (by omega)))

set_option maxRecDepth 100000 in
theorem c_X3_inletsOf {g : GG} {kp : Bool} {σ : SS} (hR : RG σ) {N : NN} {kk : Int} (hI : IV N kk) (hN : RHn σ 0 N) (hB : RHb σ 0 N) (p : Int) (hp : inR p) : XC g kp 0 mX3_inletsOf [rf g (ad 7 0 0), vi p] σ (some (vi (cntI (inl N p) (N 1)))) σ := by
  refine TC.of (by decide) (Nat.le_of_ble_eq_true rfl) rfl ?_
  obtain ⟨b0, b1, b2, b3, b4, b5⟩ := hI.n
  refine v_iconst dX3_inletsOf_0 (nx := 1) rfl ?_
  refine v_istore_n dX3_inletsOf_1 (nx := 2) rfl rfl (by decide) ?_
  refine v_iconst dX3_inletsOf_2 (nx := 3) rfl ?_
  refine v_istore_n dX3_inletsOf_3 (nx := 4) rfl rfl (by decide) ?_
  exact l_X3_inletsOf hR hI hN hB p hp (N 1 + 1).toNat 0 0 ⟨by omega, by omega⟩ (by omega) cntI_0.symm

set_option maxRecDepth 100000 in
theorem l_X3_inletBehind {g : GG} {kp : Bool} {σ : SS} (hR : RG σ) {N : NN} {kk : Int} (hI : IV N kk) (hN : RHn σ 0 N) (hB : RHb σ 0 N) (b p : Int) (hb : -1 ≤ b ∧ b < N 1) (hp : inR p) : ∀ (m : Nat) (x : Int) (c : Int), (0 ≤ x ∧ x ≤ N 1) → (N 1 - x < m) → (∀ y, b + 1 ≤ y → y < x → inl N p y = false) → (isF (inl N p) 0 x c) → V g (rmD 0 0 0) mX3_inletBehind (ZT g kp (fun r τ => r = (some (vi (nxtI N p b))) ∧ τ = σ)) E0 5 [(0, rf g (ad 7 0 0)), (1, vi b), (2, vi p), (3, vi c), (4, vi x)] [] (vw g kp σ) (sz kp) 0 0 := by
  intro m
  induction m with
  | zero => intro x c hx hm hn hc; exfalso; omega
  | succ m ih =>
    intro x c hx hm hn hc
    obtain ⟨b0, b1, b2, b3, b4, b5⟩ := hI.n
    obtain ⟨n0, n1, n2, n3, n4⟩ := hN
    have hcb : c = -1 ∨ (0 ≤ c ∧ c < x) := by
      rcases hc with h | h
      · exact Or.inl h.1
      · exact Or.inr ⟨h.1, h.2.1⟩
    refine v_iload 4 dX3_inletBehind_5 (nx := 7) rfl rfl ?_
    refine v_aload_n 0 dX3_inletBehind_7 (nx := 8) rfl rfl ?_
    refine t_get (a := 7) (p := 5) (T := TX3) dX3_inletBehind_8 (nx := 11) rfl (by decide) (ok_m 7 rfl) rfl rfl iU3 (by decide) fl_X3_43 rfl ?_
    refine v_icmp_ge dX3_inletBehind_11 (tgt := 51) (by decide) (nx := 14) rfl (by first | assumption | exact hR.1 _ _ _ _ | exact ⟨by omega, by omega⟩) (by first | assumption | exact hR.1 _ _ _ _ | exact ⟨by omega, by omega⟩) (fun c11 => ?_) (fun c11 => ?_)
    · refine v_iload_n 3 dX3_inletBehind_51 (nx := 52) rfl rfl ?_
      exact t_iret dX3_inletBehind_52 rfl ⟨by unfold nxtI; rw [← show -1 = fstI (inl N p) (b + 1) (N 1) from fstI_eq (by omega) (by omega) (Or.inl ⟨rfl, fun y y0 y1 => hn y y0 (by omega)⟩), if_neg (by omega), ← show c = fstI (inl N p) 0 (N 1) from fstI_eq (by omega) (by omega) (by rw [show N 1 = x by omega]; exact hc)], rfl⟩
    · obtain ⟨e0, e1, e2, e3, e4⟩ := hB x (by omega) (by omega)
      refine v_aload_n 0 dX3_inletBehind_14 (nx := 15) rfl rfl ?_
      refine t_get (a := 7) (p := 1) (T := TX3) dX3_inletBehind_15 (nx := 18) rfl (by decide) (ok_m 7 rfl) rfl rfl iU3 (by decide) fl_X3_19 rfl ?_
      refine v_iload 4 dX3_inletBehind_18 (nx := 20) rfl rfl ?_
      refine t_ldB dX3_inletBehind_20 (nx := 21) rfl (ok_m 16 rfl) ⟨by omega, by omega⟩ ?_
      refine t_get (a := 2) (p := 1) (T := TX1) dX3_inletBehind_21 (nx := 24) rfl (by decide) (by first | assumption | exact ok_2 ⟨by omega, by omega⟩) rfl rfl iU1 (by decide) fl_X3_87 rfl ?_
      refine v_iload_n 2 dX3_inletBehind_24 (nx := 25) rfl rfl ?_
      refine v_icmp_ne dX3_inletBehind_25 (tgt := 45) (by decide) (nx := 28) rfl (by first | assumption | exact hR.1 _ _ _ _ | exact ⟨by omega, by omega⟩) (by first | assumption | exact hR.1 _ _ _ _ | exact ⟨by omega, by omega⟩) (fun c25 => ?_) (fun c25 => ?_)
      · refine v_iinc 4 dX3_inletBehind_45 (nx := 48) rfl rfl rfl (by decide) ?_
        refine v_goto dX3_inletBehind_48 (tgt := 5) (by decide) ?_
        exact (ih _ _ ⟨by omega, by omega⟩ (by omega) (fun y y0 y1 => by
    by_cases e : y = x
    · subst e; first | exact decide_eq_false (by omega) | (exfalso; omega)
    · exact hn y y0 (by omega)) (by
    have hf : inl N p x = false := decide_eq_false (by omega)
    rcases hc with ⟨h1, h2⟩ | ⟨h1, h2, h3, h4⟩
    · exact Or.inl ⟨h1, fun y y0 y1 => by
        by_cases e : y = x
        · rw [e]; exact hf
        · exact h2 y y0 (by omega)⟩
    · exact Or.inr ⟨h1, by omega, h3, h4⟩))
      · refine v_iload 4 dX3_inletBehind_28 (nx := 30) rfl rfl ?_
        refine v_iload_n 1 dX3_inletBehind_30 (nx := 31) rfl rfl ?_
        refine v_icmp_le dX3_inletBehind_31 (tgt := 37) (by decide) (nx := 34) rfl (by first | assumption | exact hR.1 _ _ _ _ | exact ⟨by omega, by omega⟩) (by first | assumption | exact hR.1 _ _ _ _ | exact ⟨by omega, by omega⟩) (fun c31 => ?_) (fun c31 => ?_)
        · refine v_iload_n 3 dX3_inletBehind_37 (nx := 38) rfl rfl ?_
          refine v_iconst dX3_inletBehind_38 (nx := 39) rfl ?_
          refine v_icmp_ne dX3_inletBehind_39 (tgt := 45) (by decide) (nx := 42) rfl (by first | assumption | exact hR.1 _ _ _ _ | exact ⟨by omega, by omega⟩) (by first | assumption | exact hR.1 _ _ _ _ | exact ⟨by omega, by omega⟩) (fun c39 => ?_) (fun c39 => ?_)
          · refine v_iinc 4 dX3_inletBehind_45 (nx := 48) rfl rfl rfl (by decide) ?_
            refine v_goto dX3_inletBehind_48 (tgt := 5) (by decide) ?_
            exact (ih _ _ ⟨by omega, by omega⟩ (by omega) (fun y y0 y1 => by
    by_cases e : y = x
    · subst e; first | exact decide_eq_false (by omega) | (exfalso; omega)
    · exact hn y y0 (by omega)) (by
    rcases hc with ⟨h1, h2⟩ | ⟨h1, h2, h3, h4⟩
    · exfalso; omega
    · exact Or.inr ⟨h1, by omega, h3, h4⟩))
          · refine v_iload 4 dX3_inletBehind_42 (nx := 44) rfl rfl ?_
            refine v_istore_n dX3_inletBehind_44 (nx := 45) rfl rfl (by decide) ?_
            refine v_iinc 4 dX3_inletBehind_45 (nx := 48) rfl rfl rfl (by decide) ?_
            refine v_goto dX3_inletBehind_48 (tgt := 5) (by decide) ?_
            exact (ih _ _ ⟨by omega, by omega⟩ (by omega) (fun y y0 y1 => by
    by_cases e : y = x
    · subst e; first | exact decide_eq_false (by omega) | (exfalso; omega)
    · exact hn y y0 (by omega)) (by
    rcases hc with ⟨h1, h2⟩ | ⟨h1, h2, h3, h4⟩
    · exact Or.inr ⟨by omega, by omega, decide_eq_true (by omega), h2⟩
    · exfalso; omega))
        · refine v_iload 4 dX3_inletBehind_34 (nx := 36) rfl rfl ?_
          exact t_iret dX3_inletBehind_36 rfl ⟨by unfold nxtI; rw [← show x = fstI (inl N p) (b + 1) (N 1) from fstI_eq (by omega) (by omega) (Or.inr ⟨by omega, by omega, decide_eq_true (by omega), hn⟩), if_pos (by omega)], rfl⟩

set_option maxRecDepth 100000 in
theorem c_X3_inletBehind {g : GG} {kp : Bool} {σ : SS} (hR : RG σ) {N : NN} {kk : Int} (hI : IV N kk) (hN : RHn σ 0 N) (hB : RHb σ 0 N) (b p : Int) (hb : -1 ≤ b ∧ b < N 1) (hp : inR p) : XC g kp 0 mX3_inletBehind [rf g (ad 7 0 0), vi b, vi p] σ (some (vi (nxtI N p b))) σ := by
  refine TC.of (by decide) (Nat.le_of_ble_eq_true rfl) rfl ?_
  obtain ⟨b0, b1, b2, b3, b4, b5⟩ := hI.n
  refine v_iconst dX3_inletBehind_0 (nx := 1) rfl ?_
  refine v_istore_n dX3_inletBehind_1 (nx := 2) rfl rfl (by decide) ?_
  refine v_iconst dX3_inletBehind_2 (nx := 3) rfl ?_
  refine v_istore dX3_inletBehind_3 (nx := 5) rfl rfl (by decide) ?_
  exact (l_X3_inletBehind hR hI hN hB b p hb hp (N 1 + 1).toNat 0 (-1) ⟨by omega, by omega⟩ (by omega) (fun y y0 y1 => by omega) (Or.inl ⟨rfl, fun y y0 y1 => by omega⟩))

set_option maxRecDepth 100000 in
theorem l_X3_lso {g : GG} {kp : Bool} {σ : SS} (hR : RG σ) {N : NN} {kk : Int} (hI : IV N kk) (hN : RHn σ 0 N) (hB : RHb σ 0 N) (p : Int) (hp : inR p) : ∀ (m : Nat) (x : Int), (0 ≤ x ∧ x ≤ N 1) → (N 1 - x < m) → (∀ y, 0 ≤ y → y < x → (fun y => decide (N (68 + y) = p ∧ N (116 + y) = 0)) y = false) → V g (rmD 0 0 0) mX3_lowestSoundOutlet (ZT g kp (fun r τ => r = (some (vi (outS N p))) ∧ τ = σ)) E0 2 [(0, rf g (ad 7 0 0)), (1, vi p), (2, vi x)] [] (vw g kp σ) (sz kp) 0 0 := by
  intro m
  induction m with
  | zero => intro x hx hm hn; exfalso; omega
  | succ m ih =>
    intro x hx hm hn
    obtain ⟨b0, b1, b2, b3, b4, b5⟩ := hI.n
    obtain ⟨n0, n1, n2, n3, n4⟩ := hN
    refine v_iload_n 2 dX3_lowestSoundOutlet_2 (nx := 3) rfl rfl ?_
    refine v_aload_n 0 dX3_lowestSoundOutlet_3 (nx := 4) rfl rfl ?_
    refine t_get (a := 7) (p := 5) (T := TX3) dX3_lowestSoundOutlet_4 (nx := 7) rfl (by decide) (ok_m 7 rfl) rfl rfl iU3 (by decide) fl_X3_43 rfl ?_
    refine v_icmp_ge dX3_lowestSoundOutlet_7 (tgt := 43) (by decide) (nx := 10) rfl (by first | assumption | exact hR.1 _ _ _ _ | exact ⟨by omega, by omega⟩) (by first | assumption | exact hR.1 _ _ _ _ | exact ⟨by omega, by omega⟩) (fun c7 => ?_) (fun c7 => ?_)
    · refine v_iconst dX3_lowestSoundOutlet_43 (nx := 44) rfl ?_
      exact t_iret dX3_lowestSoundOutlet_44 rfl ⟨by rw [show -1 = outS N p from fstI_eq (by omega) (by omega) (Or.inl ⟨rfl, fun y y0 y1 => hn y y0 (by omega)⟩)], rfl⟩
    · obtain ⟨e0, e1, e2, e3, e4⟩ := hB x (by omega) (by omega)
      refine v_aload_n 0 dX3_lowestSoundOutlet_10 (nx := 11) rfl rfl ?_
      refine t_get (a := 7) (p := 1) (T := TX3) dX3_lowestSoundOutlet_11 (nx := 14) rfl (by decide) (ok_m 7 rfl) rfl rfl iU3 (by decide) fl_X3_19 rfl ?_
      refine v_iload_n 2 dX3_lowestSoundOutlet_14 (nx := 15) rfl rfl ?_
      refine t_ldB dX3_lowestSoundOutlet_15 (nx := 16) rfl (ok_m 16 rfl) ⟨by omega, by omega⟩ ?_
      refine t_get (a := 2) (p := 0) (T := TX1) dX3_lowestSoundOutlet_16 (nx := 19) rfl (by decide) (by first | assumption | exact ok_2 ⟨by omega, by omega⟩) rfl rfl iU1 (by decide) fl_X3_90 rfl ?_
      refine v_iload_n 1 dX3_lowestSoundOutlet_19 (nx := 20) rfl rfl ?_
      refine v_icmp_ne dX3_lowestSoundOutlet_20 (tgt := 37) (by decide) (nx := 23) rfl (by first | assumption | exact hR.1 _ _ _ _ | exact ⟨by omega, by omega⟩) (by first | assumption | exact hR.1 _ _ _ _ | exact ⟨by omega, by omega⟩) (fun c20 => ?_) (fun c20 => ?_)
      · refine v_iinc 2 dX3_lowestSoundOutlet_37 (nx := 40) rfl rfl rfl (by decide) ?_
        refine v_goto dX3_lowestSoundOutlet_40 (tgt := 2) (by decide) ?_
        exact ih _ ⟨by omega, by omega⟩ (by omega) (fun y y0 y1 => by
    by_cases e : y = x
    · subst e; exact decide_eq_false (by omega)
    · exact hn y y0 (by omega))
      · refine v_aload_n 0 dX3_lowestSoundOutlet_23 (nx := 24) rfl rfl ?_
        refine t_get (a := 7) (p := 1) (T := TX3) dX3_lowestSoundOutlet_24 (nx := 27) rfl (by decide) (ok_m 7 rfl) rfl rfl iU3 (by decide) fl_X3_19 rfl ?_
        refine v_iload_n 2 dX3_lowestSoundOutlet_27 (nx := 28) rfl rfl ?_
        refine t_ldB dX3_lowestSoundOutlet_28 (nx := 29) rfl (ok_m 16 rfl) ⟨by omega, by omega⟩ ?_
        refine t_get (a := 2) (p := 4) (T := TX1) dX3_lowestSoundOutlet_29 (nx := 32) rfl (by decide) (by first | assumption | exact ok_2 ⟨by omega, by omega⟩) rfl rfl iU1 (by decide) fl_X3_93 rfl ?_
        refine v_if_ne dX3_lowestSoundOutlet_32 (tgt := 37) (by decide) (nx := 35) rfl (by first | assumption | exact hR.1 _ _ _ _ | exact ⟨by omega, by omega⟩) (fun c32 => ?_) (fun c32 => ?_)
        · refine v_iinc 2 dX3_lowestSoundOutlet_37 (nx := 40) rfl rfl rfl (by decide) ?_
          refine v_goto dX3_lowestSoundOutlet_40 (tgt := 2) (by decide) ?_
          exact ih _ ⟨by omega, by omega⟩ (by omega) (fun y y0 y1 => by
    by_cases e : y = x
    · subst e; exact decide_eq_false (by omega)
    · exact hn y y0 (by omega))
        · refine v_iload_n 2 dX3_lowestSoundOutlet_35 (nx := 36) rfl rfl ?_
          exact t_iret dX3_lowestSoundOutlet_36 rfl ⟨by rw [show x = outS N p from fstI_eq (by omega) (by omega) (Or.inr ⟨by omega, by omega, decide_eq_true (by omega), hn⟩)], rfl⟩

set_option maxRecDepth 100000 in
theorem c_X3_lowestSoundOutlet {g : GG} {kp : Bool} {σ : SS} (hR : RG σ) {N : NN} {kk : Int} (hI : IV N kk) (hN : RHn σ 0 N) (hB : RHb σ 0 N) (p : Int) (hp : inR p) : XC g kp 0 mX3_lowestSoundOutlet [rf g (ad 7 0 0), vi p] σ (some (vi (outS N p))) σ := by
  refine TC.of (by decide) (Nat.le_of_ble_eq_true rfl) rfl ?_
  obtain ⟨b0, b1, b2, b3, b4, b5⟩ := hI.n
  refine v_iconst dX3_lowestSoundOutlet_0 (nx := 1) rfl ?_
  refine v_istore_n dX3_lowestSoundOutlet_1 (nx := 2) rfl rfl (by decide) ?_
  exact l_X3_lso hR hI hN hB p hp (N 1 + 1).toNat 0 ⟨by omega, by omega⟩ (by omega) (fun y y0 y1 => by omega)

set_option maxRecDepth 100000 in
theorem l_X3_sco {g : GG} {kp : Bool} {σ : SS} (hR : RG σ) {N : NN} {kk : Int} (hI : IV N kk) (hN : RHn σ 0 N) (hB : RHb σ 0 N) (p sc : Int) (hp : inR p) (hsc : sc = 0 ∨ sc = 1) : ∀ (m : Nat) (x : Int) (lo : Int) (c : Int), (0 ≤ x ∧ x ≤ N 1) → (N 1 - x < m) → (c = cntI (fun x => decide (N (68 + x) = p)) x) → ((lo = -1 ∧ c = 0) ∨ (0 ≤ lo ∧ lo = outA N p 0 ∧ c = 1 ∧ sc = 1)) → (lo = -1 → ∀ y, 0 ≤ y → y < x → (fun x => decide (N (68 + x) = p)) y = false) → (∀ y, 0 ≤ y → y < x → (fun b => decide (N (68 + b) = p) && decide (cntI (fun x => decide (N (68 + x) = p)) b = 1)) y = false) → V g (rmD 0 0 0) mX3_screenOutlet (ZT g kp (fun r τ => r = (some (vi (if sc = 1 ∧ 0 ≤ outA N p 1 then outA N p 1 else outA N p 0))) ∧ τ = σ)) E0 5 [(0, rf g (ad 7 0 0)), (1, vi p), (2, vi sc), (3, vi lo), (4, vi x)] [] (vw g kp σ) (sz kp) 0 0 := by
  intro m
  induction m with
  | zero => intro x lo c hx hm hc hlo hn0 hn1; exfalso; omega
  | succ m ih =>
    intro x lo c hx hm hc hlo hn0 hn1
    obtain ⟨b0, b1, b2, b3, b4, b5⟩ := hI.n
    obtain ⟨n0, n1, n2, n3, n4⟩ := hN
    have hcb := cntI_b (P := (fun x => decide (N (68 + x) = p))) hx.1
    rw [← hc] at hcb
    have hol : lo = -1 ∨ (0 ≤ lo ∧ lo < N 1) := by
      rcases hlo with h | h
      · exact Or.inl h.1
      · have := fstI_b (P := (fun b => decide (N (68 + b) = p) && decide (cntI (fun x => decide (N (68 + x) = p)) b = 0))) (lo := 0) (hi := N 1) (by omega) (by omega)
        have e : outA N p 0 = fstI (fun b => decide (N (68 + b) = p) && decide (cntI (fun x => decide (N (68 + x) = p)) b = 0)) 0 (N 1) := rfl
        rw [← e] at this
        omega
    refine v_iload 4 dX3_screenOutlet_5 (nx := 7) rfl rfl ?_
    refine v_aload_n 0 dX3_screenOutlet_7 (nx := 8) rfl rfl ?_
    refine t_get (a := 7) (p := 5) (T := TX3) dX3_screenOutlet_8 (nx := 11) rfl (by decide) (ok_m 7 rfl) rfl rfl iU3 (by decide) fl_X3_43 rfl ?_
    refine v_icmp_ge dX3_screenOutlet_11 (tgt := 51) (by decide) (nx := 14) rfl (by first | assumption | exact hR.1 _ _ _ _ | exact ⟨by omega, by omega⟩) (by first | assumption | exact hR.1 _ _ _ _ | exact ⟨by omega, by omega⟩) (fun c11 => ?_) (fun c11 => ?_)
    · refine v_iload_n 3 dX3_screenOutlet_51 (nx := 52) rfl rfl ?_
      exact t_iret dX3_screenOutlet_52 rfl ⟨by
        have e1 : -1 = outA N p 1 := fstI_eq (P := (fun b => decide (N (68 + b) = p) && decide (cntI (fun x => decide (N (68 + x) = p)) b = 1))) (lo := 0) (hi := N 1) (by omega) (by omega) (Or.inl ⟨rfl, fun y y0 y1 => hn1 y y0 (by omega)⟩)
        rw [if_neg (by omega)]
        rcases hlo with h | h
        · rw [h.1, ← show -1 = outA N p 0 from fstI_eq (P := (fun b => decide (N (68 + b) = p) && decide (cntI (fun x => decide (N (68 + x) = p)) b = 0))) (lo := 0) (hi := N 1) (by omega) (by omega) (Or.inl ⟨rfl, fun y y0 y1 => by dsimp only; rw [Bool.and_eq_false_iff]; exact Or.inl (hn0 h.1 y y0 (by omega))⟩)]
        · rw [← h.2.1], rfl⟩
    · obtain ⟨e0, e1, e2, e3, e4⟩ := hB x (by omega) (by omega)
      refine v_aload_n 0 dX3_screenOutlet_14 (nx := 15) rfl rfl ?_
      refine t_get (a := 7) (p := 1) (T := TX3) dX3_screenOutlet_15 (nx := 18) rfl (by decide) (ok_m 7 rfl) rfl rfl iU3 (by decide) fl_X3_19 rfl ?_
      refine v_iload 4 dX3_screenOutlet_18 (nx := 20) rfl rfl ?_
      refine t_ldB dX3_screenOutlet_20 (nx := 21) rfl (ok_m 16 rfl) ⟨by omega, by omega⟩ ?_
      refine t_get (a := 2) (p := 0) (T := TX1) dX3_screenOutlet_21 (nx := 24) rfl (by decide) (by first | assumption | exact ok_2 ⟨by omega, by omega⟩) rfl rfl iU1 (by decide) fl_X3_90 rfl ?_
      refine v_iload_n 1 dX3_screenOutlet_24 (nx := 25) rfl rfl ?_
      refine v_icmp_ne dX3_screenOutlet_25 (tgt := 45) (by decide) (nx := 28) rfl (by first | assumption | exact hR.1 _ _ _ _ | exact ⟨by omega, by omega⟩) (by first | assumption | exact hR.1 _ _ _ _ | exact ⟨by omega, by omega⟩) (fun c25 => ?_) (fun c25 => ?_)
      · refine v_iinc 4 dX3_screenOutlet_45 (nx := 48) rfl rfl rfl (by decide) ?_
        refine v_goto dX3_screenOutlet_48 (tgt := 5) (by decide) ?_
        exact (ih _ _ _ ⟨by omega, by omega⟩ (by omega) (cn_n hc hx.1 (decide_eq_false (by omega))) hlo (fun q y y0 y1 => by
    by_cases e : y = x
    · subst e; exact decide_eq_false (by omega)
    · exact hn0 q y y0 (by omega)) (fun y y0 y1 => by
    by_cases e : y = x
    · subst e; dsimp only; rw [Bool.and_eq_false_iff]; exact Or.inl (decide_eq_false (by omega))
    · exact hn1 y y0 (by omega)))
      · refine v_iload_n 3 dX3_screenOutlet_28 (nx := 29) rfl rfl ?_
        refine v_iconst dX3_screenOutlet_29 (nx := 30) rfl ?_
        refine v_icmp_eq dX3_screenOutlet_30 (tgt := 36) (by decide) (nx := 33) rfl (by first | assumption | exact hR.1 _ _ _ _ | exact ⟨by omega, by omega⟩) (by first | assumption | exact hR.1 _ _ _ _ | exact ⟨by omega, by omega⟩) (fun c30 => ?_) (fun c30 => ?_)
        · have hx0 : x = outA N p 0 := (fstI_eq (P := (fun b => decide (N (68 + b) = p) && decide (cntI (fun x => decide (N (68 + x) = p)) b = 0))) (lo := 0) (hi := N 1) (by omega) (by omega) (Or.inr ⟨by omega, by omega, by dsimp only; rw [← hc, Bool.and_eq_true]; exact ⟨decide_eq_true (by omega), decide_eq_true (by omega)⟩, fun y y0 y1 => by dsimp only; rw [Bool.and_eq_false_iff]; exact Or.inl (hn0 (by omega) y y0 y1)⟩))
          refine v_iload 4 dX3_screenOutlet_36 (nx := 38) rfl rfl ?_
          refine v_istore_n dX3_screenOutlet_38 (nx := 39) rfl rfl (by decide) ?_
          refine v_iload_n 2 dX3_screenOutlet_39 (nx := 40) rfl rfl ?_
          refine v_if_ne dX3_screenOutlet_40 (tgt := 45) (by decide) (nx := 43) rfl (by first | assumption | exact hR.1 _ _ _ _ | exact ⟨by omega, by omega⟩) (fun c40 => ?_) (fun c40 => ?_)
          · refine v_iinc 4 dX3_screenOutlet_45 (nx := 48) rfl rfl rfl (by decide) ?_
            refine v_goto dX3_screenOutlet_48 (tgt := 5) (by decide) ?_
            exact (ih _ _ _ ⟨by omega, by omega⟩ (by omega) (cn_t hc hx.1 (decide_eq_true (by omega))) (Or.inr ⟨by omega, hx0, by omega, by omega⟩) (fun q y y0 y1 => by omega) (fun y y0 y1 => by
    by_cases e : y = x
    · subst e; dsimp only; rw [← hc, Bool.and_eq_false_iff]; exact Or.inr (decide_eq_false (by omega))
    · exact hn1 y y0 (by omega)))
          · refine v_iload_n 3 dX3_screenOutlet_43 (nx := 44) rfl rfl ?_
            exact t_iret dX3_screenOutlet_44 rfl ⟨by rw [if_neg (by omega), ← hx0], rfl⟩
        · refine v_iload 4 dX3_screenOutlet_33 (nx := 35) rfl rfl ?_
          exact t_iret dX3_screenOutlet_35 rfl ⟨by rw [if_pos (by have e : x = outA N p 1 := fstI_eq (P := (fun b => decide (N (68 + b) = p) && decide (cntI (fun x => decide (N (68 + x) = p)) b = 1))) (lo := 0) (hi := N 1) (by omega) (by omega) (Or.inr ⟨by omega, by omega, by dsimp only; rw [← hc, Bool.and_eq_true]; exact ⟨decide_eq_true (by omega), decide_eq_true (by omega)⟩, hn1⟩); omega), ← show x = outA N p 1 from fstI_eq (P := (fun b => decide (N (68 + b) = p) && decide (cntI (fun x => decide (N (68 + x) = p)) b = 1))) (lo := 0) (hi := N 1) (by omega) (by omega) (Or.inr ⟨by omega, by omega, by dsimp only; rw [← hc, Bool.and_eq_true]; exact ⟨decide_eq_true (by omega), decide_eq_true (by omega)⟩, hn1⟩)], rfl⟩

set_option maxRecDepth 100000 in
theorem c_X3_screenOutlet {g : GG} {kp : Bool} {σ : SS} (hR : RG σ) {N : NN} {kk : Int} (hI : IV N kk) (hN : RHn σ 0 N) (hB : RHb σ 0 N) (p sc : Int) (hp : inR p) (hsc : sc = 0 ∨ sc = 1) : XC g kp 0 mX3_screenOutlet [rf g (ad 7 0 0), vi p, vi sc] σ (some (vi (if sc = 1 ∧ 0 ≤ outA N p 1 then outA N p 1 else outA N p 0))) σ := by
  refine TC.of (by decide) (Nat.le_of_ble_eq_true rfl) rfl ?_
  obtain ⟨b0, b1, b2, b3, b4, b5⟩ := hI.n
  refine v_iconst dX3_screenOutlet_0 (nx := 1) rfl ?_
  refine v_istore_n dX3_screenOutlet_1 (nx := 2) rfl rfl (by decide) ?_
  refine v_iconst dX3_screenOutlet_2 (nx := 3) rfl ?_
  refine v_istore dX3_screenOutlet_3 (nx := 5) rfl rfl (by decide) ?_
  exact (l_X3_sco hR hI hN hB p sc hp hsc (N 1 + 1).toNat 0 (-1) 0 ⟨by omega, by omega⟩ (by omega) cntI_0.symm (Or.inl ⟨rfl, rfl⟩) (fun _ y y0 y1 => by omega) (fun y y0 y1 => by omega))

set_option maxRecDepth 100000 in
theorem l_X3_bagsThatAre {g : GG} {kp : Bool} {σ : SS} (hR : RG σ) {N : NN} {kk : Int} (hI : IV N kk) (hN : RHn σ 0 N) (hGg : RHg σ 0 N) (w : Int) (hw : inR w) : ∀ (m : Nat) (x : Int) (c : Int), (0 ≤ x ∧ x ≤ N 3) → (N 3 - x < m) → (c = cntI (fun y => decide (N (484 + y) = w)) x) → V g (rmD 0 0 0) mX3_bagsThatAre (ZT g kp (fun r τ => r = (some (vi (cntI (fun y => decide (N (484 + y) = w)) (N 3)))) ∧ τ = σ)) E0 4 [(0, rf g (ad 7 0 0)), (1, vi w), (2, vi c), (3, vi x)] [] (vw g kp σ) (sz kp) 0 0 := by
  intro m
  induction m with
  | zero => intro x c hx hm hc; exfalso; omega
  | succ m ih =>
    intro x c hx hm hc
    obtain ⟨b0, b1, b2, b3, b4, b5⟩ := hI.n
    obtain ⟨n0, n1, n2, n3, n4⟩ := hN
    have hcb := cntI_b (P := (fun y => decide (N (484 + y) = w))) hx.1
    rw [← hc] at hcb
    refine v_iload_n 3 dX3_bagsThatAre_4 (nx := 5) rfl rfl ?_
    refine v_aload_n 0 dX3_bagsThatAre_5 (nx := 6) rfl rfl ?_
    refine t_get (a := 7) (p := 7) (T := TX3) dX3_bagsThatAre_6 (nx := 9) rfl (by decide) (ok_m 7 rfl) rfl rfl iU3 (by decide) fl_X3_49 rfl ?_
    refine v_icmp_ge dX3_bagsThatAre_9 (tgt := 34) (by decide) (nx := 12) rfl (by first | assumption | exact hR.1 _ _ _ _ | exact ⟨by omega, by omega⟩) (by first | assumption | exact hR.1 _ _ _ _ | exact ⟨by omega, by omega⟩) (fun c9 => ?_) (fun c9 => ?_)
    · refine v_iload_n 2 dX3_bagsThatAre_34 (nx := 35) rfl rfl ?_
      exact t_iret dX3_bagsThatAre_35 rfl ⟨by rw [hc, show x = N 3 by omega], rfl⟩
    · obtain ⟨e0, e1, e2, e3, e4, e5⟩ := hGg x (by omega) (by omega)
      refine v_aload_n 0 dX3_bagsThatAre_12 (nx := 13) rfl rfl ?_
      refine t_get (a := 7) (p := 3) (T := TX3) dX3_bagsThatAre_13 (nx := 16) rfl (by decide) (ok_m 7 rfl) rfl rfl iU3 (by decide) fl_X3_31 rfl ?_
      refine v_iload_n 3 dX3_bagsThatAre_16 (nx := 17) rfl rfl ?_
      refine t_ldG dX3_bagsThatAre_17 (nx := 18) rfl (ok_m 18 rfl) ⟨by omega, by omega⟩ ?_
      refine t_get (a := 5) (p := 2) (T := TX0) dX3_bagsThatAre_18 (nx := 21) rfl (by decide) (by first | assumption | exact ok_5 ⟨by omega, by omega⟩) rfl rfl iU0 (by decide) fl_X3_74 rfl ?_
      refine v_iload_n 1 dX3_bagsThatAre_21 (nx := 22) rfl rfl ?_
      refine v_icmp_ne dX3_bagsThatAre_22 (tgt := 28) (by decide) (nx := 25) rfl (by first | assumption | exact hR.1 _ _ _ _ | exact ⟨by omega, by omega⟩) (by first | assumption | exact hR.1 _ _ _ _ | exact ⟨by omega, by omega⟩) (fun c22 => ?_) (fun c22 => ?_)
      · refine v_iinc 3 dX3_bagsThatAre_28 (nx := 31) rfl rfl rfl (by decide) ?_
        refine v_goto dX3_bagsThatAre_31 (tgt := 4) (by decide) ?_
        exact ih _ _ ⟨by omega, by omega⟩ (by omega) (by first | exact cn_t hc hx.1 (decide_eq_true (by omega)) | exact cn_f hc hx.1 (decide_eq_false (by omega)) | exact cn_n hc hx.1 (decide_eq_false (by omega)))
      · refine v_iinc 2 dX3_bagsThatAre_25 (nx := 28) rfl rfl rfl (by decide) ?_
        refine v_iinc 3 dX3_bagsThatAre_28 (nx := 31) rfl rfl rfl (by decide) ?_
        refine v_goto dX3_bagsThatAre_31 (tgt := 4) (by decide) ?_
        exact ih _ _ ⟨by omega, by omega⟩ (by omega) (by first | exact cn_t hc hx.1 (decide_eq_true (by omega)) | exact cn_f hc hx.1 (decide_eq_false (by omega)) | exact cn_n hc hx.1 (decide_eq_false (by omega)))

set_option maxRecDepth 100000 in
theorem c_X3_bagsThatAre {g : GG} {kp : Bool} {σ : SS} (hR : RG σ) {N : NN} {kk : Int} (hI : IV N kk) (hN : RHn σ 0 N) (hGg : RHg σ 0 N) (w : Int) (hw : inR w) : XC g kp 0 mX3_bagsThatAre [rf g (ad 7 0 0), vi w] σ (some (vi (cntI (fun y => decide (N (484 + y) = w)) (N 3)))) σ := by
  refine TC.of (by decide) (Nat.le_of_ble_eq_true rfl) rfl ?_
  obtain ⟨b0, b1, b2, b3, b4, b5⟩ := hI.n
  refine v_iconst dX3_bagsThatAre_0 (nx := 1) rfl ?_
  refine v_istore_n dX3_bagsThatAre_1 (nx := 2) rfl rfl (by decide) ?_
  refine v_iconst dX3_bagsThatAre_2 (nx := 3) rfl ?_
  refine v_istore_n dX3_bagsThatAre_3 (nx := 4) rfl rfl (by decide) ?_
  exact l_X3_bagsThatAre hR hI hN hGg w hw (N 3 + 1).toNat 0 0 ⟨by omega, by omega⟩ (by omega) cntI_0.symm

set_option maxRecDepth 100000 in
theorem l_X3_bagsOfFlight {g : GG} {kp : Bool} {σ : SS} (hR : RG σ) {N : NN} {kk : Int} (hI : IV N kk) (hN : RHn σ 0 N) (hGg : RHg σ 0 N) (fl : Int) (hfl : inR fl) : ∀ (m : Nat) (x : Int) (c : Int), (0 ≤ x ∧ x ≤ N 3) → (N 3 - x < m) → (c = cntI (fun y => decide (N (364 + y) = fl)) x) → V g (rmD 0 0 0) mX3_bagsOfFlight (ZT g kp (fun r τ => r = (some (vi (cntI (fun y => decide (N (364 + y) = fl)) (N 3)))) ∧ τ = σ)) E0 4 [(0, rf g (ad 7 0 0)), (1, vi fl), (2, vi c), (3, vi x)] [] (vw g kp σ) (sz kp) 0 0 := by
  intro m
  induction m with
  | zero => intro x c hx hm hc; exfalso; omega
  | succ m ih =>
    intro x c hx hm hc
    obtain ⟨b0, b1, b2, b3, b4, b5⟩ := hI.n
    obtain ⟨n0, n1, n2, n3, n4⟩ := hN
    have hcb := cntI_b (P := (fun y => decide (N (364 + y) = fl))) hx.1
    rw [← hc] at hcb
    refine v_iload_n 3 dX3_bagsOfFlight_4 (nx := 5) rfl rfl ?_
    refine v_aload_n 0 dX3_bagsOfFlight_5 (nx := 6) rfl rfl ?_
    refine t_get (a := 7) (p := 7) (T := TX3) dX3_bagsOfFlight_6 (nx := 9) rfl (by decide) (ok_m 7 rfl) rfl rfl iU3 (by decide) fl_X3_49 rfl ?_
    refine v_icmp_ge dX3_bagsOfFlight_9 (tgt := 34) (by decide) (nx := 12) rfl (by first | assumption | exact hR.1 _ _ _ _ | exact ⟨by omega, by omega⟩) (by first | assumption | exact hR.1 _ _ _ _ | exact ⟨by omega, by omega⟩) (fun c9 => ?_) (fun c9 => ?_)
    · refine v_iload_n 2 dX3_bagsOfFlight_34 (nx := 35) rfl rfl ?_
      exact t_iret dX3_bagsOfFlight_35 rfl ⟨by rw [hc, show x = N 3 by omega], rfl⟩
    · obtain ⟨e0, e1, e2, e3, e4, e5⟩ := hGg x (by omega) (by omega)
      refine v_aload_n 0 dX3_bagsOfFlight_12 (nx := 13) rfl rfl ?_
      refine t_get (a := 7) (p := 3) (T := TX3) dX3_bagsOfFlight_13 (nx := 16) rfl (by decide) (ok_m 7 rfl) rfl rfl iU3 (by decide) fl_X3_31 rfl ?_
      refine v_iload_n 3 dX3_bagsOfFlight_16 (nx := 17) rfl rfl ?_
      refine t_ldG dX3_bagsOfFlight_17 (nx := 18) rfl (ok_m 18 rfl) ⟨by omega, by omega⟩ ?_
      refine t_get (a := 5) (p := 0) (T := TX0) dX3_bagsOfFlight_18 (nx := 21) rfl (by decide) (by first | assumption | exact ok_5 ⟨by omega, by omega⟩) rfl rfl iU0 (by decide) fl_X3_96 rfl ?_
      refine v_iload_n 1 dX3_bagsOfFlight_21 (nx := 22) rfl rfl ?_
      refine v_icmp_ne dX3_bagsOfFlight_22 (tgt := 28) (by decide) (nx := 25) rfl (by first | assumption | exact hR.1 _ _ _ _ | exact ⟨by omega, by omega⟩) (by first | assumption | exact hR.1 _ _ _ _ | exact ⟨by omega, by omega⟩) (fun c22 => ?_) (fun c22 => ?_)
      · refine v_iinc 3 dX3_bagsOfFlight_28 (nx := 31) rfl rfl rfl (by decide) ?_
        refine v_goto dX3_bagsOfFlight_31 (tgt := 4) (by decide) ?_
        exact ih _ _ ⟨by omega, by omega⟩ (by omega) (by first | exact cn_t hc hx.1 (decide_eq_true (by omega)) | exact cn_f hc hx.1 (decide_eq_false (by omega)) | exact cn_n hc hx.1 (decide_eq_false (by omega)))
      · refine v_iinc 2 dX3_bagsOfFlight_25 (nx := 28) rfl rfl rfl (by decide) ?_
        refine v_iinc 3 dX3_bagsOfFlight_28 (nx := 31) rfl rfl rfl (by decide) ?_
        refine v_goto dX3_bagsOfFlight_31 (tgt := 4) (by decide) ?_
        exact ih _ _ ⟨by omega, by omega⟩ (by omega) (by first | exact cn_t hc hx.1 (decide_eq_true (by omega)) | exact cn_f hc hx.1 (decide_eq_false (by omega)) | exact cn_n hc hx.1 (decide_eq_false (by omega)))

set_option maxRecDepth 100000 in
theorem c_X3_bagsOfFlight {g : GG} {kp : Bool} {σ : SS} (hR : RG σ) {N : NN} {kk : Int} (hI : IV N kk) (hN : RHn σ 0 N) (hGg : RHg σ 0 N) (fl : Int) (hfl : inR fl) : XC g kp 0 mX3_bagsOfFlight [rf g (ad 7 0 0), vi fl] σ (some (vi (cntI (fun y => decide (N (364 + y) = fl)) (N 3)))) σ := by
  refine TC.of (by decide) (Nat.le_of_ble_eq_true rfl) rfl ?_
  obtain ⟨b0, b1, b2, b3, b4, b5⟩ := hI.n
  refine v_iconst dX3_bagsOfFlight_0 (nx := 1) rfl ?_
  refine v_istore_n dX3_bagsOfFlight_1 (nx := 2) rfl rfl (by decide) ?_
  refine v_iconst dX3_bagsOfFlight_2 (nx := 3) rfl ?_
  refine v_istore_n dX3_bagsOfFlight_3 (nx := 4) rfl rfl (by decide) ?_
  exact l_X3_bagsOfFlight hR hI hN hGg fl hfl (N 3 + 1).toNat 0 0 ⟨by omega, by omega⟩ (by omega) cntI_0.symm

set_option maxRecDepth 100000 in
theorem l_X3_bagsOfFlight_ {g : GG} {kp : Bool} {σ : SS} (hR : RG σ) {N : NN} {kk : Int} (hI : IV N kk) (hN : RHn σ 0 N) (hGg : RHg σ 0 N) (fl : Int) (hfl : inR fl) (w : Int) (hw : inR w) : ∀ (m : Nat) (x : Int) (c : Int), (0 ≤ x ∧ x ≤ N 3) → (N 3 - x < m) → (c = cntI (fun y => decide (N (364 + y) = fl ∧ N (484 + y) = w)) x) → V g (rmD 0 0 0) mX3_bagsOfFlight_ (ZT g kp (fun r τ => r = (some (vi (cntI (fun y => decide (N (364 + y) = fl ∧ N (484 + y) = w)) (N 3)))) ∧ τ = σ)) E0 5 [(0, rf g (ad 7 0 0)), (1, vi fl), (2, vi w), (3, vi c), (4, vi x)] [] (vw g kp σ) (sz kp) 0 0 := by
  intro m
  induction m with
  | zero => intro x c hx hm hc; exfalso; omega
  | succ m ih =>
    intro x c hx hm hc
    obtain ⟨b0, b1, b2, b3, b4, b5⟩ := hI.n
    obtain ⟨n0, n1, n2, n3, n4⟩ := hN
    have hcb := cntI_b (P := (fun y => decide (N (364 + y) = fl ∧ N (484 + y) = w))) hx.1
    rw [← hc] at hcb
    refine v_iload 4 dX3_bagsOfFlight__5 (nx := 7) rfl rfl ?_
    refine v_aload_n 0 dX3_bagsOfFlight__7 (nx := 8) rfl rfl ?_
    refine t_get (a := 7) (p := 7) (T := TX3) dX3_bagsOfFlight__8 (nx := 11) rfl (by decide) (ok_m 7 rfl) rfl rfl iU3 (by decide) fl_X3_49 rfl ?_
    refine v_icmp_ge dX3_bagsOfFlight__11 (tgt := 51) (by decide) (nx := 14) rfl (by first | assumption | exact hR.1 _ _ _ _ | exact ⟨by omega, by omega⟩) (by first | assumption | exact hR.1 _ _ _ _ | exact ⟨by omega, by omega⟩) (fun c11 => ?_) (fun c11 => ?_)
    · refine v_iload_n 3 dX3_bagsOfFlight__51 (nx := 52) rfl rfl ?_
      exact t_iret dX3_bagsOfFlight__52 rfl ⟨by rw [hc, show x = N 3 by omega], rfl⟩
    · obtain ⟨e0, e1, e2, e3, e4, e5⟩ := hGg x (by omega) (by omega)
      refine v_aload_n 0 dX3_bagsOfFlight__14 (nx := 15) rfl rfl ?_
      refine t_get (a := 7) (p := 3) (T := TX3) dX3_bagsOfFlight__15 (nx := 18) rfl (by decide) (ok_m 7 rfl) rfl rfl iU3 (by decide) fl_X3_31 rfl ?_
      refine v_iload 4 dX3_bagsOfFlight__18 (nx := 20) rfl rfl ?_
      refine t_ldG dX3_bagsOfFlight__20 (nx := 21) rfl (ok_m 18 rfl) ⟨by omega, by omega⟩ ?_
      refine t_get (a := 5) (p := 0) (T := TX0) dX3_bagsOfFlight__21 (nx := 24) rfl (by decide) (by first | assumption | exact ok_5 ⟨by omega, by omega⟩) rfl rfl iU0 (by decide) fl_X3_96 rfl ?_
      refine v_iload_n 1 dX3_bagsOfFlight__24 (nx := 25) rfl rfl ?_
      refine v_icmp_ne dX3_bagsOfFlight__25 (tgt := 45) (by decide) (nx := 28) rfl (by first | assumption | exact hR.1 _ _ _ _ | exact ⟨by omega, by omega⟩) (by first | assumption | exact hR.1 _ _ _ _ | exact ⟨by omega, by omega⟩) (fun c25 => ?_) (fun c25 => ?_)
      · refine v_iinc 4 dX3_bagsOfFlight__45 (nx := 48) rfl rfl rfl (by decide) ?_
        refine v_goto dX3_bagsOfFlight__48 (tgt := 5) (by decide) ?_
        exact ih _ _ ⟨by omega, by omega⟩ (by omega) (by first | exact cn_t hc hx.1 (decide_eq_true (by omega)) | exact cn_f hc hx.1 (decide_eq_false (by omega)) | exact cn_n hc hx.1 (decide_eq_false (by omega)))
      · refine v_aload_n 0 dX3_bagsOfFlight__28 (nx := 29) rfl rfl ?_
        refine t_get (a := 7) (p := 3) (T := TX3) dX3_bagsOfFlight__29 (nx := 32) rfl (by decide) (ok_m 7 rfl) rfl rfl iU3 (by decide) fl_X3_31 rfl ?_
        refine v_iload 4 dX3_bagsOfFlight__32 (nx := 34) rfl rfl ?_
        refine t_ldG dX3_bagsOfFlight__34 (nx := 35) rfl (ok_m 18 rfl) ⟨by omega, by omega⟩ ?_
        refine t_get (a := 5) (p := 2) (T := TX0) dX3_bagsOfFlight__35 (nx := 38) rfl (by decide) (by first | assumption | exact ok_5 ⟨by omega, by omega⟩) rfl rfl iU0 (by decide) fl_X3_74 rfl ?_
        refine v_iload_n 2 dX3_bagsOfFlight__38 (nx := 39) rfl rfl ?_
        refine v_icmp_ne dX3_bagsOfFlight__39 (tgt := 45) (by decide) (nx := 42) rfl (by first | assumption | exact hR.1 _ _ _ _ | exact ⟨by omega, by omega⟩) (by first | assumption | exact hR.1 _ _ _ _ | exact ⟨by omega, by omega⟩) (fun c39 => ?_) (fun c39 => ?_)
        · refine v_iinc 4 dX3_bagsOfFlight__45 (nx := 48) rfl rfl rfl (by decide) ?_
          refine v_goto dX3_bagsOfFlight__48 (tgt := 5) (by decide) ?_
          exact ih _ _ ⟨by omega, by omega⟩ (by omega) (by first | exact cn_t hc hx.1 (decide_eq_true (by omega)) | exact cn_f hc hx.1 (decide_eq_false (by omega)) | exact cn_n hc hx.1 (decide_eq_false (by omega)))
        · refine v_iinc 3 dX3_bagsOfFlight__42 (nx := 45) rfl rfl rfl (by decide) ?_
          refine v_iinc 4 dX3_bagsOfFlight__45 (nx := 48) rfl rfl rfl (by decide) ?_
          refine v_goto dX3_bagsOfFlight__48 (tgt := 5) (by decide) ?_
          exact ih _ _ ⟨by omega, by omega⟩ (by omega) (by first | exact cn_t hc hx.1 (decide_eq_true (by omega)) | exact cn_f hc hx.1 (decide_eq_false (by omega)) | exact cn_n hc hx.1 (decide_eq_false (by omega)))

set_option maxRecDepth 100000 in
theorem c_X3_bagsOfFlight_ {g : GG} {kp : Bool} {σ : SS} (hR : RG σ) {N : NN} {kk : Int} (hI : IV N kk) (hN : RHn σ 0 N) (hGg : RHg σ 0 N) (fl : Int) (hfl : inR fl) (w : Int) (hw : inR w) : XC g kp 0 mX3_bagsOfFlight_ [rf g (ad 7 0 0), vi fl, vi w] σ (some (vi (cntI (fun y => decide (N (364 + y) = fl ∧ N (484 + y) = w)) (N 3)))) σ := by
  refine TC.of (by decide) (Nat.le_of_ble_eq_true rfl) rfl ?_
  obtain ⟨b0, b1, b2, b3, b4, b5⟩ := hI.n
  refine v_iconst dX3_bagsOfFlight__0 (nx := 1) rfl ?_
  refine v_istore_n dX3_bagsOfFlight__1 (nx := 2) rfl rfl (by decide) ?_
  refine v_iconst dX3_bagsOfFlight__2 (nx := 3) rfl ?_
  refine v_istore dX3_bagsOfFlight__3 (nx := 5) rfl rfl (by decide) ?_
  exact l_X3_bagsOfFlight_ hR hI hN hGg fl hfl w hw (N 3 + 1).toNat 0 0 ⟨by omega, by omega⟩ (by omega) cntI_0.symm

set_option maxRecDepth 100000 in
theorem l_X3_fallenBelts {g : GG} {kp : Bool} {σ : SS} (hR : RG σ) {N : NN} {kk : Int} (hI : IV N kk) (hN : RHn σ 0 N) (hB : RHb σ 0 N) : ∀ (m : Nat) (x : Int) (c : Int), (0 ≤ x ∧ x ≤ N 1) → (N 1 - x < m) → (c = cntI (fun y => decide (N (116 + y) = 1)) x) → V g (rmD 0 0 0) mX3_fallenBelts (ZT g kp (fun r τ => r = (some (vi (cntI (fun y => decide (N (116 + y) = 1)) (N 1)))) ∧ τ = σ)) E0 4 [(0, rf g (ad 7 0 0)), (1, vi c), (2, vi x)] [] (vw g kp σ) (sz kp) 0 0 := by
  intro m
  induction m with
  | zero => intro x c hx hm hc; exfalso; omega
  | succ m ih =>
    intro x c hx hm hc
    obtain ⟨b0, b1, b2, b3, b4, b5⟩ := hI.n
    obtain ⟨n0, n1, n2, n3, n4⟩ := hN
    have hcb := cntI_b (P := (fun y => decide (N (116 + y) = 1))) hx.1
    rw [← hc] at hcb
    refine v_iload_n 2 dX3_fallenBelts_4 (nx := 5) rfl rfl ?_
    refine v_aload_n 0 dX3_fallenBelts_5 (nx := 6) rfl rfl ?_
    refine t_get (a := 7) (p := 5) (T := TX3) dX3_fallenBelts_6 (nx := 9) rfl (by decide) (ok_m 7 rfl) rfl rfl iU3 (by decide) fl_X3_43 rfl ?_
    refine v_icmp_ge dX3_fallenBelts_9 (tgt := 33) (by decide) (nx := 12) rfl (by first | assumption | exact hR.1 _ _ _ _ | exact ⟨by omega, by omega⟩) (by first | assumption | exact hR.1 _ _ _ _ | exact ⟨by omega, by omega⟩) (fun c9 => ?_) (fun c9 => ?_)
    · refine v_iload_n 1 dX3_fallenBelts_33 (nx := 34) rfl rfl ?_
      exact t_iret dX3_fallenBelts_34 rfl ⟨by rw [hc, show x = N 1 by omega], rfl⟩
    · obtain ⟨e0, e1, e2, e3, e4⟩ := hB x (by omega) (by omega)
      obtain ⟨-, -, -, f4, -⟩ := hI.b (b := x) (by omega) (by omega)
      refine v_aload_n 0 dX3_fallenBelts_12 (nx := 13) rfl rfl ?_
      refine t_get (a := 7) (p := 1) (T := TX3) dX3_fallenBelts_13 (nx := 16) rfl (by decide) (ok_m 7 rfl) rfl rfl iU3 (by decide) fl_X3_19 rfl ?_
      refine v_iload_n 2 dX3_fallenBelts_16 (nx := 17) rfl rfl ?_
      refine t_ldB dX3_fallenBelts_17 (nx := 18) rfl (ok_m 16 rfl) ⟨by omega, by omega⟩ ?_
      refine t_get (a := 2) (p := 4) (T := TX1) dX3_fallenBelts_18 (nx := 21) rfl (by decide) (by first | assumption | exact ok_2 ⟨by omega, by omega⟩) rfl rfl iU1 (by decide) fl_X3_93 rfl ?_
      refine v_if_eq dX3_fallenBelts_21 (tgt := 27) (by decide) (nx := 24) rfl (by first | assumption | exact hR.1 _ _ _ _ | exact ⟨by omega, by omega⟩) (fun c21 => ?_) (fun c21 => ?_)
      · refine v_iinc 2 dX3_fallenBelts_27 (nx := 30) rfl rfl rfl (by decide) ?_
        refine v_goto dX3_fallenBelts_30 (tgt := 4) (by decide) ?_
        exact ih _ _ ⟨by omega, by omega⟩ (by omega) (by first | exact cn_t hc hx.1 (decide_eq_true (by omega)) | exact cn_f hc hx.1 (decide_eq_false (by omega)) | exact cn_n hc hx.1 (decide_eq_false (by omega)))
      · refine v_iinc 1 dX3_fallenBelts_24 (nx := 27) rfl rfl rfl (by decide) ?_
        refine v_iinc 2 dX3_fallenBelts_27 (nx := 30) rfl rfl rfl (by decide) ?_
        refine v_goto dX3_fallenBelts_30 (tgt := 4) (by decide) ?_
        exact ih _ _ ⟨by omega, by omega⟩ (by omega) (by first | exact cn_t hc hx.1 (decide_eq_true (by omega)) | exact cn_f hc hx.1 (decide_eq_false (by omega)) | exact cn_n hc hx.1 (decide_eq_false (by omega)))

set_option maxRecDepth 100000 in
theorem c_X3_fallenBelts {g : GG} {kp : Bool} {σ : SS} (hR : RG σ) {N : NN} {kk : Int} (hI : IV N kk) (hN : RHn σ 0 N) (hB : RHb σ 0 N) : XC g kp 0 mX3_fallenBelts [rf g (ad 7 0 0)] σ (some (vi (cntI (fun y => decide (N (116 + y) = 1)) (N 1)))) σ := by
  refine TC.of (by decide) (Nat.le_of_ble_eq_true rfl) rfl ?_
  obtain ⟨b0, b1, b2, b3, b4, b5⟩ := hI.n
  refine v_iconst dX3_fallenBelts_0 (nx := 1) rfl ?_
  refine v_istore_n dX3_fallenBelts_1 (nx := 2) rfl rfl (by decide) ?_
  refine v_iconst dX3_fallenBelts_2 (nx := 3) rfl ?_
  refine v_istore_n dX3_fallenBelts_3 (nx := 4) rfl rfl (by decide) ?_
  exact l_X3_fallenBelts hR hI hN hB (N 1 + 1).toNat 0 0 ⟨by omega, by omega⟩ (by omega) cntI_0.symm
