set_option maxRecDepth 100000 in
theorem c_X4_begin {g : GG} {kp : Bool} {σ : SS} (i : Int) (hi : 0 ≤ i ∧ i < 12) (kd v : Int) : XC g kp 0 mX4_begin [rf g (ad 0 0 i), vi kd, vi v] σ none (up (up (up (up (up σ 0 0 i 0 kd) 0 0 i 1 v) 0 0 i 2 (-1)) 0 0 i 3 0) 0 0 i 4 0) := by
  refine TC.of (by decide) (Nat.le_of_ble_eq_true rfl) rfl ?_
  refine v_aload_n 0 dX4_begin_0 (nx := 1) rfl rfl ?_
  refine v_iload_n 1 dX4_begin_1 (nx := 2) rfl rfl ?_
  refine t_put (a := 0) (j := 0) (p := 0) (T := TX4) dX4_begin_2 (nx := 5) rfl (by decide) (by first | assumption | exact ok_0 ⟨by omega, by omega⟩) rfl rfl iU4 tyX4 tyX4_ok nmX4 (by decide) fl_X4_15 rfl (Or.inl rfl) (Nat.le_of_ble_eq_true rfl) (by rfl) ?_
  refine v_aload_n 0 dX4_begin_5 (nx := 6) rfl rfl ?_
  refine v_iload_n 2 dX4_begin_6 (nx := 7) rfl rfl ?_
  refine t_put (a := 0) (j := 1) (p := 1) (T := TX4) dX4_begin_7 (nx := 10) rfl (by decide) (by first | assumption | exact ok_0 ⟨by omega, by omega⟩) rfl rfl iU4 tyX4 tyX4_ok nmX4 (by decide) fl_X4_19 rfl (Or.inl rfl) (Nat.le_of_ble_eq_true rfl) (by rfl) ?_
  refine v_aload_n 0 dX4_begin_10 (nx := 11) rfl rfl ?_
  refine v_iconst dX4_begin_11 (nx := 12) rfl ?_
  refine t_put (a := 0) (j := 2) (p := 2) (T := TX4) dX4_begin_12 (nx := 15) rfl (by decide) (by first | assumption | exact ok_0 ⟨by omega, by omega⟩) rfl rfl iU4 tyX4 tyX4_ok nmX4 (by decide) fl_X4_22 rfl (Or.inl rfl) (Nat.le_of_ble_eq_true rfl) (by rfl) ?_
  refine v_aload_n 0 dX4_begin_15 (nx := 16) rfl rfl ?_
  refine v_iconst dX4_begin_16 (nx := 17) rfl ?_
  refine t_put (a := 0) (j := 3) (p := 3) (T := TX4) dX4_begin_17 (nx := 20) rfl (by decide) (by first | assumption | exact ok_0 ⟨by omega, by omega⟩) rfl rfl iU4 tyX4 tyX4_ok nmX4 (by decide) fl_X4_25 rfl (Or.inl rfl) (Nat.le_of_ble_eq_true rfl) (by rfl) ?_
  refine v_aload_n 0 dX4_begin_20 (nx := 21) rfl rfl ?_
  refine v_iconst dX4_begin_21 (nx := 22) rfl ?_
  refine t_put (a := 0) (j := 4) (p := 4) (T := TX4) dX4_begin_22 (nx := 25) rfl (by decide) (by first | assumption | exact ok_0 ⟨by omega, by omega⟩) rfl rfl iU4 tyX4 tyX4_ok nmX4 (by decide) fl_X4_28 rfl (Or.inl rfl) (Nat.le_of_ble_eq_true rfl) (by rfl) ?_
  exact t_ret dX4_begin_25 rfl ⟨rfl, rfl⟩

set_option maxRecDepth 100000 in
theorem c_X4_putAtHand {g : GG} {kp : Bool} {σ : SS} (i : Int) (hi : 0 ≤ i ∧ i < 12) (b t : Int) : XC g kp 0 mX4_putAtHand [rf g (ad 0 0 i), vi b, vi t] σ none (up (up σ 0 0 i 2 b) 0 0 i 3 t) := by
  refine TC.of (by decide) (Nat.le_of_ble_eq_true rfl) rfl ?_
  refine v_aload_n 0 dX4_putAtHand_0 (nx := 1) rfl rfl ?_
  refine v_iload_n 1 dX4_putAtHand_1 (nx := 2) rfl rfl ?_
  refine t_put (a := 0) (j := 2) (p := 2) (T := TX4) dX4_putAtHand_2 (nx := 5) rfl (by decide) (by first | assumption | exact ok_0 ⟨by omega, by omega⟩) rfl rfl iU4 tyX4 tyX4_ok nmX4 (by decide) fl_X4_22 rfl (Or.inl rfl) (Nat.le_of_ble_eq_true rfl) (by rfl) ?_
  refine v_aload_n 0 dX4_putAtHand_5 (nx := 6) rfl rfl ?_
  refine v_iload_n 2 dX4_putAtHand_6 (nx := 7) rfl rfl ?_
  refine t_put (a := 0) (j := 3) (p := 3) (T := TX4) dX4_putAtHand_7 (nx := 10) rfl (by decide) (by first | assumption | exact ok_0 ⟨by omega, by omega⟩) rfl rfl iU4 tyX4 tyX4_ok nmX4 (by decide) fl_X4_25 rfl (Or.inl rfl) (Nat.le_of_ble_eq_true rfl) (by rfl) ?_
  exact t_ret dX4_putAtHand_10 rfl ⟨rfl, rfl⟩

set_option maxRecDepth 100000 in
theorem c_X4_meetInlet {g : GG} {kp : Bool} {σ : SS} (hR : RG σ) (i : Int) (hi : 0 ≤ i ∧ i < 12) (b : Int) : XC g kp 1 mX4_meetInlet [rf g (ad 0 0 i), vi b] σ none (if σ 0 0 i 2 = -1 then up (up σ 0 0 i 2 b) 0 0 i 3 1 else σ) := by
  refine TC.of (by decide) (Nat.le_of_ble_eq_true rfl) rfl ?_
  refine v_aload_n 0 dX4_meetInlet_0 (nx := 1) rfl rfl ?_
  refine t_get (a := 0) (p := 2) (T := TX4) dX4_meetInlet_1 (nx := 4) rfl (by decide) (by first | assumption | exact ok_0 ⟨by omega, by omega⟩) rfl rfl iU4 (by decide) fl_X4_22 rfl ?_
  refine v_iconst dX4_meetInlet_4 (nx := 5) rfl ?_
  refine v_icmp_ne dX4_meetInlet_5 (tgt := 14) (by decide) (nx := 8) rfl (by first | assumption | exact hR.1 _ _ _ _ | exact ⟨by omega, by omega⟩) (by first | assumption | exact hR.1 _ _ _ _ | exact ⟨by omega, by omega⟩) (fun c5 => ?_) (fun c5 => ?_)
  · exact t_ret dX4_meetInlet_14 rfl ⟨rfl, by first | rw [if_pos (by omega)] | rw [if_neg (by omega)]⟩
  · refine v_aload_n 0 dX4_meetInlet_8 (nx := 9) rfl rfl ?_
    refine v_iload_n 1 dX4_meetInlet_9 (nx := 10) rfl rfl ?_
    refine v_iconst dX4_meetInlet_10 (nx := 11) rfl ?_
    refine t_callVv (a := 0) (c_X4_putAtHand _ hi _ _) dX4_meetInlet_11 (nx := 14) rfl kX4_putAtHand ml_X4_31 (by decide) (by first | assumption | exact ok_0 ⟨by omega, by omega⟩) rfl rfl rfl rfl (Nat.le_of_ble_eq_true rfl) ⟨by decide, by decide⟩ ⟨by decide, by decide⟩ ?_
    exact t_ret dX4_meetInlet_14 rfl ⟨rfl, by first | rw [if_pos (by omega)] | rw [if_neg (by omega)]⟩

set_option maxRecDepth 100000 in
theorem c_X4_limitLeft {g : GG} {kp : Bool} {σ : SS} (hR : RG σ) (i : Int) (hi : 0 ≤ i ∧ i < 12) (b v : Int) (hb : inR b) (hv : inR v) : XC g kp 1 mX4_limitLeft [rf g (ad 0 0 i), vi b, vi v] σ none (if σ 0 0 i 2 = b then up σ 0 0 i 3 (if v < σ 0 0 i 3 then v else σ 0 0 i 3) else σ) := by
  refine TC.of (by decide) (Nat.le_of_ble_eq_true rfl) rfl ?_
  refine v_aload_n 0 dX4_limitLeft_0 (nx := 1) rfl rfl ?_
  refine t_get (a := 0) (p := 2) (T := TX4) dX4_limitLeft_1 (nx := 4) rfl (by decide) (by first | assumption | exact ok_0 ⟨by omega, by omega⟩) rfl rfl iU4 (by decide) fl_X4_22 rfl ?_
  refine v_iload_n 1 dX4_limitLeft_4 (nx := 5) rfl rfl ?_
  refine v_icmp_ne dX4_limitLeft_5 (tgt := 20) (by decide) (nx := 8) rfl (by first | assumption | exact hR.1 _ _ _ _ | exact ⟨by omega, by omega⟩) (by first | assumption | exact hR.1 _ _ _ _ | exact ⟨by omega, by omega⟩) (fun c5 => ?_) (fun c5 => ?_)
  · exact t_ret dX4_limitLeft_20 rfl ⟨rfl, by first | rw [if_pos c5] | rw [if_neg c5]⟩
  · refine v_aload_n 0 dX4_limitLeft_8 (nx := 9) rfl rfl ?_
    refine v_aload_n 0 dX4_limitLeft_9 (nx := 10) rfl rfl ?_
    refine t_get (a := 0) (p := 3) (T := TX4) dX4_limitLeft_10 (nx := 13) rfl (by decide) (by first | assumption | exact ok_0 ⟨by omega, by omega⟩) rfl rfl iU4 (by decide) fl_X4_25 rfl ?_
    refine v_iload_n 2 dX4_limitLeft_13 (nx := 14) rfl rfl ?_
    refine t_min dX4_limitLeft_14 (nx := 17) rfl ml_X4_35 ⟨by decide, by decide⟩ (by first | assumption | exact hR.1 _ _ _ _ | exact ⟨by omega, by omega⟩) (by first | assumption | exact hR.1 _ _ _ _ | exact ⟨by omega, by omega⟩) (Nat.le_of_ble_eq_true rfl) ⟨by decide, by decide⟩ ?_
    refine t_put (a := 0) (j := 3) (p := 3) (T := TX4) dX4_limitLeft_17 (nx := 20) rfl (by decide) (by first | assumption | exact ok_0 ⟨by omega, by omega⟩) rfl rfl iU4 tyX4 tyX4_ok nmX4 (by decide) fl_X4_25 rfl (Or.inl rfl) (Nat.le_of_ble_eq_true rfl) (by rfl) ?_
    exact t_ret dX4_limitLeft_20 rfl ⟨rfl, by first | rw [if_pos c5] | rw [if_neg c5]⟩

set_option maxRecDepth 100000 in
theorem c_X4_hasRoom {g : GG} {kp : Bool} {σ : SS} (hR : RG σ) (i : Int) (hi : 0 ≤ i ∧ i < 12) : XC g kp 0 mX4_hasRoom [rf g (ad 0 0 i)] σ (some (vi (if ¬ σ 0 0 i 0 = 0 ∧ (σ 0 0 i 0 = 4 → σ 0 0 i 4 < σ 0 0 i 1) ∧ (¬ σ 0 0 i 0 = 4 → ¬ σ 0 0 i 0 = 5 → σ 0 0 i 4 = 0) then 1 else 0))) σ := by
  refine TC.of (by decide) (Nat.le_of_ble_eq_true rfl) rfl ?_
  refine v_aload_n 0 dX4_hasRoom_0 (nx := 1) rfl rfl ?_
  refine t_get (a := 0) (p := 0) (T := TX4) dX4_hasRoom_1 (nx := 4) rfl (by decide) (by first | assumption | exact ok_0 ⟨by omega, by omega⟩) rfl rfl iU4 (by decide) fl_X4_15 rfl ?_
  by_cases e4_0 : σ 0 0 i 0 = 0
  · refine v_look dX4_hasRoom_4 rfl (off := 36) (by first | assumption | exact hR.1 _ _ _ _ | exact ⟨by omega, by omega⟩) (by rw [e4_0]; rfl) (tgt := 40) (by decide) ?_
    refine v_iconst dX4_hasRoom_40 (nx := 41) rfl ?_
    exact t_zret dX4_hasRoom_41 rfl (by first | exact Or.inl rfl | exact Or.inr rfl | assumption) ⟨by first | rw [if_pos (by omega)] | rw [if_neg (by omega)], rfl⟩
  by_cases e4_4 : σ 0 0 i 0 = 4
  · refine v_look dX4_hasRoom_4 rfl (off := 38) (by first | assumption | exact hR.1 _ _ _ _ | exact ⟨by omega, by omega⟩) (by rw [e4_4]; rfl) (tgt := 42) (by decide) ?_
    refine v_aload_n 0 dX4_hasRoom_42 (nx := 43) rfl rfl ?_
    refine t_get (a := 0) (p := 4) (T := TX4) dX4_hasRoom_43 (nx := 46) rfl (by decide) (by first | assumption | exact ok_0 ⟨by omega, by omega⟩) rfl rfl iU4 (by decide) fl_X4_28 rfl ?_
    refine v_aload_n 0 dX4_hasRoom_46 (nx := 47) rfl rfl ?_
    refine t_get (a := 0) (p := 1) (T := TX4) dX4_hasRoom_47 (nx := 50) rfl (by decide) (by first | assumption | exact ok_0 ⟨by omega, by omega⟩) rfl rfl iU4 (by decide) fl_X4_19 rfl ?_
    refine v_icmp_ge dX4_hasRoom_50 (tgt := 57) (by decide) (nx := 53) rfl (by first | assumption | exact hR.1 _ _ _ _ | exact ⟨by omega, by omega⟩) (by first | assumption | exact hR.1 _ _ _ _ | exact ⟨by omega, by omega⟩) (fun c50 => ?_) (fun c50 => ?_)
    · refine v_iconst dX4_hasRoom_57 (nx := 58) rfl ?_
      exact t_zret dX4_hasRoom_58 rfl (by first | exact Or.inl rfl | exact Or.inr rfl | assumption) ⟨by first | rw [if_pos (by omega)] | rw [if_neg (by omega)], rfl⟩
    · refine v_iconst dX4_hasRoom_53 (nx := 54) rfl ?_
      refine v_goto dX4_hasRoom_54 (tgt := 58) (by decide) ?_
      exact t_zret dX4_hasRoom_58 rfl (by first | exact Or.inl rfl | exact Or.inr rfl | assumption) ⟨by first | rw [if_pos (by omega)] | rw [if_neg (by omega)], rfl⟩
  by_cases e4_5 : σ 0 0 i 0 = 5
  · refine v_look dX4_hasRoom_4 rfl (off := 55) (by first | assumption | exact hR.1 _ _ _ _ | exact ⟨by omega, by omega⟩) (by rw [e4_5]; rfl) (tgt := 59) (by decide) ?_
    refine v_iconst dX4_hasRoom_59 (nx := 60) rfl ?_
    exact t_zret dX4_hasRoom_60 rfl (by first | exact Or.inl rfl | exact Or.inr rfl | assumption) ⟨by first | rw [if_pos (by omega)] | rw [if_neg (by omega)], rfl⟩
  refine v_look dX4_hasRoom_4 rfl (off := 57) (by first | assumption | exact hR.1 _ _ _ _ | exact ⟨by omega, by omega⟩) (by show Op.lookupswitch.offset [(0, 36), (4, 38), (5, 55)] _ _ = _; rw [Op.lookupswitch.offset_cons, if_neg (fun q => e4_0 q.symm), Op.lookupswitch.offset_cons, if_neg (fun q => e4_4 q.symm), Op.lookupswitch.offset_cons, if_neg (fun q => e4_5 q.symm)]; rfl) (tgt := 61) (by decide) ?_
  refine v_aload_n 0 dX4_hasRoom_61 (nx := 62) rfl rfl ?_
  refine t_get (a := 0) (p := 4) (T := TX4) dX4_hasRoom_62 (nx := 65) rfl (by decide) (by first | assumption | exact ok_0 ⟨by omega, by omega⟩) rfl rfl iU4 (by decide) fl_X4_28 rfl ?_
  refine v_if_ne dX4_hasRoom_65 (tgt := 72) (by decide) (nx := 68) rfl (by first | assumption | exact hR.1 _ _ _ _ | exact ⟨by omega, by omega⟩) (fun c65 => ?_) (fun c65 => ?_)
  · refine v_iconst dX4_hasRoom_72 (nx := 73) rfl ?_
    exact t_zret dX4_hasRoom_73 rfl (by first | exact Or.inl rfl | exact Or.inr rfl | assumption) ⟨by first | rw [if_pos (by omega)] | rw [if_neg (by omega)], rfl⟩
  · refine v_iconst dX4_hasRoom_68 (nx := 69) rfl ?_
    refine v_goto dX4_hasRoom_69 (tgt := 73) (by decide) ?_
    exact t_zret dX4_hasRoom_73 rfl (by first | exact Or.inl rfl | exact Or.inr rfl | assumption) ⟨by first | rw [if_pos (by omega)] | rw [if_neg (by omega)], rfl⟩

set_option maxRecDepth 100000 in
theorem c_X4_first {g : GG} {kp : Bool} {σ : SS} (hR : RG σ) (i : Int) (hi : 0 ≤ i ∧ i < 12) : XC g kp 0 mX4_first [rf g (ad 0 0 i)] σ (some (vi (if 0 < σ 0 0 i 4 then σ 1 0 i 0 else -1))) σ := by
  refine TC.of (by decide) (Nat.le_of_ble_eq_true rfl) rfl ?_
  refine v_aload_n 0 dX4_first_0 (nx := 1) rfl rfl ?_
  refine t_get (a := 0) (p := 4) (T := TX4) dX4_first_1 (nx := 4) rfl (by decide) (by first | assumption | exact ok_0 ⟨by omega, by omega⟩) rfl rfl iU4 (by decide) fl_X4_28 rfl ?_
  refine v_if_le dX4_first_4 (tgt := 16) (by decide) (nx := 7) rfl (by first | assumption | exact hR.1 _ _ _ _ | exact ⟨by omega, by omega⟩) (fun c4 => ?_) (fun c4 => ?_)
  · refine v_iconst dX4_first_16 (nx := 17) rfl ?_
    exact t_iret dX4_first_17 rfl ⟨by first | rw [if_pos (by omega)] | rw [if_neg (by omega)], rfl⟩
  · refine v_aload_n 0 dX4_first_7 (nx := 8) rfl rfl ?_
    refine t_get (a := 0) (p := 5) (T := TX4) dX4_first_8 (nx := 11) rfl (by decide) (by first | assumption | exact ok_0 ⟨by omega, by omega⟩) rfl rfl iU4 (by decide) fl_X4_9 rfl ?_
    refine v_iconst dX4_first_11 (nx := 12) rfl ?_
    refine t_aldL (a := 1) (L := 60) dX4_first_12 (nx := 13) rfl rfl (by first | assumption | exact ok_1 ⟨by omega, by omega⟩) rfl ⟨by omega, by omega⟩ ?_
    refine v_goto dX4_first_13 (tgt := 17) (by decide) ?_
    exact t_iret dX4_first_17 rfl ⟨by first | rw [if_pos (by omega)] | rw [if_neg (by omega)], rfl⟩

set_option maxRecDepth 100000 in
theorem l_X4_indexOf {g : GG} {kp : Bool} {σ : SS} (hR : RG σ) (i : Int) (hi : 0 ≤ i ∧ i < 12) (b : Int) (hb : inR b) (hs : 0 ≤ σ 0 0 i 4 ∧ σ 0 0 i 4 ≤ 60) : ∀ (m : Nat) (x : Int), (0 ≤ x ∧ x ≤ σ 0 0 i 4) → (σ 0 0 i 4 - x < m) → (∀ y, 0 ≤ y → y < x → (fun j => decide (σ 1 0 i j = b)) y = false) → V g (rmD 0 0 0) mX4_indexOf (ZT g kp (fun r τ => r = (some (vi (fstI (fun j => decide (σ 1 0 i j = b)) 0 (σ 0 0 i 4)))) ∧ τ = σ)) E0 2 [(0, rf g (ad 0 0 i)), (1, vi b), (2, vi x)] [] (vw g kp σ) (sz kp) 0 0 := by
  intro m
  induction m with
  | zero => intro x hx hm hn; exfalso; omega
  | succ m ih =>
    intro x hx hm hn
    refine v_iload_n 2 dX4_indexOf_2 (nx := 3) rfl rfl ?_
    refine v_aload_n 0 dX4_indexOf_3 (nx := 4) rfl rfl ?_
    refine t_get (a := 0) (p := 4) (T := TX4) dX4_indexOf_4 (nx := 7) rfl (by decide) (by first | assumption | exact ok_0 ⟨by omega, by omega⟩) rfl rfl iU4 (by decide) fl_X4_28 rfl ?_
    refine v_icmp_ge dX4_indexOf_7 (tgt := 28) (by decide) (nx := 10) rfl (by first | assumption | exact hR.1 _ _ _ _ | exact ⟨by omega, by omega⟩) (by first | assumption | exact hR.1 _ _ _ _ | exact ⟨by omega, by omega⟩) (fun c7 => ?_) (fun c7 => ?_)
    · refine v_iconst dX4_indexOf_28 (nx := 29) rfl ?_
      exact t_iret dX4_indexOf_29 rfl ⟨by rw [show -1 = fstI (fun j => decide (σ 1 0 i j = b)) 0 (σ 0 0 i 4) from fstI_eq (by omega) (by omega) (Or.inl ⟨rfl, fun y y0 y1 => hn y y0 (by omega)⟩)], rfl⟩
    · refine v_aload_n 0 dX4_indexOf_10 (nx := 11) rfl rfl ?_
      refine t_get (a := 0) (p := 5) (T := TX4) dX4_indexOf_11 (nx := 14) rfl (by decide) (by first | assumption | exact ok_0 ⟨by omega, by omega⟩) rfl rfl iU4 (by decide) fl_X4_9 rfl ?_
      refine v_iload_n 2 dX4_indexOf_14 (nx := 15) rfl rfl ?_
      refine t_aldL (a := 1) (L := 60) dX4_indexOf_15 (nx := 16) rfl rfl (by first | assumption | exact ok_1 ⟨by omega, by omega⟩) rfl ⟨by omega, by omega⟩ ?_
      refine v_iload_n 1 dX4_indexOf_16 (nx := 17) rfl rfl ?_
      refine v_icmp_ne dX4_indexOf_17 (tgt := 22) (by decide) (nx := 20) rfl (by first | assumption | exact hR.1 _ _ _ _ | exact ⟨by omega, by omega⟩) (by first | assumption | exact hR.1 _ _ _ _ | exact ⟨by omega, by omega⟩) (fun c17 => ?_) (fun c17 => ?_)
      · refine v_iinc 2 dX4_indexOf_22 (nx := 25) rfl rfl rfl (by decide) ?_
        refine v_goto dX4_indexOf_25 (tgt := 2) (by decide) ?_
        exact (ih _ ⟨by omega, by omega⟩ (by omega) (fun y y0 y1 => by
    by_cases e : y = x
    · subst e; exact decide_eq_false (by omega)
    · exact hn y y0 (by omega)))
      · refine v_iload_n 2 dX4_indexOf_20 (nx := 21) rfl rfl ?_
        exact t_iret dX4_indexOf_21 rfl ⟨by rw [show x = fstI (fun j => decide (σ 1 0 i j = b)) 0 (σ 0 0 i 4) from fstI_eq (by omega) (by omega) (Or.inr ⟨by omega, by omega, decide_eq_true (by omega), hn⟩)], rfl⟩

set_option maxRecDepth 100000 in
theorem c_X4_indexOf {g : GG} {kp : Bool} {σ : SS} (hR : RG σ) (i : Int) (hi : 0 ≤ i ∧ i < 12) (b : Int) (hb : inR b) (hs : 0 ≤ σ 0 0 i 4 ∧ σ 0 0 i 4 ≤ 60) : XC g kp 0 mX4_indexOf [rf g (ad 0 0 i), vi b] σ (some (vi (fstI (fun j => decide (σ 1 0 i j = b)) 0 (σ 0 0 i 4)))) σ := by
  refine TC.of (by decide) (Nat.le_of_ble_eq_true rfl) rfl ?_
  refine v_iconst dX4_indexOf_0 (nx := 1) rfl ?_
  refine v_istore_n dX4_indexOf_1 (nx := 2) rfl rfl (by decide) ?_
  exact (l_X4_indexOf hR i hi b hb hs (σ 0 0 i 4 + 1).toNat 0 ⟨by omega, by omega⟩ (by omega) (fun y y0 y1 => by omega))

set_option maxRecDepth 100000 in
theorem l_X1_cellOf {g : GG} {kp : Bool} {σ : SS} (hR : RG σ) (i : Int) (hi : 0 ≤ i ∧ i < 16) (b : Int) (hb : inR b) (hs : 0 ≤ σ 2 0 i 2 ∧ σ 2 0 i 2 ≤ 12) : ∀ (m : Nat) (x : Int), (0 ≤ x ∧ x ≤ σ 2 0 i 2) → (σ 2 0 i 2 - x < m) → (∀ y, 0 ≤ y → y < x → (fun j => decide (σ 3 0 i j = b)) y = false) → V g (rmD 0 0 0) mX1_cellOf (ZT g kp (fun r τ => r = (some (vi (fstI (fun j => decide (σ 3 0 i j = b)) 0 (σ 2 0 i 2)))) ∧ τ = σ)) E0 2 [(0, rf g (ad 2 0 i)), (1, vi b), (2, vi x)] [] (vw g kp σ) (sz kp) 0 0 := by
  intro m
  induction m with
  | zero => intro x hx hm hn; exfalso; omega
  | succ m ih =>
    intro x hx hm hn
    refine v_iload_n 2 dX1_cellOf_2 (nx := 3) rfl rfl ?_
    refine v_aload_n 0 dX1_cellOf_3 (nx := 4) rfl rfl ?_
    refine t_get (a := 2) (p := 2) (T := TX1) dX1_cellOf_4 (nx := 7) rfl (by decide) (by first | assumption | exact ok_2 ⟨by omega, by omega⟩) rfl rfl iU1 (by decide) fl_X1_22 rfl ?_
    refine v_icmp_ge dX1_cellOf_7 (tgt := 28) (by decide) (nx := 10) rfl (by first | assumption | exact hR.1 _ _ _ _ | exact ⟨by omega, by omega⟩) (by first | assumption | exact hR.1 _ _ _ _ | exact ⟨by omega, by omega⟩) (fun c7 => ?_) (fun c7 => ?_)
    · refine v_iconst dX1_cellOf_28 (nx := 29) rfl ?_
      exact t_iret dX1_cellOf_29 rfl ⟨by rw [show -1 = fstI (fun j => decide (σ 3 0 i j = b)) 0 (σ 2 0 i 2) from fstI_eq (by omega) (by omega) (Or.inl ⟨rfl, fun y y0 y1 => hn y y0 (by omega)⟩)], rfl⟩
    · refine v_aload_n 0 dX1_cellOf_10 (nx := 11) rfl rfl ?_
      refine t_get (a := 2) (p := 6) (T := TX1) dX1_cellOf_11 (nx := 14) rfl (by decide) (by first | assumption | exact ok_2 ⟨by omega, by omega⟩) rfl rfl iU1 (by decide) fl_X1_9 rfl ?_
      refine v_iload_n 2 dX1_cellOf_14 (nx := 15) rfl rfl ?_
      refine t_aldL (a := 3) (L := 12) dX1_cellOf_15 (nx := 16) rfl rfl (by first | assumption | exact ok_3 ⟨by omega, by omega⟩) rfl ⟨by omega, by omega⟩ ?_
      refine v_iload_n 1 dX1_cellOf_16 (nx := 17) rfl rfl ?_
      refine v_icmp_ne dX1_cellOf_17 (tgt := 22) (by decide) (nx := 20) rfl (by first | assumption | exact hR.1 _ _ _ _ | exact ⟨by omega, by omega⟩) (by first | assumption | exact hR.1 _ _ _ _ | exact ⟨by omega, by omega⟩) (fun c17 => ?_) (fun c17 => ?_)
      · refine v_iinc 2 dX1_cellOf_22 (nx := 25) rfl rfl rfl (by decide) ?_
        refine v_goto dX1_cellOf_25 (tgt := 2) (by decide) ?_
        exact (ih _ ⟨by omega, by omega⟩ (by omega) (fun y y0 y1 => by
    by_cases e : y = x
    · subst e; exact decide_eq_false (by omega)
    · exact hn y y0 (by omega)))
      · refine v_iload_n 2 dX1_cellOf_20 (nx := 21) rfl rfl ?_
        exact t_iret dX1_cellOf_21 rfl ⟨by rw [show x = fstI (fun j => decide (σ 3 0 i j = b)) 0 (σ 2 0 i 2) from fstI_eq (by omega) (by omega) (Or.inr ⟨by omega, by omega, decide_eq_true (by omega), hn⟩)], rfl⟩

set_option maxRecDepth 100000 in
theorem c_X1_cellOf {g : GG} {kp : Bool} {σ : SS} (hR : RG σ) (i : Int) (hi : 0 ≤ i ∧ i < 16) (b : Int) (hb : inR b) (hs : 0 ≤ σ 2 0 i 2 ∧ σ 2 0 i 2 ≤ 12) : XC g kp 0 mX1_cellOf [rf g (ad 2 0 i), vi b] σ (some (vi (fstI (fun j => decide (σ 3 0 i j = b)) 0 (σ 2 0 i 2)))) σ := by
  refine TC.of (by decide) (Nat.le_of_ble_eq_true rfl) rfl ?_
  refine v_iconst dX1_cellOf_0 (nx := 1) rfl ?_
  refine v_istore_n dX1_cellOf_1 (nx := 2) rfl rfl (by decide) ?_
  exact (l_X1_cellOf hR i hi b hb hs (σ 2 0 i 2 + 1).toNat 0 ⟨by omega, by omega⟩ (by omega) (fun y y0 y1 => by omega))

set_option maxRecDepth 100000 in
theorem c_X4_join {g : GG} {kp : Bool} {σ : SS} (hR : RG σ) (i : Int) (hi : 0 ≤ i ∧ i < 12) (b : Int) (hs : 0 ≤ σ 0 0 i 4 ∧ σ 0 0 i 4 < 60) : XC g kp 0 mX4_join [rf g (ad 0 0 i), vi b] σ none (up (up σ 1 0 i (σ 0 0 i 4) b) 0 0 i 4 (σ 0 0 i 4 + 1)) := by
  refine TC.of (by decide) (Nat.le_of_ble_eq_true rfl) rfl ?_
  refine v_aload_n 0 dX4_join_0 (nx := 1) rfl rfl ?_
  refine t_get (a := 0) (p := 4) (T := TX4) dX4_join_1 (nx := 4) rfl (by decide) (by first | assumption | exact ok_0 ⟨by omega, by omega⟩) rfl rfl iU4 (by decide) fl_X4_28 rfl ?_
  refine v_aload_n 0 dX4_join_4 (nx := 5) rfl rfl ?_
  refine t_get (a := 0) (p := 5) (T := TX4) dX4_join_5 (nx := 8) rfl (by decide) (by first | assumption | exact ok_0 ⟨by omega, by omega⟩) rfl rfl iU4 (by decide) fl_X4_9 rfl ?_
  refine t_lenL (a := 1) (L := 60) dX4_join_8 (nx := 9) rfl rfl (by first | assumption | exact ok_1 ⟨by omega, by omega⟩) rfl ?_
  refine v_icmp_ge dX4_join_9 (tgt := 32) (by decide) (nx := 12) rfl (by first | assumption | exact hR.1 _ _ _ _ | exact ⟨by omega, by omega⟩) (by first | assumption | exact hR.1 _ _ _ _ | exact ⟨by omega, by omega⟩) (fun c9 => ?_) (fun c9 => ?_)
  · exact t_ret dX4_join_32 rfl (by first | exact ⟨rfl, rfl⟩ | (exfalso; omega))
  · refine v_aload_n 0 dX4_join_12 (nx := 13) rfl rfl ?_
    refine t_get (a := 0) (p := 5) (T := TX4) dX4_join_13 (nx := 16) rfl (by decide) (by first | assumption | exact ok_0 ⟨by omega, by omega⟩) rfl rfl iU4 (by decide) fl_X4_9 rfl ?_
    refine v_aload_n 0 dX4_join_16 (nx := 17) rfl rfl ?_
    refine t_get (a := 0) (p := 4) (T := TX4) dX4_join_17 (nx := 20) rfl (by decide) (by first | assumption | exact ok_0 ⟨by omega, by omega⟩) rfl rfl iU4 (by decide) fl_X4_28 rfl ?_
    refine v_iload_n 1 dX4_join_20 (nx := 21) rfl rfl ?_
    refine t_astL (a := 1) (L := 60) dX4_join_21 (nx := 22) rfl rfl (by first | assumption | exact ok_1 ⟨by omega, by omega⟩) rfl ⟨by omega, by omega⟩ ?_
    refine v_aload_n 0 dX4_join_22 (nx := 23) rfl rfl ?_
    refine v_dup dX4_join_23 (nx := 24) rfl rfl ?_
    refine t_get (a := 0) (p := 4) (T := TX4) (v := vi (σ 0 0 i 4)) dX4_join_24 (nx := 27) rfl (by decide) (by first | assumption | exact ok_0 ⟨by omega, by omega⟩) rfl rfl iU4 (by decide) fl_X4_28 rfl ?_
    refine v_iconst dX4_join_27 (nx := 28) rfl ?_
    refine v_iadd dX4_join_28 (nx := 29) rfl ?_
    refine t_put (a := 0) (j := 4) (p := 4) (T := TX4) dX4_join_29 (nx := 32) rfl (by decide) (by first | assumption | exact ok_0 ⟨by omega, by omega⟩) rfl rfl iU4 tyX4 tyX4_ok nmX4 (by decide) fl_X4_28 rfl (Or.inl rfl) (Nat.le_of_ble_eq_true rfl) (by rfl) ?_
    exact t_ret dX4_join_32 rfl (by first | exact ⟨rfl, rfl⟩ | (exfalso; omega))

/-- a row that moves up by one from lo to hi -/
def shf (C : NN) (lo hi : Int) : NN := fun j => if lo ≤ j ∧ j < hi then C (j + 1) else C j
theorem shf_0 {C : NN} {lo : Int} : shf C lo lo = C := by
  funext j
  unfold shf
  rw [if_neg (by omega)]
theorem shf_s {C : NN} {lo hi : Int} (h : lo ≤ hi) : uI (shf C lo hi) hi (shf C lo hi (hi + 1)) = shf C lo (hi + 1) := by
  funext j
  unfold uI shf
  by_cases e : j = hi
  · rw [if_pos e, if_neg (by omega), if_pos (by omega), e]
  · rw [if_neg e]
    by_cases q : lo ≤ j ∧ j < hi
    · rw [if_pos q, if_pos (by omega)]
    · rw [if_neg q, if_neg (by omega)]

set_option maxRecDepth 100000 in
theorem l_X4_leave {g : GG} {kp : Bool} {σ : SS} (hR : RG σ) (i : Int) (hi : 0 ≤ i ∧ i < 12) (b y : Int) (hs : 0 ≤ σ 0 0 i 4 ∧ σ 0 0 i 4 ≤ 60) (hy : 0 ≤ y ∧ y < σ 0 0 i 4) : ∀ (m : Nat) (x : Int), (y + 1 ≤ x ∧ x ≤ σ 0 0 i 4) → (σ 0 0 i 4 - x < m) → V g (rmD 1 0 0) mX4_leave (ZT g kp (fun r τ => r = none ∧ τ = (up (sK σ 1 i (shf (σ 1 0 i) y (σ 0 0 i 4 - 1))) 0 0 i 4 (σ 0 0 i 4 - 1)))) E0 16 [(0, rf g (ad 0 0 i)), (1, vi b), (2, vi y), (3, vi x)] [] (vw g kp (sK σ 1 i (shf (σ 1 0 i) y (x - 1)))) (sz kp) 0 0 := by
  intro m
  induction m with
  | zero => intro x hx hm; exfalso; omega
  | succ m ih =>
    intro x hx hm
    refine v_iload_n 3 dX4_leave_16 (nx := 17) rfl rfl ?_
    refine v_aload_n 0 dX4_leave_17 (nx := 18) rfl rfl ?_
    refine t_get (a := 0) (p := 4) (T := TX4) (v := vi (σ 0 0 i 4)) dX4_leave_18 (nx := 21) rfl (by decide) (by first | assumption | exact ok_0 ⟨by omega, by omega⟩) rfl rfl iU4 (by decide) fl_X4_28 rfl ?_
    refine v_icmp_ge dX4_leave_21 (tgt := 44) (by decide) (nx := 24) rfl (by first | assumption | exact hR.1 _ _ _ _ | exact ⟨by omega, by omega⟩) (by first | assumption | exact hR.1 _ _ _ _ | exact ⟨by omega, by omega⟩) (fun c21 => ?_) (fun c21 => ?_)
    · refine v_aload_n 0 dX4_leave_44 (nx := 45) rfl rfl ?_
      refine v_dup dX4_leave_45 (nx := 46) rfl rfl ?_
      refine t_get (a := 0) (p := 4) (T := TX4) (v := vi (σ 0 0 i 4)) dX4_leave_46 (nx := 49) rfl (by decide) (by first | assumption | exact ok_0 ⟨by omega, by omega⟩) rfl rfl iU4 (by decide) fl_X4_28 rfl ?_
      refine v_iconst dX4_leave_49 (nx := 50) rfl ?_
      refine v_isub dX4_leave_50 (nx := 51) rfl ?_
      refine t_put (a := 0) (j := 4) (p := 4) (T := TX4) dX4_leave_51 (nx := 54) rfl (by decide) (by first | assumption | exact ok_0 ⟨by omega, by omega⟩) rfl rfl iU4 tyX4 tyX4_ok nmX4 (by decide) fl_X4_28 rfl (Or.inl rfl) (Nat.le_of_ble_eq_true rfl) (by rfl) ?_
      exact t_ret dX4_leave_54 rfl ⟨rfl, by rw [show x = σ 0 0 i 4 by omega]⟩
    · refine v_aload_n 0 dX4_leave_24 (nx := 25) rfl rfl ?_
      refine t_get (a := 0) (p := 5) (T := TX4) dX4_leave_25 (nx := 28) rfl (by decide) (by first | assumption | exact ok_0 ⟨by omega, by omega⟩) rfl rfl iU4 (by decide) fl_X4_9 rfl ?_
      refine v_iload_n 3 dX4_leave_28 (nx := 29) rfl rfl ?_
      refine v_iconst dX4_leave_29 (nx := 30) rfl ?_
      refine v_isub dX4_leave_30 (nx := 31) rfl ?_
      refine v_aload_n 0 dX4_leave_31 (nx := 32) rfl rfl ?_
      refine t_get (a := 0) (p := 5) (T := TX4) dX4_leave_32 (nx := 35) rfl (by decide) (by first | assumption | exact ok_0 ⟨by omega, by omega⟩) rfl rfl iU4 (by decide) fl_X4_9 rfl ?_
      refine v_iload_n 3 dX4_leave_35 (nx := 36) rfl rfl ?_
      refine t_aldL (a := 1) (L := 60) dX4_leave_36 (nx := 37) rfl rfl (by first | assumption | exact ok_1 ⟨by omega, by omega⟩) rfl ⟨by omega, by omega⟩ ?_
      refine v_top (z' := shf (σ 1 0 i) y (x - 1) x) (by rw [sK_s]) ?_
      refine t_astL (a := 1) (L := 60) dX4_leave_37 (nx := 38) rfl rfl (by first | assumption | exact ok_1 ⟨by omega, by omega⟩) rfl ⟨by omega, by omega⟩ ?_
      refine v_iinc 3 dX4_leave_38 (nx := 41) rfl rfl rfl (by decide) ?_
      refine v_goto dX4_leave_41 (tgt := 16) (by decide) ?_
      exact (by
    have e := shf_s (C := σ 1 0 i) (lo := y) (hi := x - 1) (by omega)
    rw [show x - 1 + 1 = x by omega] at e
    rw [sK_up, e, show (shf (σ 1 0 i) y x) = shf (σ 1 0 i) y (x + 1 - 1) by rw [show x + 1 - 1 = x by omega]]
    exact ih _ ⟨by omega, by omega⟩ (by omega))

set_option maxRecDepth 100000 in
theorem c_X4_leave {g : GG} {kp : Bool} {σ : SS} (hR : RG σ) (i : Int) (hi : 0 ≤ i ∧ i < 12) (b : Int) (hb : inR b) (hs : 0 ≤ σ 0 0 i 4 ∧ σ 0 0 i 4 ≤ 60) : XC g kp 1 mX4_leave [rf g (ad 0 0 i), vi b] σ none (if fstI (fun j => decide (σ 1 0 i j = b)) 0 (σ 0 0 i 4) = -1 then σ else up (sK σ 1 i (shf (σ 1 0 i) (fstI (fun j => decide (σ 1 0 i j = b)) 0 (σ 0 0 i 4)) (σ 0 0 i 4 - 1))) 0 0 i 4 (σ 0 0 i 4 - 1)) := by
  refine TC.of (by decide) (Nat.le_of_ble_eq_true rfl) rfl ?_
  have hgp := fstI_b (P := fun j => decide (σ 1 0 i j = b)) (lo := 0) (hi := σ 0 0 i 4) (by omega) hs.1
  refine v_aload_n 0 dX4_leave_0 (nx := 1) rfl rfl ?_
  refine v_iload_n 1 dX4_leave_1 (nx := 2) rfl rfl ?_
  refine t_callVi (a := 0) (c_X4_indexOf hR _ hi _ hb hs) dX4_leave_2 (nx := 5) rfl kX4_indexOf ml_X4_41 (by decide) (by first | assumption | exact ok_0 ⟨by omega, by omega⟩) rfl rfl rfl rfl (Nat.le_of_ble_eq_true rfl) ⟨by decide, by decide⟩ ⟨by decide, by decide⟩ ?_
  refine v_istore_n dX4_leave_5 (nx := 6) rfl rfl (by decide) ?_
  refine v_iload_n 2 dX4_leave_6 (nx := 7) rfl rfl ?_
  refine v_iconst dX4_leave_7 (nx := 8) rfl ?_
  refine v_icmp_ne dX4_leave_8 (tgt := 12) (by decide) (nx := 11) rfl (by first | assumption | exact hR.1 _ _ _ _ | exact ⟨by omega, by omega⟩) (by first | assumption | exact hR.1 _ _ _ _ | exact ⟨by omega, by omega⟩) (fun c8 => ?_) (fun c8 => ?_)
  · refine v_iload_n 2 dX4_leave_12 (nx := 13) rfl rfl ?_
    refine v_iconst dX4_leave_13 (nx := 14) rfl ?_
    refine v_iadd dX4_leave_14 (nx := 15) rfl ?_
    refine v_istore_n dX4_leave_15 (nx := 16) rfl rfl (by decide) ?_
    exact (by
    rw [if_neg (by omega)]
    have := l_X4_leave (g := g) (kp := kp) hR i hi b (fstI (fun j => decide (σ 1 0 i j = b)) 0 (σ 0 0 i 4)) hs (by omega) (σ 0 0 i 4 + 1).toNat (fstI (fun j => decide (σ 1 0 i j = b)) 0 (σ 0 0 i 4) + 1) ⟨by omega, by omega⟩ (by omega)
    rw [show fstI (fun j => decide (σ 1 0 i j = b)) 0 (σ 0 0 i 4) + 1 - 1 = fstI (fun j => decide (σ 1 0 i j = b)) 0 (σ 0 0 i 4) by omega, shf_0, sK_id] at this
    exact this)
  · exact t_ret dX4_leave_11 rfl ⟨rfl, by rw [if_pos (by omega)]⟩

/-- the first n places with one value -/
def fil (C : NN) (n v : Int) : NN := fun j => if 0 ≤ j ∧ j < n then v else C j
theorem fil_0 {C : NN} {v : Int} : fil C 0 v = C := by
  funext j
  unfold fil
  rw [if_neg (by omega)]
theorem fil_s {C : NN} {n v : Int} (h : 0 ≤ n) : uI (fil C n v) n v = fil C (n + 1) v := by
  funext j
  unfold uI fil
  by_cases e : j = n
  · rw [if_pos e, if_pos (by omega)]
  · rw [if_neg e]
    by_cases q : 0 ≤ j ∧ j < n
    · rw [if_pos q, if_pos (by omega)]
    · rw [if_neg q, if_neg (by omega)]

set_option maxRecDepth 100000 in
theorem l_X1_begin {g : GG} {kp : Bool} {σ : SS} (i : Int) (hi : 0 ≤ i ∧ i < 16) (fr to ln : Int) : ∀ (m : Nat) (x : Int), (0 ≤ x ∧ x ≤ 12) → (12 - x < m) → V g (rmD 0 0 0) mX1_begin (ZT g kp (fun r τ => r = none ∧ τ = (sK σ 3 i (fil (σ 3 0 i) 12 (-1))))) E0 33 [(0, rf g (ad 2 0 i)), (1, vi fr), (2, vi to), (3, vi ln), (4, vi x)] [] (vw g kp (sK σ 3 i (fil (σ 3 0 i) x (-1)))) (sz kp) 0 0 := by
  intro m
  induction m with
  | zero => intro x hx hm; exfalso; omega
  | succ m ih =>
    intro x hx hm
    refine v_iload 4 dX1_begin_33 (nx := 35) rfl rfl ?_
    refine v_aload_n 0 dX1_begin_35 (nx := 36) rfl rfl ?_
    refine t_get (a := 2) (p := 6) (T := TX1) dX1_begin_36 (nx := 39) rfl (by decide) (by first | assumption | exact ok_2 ⟨by omega, by omega⟩) rfl rfl iU1 (by decide) fl_X1_9 rfl ?_
    refine t_lenL (a := 3) (L := 12) dX1_begin_39 (nx := 40) rfl rfl (by first | assumption | exact ok_3 ⟨by omega, by omega⟩) rfl ?_
    refine v_icmp_ge dX1_begin_40 (tgt := 57) (by decide) (nx := 43) rfl (by first | assumption | exact hR.1 _ _ _ _ | exact ⟨by omega, by omega⟩) (by first | assumption | exact hR.1 _ _ _ _ | exact ⟨by omega, by omega⟩) (fun c40 => ?_) (fun c40 => ?_)
    · exact t_ret dX1_begin_57 rfl ⟨rfl, by rw [show x = 12 by omega]⟩
    · refine v_aload_n 0 dX1_begin_43 (nx := 44) rfl rfl ?_
      refine t_get (a := 2) (p := 6) (T := TX1) dX1_begin_44 (nx := 47) rfl (by decide) (by first | assumption | exact ok_2 ⟨by omega, by omega⟩) rfl rfl iU1 (by decide) fl_X1_9 rfl ?_
      refine v_iload 4 dX1_begin_47 (nx := 49) rfl rfl ?_
      refine v_iconst dX1_begin_49 (nx := 50) rfl ?_
      refine t_astL (a := 3) (L := 12) dX1_begin_50 (nx := 51) rfl rfl (by first | assumption | exact ok_3 ⟨by omega, by omega⟩) rfl ⟨by omega, by omega⟩ ?_
      refine v_iinc 4 dX1_begin_51 (nx := 54) rfl rfl rfl (by decide) ?_
      refine v_goto dX1_begin_54 (tgt := 33) (by decide) ?_
      exact (by rw [sK_up, fil_s hx.1]; exact ih _ ⟨by omega, by omega⟩ (by omega))

set_option maxRecDepth 100000 in
theorem c_X1_begin {g : GG} {kp : Bool} {σ : SS} (i : Int) (hi : 0 ≤ i ∧ i < 16) (fr to ln : Int) : XC g kp 0 mX1_begin [rf g (ad 2 0 i), vi fr, vi to, vi ln] σ none (sK (up (up (up (up (up (up σ 2 0 i 0 fr) 2 0 i 1 to) 2 0 i 2 ln) 2 0 i 3 1) 2 0 i 4 0) 2 0 i 5 0) 3 i (fil ((up (up (up (up (up (up σ 2 0 i 0 fr) 2 0 i 1 to) 2 0 i 2 ln) 2 0 i 3 1) 2 0 i 4 0) 2 0 i 5 0) 3 0 i) 12 (-1))) := by
  refine TC.of (by decide) (Nat.le_of_ble_eq_true rfl) rfl ?_
  refine v_aload_n 0 dX1_begin_0 (nx := 1) rfl rfl ?_
  refine v_iload_n 1 dX1_begin_1 (nx := 2) rfl rfl ?_
  refine t_put (a := 2) (j := 0) (p := 0) (T := TX1) dX1_begin_2 (nx := 5) rfl (by decide) (by first | assumption | exact ok_2 ⟨by omega, by omega⟩) rfl rfl iU1 tyX1 tyX1_ok nmX1 (by decide) fl_X1_15 rfl (Or.inl rfl) (Nat.le_of_ble_eq_true rfl) (by rfl) ?_
  refine v_aload_n 0 dX1_begin_5 (nx := 6) rfl rfl ?_
  refine v_iload_n 2 dX1_begin_6 (nx := 7) rfl rfl ?_
  refine t_put (a := 2) (j := 1) (p := 1) (T := TX1) dX1_begin_7 (nx := 10) rfl (by decide) (by first | assumption | exact ok_2 ⟨by omega, by omega⟩) rfl rfl iU1 tyX1 tyX1_ok nmX1 (by decide) fl_X1_19 rfl (Or.inl rfl) (Nat.le_of_ble_eq_true rfl) (by rfl) ?_
  refine v_aload_n 0 dX1_begin_10 (nx := 11) rfl rfl ?_
  refine v_iload_n 3 dX1_begin_11 (nx := 12) rfl rfl ?_
  refine t_put (a := 2) (j := 2) (p := 2) (T := TX1) dX1_begin_12 (nx := 15) rfl (by decide) (by first | assumption | exact ok_2 ⟨by omega, by omega⟩) rfl rfl iU1 tyX1 tyX1_ok nmX1 (by decide) fl_X1_22 rfl (Or.inl rfl) (Nat.le_of_ble_eq_true rfl) (by rfl) ?_
  refine v_aload_n 0 dX1_begin_15 (nx := 16) rfl rfl ?_
  refine v_iconst dX1_begin_16 (nx := 17) rfl ?_
  refine t_put (a := 2) (j := 3) (p := 3) (T := TX1) dX1_begin_17 (nx := 20) rfl (by decide) (by first | assumption | exact ok_2 ⟨by omega, by omega⟩) rfl rfl iU1 tyX1 tyX1_ok nmX1 (by decide) fl_X1_25 rfl (Or.inl rfl) (Nat.le_of_ble_eq_true rfl) (by rfl) ?_
  refine v_aload_n 0 dX1_begin_20 (nx := 21) rfl rfl ?_
  refine v_iconst dX1_begin_21 (nx := 22) rfl ?_
  refine t_put (a := 2) (j := 4) (p := 4) (T := TX1) dX1_begin_22 (nx := 25) rfl (by decide) (by first | assumption | exact ok_2 ⟨by omega, by omega⟩) rfl rfl iU1 tyX1 tyX1_ok nmX1 (by decide) fl_X1_28 rfl (Or.inr ⟨rfl, by first | assumption | exact Or.inl rfl | exact Or.inr rfl | omega⟩) (Nat.le_of_ble_eq_true rfl) (by rfl) ?_
  refine v_aload_n 0 dX1_begin_25 (nx := 26) rfl rfl ?_
  refine v_iconst dX1_begin_26 (nx := 27) rfl ?_
  refine t_put (a := 2) (j := 5) (p := 5) (T := TX1) dX1_begin_27 (nx := 30) rfl (by decide) (by first | assumption | exact ok_2 ⟨by omega, by omega⟩) rfl rfl iU1 tyX1 tyX1_ok nmX1 (by decide) fl_X1_32 rfl (Or.inr ⟨rfl, by first | assumption | exact Or.inl rfl | exact Or.inr rfl | omega⟩) (Nat.le_of_ble_eq_true rfl) (by rfl) ?_
  refine v_iconst dX1_begin_30 (nx := 31) rfl ?_
  refine v_istore dX1_begin_31 (nx := 33) rfl rfl (by decide) ?_
  exact (by
    have := l_X1_begin (g := g) (kp := kp) (σ := (up (up (up (up (up (up σ 2 0 i 0 fr) 2 0 i 1 to) 2 0 i 2 ln) 2 0 i 3 1) 2 0 i 4 0) 2 0 i 5 0)) i hi fr to ln 13 0 ⟨by omega, by omega⟩ (by omega)
    rw [fil_0, sK_id] at this
    exact this)

set_option maxRecDepth 100000 in
theorem c_X1_canEnter {g : GG} {kp : Bool} {σ : SS} (hR : RG σ) (i : Int) (hi : 0 ≤ i ∧ i < 16) : XC g kp 0 mX1_canEnter [rf g (ad 2 0 i)] σ (some (vi (if σ 2 0 i 4 = 0 ∧ σ 3 0 i 0 = -1 then 1 else 0))) σ := by
  refine TC.of (by decide) (Nat.le_of_ble_eq_true rfl) rfl ?_
  refine v_aload_n 0 dX1_canEnter_0 (nx := 1) rfl rfl ?_
  refine t_get (a := 2) (p := 4) (T := TX1) dX1_canEnter_1 (nx := 4) rfl (by decide) (by first | assumption | exact ok_2 ⟨by omega, by omega⟩) rfl rfl iU1 (by decide) fl_X1_28 rfl ?_
  refine v_if_ne dX1_canEnter_4 (tgt := 21) (by decide) (nx := 7) rfl (by first | assumption | exact hR.1 _ _ _ _ | exact ⟨by omega, by omega⟩) (fun c4 => ?_) (fun c4 => ?_)
  · refine v_iconst dX1_canEnter_21 (nx := 22) rfl ?_
    exact t_zret dX1_canEnter_22 rfl (by first | exact Or.inl rfl | exact Or.inr rfl | assumption) ⟨by first | rw [if_pos (by omega)] | rw [if_neg (by omega)], rfl⟩
  · refine v_aload_n 0 dX1_canEnter_7 (nx := 8) rfl rfl ?_
    refine t_get (a := 2) (p := 6) (T := TX1) dX1_canEnter_8 (nx := 11) rfl (by decide) (by first | assumption | exact ok_2 ⟨by omega, by omega⟩) rfl rfl iU1 (by decide) fl_X1_9 rfl ?_
    refine v_iconst dX1_canEnter_11 (nx := 12) rfl ?_
    refine t_aldL (a := 3) (L := 12) dX1_canEnter_12 (nx := 13) rfl rfl (by first | assumption | exact ok_3 ⟨by omega, by omega⟩) rfl ⟨by omega, by omega⟩ ?_
    refine v_iconst dX1_canEnter_13 (nx := 14) rfl ?_
    refine v_icmp_ne dX1_canEnter_14 (tgt := 21) (by decide) (nx := 17) rfl (by first | assumption | exact hR.1 _ _ _ _ | exact ⟨by omega, by omega⟩) (by first | assumption | exact hR.1 _ _ _ _ | exact ⟨by omega, by omega⟩) (fun c14 => ?_) (fun c14 => ?_)
    · refine v_iconst dX1_canEnter_21 (nx := 22) rfl ?_
      exact t_zret dX1_canEnter_22 rfl (by first | exact Or.inl rfl | exact Or.inr rfl | assumption) ⟨by first | rw [if_pos (by omega)] | rw [if_neg (by omega)], rfl⟩
    · refine v_iconst dX1_canEnter_17 (nx := 18) rfl ?_
      refine v_goto dX1_canEnter_18 (tgt := 22) (by decide) ?_
      exact t_zret dX1_canEnter_22 rfl (by first | exact Or.inl rfl | exact Or.inr rfl | assumption) ⟨by first | rw [if_pos (by omega)] | rw [if_neg (by omega)], rfl⟩

set_option maxRecDepth 100000 in
theorem c_X1_enter {g : GG} {kp : Bool} {σ : SS} (i : Int) (hi : 0 ≤ i ∧ i < 16) (b : Int) : XC g kp 0 mX1_enter [rf g (ad 2 0 i), vi b] σ none (up (up σ 3 0 i 0 b) 2 0 i 5 1) := by
  refine TC.of (by decide) (Nat.le_of_ble_eq_true rfl) rfl ?_
  refine v_aload_n 0 dX1_enter_0 (nx := 1) rfl rfl ?_
  refine t_get (a := 2) (p := 6) (T := TX1) dX1_enter_1 (nx := 4) rfl (by decide) (by first | assumption | exact ok_2 ⟨by omega, by omega⟩) rfl rfl iU1 (by decide) fl_X1_9 rfl ?_
  refine v_iconst dX1_enter_4 (nx := 5) rfl ?_
  refine v_iload_n 1 dX1_enter_5 (nx := 6) rfl rfl ?_
  refine t_astL (a := 3) (L := 12) dX1_enter_6 (nx := 7) rfl rfl (by first | assumption | exact ok_3 ⟨by omega, by omega⟩) rfl ⟨by omega, by omega⟩ ?_
  refine v_aload_n 0 dX1_enter_7 (nx := 8) rfl rfl ?_
  refine v_iconst dX1_enter_8 (nx := 9) rfl ?_
  refine t_put (a := 2) (j := 5) (p := 5) (T := TX1) dX1_enter_9 (nx := 12) rfl (by decide) (by first | assumption | exact ok_2 ⟨by omega, by omega⟩) rfl rfl iU1 tyX1 tyX1_ok nmX1 (by decide) fl_X1_32 rfl (Or.inr ⟨rfl, by first | assumption | exact Or.inl rfl | exact Or.inr rfl | omega⟩) (Nat.le_of_ble_eq_true rfl) (by rfl) ?_
  exact t_ret dX1_enter_12 rfl ⟨rfl, rfl⟩

/-- a belt's cells move on: one cell, and all from n-1+lo down to lo -/
def mc1 (C : NN) (x : Int) : NN := if C (x + 1) = -1 then uI (uI C (x + 1) (C x)) x (-1) else C
def mcs (lo : Int) : Nat → NN → NN
  | 0, C => C
  | n + 1, C => mcs lo n (mc1 C (lo + n))

set_option maxRecDepth 100000 in
theorem l_X1_moveOn {g : GG} {kp : Bool} {σ : SS} (i : Int) (hi : 0 ≤ i ∧ i < 16) (lo : Int) (hlo : lo = 0 ∨ lo = 1) : ∀ (m : Nat) (x : Int) (C : NN), (-1 ≤ x ∧ x < 11) → (x + 2 < m) → (∀ j, inR (C j)) → V g (rmD 0 0 0) mX1_moveOn (ZT g kp (fun r τ => r = none ∧ τ = (sK σ 3 i (mcs lo (x + 1 - lo).toNat C)))) E0 28 [(0, rf g (ad 2 0 i)), (1, vi lo), (2, vi x)] [] (vw g kp (sK σ 3 i C)) (sz kp) 0 0 := by
  intro m
  induction m with
  | zero => intro x C hx hm hC; exfalso; omega
  | succ m ih =>
    intro x C hx hm hC
    refine v_iload_n 2 dX1_moveOn_28 (nx := 29) rfl rfl ?_
    refine v_iload_n 1 dX1_moveOn_29 (nx := 30) rfl rfl ?_
    refine v_icmp_lt dX1_moveOn_30 (tgt := 72) (by decide) (nx := 33) rfl (by first | assumption | exact hC _ | exact ⟨by omega, by omega⟩) (by first | assumption | exact hC _ | exact ⟨by omega, by omega⟩) (fun c30 => ?_) (fun c30 => ?_)
    · exact t_ret dX1_moveOn_72 rfl ⟨rfl, by rw [show (x + 1 - lo).toNat = 0 by omega]; rfl⟩
    · have e1 : (x + 1 - lo).toNat = (x - lo).toNat + 1 := by omega
      have e2 : lo + (((x - lo).toNat : Nat) : Int) = x := by omega
      have e3 : mcs lo (x + 1 - lo).toNat C = mcs lo (x - lo).toNat (mc1 C x) := by
        rw [e1]
        show mcs lo (x - lo).toNat (mc1 C (lo + (((x - lo).toNat : Nat) : Int))) = _
        rw [e2]
      refine v_aload_n 0 dX1_moveOn_33 (nx := 34) rfl rfl ?_
      refine t_get (a := 2) (p := 6) (T := TX1) dX1_moveOn_34 (nx := 37) rfl (by decide) (by first | assumption | exact ok_2 ⟨by omega, by omega⟩) rfl rfl iU1 (by decide) fl_X1_9 rfl ?_
      refine v_iload_n 2 dX1_moveOn_37 (nx := 38) rfl rfl ?_
      refine v_iconst dX1_moveOn_38 (nx := 39) rfl ?_
      refine v_iadd dX1_moveOn_39 (nx := 40) rfl ?_
      refine t_aldL (a := 3) (L := 12) dX1_moveOn_40 (nx := 41) rfl rfl (by first | assumption | exact ok_3 ⟨by omega, by omega⟩) rfl ⟨by omega, by omega⟩ ?_
      refine v_top (z' := C (x + 1)) (by rw [sK_s]) ?_
      refine v_iconst dX1_moveOn_41 (nx := 42) rfl ?_
      refine v_icmp_ne dX1_moveOn_42 (tgt := 66) (by decide) (nx := 45) rfl (by first | assumption | exact hC _ | exact ⟨by omega, by omega⟩) (by first | assumption | exact hC _ | exact ⟨by omega, by omega⟩) (fun c42 => ?_) (fun c42 => ?_)
      · refine v_iinc 2 dX1_moveOn_66 (nx := 69) rfl rfl rfl (by decide) ?_
        refine v_goto dX1_moveOn_69 (tgt := 28) (by decide) ?_
        exact (by
    rw [e3, show mc1 C x = C from if_neg c42, show (x - lo).toNat = (x + -1 + 1 - lo).toNat by omega]
    exact ih _ _ ⟨by omega, by omega⟩ (by omega) hC)
      · refine v_aload_n 0 dX1_moveOn_45 (nx := 46) rfl rfl ?_
        refine t_get (a := 2) (p := 6) (T := TX1) dX1_moveOn_46 (nx := 49) rfl (by decide) (by first | assumption | exact ok_2 ⟨by omega, by omega⟩) rfl rfl iU1 (by decide) fl_X1_9 rfl ?_
        refine v_iload_n 2 dX1_moveOn_49 (nx := 50) rfl rfl ?_
        refine v_iconst dX1_moveOn_50 (nx := 51) rfl ?_
        refine v_iadd dX1_moveOn_51 (nx := 52) rfl ?_
        refine v_aload_n 0 dX1_moveOn_52 (nx := 53) rfl rfl ?_
        refine t_get (a := 2) (p := 6) (T := TX1) dX1_moveOn_53 (nx := 56) rfl (by decide) (by first | assumption | exact ok_2 ⟨by omega, by omega⟩) rfl rfl iU1 (by decide) fl_X1_9 rfl ?_
        refine v_iload_n 2 dX1_moveOn_56 (nx := 57) rfl rfl ?_
        refine t_aldL (a := 3) (L := 12) dX1_moveOn_57 (nx := 58) rfl rfl (by first | assumption | exact ok_3 ⟨by omega, by omega⟩) rfl ⟨by omega, by omega⟩ ?_
        refine v_top (z' := C x) (by rw [sK_s]) ?_
        refine t_astL (a := 3) (L := 12) dX1_moveOn_58 (nx := 59) rfl rfl (by first | assumption | exact ok_3 ⟨by omega, by omega⟩) rfl ⟨by omega, by omega⟩ ?_
        refine v_aload_n 0 dX1_moveOn_59 (nx := 60) rfl rfl ?_
        refine t_get (a := 2) (p := 6) (T := TX1) dX1_moveOn_60 (nx := 63) rfl (by decide) (by first | assumption | exact ok_2 ⟨by omega, by omega⟩) rfl rfl iU1 (by decide) fl_X1_9 rfl ?_
        refine v_iload_n 2 dX1_moveOn_63 (nx := 64) rfl rfl ?_
        refine v_iconst dX1_moveOn_64 (nx := 65) rfl ?_
        refine t_astL (a := 3) (L := 12) dX1_moveOn_65 (nx := 66) rfl rfl (by first | assumption | exact ok_3 ⟨by omega, by omega⟩) rfl ⟨by omega, by omega⟩ ?_
        refine v_iinc 2 dX1_moveOn_66 (nx := 69) rfl rfl rfl (by decide) ?_
        refine v_goto dX1_moveOn_69 (tgt := 28) (by decide) ?_
        exact (by
    rw [e3, show mc1 C x = uI (uI C (x + 1) (C x)) x (-1) from if_pos c42, sK_up, sK_up, show (x - lo).toNat = (x + -1 + 1 - lo).toNat by omega]
    exact ih _ _ ⟨by omega, by omega⟩ (by omega) (inR_uI (inR_uI hC (hC x)) ⟨by decide, by decide⟩))

set_option maxRecDepth 100000 in
theorem c_X1_moveOn {g : GG} {kp : Bool} {σ : SS} (hR : RG σ) (i : Int) (hi : 0 ≤ i ∧ i < 16) (hl : 1 ≤ σ 2 0 i 2 ∧ σ 2 0 i 2 ≤ 12) : XC g kp 0 mX1_moveOn [rf g (ad 2 0 i)] σ none (if σ 2 0 i 4 = 0 then sK σ 3 i (mcs (if σ 2 0 i 5 = 0 then 0 else 1) (σ 2 0 i 2 - 1 - (if σ 2 0 i 5 = 0 then 0 else 1)).toNat (σ 3 0 i)) else σ) := by
  refine TC.of (by decide) (Nat.le_of_ble_eq_true rfl) rfl ?_
  refine v_aload_n 0 dX1_moveOn_0 (nx := 1) rfl rfl ?_
  refine t_get (a := 2) (p := 4) (T := TX1) dX1_moveOn_1 (nx := 4) rfl (by decide) (by first | assumption | exact ok_2 ⟨by omega, by omega⟩) rfl rfl iU1 (by decide) fl_X1_28 rfl ?_
  refine v_if_eq dX1_moveOn_4 (tgt := 8) (by decide) (nx := 7) rfl (by first | assumption | exact hR.1 _ _ _ _ | exact ⟨by omega, by omega⟩) (fun c4 => ?_) (fun c4 => ?_)
  · refine v_aload_n 0 dX1_moveOn_8 (nx := 9) rfl rfl ?_
    refine t_get (a := 2) (p := 5) (T := TX1) dX1_moveOn_9 (nx := 12) rfl (by decide) (by first | assumption | exact ok_2 ⟨by omega, by omega⟩) rfl rfl iU1 (by decide) fl_X1_32 rfl ?_
    refine v_if_eq dX1_moveOn_12 (tgt := 19) (by decide) (nx := 15) rfl (by first | assumption | exact hR.1 _ _ _ _ | exact ⟨by omega, by omega⟩) (fun c12 => ?_) (fun c12 => ?_)
    · refine v_iconst dX1_moveOn_19 (nx := 20) rfl ?_
      refine v_istore_n dX1_moveOn_20 (nx := 21) rfl rfl (by decide) ?_
      refine v_aload_n 0 dX1_moveOn_21 (nx := 22) rfl rfl ?_
      refine t_get (a := 2) (p := 2) (T := TX1) dX1_moveOn_22 (nx := 25) rfl (by decide) (by first | assumption | exact ok_2 ⟨by omega, by omega⟩) rfl rfl iU1 (by decide) fl_X1_22 rfl ?_
      refine v_iconst dX1_moveOn_25 (nx := 26) rfl ?_
      refine v_isub dX1_moveOn_26 (nx := 27) rfl ?_
      refine v_istore_n dX1_moveOn_27 (nx := 28) rfl rfl (by decide) ?_
      exact (by
    rw [if_pos (by omega), if_pos c12]
    have := l_X1_moveOn (g := g) (kp := kp) (σ := σ) i hi 0 (by omega) 20 (σ 2 0 i 2 - 2) (σ 3 0 i) ⟨by omega, by omega⟩ (by omega) (fun j => hR.1 _ _ _ _)
    rw [sK_id, show σ 2 0 i 2 - 2 + 1 - 0 = σ 2 0 i 2 - 1 - 0 by omega] at this
    exact this)
    · refine v_iconst dX1_moveOn_15 (nx := 16) rfl ?_
      refine v_goto dX1_moveOn_16 (tgt := 20) (by decide) ?_
      refine v_istore_n dX1_moveOn_20 (nx := 21) rfl rfl (by decide) ?_
      refine v_aload_n 0 dX1_moveOn_21 (nx := 22) rfl rfl ?_
      refine t_get (a := 2) (p := 2) (T := TX1) dX1_moveOn_22 (nx := 25) rfl (by decide) (by first | assumption | exact ok_2 ⟨by omega, by omega⟩) rfl rfl iU1 (by decide) fl_X1_22 rfl ?_
      refine v_iconst dX1_moveOn_25 (nx := 26) rfl ?_
      refine v_isub dX1_moveOn_26 (nx := 27) rfl ?_
      refine v_istore_n dX1_moveOn_27 (nx := 28) rfl rfl (by decide) ?_
      exact (by
    rw [if_pos (by omega), if_neg c12]
    have := l_X1_moveOn (g := g) (kp := kp) (σ := σ) i hi 1 (by omega) 20 (σ 2 0 i 2 - 2) (σ 3 0 i) ⟨by omega, by omega⟩ (by omega) (fun j => hR.1 _ _ _ _)
    rw [sK_id, show σ 2 0 i 2 - 2 + 1 - 1 = σ 2 0 i 2 - 1 - 1 by omega] at this
    exact this)
  · exact t_ret dX1_moveOn_7 rfl ⟨rfl, by rw [if_neg (by omega)]⟩

set_option maxRecDepth 100000 in
theorem c_X1_readyBag {g : GG} {kp : Bool} {σ : SS} (hR : RG σ) (i : Int) (hi : 0 ≤ i ∧ i < 16) (hl : 1 ≤ σ 2 0 i 2 ∧ σ 2 0 i 2 ≤ 12) : XC g kp 0 mX1_readyBag [rf g (ad 2 0 i)] σ (some (vi (if σ 2 0 i 4 = 0 ∧ ¬ (¬ σ 2 0 i 5 = 0 ∧ σ 2 0 i 2 = 1) then σ 3 0 i (σ 2 0 i 2 - 1) else -1))) σ := by
  refine TC.of (by decide) (Nat.le_of_ble_eq_true rfl) rfl ?_
  refine v_aload_n 0 dX1_readyBag_0 (nx := 1) rfl rfl ?_
  refine t_get (a := 2) (p := 5) (T := TX1) dX1_readyBag_1 (nx := 4) rfl (by decide) (by first | assumption | exact ok_2 ⟨by omega, by omega⟩) rfl rfl iU1 (by decide) fl_X1_32 rfl ?_
  refine v_if_eq dX1_readyBag_4 (tgt := 19) (by decide) (nx := 7) rfl (by first | assumption | exact hR.1 _ _ _ _ | exact ⟨by omega, by omega⟩) (fun c4 => ?_) (fun c4 => ?_)
  · refine v_iconst dX1_readyBag_19 (nx := 20) rfl ?_
    refine v_istore_n dX1_readyBag_20 (nx := 21) rfl rfl (by decide) ?_
    refine v_aload_n 0 dX1_readyBag_21 (nx := 22) rfl rfl ?_
    refine t_get (a := 2) (p := 4) (T := TX1) dX1_readyBag_22 (nx := 25) rfl (by decide) (by first | assumption | exact ok_2 ⟨by omega, by omega⟩) rfl rfl iU1 (by decide) fl_X1_28 rfl ?_
    refine v_if_ne dX1_readyBag_25 (tgt := 40) (by decide) (nx := 28) rfl (by first | assumption | exact hR.1 _ _ _ _ | exact ⟨by omega, by omega⟩) (fun c25 => ?_) (fun c25 => ?_)
    · refine v_iconst dX1_readyBag_40 (nx := 41) rfl ?_
      refine v_goto dX1_readyBag_41 (tgt := 55) (by decide) ?_
      exact t_iret dX1_readyBag_55 rfl (by first | (exfalso; omega) | exact ⟨by first | rw [if_pos (by omega)] | rw [if_neg (by omega)], rfl⟩)
    · refine v_iload_n 1 dX1_readyBag_28 (nx := 29) rfl rfl ?_
      refine v_if_ne dX1_readyBag_29 (tgt := 40) (by decide) (nx := 32) rfl (by first | assumption | exact hR.1 _ _ _ _ | exact ⟨by omega, by omega⟩) (fun c29 => ?_) (fun c29 => ?_)
      · refine v_iconst dX1_readyBag_40 (nx := 41) rfl ?_
        refine v_goto dX1_readyBag_41 (tgt := 55) (by decide) ?_
        exact t_iret dX1_readyBag_55 rfl (by first | (exfalso; omega) | exact ⟨by first | rw [if_pos (by omega)] | rw [if_neg (by omega)], rfl⟩)
      · refine v_aload_n 0 dX1_readyBag_32 (nx := 33) rfl rfl ?_
        refine t_get (a := 2) (p := 2) (T := TX1) dX1_readyBag_33 (nx := 36) rfl (by decide) (by first | assumption | exact ok_2 ⟨by omega, by omega⟩) rfl rfl iU1 (by decide) fl_X1_22 rfl ?_
        refine v_iconst dX1_readyBag_36 (nx := 37) rfl ?_
        refine v_icmp_ge dX1_readyBag_37 (tgt := 44) (by decide) (nx := 40) rfl (by first | assumption | exact hR.1 _ _ _ _ | exact ⟨by omega, by omega⟩) (by first | assumption | exact hR.1 _ _ _ _ | exact ⟨by omega, by omega⟩) (fun c37 => ?_) (fun c37 => ?_)
        · refine v_aload_n 0 dX1_readyBag_44 (nx := 45) rfl rfl ?_
          refine t_get (a := 2) (p := 6) (T := TX1) dX1_readyBag_45 (nx := 48) rfl (by decide) (by first | assumption | exact ok_2 ⟨by omega, by omega⟩) rfl rfl iU1 (by decide) fl_X1_9 rfl ?_
          refine v_aload_n 0 dX1_readyBag_48 (nx := 49) rfl rfl ?_
          refine t_get (a := 2) (p := 2) (T := TX1) dX1_readyBag_49 (nx := 52) rfl (by decide) (by first | assumption | exact ok_2 ⟨by omega, by omega⟩) rfl rfl iU1 (by decide) fl_X1_22 rfl ?_
          refine v_iconst dX1_readyBag_52 (nx := 53) rfl ?_
          refine v_isub dX1_readyBag_53 (nx := 54) rfl ?_
          refine t_aldL (a := 3) (L := 12) dX1_readyBag_54 (nx := 55) rfl rfl (by first | assumption | exact ok_3 ⟨by omega, by omega⟩) rfl ⟨by omega, by omega⟩ ?_
          exact t_iret dX1_readyBag_55 rfl (by first | (exfalso; omega) | exact ⟨by first | rw [if_pos (by omega)] | rw [if_neg (by omega)], rfl⟩)
        · refine v_iconst dX1_readyBag_40 (nx := 41) rfl ?_
          refine v_goto dX1_readyBag_41 (tgt := 55) (by decide) ?_
          exact t_iret dX1_readyBag_55 rfl (by first | (exfalso; omega) | exact ⟨by first | rw [if_pos (by omega)] | rw [if_neg (by omega)], rfl⟩)
  · refine v_aload_n 0 dX1_readyBag_7 (nx := 8) rfl rfl ?_
    refine t_get (a := 2) (p := 2) (T := TX1) dX1_readyBag_8 (nx := 11) rfl (by decide) (by first | assumption | exact ok_2 ⟨by omega, by omega⟩) rfl rfl iU1 (by decide) fl_X1_22 rfl ?_
    refine v_iconst dX1_readyBag_11 (nx := 12) rfl ?_
    refine v_icmp_ne dX1_readyBag_12 (tgt := 19) (by decide) (nx := 15) rfl (by first | assumption | exact hR.1 _ _ _ _ | exact ⟨by omega, by omega⟩) (by first | assumption | exact hR.1 _ _ _ _ | exact ⟨by omega, by omega⟩) (fun c12 => ?_) (fun c12 => ?_)
    · refine v_iconst dX1_readyBag_19 (nx := 20) rfl ?_
      refine v_istore_n dX1_readyBag_20 (nx := 21) rfl rfl (by decide) ?_
      refine v_aload_n 0 dX1_readyBag_21 (nx := 22) rfl rfl ?_
      refine t_get (a := 2) (p := 4) (T := TX1) dX1_readyBag_22 (nx := 25) rfl (by decide) (by first | assumption | exact ok_2 ⟨by omega, by omega⟩) rfl rfl iU1 (by decide) fl_X1_28 rfl ?_
      refine v_if_ne dX1_readyBag_25 (tgt := 40) (by decide) (nx := 28) rfl (by first | assumption | exact hR.1 _ _ _ _ | exact ⟨by omega, by omega⟩) (fun c25 => ?_) (fun c25 => ?_)
      · refine v_iconst dX1_readyBag_40 (nx := 41) rfl ?_
        refine v_goto dX1_readyBag_41 (tgt := 55) (by decide) ?_
        exact t_iret dX1_readyBag_55 rfl (by first | (exfalso; omega) | exact ⟨by first | rw [if_pos (by omega)] | rw [if_neg (by omega)], rfl⟩)
      · refine v_iload_n 1 dX1_readyBag_28 (nx := 29) rfl rfl ?_
        refine v_if_ne dX1_readyBag_29 (tgt := 40) (by decide) (nx := 32) rfl (by first | assumption | exact hR.1 _ _ _ _ | exact ⟨by omega, by omega⟩) (fun c29 => ?_) (fun c29 => ?_)
        · refine v_iconst dX1_readyBag_40 (nx := 41) rfl ?_
          refine v_goto dX1_readyBag_41 (tgt := 55) (by decide) ?_
          exact t_iret dX1_readyBag_55 rfl (by first | (exfalso; omega) | exact ⟨by first | rw [if_pos (by omega)] | rw [if_neg (by omega)], rfl⟩)
        · refine v_aload_n 0 dX1_readyBag_32 (nx := 33) rfl rfl ?_
          refine t_get (a := 2) (p := 2) (T := TX1) dX1_readyBag_33 (nx := 36) rfl (by decide) (by first | assumption | exact ok_2 ⟨by omega, by omega⟩) rfl rfl iU1 (by decide) fl_X1_22 rfl ?_
          refine v_iconst dX1_readyBag_36 (nx := 37) rfl ?_
          refine v_icmp_ge dX1_readyBag_37 (tgt := 44) (by decide) (nx := 40) rfl (by first | assumption | exact hR.1 _ _ _ _ | exact ⟨by omega, by omega⟩) (by first | assumption | exact hR.1 _ _ _ _ | exact ⟨by omega, by omega⟩) (fun c37 => ?_) (fun c37 => ?_)
          · refine v_aload_n 0 dX1_readyBag_44 (nx := 45) rfl rfl ?_
            refine t_get (a := 2) (p := 6) (T := TX1) dX1_readyBag_45 (nx := 48) rfl (by decide) (by first | assumption | exact ok_2 ⟨by omega, by omega⟩) rfl rfl iU1 (by decide) fl_X1_9 rfl ?_
            refine v_aload_n 0 dX1_readyBag_48 (nx := 49) rfl rfl ?_
            refine t_get (a := 2) (p := 2) (T := TX1) dX1_readyBag_49 (nx := 52) rfl (by decide) (by first | assumption | exact ok_2 ⟨by omega, by omega⟩) rfl rfl iU1 (by decide) fl_X1_22 rfl ?_
            refine v_iconst dX1_readyBag_52 (nx := 53) rfl ?_
            refine v_isub dX1_readyBag_53 (nx := 54) rfl ?_
            refine t_aldL (a := 3) (L := 12) dX1_readyBag_54 (nx := 55) rfl rfl (by first | assumption | exact ok_3 ⟨by omega, by omega⟩) rfl ⟨by omega, by omega⟩ ?_
            exact t_iret dX1_readyBag_55 rfl (by first | (exfalso; omega) | exact ⟨by first | rw [if_pos (by omega)] | rw [if_neg (by omega)], rfl⟩)
          · refine v_iconst dX1_readyBag_40 (nx := 41) rfl ?_
            refine v_goto dX1_readyBag_41 (tgt := 55) (by decide) ?_
            exact t_iret dX1_readyBag_55 rfl (by first | (exfalso; omega) | exact ⟨by first | rw [if_pos (by omega)] | rw [if_neg (by omega)], rfl⟩)
    · refine v_iconst dX1_readyBag_15 (nx := 16) rfl ?_
      refine v_goto dX1_readyBag_16 (tgt := 20) (by decide) ?_
      refine v_istore_n dX1_readyBag_20 (nx := 21) rfl rfl (by decide) ?_
      refine v_aload_n 0 dX1_readyBag_21 (nx := 22) rfl rfl ?_
      refine t_get (a := 2) (p := 4) (T := TX1) dX1_readyBag_22 (nx := 25) rfl (by decide) (by first | assumption | exact ok_2 ⟨by omega, by omega⟩) rfl rfl iU1 (by decide) fl_X1_28 rfl ?_
      refine v_if_ne dX1_readyBag_25 (tgt := 40) (by decide) (nx := 28) rfl (by first | assumption | exact hR.1 _ _ _ _ | exact ⟨by omega, by omega⟩) (fun c25 => ?_) (fun c25 => ?_)
      · refine v_iconst dX1_readyBag_40 (nx := 41) rfl ?_
        refine v_goto dX1_readyBag_41 (tgt := 55) (by decide) ?_
        exact t_iret dX1_readyBag_55 rfl (by first | (exfalso; omega) | exact ⟨by first | rw [if_pos (by omega)] | rw [if_neg (by omega)], rfl⟩)
      · refine v_iload_n 1 dX1_readyBag_28 (nx := 29) rfl rfl ?_
        refine v_if_ne dX1_readyBag_29 (tgt := 40) (by decide) (nx := 32) rfl (by first | assumption | exact hR.1 _ _ _ _ | exact ⟨by omega, by omega⟩) (fun c29 => ?_) (fun c29 => ?_)
        · refine v_iconst dX1_readyBag_40 (nx := 41) rfl ?_
          refine v_goto dX1_readyBag_41 (tgt := 55) (by decide) ?_
          exact t_iret dX1_readyBag_55 rfl (by first | (exfalso; omega) | exact ⟨by first | rw [if_pos (by omega)] | rw [if_neg (by omega)], rfl⟩)
        · refine v_aload_n 0 dX1_readyBag_32 (nx := 33) rfl rfl ?_
          refine t_get (a := 2) (p := 2) (T := TX1) dX1_readyBag_33 (nx := 36) rfl (by decide) (by first | assumption | exact ok_2 ⟨by omega, by omega⟩) rfl rfl iU1 (by decide) fl_X1_22 rfl ?_
          refine v_iconst dX1_readyBag_36 (nx := 37) rfl ?_
          refine v_icmp_ge dX1_readyBag_37 (tgt := 44) (by decide) (nx := 40) rfl (by first | assumption | exact hR.1 _ _ _ _ | exact ⟨by omega, by omega⟩) (by first | assumption | exact hR.1 _ _ _ _ | exact ⟨by omega, by omega⟩) (fun c37 => ?_) (fun c37 => ?_)
          · refine v_aload_n 0 dX1_readyBag_44 (nx := 45) rfl rfl ?_
            refine t_get (a := 2) (p := 6) (T := TX1) dX1_readyBag_45 (nx := 48) rfl (by decide) (by first | assumption | exact ok_2 ⟨by omega, by omega⟩) rfl rfl iU1 (by decide) fl_X1_9 rfl ?_
            refine v_aload_n 0 dX1_readyBag_48 (nx := 49) rfl rfl ?_
            refine t_get (a := 2) (p := 2) (T := TX1) dX1_readyBag_49 (nx := 52) rfl (by decide) (by first | assumption | exact ok_2 ⟨by omega, by omega⟩) rfl rfl iU1 (by decide) fl_X1_22 rfl ?_
            refine v_iconst dX1_readyBag_52 (nx := 53) rfl ?_
            refine v_isub dX1_readyBag_53 (nx := 54) rfl ?_
            refine t_aldL (a := 3) (L := 12) dX1_readyBag_54 (nx := 55) rfl rfl (by first | assumption | exact ok_3 ⟨by omega, by omega⟩) rfl ⟨by omega, by omega⟩ ?_
            exact t_iret dX1_readyBag_55 rfl (by first | (exfalso; omega) | exact ⟨by first | rw [if_pos (by omega)] | rw [if_neg (by omega)], rfl⟩)
          · refine v_iconst dX1_readyBag_40 (nx := 41) rfl ?_
            refine v_goto dX1_readyBag_41 (tgt := 55) (by decide) ?_
            exact t_iret dX1_readyBag_55 rfl (by first | (exfalso; omega) | exact ⟨by first | rw [if_pos (by omega)] | rw [if_neg (by omega)], rfl⟩)

set_option maxRecDepth 100000 in
theorem c_X1_leave {g : GG} {kp : Bool} {σ : SS} (hR : RG σ) (i : Int) (hi : 0 ≤ i ∧ i < 16) (b : Int) (hb : inR b) (hs : 0 ≤ σ 2 0 i 2 ∧ σ 2 0 i 2 ≤ 12) : XC g kp 1 mX1_leave [rf g (ad 2 0 i), vi b] σ none (if fstI (fun j => decide (σ 3 0 i j = b)) 0 (σ 2 0 i 2) = -1 then σ else up σ 3 0 i (fstI (fun j => decide (σ 3 0 i j = b)) 0 (σ 2 0 i 2)) (-1)) := by
  refine TC.of (by decide) (Nat.le_of_ble_eq_true rfl) rfl ?_
  have hgp := fstI_b (P := fun j => decide (σ 3 0 i j = b)) (lo := 0) (hi := σ 2 0 i 2) (by omega) hs.1
  refine v_aload_n 0 dX1_leave_0 (nx := 1) rfl rfl ?_
  refine v_iload_n 1 dX1_leave_1 (nx := 2) rfl rfl ?_
  refine t_callVi (a := 2) (c_X1_cellOf hR _ hi _ hb hs) dX1_leave_2 (nx := 5) rfl kX1_cellOf ml_X1_35 (by decide) (by first | assumption | exact ok_2 ⟨by omega, by omega⟩) rfl rfl rfl rfl (Nat.le_of_ble_eq_true rfl) ⟨by decide, by decide⟩ ⟨by decide, by decide⟩ ?_
  refine v_istore_n dX1_leave_5 (nx := 6) rfl rfl (by decide) ?_
  refine v_iload_n 2 dX1_leave_6 (nx := 7) rfl rfl ?_
  refine v_iconst dX1_leave_7 (nx := 8) rfl ?_
  refine v_icmp_eq dX1_leave_8 (tgt := 18) (by decide) (nx := 11) rfl (by first | assumption | exact hR.1 _ _ _ _ | exact ⟨by omega, by omega⟩) (by first | assumption | exact hR.1 _ _ _ _ | exact ⟨by omega, by omega⟩) (fun c8 => ?_) (fun c8 => ?_)
  · exact t_ret dX1_leave_18 rfl ⟨rfl, by first | rw [if_pos (by omega)] | rw [if_neg (by omega)]⟩
  · refine v_aload_n 0 dX1_leave_11 (nx := 12) rfl rfl ?_
    refine t_get (a := 2) (p := 6) (T := TX1) dX1_leave_12 (nx := 15) rfl (by decide) (by first | assumption | exact ok_2 ⟨by omega, by omega⟩) rfl rfl iU1 (by decide) fl_X1_9 rfl ?_
    refine v_iload_n 2 dX1_leave_15 (nx := 16) rfl rfl ?_
    refine v_iconst dX1_leave_16 (nx := 17) rfl ?_
    refine t_astL (a := 3) (L := 12) dX1_leave_17 (nx := 18) rfl rfl (by first | assumption | exact ok_3 ⟨by omega, by omega⟩) rfl ⟨by omega, by omega⟩ ?_
    exact t_ret dX1_leave_18 rfl ⟨rfl, by first | rw [if_pos (by omega)] | rw [if_neg (by omega)]⟩

set_option maxRecDepth 100000 in
theorem c_X0_put {g : GG} {kp : Bool} {σ : SS} (i : Int) (hi : 0 ≤ i ∧ i < 60) (w p : Int) : XC g kp 0 mX0_put [rf g (ad 5 0 i), vi w, vi p] σ none (up (up σ 5 0 i 2 w) 5 0 i 3 p) := by
  refine TC.of (by decide) (Nat.le_of_ble_eq_true rfl) rfl ?_
  refine v_aload_n 0 dX0_put_0 (nx := 1) rfl rfl ?_
  refine v_iload_n 1 dX0_put_1 (nx := 2) rfl rfl ?_
  refine t_put (a := 5) (j := 2) (p := 2) (T := TX0) dX0_put_2 (nx := 5) rfl (by decide) (by first | assumption | exact ok_5 ⟨by omega, by omega⟩) rfl rfl iU0 tyX0 tyX0_ok nmX0 (by decide) fl_X0_33 rfl (Or.inl rfl) (Nat.le_of_ble_eq_true rfl) (by rfl) ?_
  refine v_aload_n 0 dX0_put_5 (nx := 6) rfl rfl ?_
  refine v_iload_n 2 dX0_put_6 (nx := 7) rfl rfl ?_
  refine t_put (a := 5) (j := 3) (p := 3) (T := TX0) dX0_put_7 (nx := 10) rfl (by decide) (by first | assumption | exact ok_5 ⟨by omega, by omega⟩) rfl rfl iU0 tyX0 tyX0_ok nmX0 (by decide) fl_X0_36 rfl (Or.inl rfl) (Nat.le_of_ble_eq_true rfl) (by rfl) ?_
  exact t_ret dX0_put_10 rfl ⟨rfl, rfl⟩

set_option maxRecDepth 100000 in
theorem c_X0_begin {g : GG} {kp : Bool} {σ : SS} (i : Int) (hi : 0 ≤ i ∧ i < 60) (fl : Int) : XC g kp 1 mX0_begin [rf g (ad 5 0 i), vi fl] σ none (up (up (up (up (up (up σ 5 0 i 0 fl) 5 0 i 1 0) 5 0 i 5 0) 5 0 i 4 0) 5 0 i 2 4) 5 0 i 3 (-100)) := by
  refine TC.of (by decide) (Nat.le_of_ble_eq_true rfl) rfl ?_
  refine v_aload_n 0 dX0_begin_0 (nx := 1) rfl rfl ?_
  refine v_iload_n 1 dX0_begin_1 (nx := 2) rfl rfl ?_
  refine t_put (a := 5) (j := 0) (p := 0) (T := TX0) dX0_begin_2 (nx := 5) rfl (by decide) (by first | assumption | exact ok_5 ⟨by omega, by omega⟩) rfl rfl iU0 tyX0 tyX0_ok nmX0 (by decide) fl_X0_15 rfl (Or.inl rfl) (Nat.le_of_ble_eq_true rfl) (by rfl) ?_
  refine v_aload_n 0 dX0_begin_5 (nx := 6) rfl rfl ?_
  refine v_iconst dX0_begin_6 (nx := 7) rfl ?_
  refine t_put (a := 5) (j := 1) (p := 1) (T := TX0) dX0_begin_7 (nx := 10) rfl (by decide) (by first | assumption | exact ok_5 ⟨by omega, by omega⟩) rfl rfl iU0 tyX0 tyX0_ok nmX0 (by decide) fl_X0_19 rfl (Or.inr ⟨rfl, by first | assumption | exact Or.inl rfl | exact Or.inr rfl | omega⟩) (Nat.le_of_ble_eq_true rfl) (by rfl) ?_
  refine v_aload_n 0 dX0_begin_10 (nx := 11) rfl rfl ?_
  refine v_iconst dX0_begin_11 (nx := 12) rfl ?_
  refine t_put (a := 5) (j := 5) (p := 5) (T := TX0) dX0_begin_12 (nx := 15) rfl (by decide) (by first | assumption | exact ok_5 ⟨by omega, by omega⟩) rfl rfl iU0 tyX0 tyX0_ok nmX0 (by decide) fl_X0_23 rfl (Or.inl rfl) (Nat.le_of_ble_eq_true rfl) (by rfl) ?_
  refine v_aload_n 0 dX0_begin_15 (nx := 16) rfl rfl ?_
  refine v_iconst dX0_begin_16 (nx := 17) rfl ?_
  refine t_put (a := 5) (j := 4) (p := 4) (T := TX0) dX0_begin_17 (nx := 20) rfl (by decide) (by first | assumption | exact ok_5 ⟨by omega, by omega⟩) rfl rfl iU0 tyX0 tyX0_ok nmX0 (by decide) fl_X0_26 rfl (Or.inl rfl) (Nat.le_of_ble_eq_true rfl) (by rfl) ?_
  refine v_aload_n 0 dX0_begin_20 (nx := 21) rfl rfl ?_
  refine v_iconst dX0_begin_21 (nx := 22) rfl ?_
  refine v_bipush dX0_begin_22 (nx := 24) rfl rfl ?_
  refine t_callVv (a := 5) (c_X0_put _ hi _ _) dX0_begin_24 (nx := 27) rfl kX0_put ml_X0_29 (by decide) (by first | assumption | exact ok_5 ⟨by omega, by omega⟩) rfl rfl rfl rfl (Nat.le_of_ble_eq_true rfl) ⟨by decide, by decide⟩ ⟨by decide, by decide⟩ ?_
  exact t_ret dX0_begin_27 rfl ⟨rfl, rfl⟩

set_option maxRecDepth 100000 in
theorem c_X0_addStep {g : GG} {kp : Bool} {σ : SS} (hR : RG σ) (i : Int) (hi : 0 ≤ i ∧ i < 60) (t p : Int) (hs : 0 ≤ σ 5 0 i 5) : XC g kp 0 mX0_addStep [rf g (ad 5 0 i), vi t, vi p] σ none (up (if σ 5 0 i 5 < 30 then up σ 6 0 i (σ 5 0 i 5) (t * 12 + p) else σ) 5 0 i 5 (σ 5 0 i 5 + 1)) := by
  refine TC.of (by decide) (Nat.le_of_ble_eq_true rfl) rfl ?_
  refine v_aload_n 0 dX0_addStep_0 (nx := 1) rfl rfl ?_
  refine t_get (a := 5) (p := 5) (T := TX0) dX0_addStep_1 (nx := 4) rfl (by decide) (by first | assumption | exact ok_5 ⟨by omega, by omega⟩) rfl rfl iU0 (by decide) fl_X0_23 rfl ?_
  refine v_if_lt dX0_addStep_4 (tgt := 34) (by decide) (nx := 7) rfl (by first | assumption | exact hR.1 _ _ _ _ | exact ⟨by omega, by omega⟩) (fun c4 => ?_) (fun c4 => ?_)
  · refine v_aload_n 0 dX0_addStep_34 (nx := 35) rfl rfl ?_
    refine v_dup dX0_addStep_35 (nx := 36) rfl rfl ?_
    refine t_get (a := 5) (p := 5) (T := TX0) (v := vi (σ 5 0 i 5)) dX0_addStep_36 (nx := 39) rfl (by decide) (by first | assumption | exact ok_5 ⟨by omega, by omega⟩) rfl rfl iU0 (by decide) fl_X0_23 rfl ?_
    refine v_iconst dX0_addStep_39 (nx := 40) rfl ?_
    refine v_iadd dX0_addStep_40 (nx := 41) rfl ?_
    refine t_put (a := 5) (j := 5) (p := 5) (T := TX0) dX0_addStep_41 (nx := 44) rfl (by decide) (by first | assumption | exact ok_5 ⟨by omega, by omega⟩) rfl rfl iU0 tyX0 tyX0_ok nmX0 (by decide) fl_X0_23 rfl (Or.inl rfl) (Nat.le_of_ble_eq_true rfl) (by rfl) ?_
    exact t_ret dX0_addStep_44 rfl (by first | (exfalso; omega) | exact ⟨rfl, by first | rw [if_pos (by omega)] | rw [if_neg (by omega)]⟩)
  · refine v_aload_n 0 dX0_addStep_7 (nx := 8) rfl rfl ?_
    refine t_get (a := 5) (p := 5) (T := TX0) dX0_addStep_8 (nx := 11) rfl (by decide) (by first | assumption | exact ok_5 ⟨by omega, by omega⟩) rfl rfl iU0 (by decide) fl_X0_23 rfl ?_
    refine v_aload_n 0 dX0_addStep_11 (nx := 12) rfl rfl ?_
    refine t_get (a := 5) (p := 6) (T := TX0) dX0_addStep_12 (nx := 15) rfl (by decide) (by first | assumption | exact ok_5 ⟨by omega, by omega⟩) rfl rfl iU0 (by decide) fl_X0_9 rfl ?_
    refine t_lenL (a := 6) (L := 30) dX0_addStep_15 (nx := 16) rfl rfl (by first | assumption | exact ok_6 ⟨by omega, by omega⟩) rfl ?_
    refine v_icmp_ge dX0_addStep_16 (tgt := 34) (by decide) (nx := 19) rfl (by first | assumption | exact hR.1 _ _ _ _ | exact ⟨by omega, by omega⟩) (by first | assumption | exact hR.1 _ _ _ _ | exact ⟨by omega, by omega⟩) (fun c16 => ?_) (fun c16 => ?_)
    · refine v_aload_n 0 dX0_addStep_34 (nx := 35) rfl rfl ?_
      refine v_dup dX0_addStep_35 (nx := 36) rfl rfl ?_
      refine t_get (a := 5) (p := 5) (T := TX0) (v := vi (σ 5 0 i 5)) dX0_addStep_36 (nx := 39) rfl (by decide) (by first | assumption | exact ok_5 ⟨by omega, by omega⟩) rfl rfl iU0 (by decide) fl_X0_23 rfl ?_
      refine v_iconst dX0_addStep_39 (nx := 40) rfl ?_
      refine v_iadd dX0_addStep_40 (nx := 41) rfl ?_
      refine t_put (a := 5) (j := 5) (p := 5) (T := TX0) dX0_addStep_41 (nx := 44) rfl (by decide) (by first | assumption | exact ok_5 ⟨by omega, by omega⟩) rfl rfl iU0 tyX0 tyX0_ok nmX0 (by decide) fl_X0_23 rfl (Or.inl rfl) (Nat.le_of_ble_eq_true rfl) (by rfl) ?_
      exact t_ret dX0_addStep_44 rfl (by first | (exfalso; omega) | exact ⟨rfl, by first | rw [if_pos (by omega)] | rw [if_neg (by omega)]⟩)
    · refine v_aload_n 0 dX0_addStep_19 (nx := 20) rfl rfl ?_
      refine t_get (a := 5) (p := 6) (T := TX0) dX0_addStep_20 (nx := 23) rfl (by decide) (by first | assumption | exact ok_5 ⟨by omega, by omega⟩) rfl rfl iU0 (by decide) fl_X0_9 rfl ?_
      refine v_aload_n 0 dX0_addStep_23 (nx := 24) rfl rfl ?_
      refine t_get (a := 5) (p := 5) (T := TX0) dX0_addStep_24 (nx := 27) rfl (by decide) (by first | assumption | exact ok_5 ⟨by omega, by omega⟩) rfl rfl iU0 (by decide) fl_X0_23 rfl ?_
      refine v_iload_n 1 dX0_addStep_27 (nx := 28) rfl rfl ?_
      refine v_bipush dX0_addStep_28 (nx := 30) rfl rfl ?_
      refine v_imul dX0_addStep_30 (nx := 31) rfl ?_
      refine v_iload_n 2 dX0_addStep_31 (nx := 32) rfl rfl ?_
      refine v_iadd dX0_addStep_32 (nx := 33) rfl ?_
      refine t_astL (a := 6) (L := 30) dX0_addStep_33 (nx := 34) rfl rfl (by first | assumption | exact ok_6 ⟨by omega, by omega⟩) rfl ⟨by omega, by omega⟩ ?_
      refine v_aload_n 0 dX0_addStep_34 (nx := 35) rfl rfl ?_
      refine v_dup dX0_addStep_35 (nx := 36) rfl rfl ?_
      refine t_get (a := 5) (p := 5) (T := TX0) (v := vi (σ 5 0 i 5)) dX0_addStep_36 (nx := 39) rfl (by decide) (by first | assumption | exact ok_5 ⟨by omega, by omega⟩) rfl rfl iU0 (by decide) fl_X0_23 rfl ?_
      refine v_iconst dX0_addStep_39 (nx := 40) rfl ?_
      refine v_iadd dX0_addStep_40 (nx := 41) rfl ?_
      refine t_put (a := 5) (j := 5) (p := 5) (T := TX0) dX0_addStep_41 (nx := 44) rfl (by decide) (by first | assumption | exact ok_5 ⟨by omega, by omega⟩) rfl rfl iU0 tyX0 tyX0_ok nmX0 (by decide) fl_X0_23 rfl (Or.inl rfl) (Nat.le_of_ble_eq_true rfl) (by rfl) ?_
      exact t_ret dX0_addStep_44 rfl (by first | (exfalso; omega) | exact ⟨rfl, by first | rw [if_pos (by omega)] | rw [if_neg (by omega)]⟩)

set_option maxRecDepth 100000 in
theorem c_X0_keepsStep {g : GG} {kp : Bool} {σ : SS} (hR : RG σ) (i : Int) (hi : 0 ≤ i ∧ i < 60) (j : Int) (hj : inR j) : XC g kp 0 mX0_keepsStep [rf g (ad 5 0 i), vi j] σ (some (vi (if 0 ≤ j ∧ j < σ 5 0 i 5 ∧ j < 30 then 1 else 0))) σ := by
  refine TC.of (by decide) (Nat.le_of_ble_eq_true rfl) rfl ?_
  refine v_iload_n 1 dX0_keepsStep_0 (nx := 1) rfl rfl ?_
  refine v_if_lt dX0_keepsStep_1 (tgt := 25) (by decide) (nx := 4) rfl (by first | assumption | exact hR.1 _ _ _ _ | exact ⟨by omega, by omega⟩) (fun c1 => ?_) (fun c1 => ?_)
  · refine v_iconst dX0_keepsStep_25 (nx := 26) rfl ?_
    exact t_zret dX0_keepsStep_26 rfl (by first | exact Or.inl rfl | exact Or.inr rfl | assumption) ⟨by first | rw [if_pos (by omega)] | rw [if_neg (by omega)], rfl⟩
  · refine v_iload_n 1 dX0_keepsStep_4 (nx := 5) rfl rfl ?_
    refine v_aload_n 0 dX0_keepsStep_5 (nx := 6) rfl rfl ?_
    refine t_get (a := 5) (p := 5) (T := TX0) dX0_keepsStep_6 (nx := 9) rfl (by decide) (by first | assumption | exact ok_5 ⟨by omega, by omega⟩) rfl rfl iU0 (by decide) fl_X0_23 rfl ?_
    refine v_icmp_ge dX0_keepsStep_9 (tgt := 25) (by decide) (nx := 12) rfl (by first | assumption | exact hR.1 _ _ _ _ | exact ⟨by omega, by omega⟩) (by first | assumption | exact hR.1 _ _ _ _ | exact ⟨by omega, by omega⟩) (fun c9 => ?_) (fun c9 => ?_)
    · refine v_iconst dX0_keepsStep_25 (nx := 26) rfl ?_
      exact t_zret dX0_keepsStep_26 rfl (by first | exact Or.inl rfl | exact Or.inr rfl | assumption) ⟨by first | rw [if_pos (by omega)] | rw [if_neg (by omega)], rfl⟩
    · refine v_iload_n 1 dX0_keepsStep_12 (nx := 13) rfl rfl ?_
      refine v_aload_n 0 dX0_keepsStep_13 (nx := 14) rfl rfl ?_
      refine t_get (a := 5) (p := 6) (T := TX0) dX0_keepsStep_14 (nx := 17) rfl (by decide) (by first | assumption | exact ok_5 ⟨by omega, by omega⟩) rfl rfl iU0 (by decide) fl_X0_9 rfl ?_
      refine t_lenL (a := 6) (L := 30) dX0_keepsStep_17 (nx := 18) rfl rfl (by first | assumption | exact ok_6 ⟨by omega, by omega⟩) rfl ?_
      refine v_icmp_ge dX0_keepsStep_18 (tgt := 25) (by decide) (nx := 21) rfl (by first | assumption | exact hR.1 _ _ _ _ | exact ⟨by omega, by omega⟩) (by first | assumption | exact hR.1 _ _ _ _ | exact ⟨by omega, by omega⟩) (fun c18 => ?_) (fun c18 => ?_)
      · refine v_iconst dX0_keepsStep_25 (nx := 26) rfl ?_
        exact t_zret dX0_keepsStep_26 rfl (by first | exact Or.inl rfl | exact Or.inr rfl | assumption) ⟨by first | rw [if_pos (by omega)] | rw [if_neg (by omega)], rfl⟩
      · refine v_iconst dX0_keepsStep_21 (nx := 22) rfl ?_
        refine v_goto dX0_keepsStep_22 (tgt := 26) (by decide) ?_
        exact t_zret dX0_keepsStep_26 rfl (by first | exact Or.inl rfl | exact Or.inr rfl | assumption) ⟨by first | rw [if_pos (by omega)] | rw [if_neg (by omega)], rfl⟩

set_option maxRecDepth 100000 in
theorem c_X0_stepTick {g : GG} {kp : Bool} {σ : SS} (hR : RG σ) (i : Int) (hi : 0 ≤ i ∧ i < 60) (j : Int) (hj : inR j) (hw : 0 ≤ j → j < σ 5 0 i 5 → j < 30 → 0 ≤ σ 6 0 i j) : XC g kp 1 mX0_stepTick [rf g (ad 5 0 i), vi j] σ (some (vi (if 0 ≤ j ∧ j < σ 5 0 i 5 ∧ j < 30 then σ 6 0 i j / 12 else -1))) σ := by
  refine TC.of (by decide) (Nat.le_of_ble_eq_true rfl) rfl ?_
  refine v_aload_n 0 dX0_stepTick_0 (nx := 1) rfl rfl ?_
  refine v_iload_n 1 dX0_stepTick_1 (nx := 2) rfl rfl ?_
  refine t_callVi (a := 5) (c_X0_keepsStep hR _ hi _ hj) dX0_stepTick_2 (nx := 5) rfl kX0_keepsStep ml_X0_39 (by decide) (by first | assumption | exact ok_5 ⟨by omega, by omega⟩) rfl rfl rfl rfl (Nat.le_of_ble_eq_true rfl) ⟨by decide, by decide⟩ ⟨by decide, by decide⟩ ?_
  refine v_ifB_eq dX0_stepTick_5 (tgt := 20) (by decide) (nx := 8) rfl (fun c5 => ?_) (fun c5 => ?_)
  · refine v_iconst dX0_stepTick_20 (nx := 21) rfl ?_
    exact t_iret dX0_stepTick_21 rfl ⟨by first | rw [if_pos (by omega)] | rw [if_neg (by omega)], rfl⟩
  · refine v_aload_n 0 dX0_stepTick_8 (nx := 9) rfl rfl ?_
    refine t_get (a := 5) (p := 6) (T := TX0) dX0_stepTick_9 (nx := 12) rfl (by decide) (by first | assumption | exact ok_5 ⟨by omega, by omega⟩) rfl rfl iU0 (by decide) fl_X0_9 rfl ?_
    refine v_iload_n 1 dX0_stepTick_12 (nx := 13) rfl rfl ?_
    refine t_aldL (a := 6) (L := 30) dX0_stepTick_13 (nx := 14) rfl rfl (by first | assumption | exact ok_6 ⟨by omega, by omega⟩) rfl ⟨by omega, by omega⟩ ?_
    refine v_bipush dX0_stepTick_14 (nx := 16) rfl rfl ?_
    refine v_idiv dX0_stepTick_16 (nx := 17) rfl ⟨hw (by omega) (by omega) (by omega), (hR.1 _ _ _ _).2, by decide, by decide⟩ ?_
    refine v_goto dX0_stepTick_17 (tgt := 21) (by decide) ?_
    exact t_iret dX0_stepTick_21 rfl ⟨by first | rw [if_pos (by omega)] | rw [if_neg (by omega)], rfl⟩

set_option maxRecDepth 100000 in
theorem c_X0_stepPoint {g : GG} {kp : Bool} {σ : SS} (hR : RG σ) (i : Int) (hi : 0 ≤ i ∧ i < 60) (j : Int) (hj : inR j) (hw : 0 ≤ j → j < σ 5 0 i 5 → j < 30 → 0 ≤ σ 6 0 i j) : XC g kp 1 mX0_stepPoint [rf g (ad 5 0 i), vi j] σ (some (vi (if 0 ≤ j ∧ j < σ 5 0 i 5 ∧ j < 30 then σ 6 0 i j % 12 else -1))) σ := by
  refine TC.of (by decide) (Nat.le_of_ble_eq_true rfl) rfl ?_
  refine v_aload_n 0 dX0_stepPoint_0 (nx := 1) rfl rfl ?_
  refine v_iload_n 1 dX0_stepPoint_1 (nx := 2) rfl rfl ?_
  refine t_callVi (a := 5) (c_X0_keepsStep hR _ hi _ hj) dX0_stepPoint_2 (nx := 5) rfl kX0_keepsStep ml_X0_39 (by decide) (by first | assumption | exact ok_5 ⟨by omega, by omega⟩) rfl rfl rfl rfl (Nat.le_of_ble_eq_true rfl) ⟨by decide, by decide⟩ ⟨by decide, by decide⟩ ?_
  refine v_ifB_eq dX0_stepPoint_5 (tgt := 20) (by decide) (nx := 8) rfl (fun c5 => ?_) (fun c5 => ?_)
  · refine v_iconst dX0_stepPoint_20 (nx := 21) rfl ?_
    exact t_iret dX0_stepPoint_21 rfl ⟨by first | rw [if_pos (by omega)] | rw [if_neg (by omega)], rfl⟩
  · refine v_aload_n 0 dX0_stepPoint_8 (nx := 9) rfl rfl ?_
    refine t_get (a := 5) (p := 6) (T := TX0) dX0_stepPoint_9 (nx := 12) rfl (by decide) (by first | assumption | exact ok_5 ⟨by omega, by omega⟩) rfl rfl iU0 (by decide) fl_X0_9 rfl ?_
    refine v_iload_n 1 dX0_stepPoint_12 (nx := 13) rfl rfl ?_
    refine t_aldL (a := 6) (L := 30) dX0_stepPoint_13 (nx := 14) rfl rfl (by first | assumption | exact ok_6 ⟨by omega, by omega⟩) rfl ⟨by omega, by omega⟩ ?_
    refine v_bipush dX0_stepPoint_14 (nx := 16) rfl rfl ?_
    refine v_irem dX0_stepPoint_16 (nx := 17) rfl ⟨hw (by omega) (by omega) (by omega), (hR.1 _ _ _ _).2, by decide, by decide⟩ ?_
    refine v_goto dX0_stepPoint_17 (tgt := 21) (by decide) ?_
    exact t_iret dX0_stepPoint_21 rfl ⟨by first | rw [if_pos (by omega)] | rw [if_neg (by omega)], rfl⟩

set_option maxRecDepth 100000 in
theorem c_X2_begin {g : GG} {kp : Bool} {σ : SS} (i : Int) (hi : 0 ≤ i ∧ i < 8) (c o e : Int) : XC g kp 0 mX2_begin [rf g (ad 4 0 i), vi c, vi o, vi e] σ none (up (up (up σ 4 0 i 0 c) 4 0 i 1 o) 4 0 i 2 e) := by
  refine TC.of (by decide) (Nat.le_of_ble_eq_true rfl) rfl ?_
  refine v_aload_n 0 dX2_begin_0 (nx := 1) rfl rfl ?_
  refine v_iload_n 1 dX2_begin_1 (nx := 2) rfl rfl ?_
  refine t_put (a := 4) (j := 0) (p := 0) (T := TX2) dX2_begin_2 (nx := 5) rfl (by decide) (by first | assumption | exact ok_4 ⟨by omega, by omega⟩) rfl rfl iU2 tyX2 tyX2_ok nmX2 (by decide) fl_X2_7 rfl (Or.inl rfl) (Nat.le_of_ble_eq_true rfl) (by rfl) ?_
  refine v_aload_n 0 dX2_begin_5 (nx := 6) rfl rfl ?_
  refine v_iload_n 2 dX2_begin_6 (nx := 7) rfl rfl ?_
  refine t_put (a := 4) (j := 1) (p := 1) (T := TX2) dX2_begin_7 (nx := 10) rfl (by decide) (by first | assumption | exact ok_4 ⟨by omega, by omega⟩) rfl rfl iU2 tyX2 tyX2_ok nmX2 (by decide) fl_X2_13 rfl (Or.inl rfl) (Nat.le_of_ble_eq_true rfl) (by rfl) ?_
  refine v_aload_n 0 dX2_begin_10 (nx := 11) rfl rfl ?_
  refine v_iload_n 3 dX2_begin_11 (nx := 12) rfl rfl ?_
  refine t_put (a := 4) (j := 2) (p := 2) (T := TX2) dX2_begin_12 (nx := 15) rfl (by decide) (by first | assumption | exact ok_4 ⟨by omega, by omega⟩) rfl rfl iU2 tyX2 tyX2_ok nmX2 (by decide) fl_X2_16 rfl (Or.inl rfl) (Nat.le_of_ble_eq_true rfl) (by rfl) ?_
  exact t_ret dX2_begin_15 rfl ⟨rfl, rfl⟩
