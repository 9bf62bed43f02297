/-! ===== copies of one hall into the other ===== -/
/-- how many ints of a cell of a kind are a hall's own -/
def wd (a : Nat) : Int := match a with
  | 0 => 5
  | 1 => 60
  | 2 => 6
  | 3 => 12
  | 4 => 3
  | 5 => 6
  | 6 => 30
  | 7 => 5
  | _ => 0
def rc (σ : SS) (p q : Nat) (t t' i : Int) : SS := fun a t1 i1 j => if (a = p ∨ a = q) ∧ t1 = t ∧ i1 = i ∧ 0 ≤ j ∧ j < wd a then σ a t' i j else σ a t1 i1 j
theorem rc_of {σ τ : SS} {p q : Nat} {t t' i : Int} (hp : ∀ j, 0 ≤ j → j < wd p → τ p t i j = σ p t' i j) (hq : ∀ j, 0 ≤ j → j < wd q → τ q t i j = σ q t' i j) (ho : ∀ a t1 i1 j, ¬ ((a = p ∨ a = q) ∧ t1 = t ∧ i1 = i ∧ 0 ≤ j ∧ j < wd a) → τ a t1 i1 j = σ a t1 i1 j) : τ = rc σ p q t t' i := by
  funext a t1 i1 j
  unfold rc
  by_cases h : (a = p ∨ a = q) ∧ t1 = t ∧ i1 = i ∧ 0 ≤ j ∧ j < wd a
  · rw [if_pos h]
    obtain ⟨h1 | h1, h2, h3, h4, h5⟩ := h
    · subst h1; subst h2; subst h3; exact hp j h4 h5
    · subst h1; subst h2; subst h3; exact hq j h4 h5
  · rw [if_neg h]; exact ho a t1 i1 j h
theorem okH {kp : Bool} {a : Nat} {t i : Int} (ht : t = 0 ∨ (t = 1 ∧ kp = true)) (hi : 0 ≤ i ∧ i < lenK a) (hh : isH a = true) : ok kp a t i := ⟨hi.1, hi.2, ht.imp id (fun h => ⟨h.1, h.2, hh⟩)⟩

set_option maxRecDepth 100000 in
theorem c_X4_copyFrom {g : GG} {kp : Bool} {σ : SS} {t t' i : Int} (hne : t ≠ t') (h0 : ok kp 0 t i) (h0' : ok kp 0 t' i) (h1 : ok kp 1 t i) (h1' : ok kp 1 t' i) : XC g kp 1 mX4_copyFrom [rf g (ad 0 t i), rf g (ad 0 t' i)] σ none (rc σ 0 1 t t' i) := by
  refine TC.of (by decide) (Nat.le_of_ble_eq_true rfl) rfl ?_
  refine v_aload_n 0 dX4_copyFrom_0 (nx := 1) rfl rfl ?_
  refine v_aload_n 1 dX4_copyFrom_1 (nx := 2) rfl rfl ?_
  refine t_get (a := 0) (p := 0) (T := TX4) dX4_copyFrom_2 (nx := 5) rfl (by decide) (by first | assumption | exact ok_0 ⟨by omega, by omega⟩) rfl rfl iU4 (by decide) fl_X4_15 rfl ?_
  refine v_top (z' := σ 0 t' i 0) (by first | rfl | (unfold up; (repeat rw [if_neg (by omega)]))) ?_
  refine t_put (a := 0) (j := 0) (p := 0) (T := TX4) dX4_copyFrom_5 (nx := 8) rfl (by decide) (by first | assumption | exact ok_0 ⟨by omega, by omega⟩) rfl rfl iU4 tyX4 tyX4_ok nmX4 (by decide) fl_X4_15 rfl (Or.inl rfl) (Nat.le_of_ble_eq_true rfl) (by rfl) ?_
  refine v_aload_n 0 dX4_copyFrom_8 (nx := 9) rfl rfl ?_
  refine v_aload_n 1 dX4_copyFrom_9 (nx := 10) rfl rfl ?_
  refine t_get (a := 0) (p := 1) (T := TX4) dX4_copyFrom_10 (nx := 13) rfl (by decide) (by first | assumption | exact ok_0 ⟨by omega, by omega⟩) rfl rfl iU4 (by decide) fl_X4_19 rfl ?_
  refine v_top (z' := σ 0 t' i 1) (by first | rfl | (unfold up; (repeat rw [if_neg (by omega)]))) ?_
  refine t_put (a := 0) (j := 1) (p := 1) (T := TX4) dX4_copyFrom_13 (nx := 16) rfl (by decide) (by first | assumption | exact ok_0 ⟨by omega, by omega⟩) rfl rfl iU4 tyX4 tyX4_ok nmX4 (by decide) fl_X4_19 rfl (Or.inl rfl) (Nat.le_of_ble_eq_true rfl) (by rfl) ?_
  refine v_aload_n 0 dX4_copyFrom_16 (nx := 17) rfl rfl ?_
  refine v_aload_n 1 dX4_copyFrom_17 (nx := 18) rfl rfl ?_
  refine t_get (a := 0) (p := 2) (T := TX4) dX4_copyFrom_18 (nx := 21) rfl (by decide) (by first | assumption | exact ok_0 ⟨by omega, by omega⟩) rfl rfl iU4 (by decide) fl_X4_22 rfl ?_
  refine v_top (z' := σ 0 t' i 2) (by first | rfl | (unfold up; (repeat rw [if_neg (by omega)]))) ?_
  refine t_put (a := 0) (j := 2) (p := 2) (T := TX4) dX4_copyFrom_21 (nx := 24) rfl (by decide) (by first | assumption | exact ok_0 ⟨by omega, by omega⟩) rfl rfl iU4 tyX4 tyX4_ok nmX4 (by decide) fl_X4_22 rfl (Or.inl rfl) (Nat.le_of_ble_eq_true rfl) (by rfl) ?_
  refine v_aload_n 0 dX4_copyFrom_24 (nx := 25) rfl rfl ?_
  refine v_aload_n 1 dX4_copyFrom_25 (nx := 26) rfl rfl ?_
  refine t_get (a := 0) (p := 3) (T := TX4) dX4_copyFrom_26 (nx := 29) rfl (by decide) (by first | assumption | exact ok_0 ⟨by omega, by omega⟩) rfl rfl iU4 (by decide) fl_X4_25 rfl ?_
  refine v_top (z' := σ 0 t' i 3) (by first | rfl | (unfold up; (repeat rw [if_neg (by omega)]))) ?_
  refine t_put (a := 0) (j := 3) (p := 3) (T := TX4) dX4_copyFrom_29 (nx := 32) rfl (by decide) (by first | assumption | exact ok_0 ⟨by omega, by omega⟩) rfl rfl iU4 tyX4 tyX4_ok nmX4 (by decide) fl_X4_25 rfl (Or.inl rfl) (Nat.le_of_ble_eq_true rfl) (by rfl) ?_
  refine v_aload_n 0 dX4_copyFrom_32 (nx := 33) rfl rfl ?_
  refine v_aload_n 1 dX4_copyFrom_33 (nx := 34) rfl rfl ?_
  refine t_get (a := 0) (p := 4) (T := TX4) dX4_copyFrom_34 (nx := 37) rfl (by decide) (by first | assumption | exact ok_0 ⟨by omega, by omega⟩) rfl rfl iU4 (by decide) fl_X4_28 rfl ?_
  refine v_top (z' := σ 0 t' i 4) (by first | rfl | (unfold up; (repeat rw [if_neg (by omega)]))) ?_
  refine t_put (a := 0) (j := 4) (p := 4) (T := TX4) dX4_copyFrom_37 (nx := 40) rfl (by decide) (by first | assumption | exact ok_0 ⟨by omega, by omega⟩) rfl rfl iU4 tyX4 tyX4_ok nmX4 (by decide) fl_X4_28 rfl (Or.inl rfl) (Nat.le_of_ble_eq_true rfl) (by rfl) ?_
  refine v_aload_n 1 dX4_copyFrom_40 (nx := 41) rfl rfl ?_
  refine t_get (a := 0) (p := 5) (T := TX4) dX4_copyFrom_41 (nx := 44) rfl (by decide) (by first | assumption | exact ok_0 ⟨by omega, by omega⟩) rfl rfl iU4 (by decide) fl_X4_9 rfl ?_
  refine v_iconst dX4_copyFrom_44 (nx := 45) rfl ?_
  refine v_aload_n 0 dX4_copyFrom_45 (nx := 46) rfl rfl ?_
  refine t_get (a := 0) (p := 5) (T := TX4) dX4_copyFrom_46 (nx := 49) rfl (by decide) (by first | assumption | exact ok_0 ⟨by omega, by omega⟩) rfl rfl iU4 (by decide) fl_X4_9 rfl ?_
  refine v_iconst dX4_copyFrom_49 (nx := 50) rfl ?_
  refine v_aload_n 0 dX4_copyFrom_50 (nx := 51) rfl rfl ?_
  refine t_get (a := 0) (p := 5) (T := TX4) dX4_copyFrom_51 (nx := 54) rfl (by decide) (by first | assumption | exact ok_0 ⟨by omega, by omega⟩) rfl rfl iU4 (by decide) fl_X4_9 rfl ?_
  refine t_lenL (a := 1) (L := 60) dX4_copyFrom_54 (nx := 55) rfl rfl (by first | assumption | exact ok_1 ⟨by omega, by omega⟩) rfl ?_
  refine t_copy (a := 1) dX4_copyFrom_55 (nx := 58) rfl ml_X4_45 rfl (by first | assumption | exact ok_1 ⟨by omega, by omega⟩) (by first | assumption | exact ok_1 ⟨by omega, by omega⟩) rfl ⟨by decide, by decide⟩ (Nat.le_of_ble_eq_true rfl) ?_
  exact t_ret dX4_copyFrom_58 rfl ⟨rfl, rc_of (fun j j0 j1 => by (have h5 : wd 0 = 5 := rfl); rw [h5] at j1; (have hj : j = 0 ∨ j = 1 ∨ j = 2 ∨ j = 3 ∨ j = 4 := by omega); unfold sT up; (rcases hj with rfl | rfl | rfl | rfl | rfl <;> (repeat (first | rewrite [if_pos (by omega)] | rewrite [if_neg (by omega)] | dsimp only)) <;> (try rfl))) (fun j j0 j1 => by unfold sT; rw [if_pos ⟨rfl, rfl, rfl⟩]; unfold cpy; rw [if_pos ⟨j0, j1⟩]; rfl) (fun a1 t1 i1 j hn => by
    unfold sT
    by_cases q : a1 = 1 ∧ t1 = t ∧ i1 = i
    · obtain ⟨rfl, rfl, rfl⟩ := q
      rw [if_pos ⟨rfl, rfl, rfl⟩]; unfold cpy; rw [if_neg (fun z => hn ⟨Or.inr rfl, rfl, rfl, z.1, z.2⟩)]; rfl
    · rw [if_neg q]; unfold up
      by_cases a0 : a1 = 0
      · subst a0; (have h5 : wd 0 = 5 := rfl); rw [h5] at hn; (repeat rw [if_neg (by omega)])
      · (repeat rw [if_neg (fun z => a0 z.1)]))⟩

set_option maxRecDepth 100000 in
theorem c_X1_copyFrom {g : GG} {kp : Bool} {σ : SS} {t t' i : Int} (hne : t ≠ t') (h2 : ok kp 2 t i) (h2' : ok kp 2 t' i) (h3 : ok kp 3 t i) (h3' : ok kp 3 t' i) (hb4 : σ 2 t' i 4 = 0 ∨ σ 2 t' i 4 = 1) (hb5 : σ 2 t' i 5 = 0 ∨ σ 2 t' i 5 = 1) : XC g kp 1 mX1_copyFrom [rf g (ad 2 t i), rf g (ad 2 t' i)] σ none (rc σ 2 3 t t' i) := by
  refine TC.of (by decide) (Nat.le_of_ble_eq_true rfl) rfl ?_
  refine v_aload_n 0 dX1_copyFrom_0 (nx := 1) rfl rfl ?_
  refine v_aload_n 1 dX1_copyFrom_1 (nx := 2) rfl rfl ?_
  refine t_get (a := 2) (p := 0) (T := TX1) dX1_copyFrom_2 (nx := 5) rfl (by decide) (by first | assumption | exact ok_2 ⟨by omega, by omega⟩) rfl rfl iU1 (by decide) fl_X1_15 rfl ?_
  refine v_top (z' := σ 2 t' i 0) (by first | rfl | (unfold up; (repeat rw [if_neg (by omega)]))) ?_
  refine t_put (a := 2) (j := 0) (p := 0) (T := TX1) dX1_copyFrom_5 (nx := 8) rfl (by decide) (by first | assumption | exact ok_2 ⟨by omega, by omega⟩) rfl rfl iU1 tyX1 tyX1_ok nmX1 (by decide) fl_X1_15 rfl (Or.inl rfl) (Nat.le_of_ble_eq_true rfl) (by rfl) ?_
  refine v_aload_n 0 dX1_copyFrom_8 (nx := 9) rfl rfl ?_
  refine v_aload_n 1 dX1_copyFrom_9 (nx := 10) rfl rfl ?_
  refine t_get (a := 2) (p := 1) (T := TX1) dX1_copyFrom_10 (nx := 13) rfl (by decide) (by first | assumption | exact ok_2 ⟨by omega, by omega⟩) rfl rfl iU1 (by decide) fl_X1_19 rfl ?_
  refine v_top (z' := σ 2 t' i 1) (by first | rfl | (unfold up; (repeat rw [if_neg (by omega)]))) ?_
  refine t_put (a := 2) (j := 1) (p := 1) (T := TX1) dX1_copyFrom_13 (nx := 16) rfl (by decide) (by first | assumption | exact ok_2 ⟨by omega, by omega⟩) rfl rfl iU1 tyX1 tyX1_ok nmX1 (by decide) fl_X1_19 rfl (Or.inl rfl) (Nat.le_of_ble_eq_true rfl) (by rfl) ?_
  refine v_aload_n 0 dX1_copyFrom_16 (nx := 17) rfl rfl ?_
  refine v_aload_n 1 dX1_copyFrom_17 (nx := 18) rfl rfl ?_
  refine t_get (a := 2) (p := 2) (T := TX1) dX1_copyFrom_18 (nx := 21) rfl (by decide) (by first | assumption | exact ok_2 ⟨by omega, by omega⟩) rfl rfl iU1 (by decide) fl_X1_22 rfl ?_
  refine v_top (z' := σ 2 t' i 2) (by first | rfl | (unfold up; (repeat rw [if_neg (by omega)]))) ?_
  refine t_put (a := 2) (j := 2) (p := 2) (T := TX1) dX1_copyFrom_21 (nx := 24) rfl (by decide) (by first | assumption | exact ok_2 ⟨by omega, by omega⟩) rfl rfl iU1 tyX1 tyX1_ok nmX1 (by decide) fl_X1_22 rfl (Or.inl rfl) (Nat.le_of_ble_eq_true rfl) (by rfl) ?_
  refine v_aload_n 0 dX1_copyFrom_24 (nx := 25) rfl rfl ?_
  refine v_aload_n 1 dX1_copyFrom_25 (nx := 26) rfl rfl ?_
  refine t_get (a := 2) (p := 3) (T := TX1) dX1_copyFrom_26 (nx := 29) rfl (by decide) (by first | assumption | exact ok_2 ⟨by omega, by omega⟩) rfl rfl iU1 (by decide) fl_X1_25 rfl ?_
  refine v_top (z' := σ 2 t' i 3) (by first | rfl | (unfold up; (repeat rw [if_neg (by omega)]))) ?_
  refine t_put (a := 2) (j := 3) (p := 3) (T := TX1) dX1_copyFrom_29 (nx := 32) rfl (by decide) (by first | assumption | exact ok_2 ⟨by omega, by omega⟩) rfl rfl iU1 tyX1 tyX1_ok nmX1 (by decide) fl_X1_25 rfl (Or.inl rfl) (Nat.le_of_ble_eq_true rfl) (by rfl) ?_
  refine v_aload_n 0 dX1_copyFrom_32 (nx := 33) rfl rfl ?_
  refine v_aload_n 1 dX1_copyFrom_33 (nx := 34) rfl rfl ?_
  refine t_get (a := 2) (p := 4) (T := TX1) dX1_copyFrom_34 (nx := 37) rfl (by decide) (by first | assumption | exact ok_2 ⟨by omega, by omega⟩) rfl rfl iU1 (by decide) fl_X1_28 rfl ?_
  refine v_top (z' := σ 2 t' i 4) (by first | rfl | (unfold up; (repeat rw [if_neg (by omega)]))) ?_
  refine t_put (a := 2) (j := 4) (p := 4) (T := TX1) dX1_copyFrom_37 (nx := 40) rfl (by decide) (by first | assumption | exact ok_2 ⟨by omega, by omega⟩) rfl rfl iU1 tyX1 tyX1_ok nmX1 (by decide) fl_X1_28 rfl (Or.inr ⟨rfl, by first | assumption | exact Or.inl rfl | exact Or.inr rfl | omega⟩) (Nat.le_of_ble_eq_true rfl) (by rfl) ?_
  refine v_aload_n 0 dX1_copyFrom_40 (nx := 41) rfl rfl ?_
  refine v_aload_n 1 dX1_copyFrom_41 (nx := 42) rfl rfl ?_
  refine t_get (a := 2) (p := 5) (T := TX1) dX1_copyFrom_42 (nx := 45) rfl (by decide) (by first | assumption | exact ok_2 ⟨by omega, by omega⟩) rfl rfl iU1 (by decide) fl_X1_32 rfl ?_
  refine v_top (z' := σ 2 t' i 5) (by first | rfl | (unfold up; (repeat rw [if_neg (by omega)]))) ?_
  refine t_put (a := 2) (j := 5) (p := 5) (T := TX1) dX1_copyFrom_45 (nx := 48) rfl (by decide) (by first | assumption | exact ok_2 ⟨by omega, by omega⟩) rfl rfl iU1 tyX1 tyX1_ok nmX1 (by decide) fl_X1_32 rfl (Or.inr ⟨rfl, by first | assumption | exact Or.inl rfl | exact Or.inr rfl | omega⟩) (Nat.le_of_ble_eq_true rfl) (by rfl) ?_
  refine v_aload_n 1 dX1_copyFrom_48 (nx := 49) rfl rfl ?_
  refine t_get (a := 2) (p := 6) (T := TX1) dX1_copyFrom_49 (nx := 52) rfl (by decide) (by first | assumption | exact ok_2 ⟨by omega, by omega⟩) rfl rfl iU1 (by decide) fl_X1_9 rfl ?_
  refine v_iconst dX1_copyFrom_52 (nx := 53) rfl ?_
  refine v_aload_n 0 dX1_copyFrom_53 (nx := 54) rfl rfl ?_
  refine t_get (a := 2) (p := 6) (T := TX1) dX1_copyFrom_54 (nx := 57) rfl (by decide) (by first | assumption | exact ok_2 ⟨by omega, by omega⟩) rfl rfl iU1 (by decide) fl_X1_9 rfl ?_
  refine v_iconst dX1_copyFrom_57 (nx := 58) rfl ?_
  refine v_aload_n 0 dX1_copyFrom_58 (nx := 59) rfl rfl ?_
  refine t_get (a := 2) (p := 6) (T := TX1) dX1_copyFrom_59 (nx := 62) rfl (by decide) (by first | assumption | exact ok_2 ⟨by omega, by omega⟩) rfl rfl iU1 (by decide) fl_X1_9 rfl ?_
  refine t_lenL (a := 3) (L := 12) dX1_copyFrom_62 (nx := 63) rfl rfl (by first | assumption | exact ok_3 ⟨by omega, by omega⟩) rfl ?_
  refine t_copy (a := 3) dX1_copyFrom_63 (nx := 66) rfl ml_X1_39 rfl (by first | assumption | exact ok_3 ⟨by omega, by omega⟩) (by first | assumption | exact ok_3 ⟨by omega, by omega⟩) rfl ⟨by decide, by decide⟩ (Nat.le_of_ble_eq_true rfl) ?_
  exact t_ret dX1_copyFrom_66 rfl ⟨rfl, rc_of (fun j j0 j1 => by (have h5 : wd 2 = 6 := rfl); rw [h5] at j1; (have hj : j = 0 ∨ j = 1 ∨ j = 2 ∨ j = 3 ∨ j = 4 ∨ j = 5 := by omega); unfold sT up; (rcases hj with rfl | rfl | rfl | rfl | rfl | rfl <;> (repeat (first | rewrite [if_pos (by omega)] | rewrite [if_neg (by omega)] | dsimp only)) <;> (try rfl))) (fun j j0 j1 => by unfold sT; rw [if_pos ⟨rfl, rfl, rfl⟩]; unfold cpy; rw [if_pos ⟨j0, j1⟩]; rfl) (fun a1 t1 i1 j hn => by
    unfold sT
    by_cases q : a1 = 3 ∧ t1 = t ∧ i1 = i
    · obtain ⟨rfl, rfl, rfl⟩ := q
      rw [if_pos ⟨rfl, rfl, rfl⟩]; unfold cpy; rw [if_neg (fun z => hn ⟨Or.inr rfl, rfl, rfl, z.1, z.2⟩)]; rfl
    · rw [if_neg q]; unfold up
      by_cases a0 : a1 = 2
      · subst a0; (have h5 : wd 2 = 6 := rfl); rw [h5] at hn; (repeat rw [if_neg (by omega)])
      · (repeat rw [if_neg (fun z => a0 z.1)]))⟩

set_option maxRecDepth 100000 in
theorem c_X0_copyFrom {g : GG} {kp : Bool} {σ : SS} {t t' i : Int} (hne : t ≠ t') (h5 : ok kp 5 t i) (h5' : ok kp 5 t' i) (h6 : ok kp 6 t i) (h6' : ok kp 6 t' i) (hb1 : σ 5 t' i 1 = 0 ∨ σ 5 t' i 1 = 1) : XC g kp 1 mX0_copyFrom [rf g (ad 5 t i), rf g (ad 5 t' i)] σ none (rc σ 5 6 t t' i) := by
  refine TC.of (by decide) (Nat.le_of_ble_eq_true rfl) rfl ?_
  refine v_aload_n 0 dX0_copyFrom_0 (nx := 1) rfl rfl ?_
  refine v_aload_n 1 dX0_copyFrom_1 (nx := 2) rfl rfl ?_
  refine t_get (a := 5) (p := 0) (T := TX0) dX0_copyFrom_2 (nx := 5) rfl (by decide) (by first | assumption | exact ok_5 ⟨by omega, by omega⟩) rfl rfl iU0 (by decide) fl_X0_15 rfl ?_
  refine v_top (z' := σ 5 t' i 0) (by first | rfl | (unfold up; (repeat rw [if_neg (by omega)]))) ?_
  refine t_put (a := 5) (j := 0) (p := 0) (T := TX0) dX0_copyFrom_5 (nx := 8) rfl (by decide) (by first | assumption | exact ok_5 ⟨by omega, by omega⟩) rfl rfl iU0 tyX0 tyX0_ok nmX0 (by decide) fl_X0_15 rfl (Or.inl rfl) (Nat.le_of_ble_eq_true rfl) (by rfl) ?_
  refine v_aload_n 0 dX0_copyFrom_8 (nx := 9) rfl rfl ?_
  refine v_aload_n 1 dX0_copyFrom_9 (nx := 10) rfl rfl ?_
  refine t_get (a := 5) (p := 1) (T := TX0) dX0_copyFrom_10 (nx := 13) rfl (by decide) (by first | assumption | exact ok_5 ⟨by omega, by omega⟩) rfl rfl iU0 (by decide) fl_X0_19 rfl ?_
  refine v_top (z' := σ 5 t' i 1) (by first | rfl | (unfold up; (repeat rw [if_neg (by omega)]))) ?_
  refine t_put (a := 5) (j := 1) (p := 1) (T := TX0) dX0_copyFrom_13 (nx := 16) rfl (by decide) (by first | assumption | exact ok_5 ⟨by omega, by omega⟩) rfl rfl iU0 tyX0 tyX0_ok nmX0 (by decide) fl_X0_19 rfl (Or.inr ⟨rfl, by first | assumption | exact Or.inl rfl | exact Or.inr rfl | omega⟩) (Nat.le_of_ble_eq_true rfl) (by rfl) ?_
  refine v_aload_n 0 dX0_copyFrom_16 (nx := 17) rfl rfl ?_
  refine v_aload_n 1 dX0_copyFrom_17 (nx := 18) rfl rfl ?_
  refine t_get (a := 5) (p := 2) (T := TX0) dX0_copyFrom_18 (nx := 21) rfl (by decide) (by first | assumption | exact ok_5 ⟨by omega, by omega⟩) rfl rfl iU0 (by decide) fl_X0_33 rfl ?_
  refine v_top (z' := σ 5 t' i 2) (by first | rfl | (unfold up; (repeat rw [if_neg (by omega)]))) ?_
  refine t_put (a := 5) (j := 2) (p := 2) (T := TX0) dX0_copyFrom_21 (nx := 24) rfl (by decide) (by first | assumption | exact ok_5 ⟨by omega, by omega⟩) rfl rfl iU0 tyX0 tyX0_ok nmX0 (by decide) fl_X0_33 rfl (Or.inl rfl) (Nat.le_of_ble_eq_true rfl) (by rfl) ?_
  refine v_aload_n 0 dX0_copyFrom_24 (nx := 25) rfl rfl ?_
  refine v_aload_n 1 dX0_copyFrom_25 (nx := 26) rfl rfl ?_
  refine t_get (a := 5) (p := 3) (T := TX0) dX0_copyFrom_26 (nx := 29) rfl (by decide) (by first | assumption | exact ok_5 ⟨by omega, by omega⟩) rfl rfl iU0 (by decide) fl_X0_36 rfl ?_
  refine v_top (z' := σ 5 t' i 3) (by first | rfl | (unfold up; (repeat rw [if_neg (by omega)]))) ?_
  refine t_put (a := 5) (j := 3) (p := 3) (T := TX0) dX0_copyFrom_29 (nx := 32) rfl (by decide) (by first | assumption | exact ok_5 ⟨by omega, by omega⟩) rfl rfl iU0 tyX0 tyX0_ok nmX0 (by decide) fl_X0_36 rfl (Or.inl rfl) (Nat.le_of_ble_eq_true rfl) (by rfl) ?_
  refine v_aload_n 0 dX0_copyFrom_32 (nx := 33) rfl rfl ?_
  refine v_aload_n 1 dX0_copyFrom_33 (nx := 34) rfl rfl ?_
  refine t_get (a := 5) (p := 4) (T := TX0) dX0_copyFrom_34 (nx := 37) rfl (by decide) (by first | assumption | exact ok_5 ⟨by omega, by omega⟩) rfl rfl iU0 (by decide) fl_X0_26 rfl ?_
  refine v_top (z' := σ 5 t' i 4) (by first | rfl | (unfold up; (repeat rw [if_neg (by omega)]))) ?_
  refine t_put (a := 5) (j := 4) (p := 4) (T := TX0) dX0_copyFrom_37 (nx := 40) rfl (by decide) (by first | assumption | exact ok_5 ⟨by omega, by omega⟩) rfl rfl iU0 tyX0 tyX0_ok nmX0 (by decide) fl_X0_26 rfl (Or.inl rfl) (Nat.le_of_ble_eq_true rfl) (by rfl) ?_
  refine v_aload_n 0 dX0_copyFrom_40 (nx := 41) rfl rfl ?_
  refine v_aload_n 1 dX0_copyFrom_41 (nx := 42) rfl rfl ?_
  refine t_get (a := 5) (p := 5) (T := TX0) dX0_copyFrom_42 (nx := 45) rfl (by decide) (by first | assumption | exact ok_5 ⟨by omega, by omega⟩) rfl rfl iU0 (by decide) fl_X0_23 rfl ?_
  refine v_top (z' := σ 5 t' i 5) (by first | rfl | (unfold up; (repeat rw [if_neg (by omega)]))) ?_
  refine t_put (a := 5) (j := 5) (p := 5) (T := TX0) dX0_copyFrom_45 (nx := 48) rfl (by decide) (by first | assumption | exact ok_5 ⟨by omega, by omega⟩) rfl rfl iU0 tyX0 tyX0_ok nmX0 (by decide) fl_X0_23 rfl (Or.inl rfl) (Nat.le_of_ble_eq_true rfl) (by rfl) ?_
  refine v_aload_n 1 dX0_copyFrom_48 (nx := 49) rfl rfl ?_
  refine t_get (a := 5) (p := 6) (T := TX0) dX0_copyFrom_49 (nx := 52) rfl (by decide) (by first | assumption | exact ok_5 ⟨by omega, by omega⟩) rfl rfl iU0 (by decide) fl_X0_9 rfl ?_
  refine v_iconst dX0_copyFrom_52 (nx := 53) rfl ?_
  refine v_aload_n 0 dX0_copyFrom_53 (nx := 54) rfl rfl ?_
  refine t_get (a := 5) (p := 6) (T := TX0) dX0_copyFrom_54 (nx := 57) rfl (by decide) (by first | assumption | exact ok_5 ⟨by omega, by omega⟩) rfl rfl iU0 (by decide) fl_X0_9 rfl ?_
  refine v_iconst dX0_copyFrom_57 (nx := 58) rfl ?_
  refine v_aload_n 0 dX0_copyFrom_58 (nx := 59) rfl rfl ?_
  refine t_get (a := 5) (p := 6) (T := TX0) dX0_copyFrom_59 (nx := 62) rfl (by decide) (by first | assumption | exact ok_5 ⟨by omega, by omega⟩) rfl rfl iU0 (by decide) fl_X0_9 rfl ?_
  refine t_lenL (a := 6) (L := 30) dX0_copyFrom_62 (nx := 63) rfl rfl (by first | assumption | exact ok_6 ⟨by omega, by omega⟩) rfl ?_
  refine t_copy (a := 6) dX0_copyFrom_63 (nx := 66) rfl ml_X0_43 rfl (by first | assumption | exact ok_6 ⟨by omega, by omega⟩) (by first | assumption | exact ok_6 ⟨by omega, by omega⟩) rfl ⟨by decide, by decide⟩ (Nat.le_of_ble_eq_true rfl) ?_
  exact t_ret dX0_copyFrom_66 rfl ⟨rfl, rc_of (fun j j0 j1 => by (have h5 : wd 5 = 6 := rfl); rw [h5] at j1; (have hj : j = 0 ∨ j = 1 ∨ j = 2 ∨ j = 3 ∨ j = 4 ∨ j = 5 := by omega); unfold sT up; (rcases hj with rfl | rfl | rfl | rfl | rfl | rfl <;> (repeat (first | rewrite [if_pos (by omega)] | rewrite [if_neg (by omega)] | dsimp only)) <;> (try rfl))) (fun j j0 j1 => by unfold sT; rw [if_pos ⟨rfl, rfl, rfl⟩]; unfold cpy; rw [if_pos ⟨j0, j1⟩]; rfl) (fun a1 t1 i1 j hn => by
    unfold sT
    by_cases q : a1 = 6 ∧ t1 = t ∧ i1 = i
    · obtain ⟨rfl, rfl, rfl⟩ := q
      rw [if_pos ⟨rfl, rfl, rfl⟩]; unfold cpy; rw [if_neg (fun z => hn ⟨Or.inr rfl, rfl, rfl, z.1, z.2⟩)]; rfl
    · rw [if_neg q]; unfold up
      by_cases a0 : a1 = 5
      · subst a0; (have h5 : wd 5 = 6 := rfl); rw [h5] at hn; (repeat rw [if_neg (by omega)])
      · (repeat rw [if_neg (fun z => a0 z.1)]))⟩

set_option maxRecDepth 100000 in
theorem c_X2_beginT {g : GG} {kp : Bool} {σ : SS} {t i : Int} (h4 : ok kp 4 t i) (c op cl : Int) : XC g kp 0 mX2_begin [rf g (ad 4 t i), vi c, vi op, vi cl] σ none (up (up (up σ 4 t i 0 c) 4 t i 1 op) 4 t i 2 cl) := by
  refine TC.of (by decide) (Nat.le_of_ble_eq_true rfl) rfl ?_
  refine v_aload_n 0 dX2_begin_0 (nx := 1) rfl rfl ?_
  refine v_iload_n 1 dX2_begin_1 (nx := 2) rfl rfl ?_
  refine t_put (a := 4) (j := 0) (p := 0) (T := TX2) dX2_begin_2 (nx := 5) rfl (by decide) (by first | assumption | exact ok_4 ⟨by omega, by omega⟩) rfl rfl iU2 tyX2 tyX2_ok nmX2 (by decide) fl_X2_7 rfl (Or.inl rfl) (Nat.le_of_ble_eq_true rfl) (by rfl) ?_
  refine v_aload_n 0 dX2_begin_5 (nx := 6) rfl rfl ?_
  refine v_iload_n 2 dX2_begin_6 (nx := 7) rfl rfl ?_
  refine t_put (a := 4) (j := 1) (p := 1) (T := TX2) dX2_begin_7 (nx := 10) rfl (by decide) (by first | assumption | exact ok_4 ⟨by omega, by omega⟩) rfl rfl iU2 tyX2 tyX2_ok nmX2 (by decide) fl_X2_13 rfl (Or.inl rfl) (Nat.le_of_ble_eq_true rfl) (by rfl) ?_
  refine v_aload_n 0 dX2_begin_10 (nx := 11) rfl rfl ?_
  refine v_iload_n 3 dX2_begin_11 (nx := 12) rfl rfl ?_
  refine t_put (a := 4) (j := 2) (p := 2) (T := TX2) dX2_begin_12 (nx := 15) rfl (by decide) (by first | assumption | exact ok_4 ⟨by omega, by omega⟩) rfl rfl iU2 tyX2 tyX2_ok nmX2 (by decide) fl_X2_16 rfl (Or.inl rfl) (Nat.le_of_ble_eq_true rfl) (by rfl) ?_
  exact t_ret dX2_begin_15 rfl ⟨rfl, rfl⟩

set_option maxRecDepth 100000 in
theorem c_X2_copyFrom {g : GG} {kp : Bool} {σ : SS} {t t' i : Int} (hne : t ≠ t') (h4 : ok kp 4 t i) (h4' : ok kp 4 t' i) : XC g kp 1 mX2_copyFrom [rf g (ad 4 t i), rf g (ad 4 t' i)] σ none (rc σ 4 4 t t' i) := by
  refine TC.of (by decide) (Nat.le_of_ble_eq_true rfl) rfl ?_
  refine v_aload_n 0 dX2_copyFrom_0 (nx := 1) rfl rfl ?_
  refine v_aload_n 1 dX2_copyFrom_1 (nx := 2) rfl rfl ?_
  refine t_get (a := 4) (p := 0) (T := TX2) dX2_copyFrom_2 (nx := 5) rfl (by decide) (by first | assumption | exact ok_4 ⟨by omega, by omega⟩) rfl rfl iU2 (by decide) fl_X2_7 rfl ?_
  refine v_aload_n 1 dX2_copyFrom_5 (nx := 6) rfl rfl ?_
  refine t_get (a := 4) (p := 1) (T := TX2) dX2_copyFrom_6 (nx := 9) rfl (by decide) (by first | assumption | exact ok_4 ⟨by omega, by omega⟩) rfl rfl iU2 (by decide) fl_X2_13 rfl ?_
  refine v_aload_n 1 dX2_copyFrom_9 (nx := 10) rfl rfl ?_
  refine t_get (a := 4) (p := 2) (T := TX2) dX2_copyFrom_10 (nx := 13) rfl (by decide) (by first | assumption | exact ok_4 ⟨by omega, by omega⟩) rfl rfl iU2 (by decide) fl_X2_16 rfl ?_
  refine t_callVv (a := 4) (c_X2_beginT h4 _ _ _) dX2_copyFrom_13 (nx := 16) rfl kX2_begin ml_X2_19 (by decide) (by first | assumption | exact ok_4 ⟨by omega, by omega⟩) rfl rfl rfl rfl (Nat.le_of_ble_eq_true rfl) ⟨by decide, by decide⟩ ⟨by decide, by decide⟩ ?_
  exact t_ret dX2_copyFrom_16 rfl ⟨rfl, rc_of (fun j j0 j1 => by (have h5 : wd 4 = 3 := rfl); rw [h5] at j1; (have hj : j = 0 ∨ j = 1 ∨ j = 2 := by omega); unfold up; (rcases hj with rfl | rfl | rfl <;> (repeat (first | rewrite [if_pos (by omega)] | rewrite [if_neg (by omega)] | dsimp only)) <;> (try rfl))) (fun j j0 j1 => by (have h5 : wd 4 = 3 := rfl); rw [h5] at j1; (have hj : j = 0 ∨ j = 1 ∨ j = 2 := by omega); unfold up; (rcases hj with rfl | rfl | rfl <;> (repeat (first | rewrite [if_pos (by omega)] | rewrite [if_neg (by omega)] | dsimp only)) <;> (try rfl))) (fun a1 t1 i1 j hn => by
    unfold up
    by_cases a0 : a1 = 4
    · subst a0; (have h5 : wd 4 = 3 := rfl); rw [h5] at hn; (repeat rw [if_neg (by omega)])
    · (repeat rw [if_neg (fun z => a0 z.1)]))⟩

def lm (a : Nat) (x y z w v : Int) : Int := if a = 0 ∨ a = 1 then x else if a = 2 ∨ a = 3 then y else if a = 4 then z else if a = 5 ∨ a = 6 then w else if a = 7 then v else 0
/-- hall t with the first x points, y belts, z flights, w bags of hall t' (and its own ints) -/
def hc (σ : SS) (t t' x y z w v : Int) : SS := fun a t1 i j => if t1 = t ∧ 0 ≤ j ∧ j < wd a ∧ 0 ≤ i ∧ i < lm a x y z w v then σ a t' i j else σ a t1 i j
theorem lm_0 (a : Nat) : lm a 0 0 0 0 0 = 0 := by
  unfold lm
  (repeat' split) <;> rfl
theorem hc_0 {σ : SS} {t t' : Int} : hc σ t t' 0 0 0 0 0 = σ := by
  funext a t1 i j
  unfold hc
  rw [lm_0]
  exact if_neg (by omega)
theorem hc_o {σ : SS} {t t' x y z w v : Int} {a : Nat} {t1 i j : Int} (h : t1 ≠ t) : hc σ t t' x y z w v a t1 i j = σ a t1 i j := if_neg (fun q => h q.1)
theorem hc_s {σ : SS} {p q : Nat} {t t' x y z w v x' y' z' w' v' i : Int} (hne : t ≠ t') (hi : 0 ≤ i) (h1 : ∀ a, a = p ∨ a = q → lm a x y z w v = i ∧ lm a x' y' z' w' v' = i + 1) (h2 : ∀ a, ¬ (a = p ∨ a = q) → lm a x y z w v = lm a x' y' z' w' v') : rc (hc σ t t' x y z w v) p q t t' i = hc σ t t' x' y' z' w' v' := by
  funext a t1 i1 j
  unfold rc
  rw [hc_o (Ne.symm hne)]
  unfold hc
  by_cases c : a = p ∨ a = q
  · obtain ⟨e1, e2⟩ := h1 a c
    rw [e1, e2]
    by_cases d : t1 = t ∧ 0 ≤ j ∧ j < wd a
    · by_cases e : i1 = i
      · rw [if_pos ⟨c, d.1, e, d.2.1, d.2.2⟩, if_pos ⟨d.1, d.2.1, d.2.2, by omega, by omega⟩, e]
      · rw [if_neg (fun q => e q.2.2.1)]
        by_cases f : 0 ≤ i1 ∧ i1 < i
        · rw [if_pos ⟨d.1, d.2.1, d.2.2, f.1, f.2⟩, if_pos ⟨d.1, d.2.1, d.2.2, by omega, by omega⟩]
        · rw [if_neg (fun q => f ⟨q.2.2.2.1, q.2.2.2.2⟩), if_neg (fun q => f ⟨q.2.2.2.1, by have := q.2.2.2.2; omega⟩)]
    · rw [if_neg (fun q => d ⟨q.2.1, q.2.2.2.1, q.2.2.2.2⟩), if_neg (fun q => d ⟨q.1, q.2.1, q.2.2.1⟩), if_neg (fun q => d ⟨q.1, q.2.1, q.2.2.1⟩)]
  · rw [if_neg (fun q => c q.1), h2 a c]

theorem hc_fin {σ : SS} {t t' : Int} (hne : t ≠ t') : up (up (up (up (up (hc σ t t' 12 16 8 60 0) 7 t 0 0 (σ 7 t' 0 0)) 7 t 0 1 (σ 7 t' 0 1)) 7 t 0 2 (σ 7 t' 0 2)) 7 t 0 3 (σ 7 t' 0 3)) 7 t 0 4 (σ 7 t' 0 4) = hc σ t t' 12 16 8 60 1 := by
  refine Eq.trans (b := rc (hc σ t t' 12 16 8 60 0) 7 7 t t' 0) ?_ (hc_s hne (by omega) (fun a h => by unfold lm; (rcases h with rfl | rfl) <;> exact ⟨rfl, rfl⟩) (fun a h => by unfold lm; (repeat' split) <;> first | rfl | (exfalso; omega)))
  have pj : ∀ j, 0 ≤ j → j < wd 7 → up (up (up (up (up (hc σ t t' 12 16 8 60 0) 7 t 0 0 (σ 7 t' 0 0)) 7 t 0 1 (σ 7 t' 0 1)) 7 t 0 2 (σ 7 t' 0 2)) 7 t 0 3 (σ 7 t' 0 3)) 7 t 0 4 (σ 7 t' 0 4) 7 t 0 j = hc σ t t' 12 16 8 60 0 7 t' 0 j := by
    intro j j0 j1
    have h5 : wd 7 = 5 := rfl
    rw [h5] at j1
    rw [hc_o (Ne.symm hne)]
    have hj : j = 0 ∨ j = 1 ∨ j = 2 ∨ j = 3 ∨ j = 4 := by omega
    unfold up
    rcases hj with rfl | rfl | rfl | rfl | rfl <;> (repeat (first | rewrite [if_pos (by omega)] | rewrite [if_neg (by omega)])) <;> (try rfl)
  refine rc_of pj pj (fun a1 t1 i1 j hn => ?_)
  unfold up
  by_cases a0 : a1 = 7
  · subst a0
    have h5 : wd 7 = 5 := rfl
    rw [h5] at hn
    repeat rw [if_neg (by omega)]
  · repeat rw [if_neg (fun z => a0 z.1)]

set_option maxRecDepth 100000 in
theorem l_X3_copy89 {g : GG} {kp : Bool} {σ : SS} (hR : RG σ) {t t' : Int} (hne : t ≠ t') (ht : t = 0 ∨ (t = 1 ∧ kp = true)) (ht' : t' = 0 ∨ (t' = 1 ∧ kp = true)) : ∀ (m : Nat) (x : Int), (0 ≤ x ∧ x ≤ 60) → (60 - x < m) → V g (rmD 2 0 0) mX3_copyFrom (ZT g kp (fun r τ => r = none ∧ τ = (hc σ t t' 12 16 8 60 1))) E0 89 [(0, rf g (ad 7 t 0)), (1, rf g (ad 7 t' 0)), (2, vi x)] [] (vw g kp (hc σ t t' 12 16 8 x 0)) (sz kp) 0 0 := by
  intro m
  induction m with
  | zero => intro x hx hm; exfalso; omega
  | succ m ih =>
    intro x hx hm
    have o7 : ok kp 7 t 0 := okH ht ⟨by decide, by decide⟩ rfl
    have p7 : ok kp 7 t' 0 := okH ht' ⟨by decide, by decide⟩ rfl
    have o15 : ok kp 15 t 0 := okH ht ⟨by decide, by decide⟩ rfl
    have p15 : ok kp 15 t' 0 := okH ht' ⟨by decide, by decide⟩ rfl
    have o16 : ok kp 16 t 0 := okH ht ⟨by decide, by decide⟩ rfl
    have p16 : ok kp 16 t' 0 := okH ht' ⟨by decide, by decide⟩ rfl
    have o17 : ok kp 17 t 0 := okH ht ⟨by decide, by decide⟩ rfl
    have p17 : ok kp 17 t' 0 := okH ht' ⟨by decide, by decide⟩ rfl
    have o18 : ok kp 18 t 0 := okH ht ⟨by decide, by decide⟩ rfl
    have p18 : ok kp 18 t' 0 := okH ht' ⟨by decide, by decide⟩ rfl
    refine v_iload_n 2 dX3_copyFrom_89 (nx := 90) rfl rfl ?_
    refine v_bipush dX3_copyFrom_90 (nx := 92) rfl rfl ?_
    refine v_icmp_ge dX3_copyFrom_92 (tgt := 116) (by decide) (nx := 95) rfl (by first | assumption | exact hR.1 _ _ _ _ | exact ⟨by omega, by omega⟩) (by first | assumption | exact hR.1 _ _ _ _ | exact ⟨by omega, by omega⟩) (fun c92 => ?_) (fun c92 => ?_)
    · refine v_aload_n 0 dX3_copyFrom_116 (nx := 117) rfl rfl ?_
      refine v_aload_n 1 dX3_copyFrom_117 (nx := 118) rfl rfl ?_
      refine t_get (a := 7) (p := 4) (T := TX3) dX3_copyFrom_118 (nx := 121) rfl (by decide) (by assumption) rfl rfl iU3 (by decide) fl_X3_39 rfl ?_
      refine v_top (z' := σ 7 t' 0 0) (by (try unfold up); (repeat rw [if_neg (by omega)]); exact hc_o (Ne.symm hne)) ?_
      refine t_put (a := 7) (j := 0) (p := 4) (T := TX3) dX3_copyFrom_121 (nx := 124) rfl (by decide) (by assumption) rfl rfl iU3 tyX3 tyX3_ok nmX3 (by decide) fl_X3_39 rfl (Or.inl rfl) (Nat.le_of_ble_eq_true rfl) (by rfl) ?_
      refine v_aload_n 0 dX3_copyFrom_124 (nx := 125) rfl rfl ?_
      refine v_aload_n 1 dX3_copyFrom_125 (nx := 126) rfl rfl ?_
      refine t_get (a := 7) (p := 5) (T := TX3) dX3_copyFrom_126 (nx := 129) rfl (by decide) (by assumption) rfl rfl iU3 (by decide) fl_X3_43 rfl ?_
      refine v_top (z' := σ 7 t' 0 1) (by (try unfold up); (repeat rw [if_neg (by omega)]); exact hc_o (Ne.symm hne)) ?_
      refine t_put (a := 7) (j := 1) (p := 5) (T := TX3) dX3_copyFrom_129 (nx := 132) rfl (by decide) (by assumption) rfl rfl iU3 tyX3 tyX3_ok nmX3 (by decide) fl_X3_43 rfl (Or.inl rfl) (Nat.le_of_ble_eq_true rfl) (by rfl) ?_
      refine v_aload_n 0 dX3_copyFrom_132 (nx := 133) rfl rfl ?_
      refine v_aload_n 1 dX3_copyFrom_133 (nx := 134) rfl rfl ?_
      refine t_get (a := 7) (p := 6) (T := TX3) dX3_copyFrom_134 (nx := 137) rfl (by decide) (by assumption) rfl rfl iU3 (by decide) fl_X3_46 rfl ?_
      refine v_top (z' := σ 7 t' 0 2) (by (try unfold up); (repeat rw [if_neg (by omega)]); exact hc_o (Ne.symm hne)) ?_
      refine t_put (a := 7) (j := 2) (p := 6) (T := TX3) dX3_copyFrom_137 (nx := 140) rfl (by decide) (by assumption) rfl rfl iU3 tyX3 tyX3_ok nmX3 (by decide) fl_X3_46 rfl (Or.inl rfl) (Nat.le_of_ble_eq_true rfl) (by rfl) ?_
      refine v_aload_n 0 dX3_copyFrom_140 (nx := 141) rfl rfl ?_
      refine v_aload_n 1 dX3_copyFrom_141 (nx := 142) rfl rfl ?_
      refine t_get (a := 7) (p := 7) (T := TX3) dX3_copyFrom_142 (nx := 145) rfl (by decide) (by assumption) rfl rfl iU3 (by decide) fl_X3_49 rfl ?_
      refine v_top (z' := σ 7 t' 0 3) (by (try unfold up); (repeat rw [if_neg (by omega)]); exact hc_o (Ne.symm hne)) ?_
      refine t_put (a := 7) (j := 3) (p := 7) (T := TX3) dX3_copyFrom_145 (nx := 148) rfl (by decide) (by assumption) rfl rfl iU3 tyX3 tyX3_ok nmX3 (by decide) fl_X3_49 rfl (Or.inl rfl) (Nat.le_of_ble_eq_true rfl) (by rfl) ?_
      refine v_aload_n 0 dX3_copyFrom_148 (nx := 149) rfl rfl ?_
      refine v_aload_n 1 dX3_copyFrom_149 (nx := 150) rfl rfl ?_
      refine t_get (a := 7) (p := 8) (T := TX3) dX3_copyFrom_150 (nx := 153) rfl (by decide) (by assumption) rfl rfl iU3 (by decide) fl_X3_112 rfl ?_
      refine v_top (z' := σ 7 t' 0 4) (by (try unfold up); (repeat rw [if_neg (by omega)]); exact hc_o (Ne.symm hne)) ?_
      refine t_put (a := 7) (j := 4) (p := 8) (T := TX3) dX3_copyFrom_153 (nx := 156) rfl (by decide) (by assumption) rfl rfl iU3 tyX3 tyX3_ok nmX3 (by decide) fl_X3_112 rfl (Or.inl rfl) (Nat.le_of_ble_eq_true rfl) (by rfl) ?_
      exact t_ret dX3_copyFrom_156 rfl ⟨rfl, by rw [show x = 60 by omega]; exact hc_fin hne⟩
    · have o5 : ok kp 5 t x := okH ht ⟨by omega, by show x < 60; omega⟩ rfl
      have p5 : ok kp 5 t' x := okH ht' ⟨by omega, by show x < 60; omega⟩ rfl
      have o6 : ok kp 6 t x := okH ht ⟨by omega, by show x < 60; omega⟩ rfl
      have p6 : ok kp 6 t' x := okH ht' ⟨by omega, by show x < 60; omega⟩ rfl
      refine v_aload_n 0 dX3_copyFrom_95 (nx := 96) rfl rfl ?_
      refine t_get (a := 7) (p := 3) (T := TX3) dX3_copyFrom_96 (nx := 99) rfl (by decide) (by assumption) rfl rfl iU3 (by decide) fl_X3_31 rfl ?_
      refine v_iload_n 2 dX3_copyFrom_99 (nx := 100) rfl rfl ?_
      refine t_ldG dX3_copyFrom_100 (nx := 101) rfl (by assumption) ⟨by omega, by omega⟩ ?_
      refine v_aload_n 1 dX3_copyFrom_101 (nx := 102) rfl rfl ?_
      refine t_get (a := 7) (p := 3) (T := TX3) dX3_copyFrom_102 (nx := 105) rfl (by decide) (by assumption) rfl rfl iU3 (by decide) fl_X3_31 rfl ?_
      refine v_iload_n 2 dX3_copyFrom_105 (nx := 106) rfl rfl ?_
      refine t_ldG dX3_copyFrom_106 (nx := 107) rfl (by assumption) ⟨by omega, by omega⟩ ?_
      refine t_callVv (a := 5) (c_X0_copyFrom hne o5 p5 o6 p6 (by rw [hc_o (Ne.symm hne)]; exact hR.2 5 _ _ 1 (Or.inr ⟨rfl, rfl⟩))) dX3_copyFrom_107 (nx := 110) rfl kX0_copyFrom ml_X3_109 (by decide) (by first | assumption | exact ok_5 ⟨by omega, by omega⟩) rfl rfl rfl rfl (Nat.le_of_ble_eq_true rfl) ⟨by decide, by decide⟩ ⟨by decide, by decide⟩ ?_
      refine v_iinc 2 dX3_copyFrom_110 (nx := 113) rfl rfl rfl (by decide) ?_
      refine v_goto dX3_copyFrom_113 (tgt := 89) (by decide) ?_
      exact (by rw [hc_s (x' := 12) (y' := 16) (z' := 8) (w' := (x + 1)) (v' := 0) hne hx.1 (fun a h => by unfold lm; (rcases h with rfl | rfl) <;> exact ⟨rfl, rfl⟩) (fun a h => by unfold lm; (repeat' split) <;> first | rfl | (exfalso; omega))]; exact ih (x + 1) ⟨by omega, by omega⟩ (by omega))

set_option maxRecDepth 100000 in
theorem l_X3_copy60 {g : GG} {kp : Bool} {σ : SS} (hR : RG σ) {t t' : Int} (hne : t ≠ t') (ht : t = 0 ∨ (t = 1 ∧ kp = true)) (ht' : t' = 0 ∨ (t' = 1 ∧ kp = true)) : ∀ (m : Nat) (x : Int), (0 ≤ x ∧ x ≤ 8) → (8 - x < m) → V g (rmD 2 0 0) mX3_copyFrom (ZT g kp (fun r τ => r = none ∧ τ = (hc σ t t' 12 16 8 60 1))) E0 60 [(0, rf g (ad 7 t 0)), (1, rf g (ad 7 t' 0)), (2, vi x)] [] (vw g kp (hc σ t t' 12 16 x 0 0)) (sz kp) 0 0 := by
  intro m
  induction m with
  | zero => intro x hx hm; exfalso; omega
  | succ m ih =>
    intro x hx hm
    have o7 : ok kp 7 t 0 := okH ht ⟨by decide, by decide⟩ rfl
    have p7 : ok kp 7 t' 0 := okH ht' ⟨by decide, by decide⟩ rfl
    have o15 : ok kp 15 t 0 := okH ht ⟨by decide, by decide⟩ rfl
    have p15 : ok kp 15 t' 0 := okH ht' ⟨by decide, by decide⟩ rfl
    have o16 : ok kp 16 t 0 := okH ht ⟨by decide, by decide⟩ rfl
    have p16 : ok kp 16 t' 0 := okH ht' ⟨by decide, by decide⟩ rfl
    have o17 : ok kp 17 t 0 := okH ht ⟨by decide, by decide⟩ rfl
    have p17 : ok kp 17 t' 0 := okH ht' ⟨by decide, by decide⟩ rfl
    have o18 : ok kp 18 t 0 := okH ht ⟨by decide, by decide⟩ rfl
    have p18 : ok kp 18 t' 0 := okH ht' ⟨by decide, by decide⟩ rfl
    refine v_iload_n 2 dX3_copyFrom_60 (nx := 61) rfl rfl ?_
    refine v_bipush dX3_copyFrom_61 (nx := 63) rfl rfl ?_
    refine v_icmp_ge dX3_copyFrom_63 (tgt := 87) (by decide) (nx := 66) rfl (by first | assumption | exact hR.1 _ _ _ _ | exact ⟨by omega, by omega⟩) (by first | assumption | exact hR.1 _ _ _ _ | exact ⟨by omega, by omega⟩) (fun c63 => ?_) (fun c63 => ?_)
    · refine v_iconst dX3_copyFrom_87 (nx := 88) rfl ?_
      refine v_istore_n dX3_copyFrom_88 (nx := 89) rfl rfl (by decide) ?_
      exact (by rw [show x = 8 by omega]; exact l_X3_copy89 hR hne ht ht' 61 0 ⟨by omega, by omega⟩ (by omega))
    · have o4 : ok kp 4 t x := okH ht ⟨by omega, by show x < 8; omega⟩ rfl
      have p4 : ok kp 4 t' x := okH ht' ⟨by omega, by show x < 8; omega⟩ rfl
      refine v_aload_n 0 dX3_copyFrom_66 (nx := 67) rfl rfl ?_
      refine t_get (a := 7) (p := 2) (T := TX3) dX3_copyFrom_67 (nx := 70) rfl (by decide) (by assumption) rfl rfl iU3 (by decide) fl_X3_25 rfl ?_
      refine v_iload_n 2 dX3_copyFrom_70 (nx := 71) rfl rfl ?_
      refine t_ldF dX3_copyFrom_71 (nx := 72) rfl (by assumption) ⟨by omega, by omega⟩ ?_
      refine v_aload_n 1 dX3_copyFrom_72 (nx := 73) rfl rfl ?_
      refine t_get (a := 7) (p := 2) (T := TX3) dX3_copyFrom_73 (nx := 76) rfl (by decide) (by assumption) rfl rfl iU3 (by decide) fl_X3_25 rfl ?_
      refine v_iload_n 2 dX3_copyFrom_76 (nx := 77) rfl rfl ?_
      refine t_ldF dX3_copyFrom_77 (nx := 78) rfl (by assumption) ⟨by omega, by omega⟩ ?_
      refine t_callVv (a := 4) (c_X2_copyFrom hne o4 p4) dX3_copyFrom_78 (nx := 81) rfl kX2_copyFrom ml_X3_106 (by decide) (by first | assumption | exact ok_4 ⟨by omega, by omega⟩) rfl rfl rfl rfl (Nat.le_of_ble_eq_true rfl) ⟨by decide, by decide⟩ ⟨by decide, by decide⟩ ?_
      refine v_iinc 2 dX3_copyFrom_81 (nx := 84) rfl rfl rfl (by decide) ?_
      refine v_goto dX3_copyFrom_84 (tgt := 60) (by decide) ?_
      exact (by rw [hc_s (x' := 12) (y' := 16) (z' := (x + 1)) (w' := 0) (v' := 0) hne hx.1 (fun a h => by unfold lm; (rcases h with rfl | rfl) <;> exact ⟨rfl, rfl⟩) (fun a h => by unfold lm; (repeat' split) <;> first | rfl | (exfalso; omega))]; exact ih (x + 1) ⟨by omega, by omega⟩ (by omega))

set_option maxRecDepth 100000 in
theorem l_X3_copy31 {g : GG} {kp : Bool} {σ : SS} (hR : RG σ) {t t' : Int} (hne : t ≠ t') (ht : t = 0 ∨ (t = 1 ∧ kp = true)) (ht' : t' = 0 ∨ (t' = 1 ∧ kp = true)) : ∀ (m : Nat) (x : Int), (0 ≤ x ∧ x ≤ 16) → (16 - x < m) → V g (rmD 2 0 0) mX3_copyFrom (ZT g kp (fun r τ => r = none ∧ τ = (hc σ t t' 12 16 8 60 1))) E0 31 [(0, rf g (ad 7 t 0)), (1, rf g (ad 7 t' 0)), (2, vi x)] [] (vw g kp (hc σ t t' 12 x 0 0 0)) (sz kp) 0 0 := by
  intro m
  induction m with
  | zero => intro x hx hm; exfalso; omega
  | succ m ih =>
    intro x hx hm
    have o7 : ok kp 7 t 0 := okH ht ⟨by decide, by decide⟩ rfl
    have p7 : ok kp 7 t' 0 := okH ht' ⟨by decide, by decide⟩ rfl
    have o15 : ok kp 15 t 0 := okH ht ⟨by decide, by decide⟩ rfl
    have p15 : ok kp 15 t' 0 := okH ht' ⟨by decide, by decide⟩ rfl
    have o16 : ok kp 16 t 0 := okH ht ⟨by decide, by decide⟩ rfl
    have p16 : ok kp 16 t' 0 := okH ht' ⟨by decide, by decide⟩ rfl
    have o17 : ok kp 17 t 0 := okH ht ⟨by decide, by decide⟩ rfl
    have p17 : ok kp 17 t' 0 := okH ht' ⟨by decide, by decide⟩ rfl
    have o18 : ok kp 18 t 0 := okH ht ⟨by decide, by decide⟩ rfl
    have p18 : ok kp 18 t' 0 := okH ht' ⟨by decide, by decide⟩ rfl
    refine v_iload_n 2 dX3_copyFrom_31 (nx := 32) rfl rfl ?_
    refine v_bipush dX3_copyFrom_32 (nx := 34) rfl rfl ?_
    refine v_icmp_ge dX3_copyFrom_34 (tgt := 58) (by decide) (nx := 37) rfl (by first | assumption | exact hR.1 _ _ _ _ | exact ⟨by omega, by omega⟩) (by first | assumption | exact hR.1 _ _ _ _ | exact ⟨by omega, by omega⟩) (fun c34 => ?_) (fun c34 => ?_)
    · refine v_iconst dX3_copyFrom_58 (nx := 59) rfl ?_
      refine v_istore_n dX3_copyFrom_59 (nx := 60) rfl rfl (by decide) ?_
      exact (by rw [show x = 16 by omega]; exact l_X3_copy60 hR hne ht ht' 61 0 ⟨by omega, by omega⟩ (by omega))
    · have o2 : ok kp 2 t x := okH ht ⟨by omega, by show x < 16; omega⟩ rfl
      have p2 : ok kp 2 t' x := okH ht' ⟨by omega, by show x < 16; omega⟩ rfl
      have o3 : ok kp 3 t x := okH ht ⟨by omega, by show x < 16; omega⟩ rfl
      have p3 : ok kp 3 t' x := okH ht' ⟨by omega, by show x < 16; omega⟩ rfl
      refine v_aload_n 0 dX3_copyFrom_37 (nx := 38) rfl rfl ?_
      refine t_get (a := 7) (p := 1) (T := TX3) dX3_copyFrom_38 (nx := 41) rfl (by decide) (by assumption) rfl rfl iU3 (by decide) fl_X3_19 rfl ?_
      refine v_iload_n 2 dX3_copyFrom_41 (nx := 42) rfl rfl ?_
      refine t_ldB dX3_copyFrom_42 (nx := 43) rfl (by assumption) ⟨by omega, by omega⟩ ?_
      refine v_aload_n 1 dX3_copyFrom_43 (nx := 44) rfl rfl ?_
      refine t_get (a := 7) (p := 1) (T := TX3) dX3_copyFrom_44 (nx := 47) rfl (by decide) (by assumption) rfl rfl iU3 (by decide) fl_X3_19 rfl ?_
      refine v_iload_n 2 dX3_copyFrom_47 (nx := 48) rfl rfl ?_
      refine t_ldB dX3_copyFrom_48 (nx := 49) rfl (by assumption) ⟨by omega, by omega⟩ ?_
      refine t_callVv (a := 2) (c_X1_copyFrom hne o2 p2 o3 p3 (by rw [hc_o (Ne.symm hne)]; exact hR.2 2 _ _ 4 (Or.inl ⟨rfl, Or.inl rfl⟩)) (by rw [hc_o (Ne.symm hne)]; exact hR.2 2 _ _ 5 (Or.inl ⟨rfl, Or.inr rfl⟩))) dX3_copyFrom_49 (nx := 52) rfl kX1_copyFrom ml_X3_103 (by decide) (by first | assumption | exact ok_2 ⟨by omega, by omega⟩) rfl rfl rfl rfl (Nat.le_of_ble_eq_true rfl) ⟨by decide, by decide⟩ ⟨by decide, by decide⟩ ?_
      refine v_iinc 2 dX3_copyFrom_52 (nx := 55) rfl rfl rfl (by decide) ?_
      refine v_goto dX3_copyFrom_55 (tgt := 31) (by decide) ?_
      exact (by rw [hc_s (x' := 12) (y' := (x + 1)) (z' := 0) (w' := 0) (v' := 0) hne hx.1 (fun a h => by unfold lm; (rcases h with rfl | rfl) <;> exact ⟨rfl, rfl⟩) (fun a h => by unfold lm; (repeat' split) <;> first | rfl | (exfalso; omega))]; exact ih (x + 1) ⟨by omega, by omega⟩ (by omega))

set_option maxRecDepth 100000 in
theorem l_X3_copy2 {g : GG} {kp : Bool} {σ : SS} (hR : RG σ) {t t' : Int} (hne : t ≠ t') (ht : t = 0 ∨ (t = 1 ∧ kp = true)) (ht' : t' = 0 ∨ (t' = 1 ∧ kp = true)) : ∀ (m : Nat) (x : Int), (0 ≤ x ∧ x ≤ 12) → (12 - x < m) → V g (rmD 2 0 0) mX3_copyFrom (ZT g kp (fun r τ => r = none ∧ τ = (hc σ t t' 12 16 8 60 1))) E0 2 [(0, rf g (ad 7 t 0)), (1, rf g (ad 7 t' 0)), (2, vi x)] [] (vw g kp (hc σ t t' x 0 0 0 0)) (sz kp) 0 0 := by
  intro m
  induction m with
  | zero => intro x hx hm; exfalso; omega
  | succ m ih =>
    intro x hx hm
    have o7 : ok kp 7 t 0 := okH ht ⟨by decide, by decide⟩ rfl
    have p7 : ok kp 7 t' 0 := okH ht' ⟨by decide, by decide⟩ rfl
    have o15 : ok kp 15 t 0 := okH ht ⟨by decide, by decide⟩ rfl
    have p15 : ok kp 15 t' 0 := okH ht' ⟨by decide, by decide⟩ rfl
    have o16 : ok kp 16 t 0 := okH ht ⟨by decide, by decide⟩ rfl
    have p16 : ok kp 16 t' 0 := okH ht' ⟨by decide, by decide⟩ rfl
    have o17 : ok kp 17 t 0 := okH ht ⟨by decide, by decide⟩ rfl
    have p17 : ok kp 17 t' 0 := okH ht' ⟨by decide, by decide⟩ rfl
    have o18 : ok kp 18 t 0 := okH ht ⟨by decide, by decide⟩ rfl
    have p18 : ok kp 18 t' 0 := okH ht' ⟨by decide, by decide⟩ rfl
    refine v_iload_n 2 dX3_copyFrom_2 (nx := 3) rfl rfl ?_
    refine v_bipush dX3_copyFrom_3 (nx := 5) rfl rfl ?_
    refine v_icmp_ge dX3_copyFrom_5 (tgt := 29) (by decide) (nx := 8) rfl (by first | assumption | exact hR.1 _ _ _ _ | exact ⟨by omega, by omega⟩) (by first | assumption | exact hR.1 _ _ _ _ | exact ⟨by omega, by omega⟩) (fun c5 => ?_) (fun c5 => ?_)
    · refine v_iconst dX3_copyFrom_29 (nx := 30) rfl ?_
      refine v_istore_n dX3_copyFrom_30 (nx := 31) rfl rfl (by decide) ?_
      exact (by rw [show x = 12 by omega]; exact l_X3_copy31 hR hne ht ht' 61 0 ⟨by omega, by omega⟩ (by omega))
    · have o0 : ok kp 0 t x := okH ht ⟨by omega, by show x < 12; omega⟩ rfl
      have p0 : ok kp 0 t' x := okH ht' ⟨by omega, by show x < 12; omega⟩ rfl
      have o1 : ok kp 1 t x := okH ht ⟨by omega, by show x < 12; omega⟩ rfl
      have p1 : ok kp 1 t' x := okH ht' ⟨by omega, by show x < 12; omega⟩ rfl
      refine v_aload_n 0 dX3_copyFrom_8 (nx := 9) rfl rfl ?_
      refine t_get (a := 7) (p := 0) (T := TX3) dX3_copyFrom_9 (nx := 12) rfl (by decide) (by assumption) rfl rfl iU3 (by decide) fl_X3_11 rfl ?_
      refine v_iload_n 2 dX3_copyFrom_12 (nx := 13) rfl rfl ?_
      refine t_ldP dX3_copyFrom_13 (nx := 14) rfl (by assumption) ⟨by omega, by omega⟩ ?_
      refine v_aload_n 1 dX3_copyFrom_14 (nx := 15) rfl rfl ?_
      refine t_get (a := 7) (p := 0) (T := TX3) dX3_copyFrom_15 (nx := 18) rfl (by decide) (by assumption) rfl rfl iU3 (by decide) fl_X3_11 rfl ?_
      refine v_iload_n 2 dX3_copyFrom_18 (nx := 19) rfl rfl ?_
      refine t_ldP dX3_copyFrom_19 (nx := 20) rfl (by assumption) ⟨by omega, by omega⟩ ?_
      refine t_callVv (a := 0) (c_X4_copyFrom hne o0 p0 o1 p1) dX3_copyFrom_20 (nx := 23) rfl kX4_copyFrom ml_X3_99 (by decide) (by first | assumption | exact ok_0 ⟨by omega, by omega⟩) rfl rfl rfl rfl (Nat.le_of_ble_eq_true rfl) ⟨by decide, by decide⟩ ⟨by decide, by decide⟩ ?_
      refine v_iinc 2 dX3_copyFrom_23 (nx := 26) rfl rfl rfl (by decide) ?_
      refine v_goto dX3_copyFrom_26 (tgt := 2) (by decide) ?_
      exact (by rw [hc_s (x' := (x + 1)) (y' := 0) (z' := 0) (w' := 0) (v' := 0) hne hx.1 (fun a h => by unfold lm; (rcases h with rfl | rfl) <;> exact ⟨rfl, rfl⟩) (fun a h => by unfold lm; (repeat' split) <;> first | rfl | (exfalso; omega))]; exact ih (x + 1) ⟨by omega, by omega⟩ (by omega))

set_option maxRecDepth 100000 in
theorem c_X3_copyFrom {g : GG} {kp : Bool} {σ : SS} (hR : RG σ) {t t' : Int} (hne : t ≠ t') (ht : t = 0 ∨ (t = 1 ∧ kp = true)) (ht' : t' = 0 ∨ (t' = 1 ∧ kp = true)) : XC g kp 2 mX3_copyFrom [rf g (ad 7 t 0), rf g (ad 7 t' 0)] σ none (hc σ t t' 12 16 8 60 1) := by
  refine TC.of (by decide) (Nat.le_of_ble_eq_true rfl) rfl ?_
  refine v_iconst dX3_copyFrom_0 (nx := 1) rfl ?_
  refine v_istore_n dX3_copyFrom_1 (nx := 2) rfl rfl (by decide) ?_
  exact (by
    have := l_X3_copy2 (g := g) hR hne ht ht' 13 0 ⟨by omega, by omega⟩ (by omega)
    rw [hc_0] at this
    exact this)
