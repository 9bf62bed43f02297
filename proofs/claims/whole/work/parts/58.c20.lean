theorem TR.trans {σ τ υ : SS} {M G M' G' : NN} (h : TR σ τ M G) (h2 : TR τ υ M' G') : TR σ υ M' G' := by
  obtain ⟨-, -, -, -, -, a1, a2⟩ := h
  obtain ⟨b1, b2, b3, b4, b5, b6, b7⟩ := h2
  exact ⟨b1, b2, b3, b4, b5, by rw [b6, a1], fun a t i q => by rw [b7 a t i q, a2 a t i q]⟩
theorem whA5 {N G : NN} {p b : Int} (h : N (8 + p) = 5) : whA N p (N (364 + rdyN N G b)) = chW N G b p := by
  unfold whA chW
  rw [if_pos h]
theorem whA_k {N : NN} {p fl : Int} (h : N (8 + p) ≠ 5) : whA N p fl = (if N (8 + p) = 4 then 3 else 2) := by
  unfold whA
  rw [if_neg h]
theorem chW_b {N G : NN} {p b : Int} : 5 ≤ chW N G b p ∧ chW N G b p ≤ 7 := by
  unfold chW
  split
  · omega
  · split <;> omega

set_option maxRecDepth 100000 in
theorem l_X6_recAll {g : GG} {kp : Bool} {σ : SS} (p : Int) {N0 N G : NN} {kk : Int} (hp : 0 ≤ p ∧ p < N 0) (hT : TI N0 N G kk (p + 1)) (h5 : N (8 + p) = 5) (hk3 : kk + N 1 ≤ 300) : ∀ (m : Nat) (x : Int) (M : NN) (τ : SS), (0 ≤ x ∧ x ≤ N 1) → (N 1 - x < m) → (M = chs G p N x.toNat) → (TR σ τ M G) → V g (rmD 3 0 0) mX6_receiveByNumbers (ZT g kp ((fun r τ => r = none ∧ TR σ τ (chs G p N (N 1).toNat) G))) E0 2 [(0, rf g (ad 9 0 0)), (1, vi p), (2, vi 1), (3, vi x)] [] (vw g kp τ) (sz kp) 0 0 := by
  intro m
  induction m with
  | zero => intro x M τ hx hm hM hTR; exfalso; omega
  | succ m ih =>
    intro x M τ hx hm hM hTR
    obtain ⟨hH, hS, hR, h8, hF, h9, ho⟩ := id hTR
    have hc := chs_ok hT hp h5 hk3 x.toNat (by omega)
    rw [← hM] at hc
    have hI := hc.1.1
    have hG := hc.1.2.2.1
    have m0 := hc.2.1 0 (by omega)
    have m1 := hc.2.1 1 (by omega)
    obtain ⟨b0, b1, b2, b3, b4, b5⟩ := hI.n
    have m8 := hc.2.1 (8 + p) (by omega)
    obtain ⟨n0, n1, n2, n3, n4⟩ := hH.n
    have hcs : chs G p N (x + 1).toNat = ch1 G p M x := by rw [chs_s hx.1, ← hM]
    refine v_iload_n 3 dX6_receiveByNumbers_2 (nx := 3) rfl rfl ?_
    refine v_aload_n 0 dX6_receiveByNumbers_3 (nx := 4) rfl rfl ?_
    refine t_get (a := 9) (p := 0) (T := TX6) dX6_receiveByNumbers_4 (nx := 7) rfl (by decide) (ok_m 9 rfl) rfl rfl iU6 (by decide) fl_X6_10 rfl ?_
    refine t_get (a := 7) (p := 5) (T := TX3) dX6_receiveByNumbers_7 (nx := 10) rfl (by decide) (ok_m 7 rfl) rfl rfl iU3 (by decide) fl_X6_69 rfl ?_
    refine v_icmp_ge dX6_receiveByNumbers_10 (tgt := 49) (by decide) (nx := 13) rfl (by first | assumption | exact hR.1 _ _ _ _ | exact ⟨by omega, by omega⟩) (by first | assumption | exact hR.1 _ _ _ _ | exact ⟨by omega, by omega⟩) (fun c10 => ?_) (fun c10 => ?_)
    · exact t_ret dX6_receiveByNumbers_49 rfl ⟨rfl, by rw [← show x = N 1 by omega, ← hM]; exact hTR⟩
    · refine v_aload_n 0 dX6_receiveByNumbers_13 (nx := 14) rfl rfl ?_
      refine t_get (a := 9) (p := 0) (T := TX6) dX6_receiveByNumbers_14 (nx := 17) rfl (by decide) (ok_m 9 rfl) rfl rfl iU6 (by decide) fl_X6_10 rfl ?_
      refine t_get (a := 7) (p := 1) (T := TX3) dX6_receiveByNumbers_17 (nx := 20) rfl (by decide) (ok_m 7 rfl) rfl rfl iU3 (by decide) fl_X6_72 rfl ?_
      refine v_iload_n 3 dX6_receiveByNumbers_20 (nx := 21) rfl rfl ?_
      refine t_ldB dX6_receiveByNumbers_21 (nx := 22) rfl (ok_m 16 rfl) ⟨by omega, by omega⟩ ?_
      obtain ⟨-, d1, -⟩ := hH.b x (by omega) (by omega)
      refine t_get (a := 2) (p := 1) (T := TX1) dX6_receiveByNumbers_22 (nx := 25) rfl (by decide) (by first | assumption | exact ok_2 ⟨by omega, by omega⟩) rfl rfl iU1 (by decide) fl_X6_88 rfl ?_
      refine v_iload_n 1 dX6_receiveByNumbers_25 (nx := 26) rfl rfl ?_
      refine v_icmp_ne dX6_receiveByNumbers_26 (tgt := 43) (by decide) (nx := 29) rfl (by first | assumption | exact hR.1 _ _ _ _ | exact ⟨by omega, by omega⟩) (by first | assumption | exact hR.1 _ _ _ _ | exact ⟨by omega, by omega⟩) (fun c26 => ?_) (fun c26 => ?_)
      · refine v_iinc 3 dX6_receiveByNumbers_43 (nx := 46) rfl rfl rfl (by decide) ?_
        refine v_goto dX6_receiveByNumbers_46 (tgt := 2) (by decide) ?_
        exact (ih _ M _ ⟨by omega, by omega⟩ (by omega) (by rw [hcs]; unfold ch1; rw [if_neg (by omega)]) hTR)
      · refine v_aload_n 0 dX6_receiveByNumbers_29 (nx := 30) rfl rfl ?_
        refine v_iload_n 3 dX6_receiveByNumbers_30 (nx := 31) rfl rfl ?_
        refine v_iload_n 1 dX6_receiveByNumbers_31 (nx := 32) rfl rfl ?_
        refine t_callViQ (a := 9) (c_X6_receiveFrom hR hI hH hS h8 hF hG x p (by omega) (by omega) (fun _ => by rw [whA5 (by omega)]; exact Or.inr (Or.inr ⟨chW_b, by omega⟩))) dX6_receiveByNumbers_32 (nx := 35) rfl kX6_receiveFrom ml_X6_288 (by decide) (ok_m 9 rfl) rfl rfl rfl rfl (Nat.le_of_ble_eq_true rfl) ⟨by decide, by decide⟩ ⟨by decide, by decide⟩ (fun τ hq => ?_)
        rw [whA5 (by omega)] at hq
        replace hq := hTR.trans hq
        refine v_ifB_eq dX6_receiveByNumbers_35 (tgt := 43) (by decide) (nx := 38) rfl (fun c35 => ?_) (fun c35 => ?_)
        · refine v_iinc 3 dX6_receiveByNumbers_43 (nx := 46) rfl rfl rfl (by decide) ?_
          refine v_goto dX6_receiveByNumbers_46 (tgt := 2) (by decide) ?_
          exact (ih _ M _ ⟨by omega, by omega⟩ (by omega) (by rw [hcs]; unfold ch1; rw [if_neg (by omega)]) (by rw [if_neg c35] at hq; exact hq))
        · refine v_iload_n 2 dX6_receiveByNumbers_38 (nx := 39) rfl rfl ?_
          refine v_if_ne dX6_receiveByNumbers_39 (tgt := 43) (by decide) (nx := 42) rfl (by first | assumption | exact hR.1 _ _ _ _ | exact ⟨by omega, by omega⟩) (fun c39 => ?_) (fun c39 => ?_)
          · refine v_iinc 3 dX6_receiveByNumbers_43 (nx := 46) rfl rfl rfl (by decide) ?_
            refine v_goto dX6_receiveByNumbers_46 (tgt := 2) (by decide) ?_
            exact (ih _ (tkN M G x p (chW M G x p)) _ ⟨by omega, by omega⟩ (by omega) (by rw [hcs]; unfold ch1; rw [if_pos ⟨by omega, c35⟩]) (by rw [if_pos c35] at hq; exact hq))
          · exfalso; omega

set_option maxRecDepth 100000 in
theorem c_X6_receiveByNumbersA {g : GG} {kp : Bool} {σ : SS} (p : Int) {N0 N G : NN} {kk : Int} (hp : 0 ≤ p ∧ p < N 0) (hT : TI N0 N G kk (p + 1)) (h5 : N (8 + p) = 5) (hk3 : kk + N 1 ≤ 300) (hTR : TR σ σ N G) : TC g kp 3 mX6_receiveByNumbers [rf g (ad 9 0 0), vi p, vi 1] σ (fun r τ => r = none ∧ TR σ τ (chs G p N (N 1).toNat) G) := by
  refine TC.of (by decide) (Nat.le_of_ble_eq_true rfl) rfl ?_
  obtain ⟨-, b1, -⟩ := hT.1.n
  refine v_iconst dX6_receiveByNumbers_0 (nx := 1) rfl ?_
  refine v_istore_n dX6_receiveByNumbers_1 (nx := 2) rfl rfl (by decide) ?_
  exact l_X6_recAll p hp hT h5 hk3 (N 1 + 1).toNat 0 N σ ⟨by omega, by omega⟩ (by omega) rfl hTR

set_option maxRecDepth 100000 in
theorem l_X6_recOne {g : GG} {kp : Bool} {σ : SS} (p : Int) {N G : NN} {kk : Int} (hp : 0 ≤ p ∧ p < N 0) (hI : IV N kk) (hG : GI N G) (h5 : N (8 + p) ≠ 5) (hw : tkW N p (if N (8 + p) = 4 then 3 else 2)) : ∀ (m : Nat) (x : Int) (τ : SS), (0 ≤ x ∧ x ≤ N 1) → (N 1 - x < m) → (∀ b, 0 ≤ b → b < x → ¬ (N (84 + b) = p ∧ 0 ≤ rdyN N G b)) → (TR σ τ N G) → V g (rmD 3 0 0) mX6_receiveByNumbers (ZT g kp ((fun r τ => r = none ∧ TR σ τ (if 0 ≤ rdyI N G p then tkN N G (rdyI N G p) p (if N (8 + p) = 4 then 3 else 2) else N) G))) E0 2 [(0, rf g (ad 9 0 0)), (1, vi p), (2, vi 0), (3, vi x)] [] (vw g kp τ) (sz kp) 0 0 := by
  intro m
  induction m with
  | zero => intro x τ hx hm hno hTR; exfalso; omega
  | succ m ih =>
    intro x τ hx hm hno hTR
    obtain ⟨hH, hS, hR, h8, hF, h9, ho⟩ := id hTR
    obtain ⟨b0, b1, b2, b3, b4, b5⟩ := hI.n
    obtain ⟨n0, n1, n2, n3, n4⟩ := hH.n
    refine v_iload_n 3 dX6_receiveByNumbers_2 (nx := 3) rfl rfl ?_
    refine v_aload_n 0 dX6_receiveByNumbers_3 (nx := 4) rfl rfl ?_
    refine t_get (a := 9) (p := 0) (T := TX6) dX6_receiveByNumbers_4 (nx := 7) rfl (by decide) (ok_m 9 rfl) rfl rfl iU6 (by decide) fl_X6_10 rfl ?_
    refine t_get (a := 7) (p := 5) (T := TX3) dX6_receiveByNumbers_7 (nx := 10) rfl (by decide) (ok_m 7 rfl) rfl rfl iU3 (by decide) fl_X6_69 rfl ?_
    refine v_icmp_ge dX6_receiveByNumbers_10 (tgt := 49) (by decide) (nx := 13) rfl (by first | assumption | exact hR.1 _ _ _ _ | exact ⟨by omega, by omega⟩) (by first | assumption | exact hR.1 _ _ _ _ | exact ⟨by omega, by omega⟩) (fun c10 => ?_) (fun c10 => ?_)
    · exact t_ret dX6_receiveByNumbers_49 rfl ⟨rfl, by rw [if_neg (by rw [show rdyI N G p = -1 from (fstI_eq (by omega) b1.1 (Or.inl ⟨rfl, fun b y0 y1 => decide_eq_false (hno b y0 (by omega))⟩)).symm]; decide)]; exact hTR⟩
    · refine v_aload_n 0 dX6_receiveByNumbers_13 (nx := 14) rfl rfl ?_
      refine t_get (a := 9) (p := 0) (T := TX6) dX6_receiveByNumbers_14 (nx := 17) rfl (by decide) (ok_m 9 rfl) rfl rfl iU6 (by decide) fl_X6_10 rfl ?_
      refine t_get (a := 7) (p := 1) (T := TX3) dX6_receiveByNumbers_17 (nx := 20) rfl (by decide) (ok_m 7 rfl) rfl rfl iU3 (by decide) fl_X6_72 rfl ?_
      refine v_iload_n 3 dX6_receiveByNumbers_20 (nx := 21) rfl rfl ?_
      refine t_ldB dX6_receiveByNumbers_21 (nx := 22) rfl (ok_m 16 rfl) ⟨by omega, by omega⟩ ?_
      obtain ⟨-, d1, -⟩ := hH.b x (by omega) (by omega)
      refine t_get (a := 2) (p := 1) (T := TX1) dX6_receiveByNumbers_22 (nx := 25) rfl (by decide) (by first | assumption | exact ok_2 ⟨by omega, by omega⟩) rfl rfl iU1 (by decide) fl_X6_88 rfl ?_
      refine v_iload_n 1 dX6_receiveByNumbers_25 (nx := 26) rfl rfl ?_
      refine v_icmp_ne dX6_receiveByNumbers_26 (tgt := 43) (by decide) (nx := 29) rfl (by first | assumption | exact hR.1 _ _ _ _ | exact ⟨by omega, by omega⟩) (by first | assumption | exact hR.1 _ _ _ _ | exact ⟨by omega, by omega⟩) (fun c26 => ?_) (fun c26 => ?_)
      · refine v_iinc 3 dX6_receiveByNumbers_43 (nx := 46) rfl rfl rfl (by decide) ?_
        refine v_goto dX6_receiveByNumbers_46 (tgt := 2) (by decide) ?_
        exact (ih (x + 1) τ ⟨by omega, by omega⟩ (by omega) (fun b y0 y1 y2 => by rcases (show b = x ∨ b < x by omega) with e | e; (subst e; omega); exact hno b y0 (by omega) y2) hTR)
      · refine v_aload_n 0 dX6_receiveByNumbers_29 (nx := 30) rfl rfl ?_
        refine v_iload_n 3 dX6_receiveByNumbers_30 (nx := 31) rfl rfl ?_
        refine v_iload_n 1 dX6_receiveByNumbers_31 (nx := 32) rfl rfl ?_
        refine t_callViQ (a := 9) (c_X6_receiveFrom hR hI hH hS h8 hF hG x p (by omega) (by omega) (fun _ => by rw [whA_k h5]; exact hw)) dX6_receiveByNumbers_32 (nx := 35) rfl kX6_receiveFrom ml_X6_288 (by decide) (ok_m 9 rfl) rfl rfl rfl rfl (Nat.le_of_ble_eq_true rfl) ⟨by decide, by decide⟩ ⟨by decide, by decide⟩ (fun τ hq => ?_)
        rw [whA_k h5] at hq
        replace hq := hTR.trans hq
        refine v_ifB_eq dX6_receiveByNumbers_35 (tgt := 43) (by decide) (nx := 38) rfl (fun c35 => ?_) (fun c35 => ?_)
        · skip
          refine v_iinc 3 dX6_receiveByNumbers_43 (nx := 46) rfl rfl rfl (by decide) ?_
          refine v_goto dX6_receiveByNumbers_46 (tgt := 2) (by decide) ?_
          exact (ih (x + 1) τ ⟨by omega, by omega⟩ (by omega) (fun b y0 y1 y2 => by rcases (show b = x ∨ b < x by omega) with e | e; (subst e; omega); exact hno b y0 (by omega) y2) (by rw [if_neg c35] at hq; exact hq))
        · refine v_iload_n 2 dX6_receiveByNumbers_38 (nx := 39) rfl rfl ?_
          refine v_if_ne dX6_receiveByNumbers_39 (tgt := 43) (by decide) (nx := 42) rfl (by first | assumption | exact hR.1 _ _ _ _ | exact ⟨by omega, by omega⟩) (fun c39 => ?_) (fun c39 => ?_)
          · exfalso; omega
          · exact t_ret dX6_receiveByNumbers_42 rfl ⟨rfl, by rw [if_pos c35] at hq; rw [show rdyI N G p = x from (fstI_eq (by omega) b1.1 (Or.inr ⟨by omega, by omega, decide_eq_true ⟨by omega, c35⟩, fun b y0 y1 => decide_eq_false (hno b y0 y1)⟩)).symm, if_pos (by omega)]; exact hq⟩

set_option maxRecDepth 100000 in
theorem c_X6_receiveByNumbersB {g : GG} {kp : Bool} {σ : SS} (p : Int) {N G : NN} {kk : Int} (hp : 0 ≤ p ∧ p < N 0) (hI : IV N kk) (hG : GI N G) (h5 : N (8 + p) ≠ 5) (hw : tkW N p (if N (8 + p) = 4 then 3 else 2)) (hTR : TR σ σ N G) : TC g kp 3 mX6_receiveByNumbers [rf g (ad 9 0 0), vi p, vi 0] σ (fun r τ => r = none ∧ TR σ τ (if 0 ≤ rdyI N G p then tkN N G (rdyI N G p) p (if N (8 + p) = 4 then 3 else 2) else N) G) := by
  refine TC.of (by decide) (Nat.le_of_ble_eq_true rfl) rfl ?_
  obtain ⟨-, b1, -⟩ := hI.n
  refine v_iconst dX6_receiveByNumbers_0 (nx := 1) rfl ?_
  refine v_istore_n dX6_receiveByNumbers_1 (nx := 2) rfl rfl (by decide) ?_
  exact l_X6_recOne p hp hI hG h5 hw (N 1 + 1).toNat 0 σ ⟨by omega, by omega⟩ (by omega) (fun b _ _ => by omega) hTR
