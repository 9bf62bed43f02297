theorem fstO_eq {N : NN} {p : Int} : fstO N p = mnI (fun x => wP N 3 p x && decide (N (348 + N (364 + x)) ≤ N 4)) (fun g => N (604 + g)) (N 3) := by
  unfold fstO
  congr 1
  funext x
  exact and_dec
theorem fstW_eq {σ : SS} {N : NN} {k p : Int} (hI : IV N k) (hr : RHr1 σ 0 N p) (h0 : N (8 + p) = 0) : fstW N p = if 0 < σ 0 0 p 4 then σ 1 0 p 0 else -1 := by
  have hs := hr.srt (by omega) hI.n.2.2.2.1.1
  rw [wcK0 h0] at hs
  have e : fstW N p = mnI (fun x => wP N 0 p x && (fun _ => true) x) (fun g => N (604 + g)) (N 3) := by
    unfold fstW
    congr 1
    funext x
    exact (Bool.and_true _).symm
  rw [e]
  by_cases c : 0 < σ 0 0 p 4
  · rw [if_pos c]
    exact hs.first (Q := fun _ => true) (Int.le_refl _) c rfl (fun l l0 l1 => by omega)
  · rw [if_neg c]
    exact hs.nofirst (Q := fun _ => true) (fun l l0 l1 => by omega)
/-- the bag that a point would send, -1: none -/
def ntg (N : NN) (p : Int) : Int := if N (8 + p) = 4 then fstO N p else if N (8 + p) = 0 then fstW N p else if N (8 + p) = 5 then -1 else if N (8 + p) = 2 ∧ 0 ≤ N (32 + p) - 1 ∧ N 4 < N (604 + (N (32 + p) - 1)) + N (20 + p) then -1 else N (32 + p) - 1
/-- the belt that it would send it by -/
def otf (N : NN) (p g : Int) : Int := if N (8 + p) = 2 then (if N (424 + g) = 1 ∧ 0 ≤ outA N p 1 then outA N p 1 else outA N p 0) else if N (8 + p) = 3 then outF N p (N (364 + g)) else outS N p

set_option maxRecDepth 100000 in
theorem c_X6_isOpen {g : GG} {kp : Bool} {σ : SS} (hR : RG σ) {N : NN} {kk : Int} (hI : IV N kk) (hH : RH σ 0 N) (fl : Int) (hfl : inR fl) : XC g kp 1 mX6_isOpen [rf g (ad 9 0 0), vi fl] σ (some (vi (if (0 ≤ fl ∧ fl < N 2) ∧ N (348 + fl) ≤ N 4 then 1 else 0))) σ := by
  refine TC.of (by decide) (Nat.le_of_ble_eq_true rfl) rfl ?_
  obtain ⟨b0, b1, b2, b3, b4, b5⟩ := hI.n
  obtain ⟨n0, n1, n2, n3, n4⟩ := hH.n
  refine v_aload_n 0 dX6_isOpen_0 (nx := 1) rfl rfl ?_
  refine t_get (a := 9) (p := 0) (T := TX6) dX6_isOpen_1 (nx := 4) rfl (by decide) (ok_m 9 rfl) rfl rfl iU6 (by decide) fl_X6_10 rfl ?_
  refine v_iload_n 1 dX6_isOpen_4 (nx := 5) rfl rfl ?_
  refine t_callVi (a := 7) (c_X3_hasFlight hR _ (by first | assumption | exact hR.1 _ _ _ _ | exact ⟨by omega, by omega⟩)) dX6_isOpen_5 (nx := 8) rfl kX3_hasFlight ml_X6_114 (by decide) (ok_m 7 rfl) rfl rfl rfl rfl (Nat.le_of_ble_eq_true rfl) ⟨by decide, by decide⟩ ⟨by decide, by decide⟩ ?_
  refine v_ifB_eq dX6_isOpen_8 (tgt := 37) (by decide) (nx := 11) rfl (fun c8 => ?_) (fun c8 => ?_)
  · refine v_iconst dX6_isOpen_37 (nx := 38) rfl ?_
    exact t_zret dX6_isOpen_38 rfl (by first | exact Or.inl rfl | exact Or.inr rfl | assumption) ⟨by first | rw [if_pos (by omega)] | rw [if_neg (by omega)], rfl⟩
  · obtain ⟨f0, f1, f2⟩ := hH.f fl (by omega) (by omega)
    refine v_aload_n 0 dX6_isOpen_11 (nx := 12) rfl rfl ?_
    refine t_get (a := 9) (p := 0) (T := TX6) dX6_isOpen_12 (nx := 15) rfl (by decide) (ok_m 9 rfl) rfl rfl iU6 (by decide) fl_X6_10 rfl ?_
    refine t_get (a := 7) (p := 2) (T := TX3) dX6_isOpen_15 (nx := 18) rfl (by decide) (ok_m 7 rfl) rfl rfl iU3 (by decide) fl_X6_103 rfl ?_
    refine v_iload_n 1 dX6_isOpen_18 (nx := 19) rfl rfl ?_
    refine t_ldF dX6_isOpen_19 (nx := 20) rfl (ok_m 17 rfl) ⟨by omega, by omega⟩ ?_
    refine t_get (a := 4) (p := 1) (T := TX2) dX6_isOpen_20 (nx := 23) rfl (by decide) (by first | assumption | exact ok_4 ⟨by omega, by omega⟩) rfl rfl iU2 (by decide) fl_X6_199 rfl ?_
    refine v_aload_n 0 dX6_isOpen_23 (nx := 24) rfl rfl ?_
    refine t_get (a := 9) (p := 0) (T := TX6) dX6_isOpen_24 (nx := 27) rfl (by decide) (ok_m 9 rfl) rfl rfl iU6 (by decide) fl_X6_10 rfl ?_
    refine t_get (a := 7) (p := 8) (T := TX3) dX6_isOpen_27 (nx := 30) rfl (by decide) (ok_m 7 rfl) rfl rfl iU3 (by decide) fl_X6_171 rfl ?_
    refine v_icmp_gt dX6_isOpen_30 (tgt := 37) (by decide) (nx := 33) rfl (by first | assumption | exact hR.1 _ _ _ _ | exact ⟨by omega, by omega⟩) (by first | assumption | exact hR.1 _ _ _ _ | exact ⟨by omega, by omega⟩) (fun c30 => ?_) (fun c30 => ?_)
    · refine v_iconst dX6_isOpen_37 (nx := 38) rfl ?_
      exact t_zret dX6_isOpen_38 rfl (by first | exact Or.inl rfl | exact Or.inr rfl | assumption) ⟨by first | rw [if_pos (by omega)] | rw [if_neg (by omega)], rfl⟩
    · refine v_iconst dX6_isOpen_33 (nx := 34) rfl ?_
      refine v_goto dX6_isOpen_34 (tgt := 38) (by decide) ?_
      exact t_zret dX6_isOpen_38 rfl (by first | exact Or.inl rfl | exact Or.inr rfl | assumption) ⟨by first | rw [if_pos (by omega)] | rw [if_neg (by omega)], rfl⟩

set_option maxRecDepth 100000 in
theorem l_X6_firstOpen {g : GG} {kp : Bool} {σ : SS} (hR : RG σ) {N : NN} {kk : Int} (hI : IV N kk) (hH : RH σ 0 N) (p : Int) (hp : 0 ≤ p ∧ p < N 0) (h4 : N (8 + p) = 4) : ∀ (m : Nat) (x : Int), (0 ≤ x ∧ x ≤ σ 0 0 p 4) → (σ 0 0 p 4 - x < m) → (∀ l, 0 ≤ l → l < x → (fun x => decide (N (348 + N (364 + x)) ≤ N 4)) (σ 1 0 p l) = false) → V g (rmD 2 0 0) mX6_firstOpen (ZT g kp (fun r τ => r = (some (vi (fstO N p))) ∧ τ = σ)) E0 2 [(0, rf g (ad 9 0 0)), (1, rf g (ad 0 0 p)), (2, vi x)] [] (vw g kp σ) (sz kp) 0 0 := by
  intro m
  induction m with
  | zero => intro x hx hm hn; exfalso; omega
  | succ m ih =>
    intro x hx hm hn
    obtain ⟨b0, b1, b2, b3, b4, b5⟩ := hI.n
    obtain ⟨n0, n1, n2, n3, n4⟩ := hH.n
    obtain ⟨r0, r1, r2, r3, r4⟩ := hH.r p hp.1 hp.2
    have hs := (hH.r p hp.1 hp.2).srt (by omega) b3.1
    rw [wcK4 h4] at hs
    refine v_iload_n 2 dX6_firstOpen_2 (nx := 3) rfl rfl ?_
    refine v_aload_n 1 dX6_firstOpen_3 (nx := 4) rfl rfl ?_
    refine t_get (a := 0) (p := 4) (T := TX4) dX6_firstOpen_4 (nx := 7) rfl (by decide) (by first | assumption | exact ok_0 ⟨by omega, by omega⟩) rfl rfl iU4 (by decide) fl_X6_141 rfl ?_
    refine v_icmp_ge dX6_firstOpen_7 (tgt := 55) (by decide) (nx := 10) rfl (by first | assumption | exact hR.1 _ _ _ _ | exact ⟨by omega, by omega⟩) (by first | assumption | exact hR.1 _ _ _ _ | exact ⟨by omega, by omega⟩) (fun c7 => ?_) (fun c7 => ?_)
    · refine v_iconst dX6_firstOpen_55 (nx := 56) rfl ?_
      exact t_iret dX6_firstOpen_56 rfl ⟨by rw [fstO_eq, hs.nofirst (Q := (fun x => decide (N (348 + N (364 + x)) ≤ N 4))) (fun l l0 l1 => hn l l0 (by omega))], rfl⟩
    · obtain ⟨y1, y2, y3⟩ := r2 x (by omega) (by omega)
      obtain ⟨g0, g1, g2, g3, g4, g5⟩ := hH.g (σ 1 0 p x) y1.1 y1.2
      obtain ⟨z1, -⟩ := hI.g y1.1 y1.2
      refine v_aload_n 1 dX6_firstOpen_10 (nx := 11) rfl rfl ?_
      refine t_get (a := 0) (p := 5) (T := TX4) dX6_firstOpen_11 (nx := 14) rfl (by decide) (by first | assumption | exact ok_0 ⟨by omega, by omega⟩) rfl rfl iU4 (by decide) fl_X6_185 rfl ?_
      refine v_iload_n 2 dX6_firstOpen_14 (nx := 15) rfl rfl ?_
      refine t_aldL (a := 1) (L := 60) dX6_firstOpen_15 (nx := 16) rfl rfl (by first | assumption | exact ok_1 ⟨by omega, by omega⟩) rfl ⟨by omega, by omega⟩ ?_
      refine v_istore_n dX6_firstOpen_16 (nx := 17) rfl rfl (by decide) ?_
      refine v_aload_n 0 dX6_firstOpen_17 (nx := 18) rfl rfl ?_
      refine t_get (a := 9) (p := 0) (T := TX6) dX6_firstOpen_18 (nx := 21) rfl (by decide) (ok_m 9 rfl) rfl rfl iU6 (by decide) fl_X6_10 rfl ?_
      refine v_iload_n 3 dX6_firstOpen_21 (nx := 22) rfl rfl ?_
      refine t_callVi (a := 7) (c_X3_hasBag hR _ (by first | assumption | exact hR.1 _ _ _ _ | exact ⟨by omega, by omega⟩)) dX6_firstOpen_22 (nx := 25) rfl kX3_hasBag ml_X6_132 (by decide) (ok_m 7 rfl) rfl rfl rfl rfl (Nat.le_of_ble_eq_true rfl) ⟨by decide, by decide⟩ ⟨by decide, by decide⟩ ?_
      refine v_ifB_eq dX6_firstOpen_25 (tgt := 49) (by decide) (nx := 28) rfl (fun c25 => ?_) (fun c25 => ?_)
      · refine v_iinc 2 dX6_firstOpen_49 (nx := 52) rfl rfl rfl (by decide) ?_
        refine v_goto dX6_firstOpen_52 (tgt := 2) (by decide) ?_
        exact V.lpick [0, 1, 2] rfl ((ih _ ⟨by omega, by omega⟩ (by omega) (fun l l0 l1 => by
    by_cases q : l = x
    · subst q; exact decide_eq_false (by first | (exfalso; omega) | (rw [← g0]; omega))
    · exact hn l l0 (by omega))))
      · refine v_aload_n 0 dX6_firstOpen_28 (nx := 29) rfl rfl ?_
        refine v_aload_n 0 dX6_firstOpen_29 (nx := 30) rfl rfl ?_
        refine t_get (a := 9) (p := 0) (T := TX6) dX6_firstOpen_30 (nx := 33) rfl (by decide) (ok_m 9 rfl) rfl rfl iU6 (by decide) fl_X6_10 rfl ?_
        refine t_get (a := 7) (p := 3) (T := TX3) dX6_firstOpen_33 (nx := 36) rfl (by decide) (ok_m 7 rfl) rfl rfl iU3 (by decide) fl_X6_120 rfl ?_
        refine v_iload_n 3 dX6_firstOpen_36 (nx := 37) rfl rfl ?_
        refine t_ldG dX6_firstOpen_37 (nx := 38) rfl (ok_m 18 rfl) ⟨by omega, by omega⟩ ?_
        refine t_get (a := 5) (p := 0) (T := TX0) dX6_firstOpen_38 (nx := 41) rfl (by decide) (by first | assumption | exact ok_5 ⟨by omega, by omega⟩) rfl rfl iU0 (by decide) fl_X6_262 rfl ?_
        refine t_callVi (a := 9) (c_X6_isOpen hR hI hH _ (by first | assumption | exact hR.1 _ _ _ _ | exact ⟨by omega, by omega⟩)) dX6_firstOpen_41 (nx := 44) rfl kX6_isOpen ml_X6_265 (by decide) (ok_m 9 rfl) rfl rfl rfl rfl (Nat.le_of_ble_eq_true rfl) ⟨by decide, by decide⟩ ⟨by decide, by decide⟩ ?_
        refine v_ifB_eq dX6_firstOpen_44 (tgt := 49) (by decide) (nx := 47) rfl (fun c44 => ?_) (fun c44 => ?_)
        · refine v_iinc 2 dX6_firstOpen_49 (nx := 52) rfl rfl rfl (by decide) ?_
          refine v_goto dX6_firstOpen_52 (tgt := 2) (by decide) ?_
          exact V.lpick [0, 1, 2] rfl ((ih _ ⟨by omega, by omega⟩ (by omega) (fun l l0 l1 => by
    by_cases q : l = x
    · subst q; exact decide_eq_false (by first | (exfalso; omega) | (rw [← g0]; omega))
    · exact hn l l0 (by omega))))
        · refine v_iload_n 3 dX6_firstOpen_47 (nx := 48) rfl rfl ?_
          exact t_iret dX6_firstOpen_48 rfl ⟨by rw [fstO_eq, hs.first (Q := (fun x => decide (N (348 + N (364 + x)) ≤ N 4))) hx.1 (by omega) (decide_eq_true (by rw [← g0]; omega)) hn], rfl⟩

set_option maxRecDepth 100000 in
theorem c_X6_firstOpen {g : GG} {kp : Bool} {σ : SS} (hR : RG σ) {N : NN} {kk : Int} (hI : IV N kk) (hH : RH σ 0 N) (p : Int) (hp : 0 ≤ p ∧ p < N 0) (h4 : N (8 + p) = 4) : XC g kp 2 mX6_firstOpen [rf g (ad 9 0 0), rf g (ad 0 0 p)] σ (some (vi (fstO N p))) σ := by
  refine TC.of (by decide) (Nat.le_of_ble_eq_true rfl) rfl ?_
  obtain ⟨b0, b1, b2, b3, b4, b5⟩ := hI.n
  obtain ⟨n0, n1, n2, n3, n4⟩ := hH.n
  obtain ⟨r0, r1, r2, r3, r4⟩ := hH.r p hp.1 hp.2
  refine v_iconst dX6_firstOpen_0 (nx := 1) rfl ?_
  refine v_istore_n dX6_firstOpen_1 (nx := 2) rfl rfl (by decide) ?_
  exact (l_X6_firstOpen hR hI hH p hp h4 (σ 0 0 p 4 + 1).toNat 0 ⟨by omega, by omega⟩ (by omega) (fun l l0 l1 => by omega))

set_option maxRecDepth 100000 in
theorem c_X6_nextToGo {g : GG} {kp : Bool} {σ : SS} (hR : RG σ) {N : NN} {kk : Int} (hI : IV N kk) (hH : RH σ 0 N) (p : Int) (hp : 0 ≤ p ∧ p < N 0) : XC g kp 3 mX6_nextToGo [rf g (ad 9 0 0), rf g (ad 0 0 p)] σ (some (vi (ntg N p))) σ := by
  refine TC.of (by decide) (Nat.le_of_ble_eq_true rfl) rfl ?_
  obtain ⟨b0, b1, b2, b3, b4, b5⟩ := hI.n
  obtain ⟨n0, n1, n2, n3, n4⟩ := hH.n
  obtain ⟨e0, e1, e2⟩ := hH.p p (by omega) (by omega)
  obtain ⟨k1, k2, k3, k4, -⟩ := hI.p hp.1 hp.2
  obtain ⟨r0, r1, -⟩ := hH.r p hp.1 hp.2
  have hh := fun h => hold_row hI (hH.r p hp.1 hp.2) hp h
  have hW := fun h => fstW_eq hI (hH.r p hp.1 hp.2) h
  have hf : ¬ N (8 + p) = 4 → (if 0 < σ 0 0 p 4 then σ 1 0 p 0 else -1) = (if N (8 + p) = 0 then fstW N p else if N (8 + p) = 5 then -1 else N (32 + p) - 1) := by
    intro h4
    by_cases q0 : N (8 + p) = 0
    · rw [if_pos q0, hW q0]
    · rw [if_neg q0]
      by_cases q5 : N (8 + p) = 5
      · rw [if_pos q5, if_neg (by have := r1 q5; omega)]
      · rw [if_neg q5]
        rcases hh ⟨by omega, by omega⟩ with ⟨z1, z2⟩ | ⟨z1, z2, z3, z4⟩
        · rw [if_neg (by omega)]; omega
        · rw [if_pos (by omega)]; exact z4
  have hfb : inR (if 0 < σ 0 0 p 4 then σ 1 0 p 0 else -1) := by
    split
    · exact hR.1 _ _ _ _
    · exact ⟨by decide, by decide⟩
  refine v_aload_n 1 dX6_nextToGo_0 (nx := 1) rfl rfl ?_
  refine t_get (a := 0) (p := 0) (T := TX4) dX6_nextToGo_1 (nx := 4) rfl (by decide) (by first | assumption | exact ok_0 ⟨by omega, by omega⟩) rfl rfl iU4 (by decide) fl_X6_66 rfl ?_
  refine v_iconst dX6_nextToGo_4 (nx := 5) rfl ?_
  refine v_icmp_ne dX6_nextToGo_5 (tgt := 14) (by decide) (nx := 8) rfl (by first | assumption | exact hR.1 _ _ _ _ | exact ⟨by omega, by omega⟩) (by first | assumption | exact hR.1 _ _ _ _ | exact ⟨by omega, by omega⟩) (fun c5 => ?_) (fun c5 => ?_)
  · refine v_aload_n 1 dX6_nextToGo_14 (nx := 15) rfl rfl ?_
    refine t_callVi (a := 0) (c_X4_first hR _ (by omega)) dX6_nextToGo_15 (nx := 18) rfl kX4_first ml_X6_181 (by decide) (by first | assumption | exact ok_0 ⟨by omega, by omega⟩) rfl rfl rfl rfl (Nat.le_of_ble_eq_true rfl) ⟨by decide, by decide⟩ ⟨by decide, by decide⟩ ?_
    refine v_top (hf (by omega)) ?_
    rw [hf (by omega)] at hfb
    refine v_istore_n dX6_nextToGo_18 (nx := 19) rfl rfl (by decide) ?_
    refine v_aload_n 1 dX6_nextToGo_19 (nx := 20) rfl rfl ?_
    refine t_get (a := 0) (p := 0) (T := TX4) dX6_nextToGo_20 (nx := 23) rfl (by decide) (by first | assumption | exact ok_0 ⟨by omega, by omega⟩) rfl rfl iU4 (by decide) fl_X6_66 rfl ?_
    refine v_iconst dX6_nextToGo_23 (nx := 24) rfl ?_
    refine v_icmp_ne dX6_nextToGo_24 (tgt := 71) (by decide) (nx := 27) rfl (by first | assumption | exact hR.1 _ _ _ _ | exact ⟨by omega, by omega⟩) (by first | assumption | exact hR.1 _ _ _ _ | exact ⟨by omega, by omega⟩) (fun c24 => ?_) (fun c24 => ?_)
    · refine v_iload_n 2 dX6_nextToGo_71 (nx := 72) rfl rfl ?_
      exact t_iret dX6_nextToGo_72 rfl ⟨congrArg (fun x => some (vi x)) (by unfold ntg; first | ((repeat (first | rewrite [if_pos (by omega)] | rewrite [if_neg (by omega)])); rfl) | (rw [if_neg (show ¬ N (8 + p) = 4 by omega), if_neg (show ¬ (N (8 + p) = 2 ∧ 0 ≤ N (32 + p) - 1 ∧ N 4 < N (604 + (N (32 + p) - 1)) + N (20 + p)) by omega)])), rfl⟩
    · have e27 : (if N (8 + p) = 0 then fstW N p else if N (8 + p) = 5 then -1 else N (32 + p) - 1) = N (32 + p) - 1 := by rw [if_neg (by omega), if_neg (by omega)]
      rw [e27] at hfb ⊢
      refine v_aload_n 0 dX6_nextToGo_27 (nx := 28) rfl rfl ?_
      refine t_get (a := 9) (p := 0) (T := TX6) dX6_nextToGo_28 (nx := 31) rfl (by decide) (ok_m 9 rfl) rfl rfl iU6 (by decide) fl_X6_10 rfl ?_
      refine v_iload_n 2 dX6_nextToGo_31 (nx := 32) rfl rfl ?_
      refine t_callVi (a := 7) (c_X3_hasBag hR _ (by first | assumption | exact hR.1 _ _ _ _ | exact ⟨by omega, by omega⟩)) dX6_nextToGo_32 (nx := 35) rfl kX3_hasBag ml_X6_132 (by decide) (ok_m 7 rfl) rfl rfl rfl rfl (Nat.le_of_ble_eq_true rfl) ⟨by decide, by decide⟩ ⟨by decide, by decide⟩ ?_
      refine v_ifB_eq dX6_nextToGo_35 (tgt := 71) (by decide) (nx := 38) rfl (fun c35 => ?_) (fun c35 => ?_)
      · refine v_iload_n 2 dX6_nextToGo_71 (nx := 72) rfl rfl ?_
        exact t_iret dX6_nextToGo_72 rfl ⟨congrArg (fun x => some (vi x)) (by unfold ntg; first | ((repeat (first | rewrite [if_pos (by omega)] | rewrite [if_neg (by omega)])); rfl) | (rw [if_neg (show ¬ N (8 + p) = 4 by omega), if_neg (show ¬ (N (8 + p) = 2 ∧ 0 ≤ N (32 + p) - 1 ∧ N 4 < N (604 + (N (32 + p) - 1)) + N (20 + p)) by omega)])), rfl⟩
      · obtain ⟨g0, g1, g2, g3, g4, g5⟩ := hH.g (N (32 + p) - 1) (by omega) (by omega)
        obtain ⟨-, -, -, hwi⟩ := hI.g (g := N (32 + p) - 1) (by omega) (by omega)
        unfold wI at hwi
        have g6 := g4 (by omega) (by omega)
        refine v_aload_n 0 dX6_nextToGo_38 (nx := 39) rfl rfl ?_
        refine t_get (a := 9) (p := 0) (T := TX6) dX6_nextToGo_39 (nx := 42) rfl (by decide) (ok_m 9 rfl) rfl rfl iU6 (by decide) fl_X6_10 rfl ?_
        refine t_get (a := 7) (p := 8) (T := TX3) dX6_nextToGo_42 (nx := 45) rfl (by decide) (ok_m 7 rfl) rfl rfl iU3 (by decide) fl_X6_171 rfl ?_
        refine v_aload_n 0 dX6_nextToGo_45 (nx := 46) rfl rfl ?_
        refine t_get (a := 9) (p := 0) (T := TX6) dX6_nextToGo_46 (nx := 49) rfl (by decide) (ok_m 9 rfl) rfl rfl iU6 (by decide) fl_X6_10 rfl ?_
        refine t_get (a := 7) (p := 3) (T := TX3) dX6_nextToGo_49 (nx := 52) rfl (by decide) (ok_m 7 rfl) rfl rfl iU3 (by decide) fl_X6_120 rfl ?_
        refine v_iload_n 2 dX6_nextToGo_52 (nx := 53) rfl rfl ?_
        refine t_ldG dX6_nextToGo_53 (nx := 54) rfl (ok_m 18 rfl) ⟨by omega, by omega⟩ ?_
        refine t_get (a := 5) (p := 4) (T := TX0) dX6_nextToGo_54 (nx := 57) rfl (by decide) (by first | assumption | exact ok_5 ⟨by omega, by omega⟩) rfl rfl iU0 (by decide) fl_X6_153 rfl ?_
        refine v_isub dX6_nextToGo_57 (nx := 58) rfl ?_
        refine v_aload_n 1 dX6_nextToGo_58 (nx := 59) rfl rfl ?_
        refine t_get (a := 0) (p := 1) (T := TX4) dX6_nextToGo_59 (nx := 62) rfl (by decide) (by first | assumption | exact ok_0 ⟨by omega, by omega⟩) rfl rfl iU4 (by decide) fl_X6_259 rfl ?_
        refine v_icmp_lt dX6_nextToGo_62 (tgt := 69) (by decide) (nx := 65) rfl (by first | assumption | exact hR.1 _ _ _ _ | exact ⟨by omega, by omega⟩) (by first | assumption | exact hR.1 _ _ _ _ | exact ⟨by omega, by omega⟩) (fun c62 => ?_) (fun c62 => ?_)
        · refine v_iconst dX6_nextToGo_69 (nx := 70) rfl ?_
          exact t_iret dX6_nextToGo_70 rfl ⟨congrArg (fun x => some (vi x)) (by unfold ntg; first | ((repeat (first | rewrite [if_pos (by omega)] | rewrite [if_neg (by omega)])); rfl) | (rw [if_neg (show ¬ N (8 + p) = 4 by omega), if_neg (show ¬ (N (8 + p) = 2 ∧ 0 ≤ N (32 + p) - 1 ∧ N 4 < N (604 + (N (32 + p) - 1)) + N (20 + p)) by omega)])), rfl⟩
        · refine v_iload_n 2 dX6_nextToGo_65 (nx := 66) rfl rfl ?_
          refine v_goto dX6_nextToGo_66 (tgt := 70) (by decide) ?_
          exact t_iret dX6_nextToGo_70 rfl ⟨congrArg (fun x => some (vi x)) (by unfold ntg; first | ((repeat (first | rewrite [if_pos (by omega)] | rewrite [if_neg (by omega)])); rfl) | (rw [if_neg (show ¬ N (8 + p) = 4 by omega), if_neg (show ¬ (N (8 + p) = 2 ∧ 0 ≤ N (32 + p) - 1 ∧ N 4 < N (604 + (N (32 + p) - 1)) + N (20 + p)) by omega)])), rfl⟩
  · refine v_aload_n 0 dX6_nextToGo_8 (nx := 9) rfl rfl ?_
    refine v_aload_n 1 dX6_nextToGo_9 (nx := 10) rfl rfl ?_
    refine t_callVi (a := 9) (c_X6_firstOpen hR hI hH p hp (by omega)) dX6_nextToGo_10 (nx := 13) rfl kX6_firstOpen ml_X6_256 (by decide) (ok_m 9 rfl) rfl rfl rfl rfl (Nat.le_of_ble_eq_true rfl) ⟨by decide, by decide⟩ ⟨by decide, by decide⟩ ?_
    exact t_iret dX6_nextToGo_13 rfl ⟨congrArg (fun x => some (vi x)) (by unfold ntg; first | ((repeat (first | rewrite [if_pos (by omega)] | rewrite [if_neg (by omega)])); rfl) | (rw [if_neg (show ¬ N (8 + p) = 4 by omega), if_neg (show ¬ (N (8 + p) = 2 ∧ 0 ≤ N (32 + p) - 1 ∧ N 4 < N (604 + (N (32 + p) - 1)) + N (20 + p)) by omega)])), rfl⟩

set_option maxRecDepth 100000 in
theorem c_X6_outletFor {g : GG} {kp : Bool} {σ : SS} (hR : RG σ) {N : NN} {kk : Int} (hI : IV N kk) (hH : RH σ 0 N) (hS : SM σ N) (p b : Int) (hp : 0 ≤ p ∧ p < N 0) (hb : 0 ≤ b ∧ b < N 3) : XC g kp 2 mX6_outletFor [rf g (ad 9 0 0), vi p, rf g (ad 5 0 b)] σ (some (vi (otf N p b))) σ := by
  refine TC.of (by decide) (Nat.le_of_ble_eq_true rfl) rfl ?_
  obtain ⟨b0, b1, b2, b3, b4, b5⟩ := hI.n
  obtain ⟨n0, n1, n2, n3, n4⟩ := hH.n
  obtain ⟨e0, e1, e2⟩ := hH.p p (by omega) (by omega)
  obtain ⟨g0, g1, g2, g3, g4, g5⟩ := hH.g b hb.1 hb.2
  obtain ⟨z1, z2, -⟩ := hI.g hb.1 hb.2
  obtain ⟨f0, f1, f2⟩ := hH.f (N (364 + b)) z1.1 z1.2
  obtain ⟨y1, y2, -⟩ := hI.f z1.1 z1.2
  refine v_aload_n 0 dX6_outletFor_0 (nx := 1) rfl rfl ?_
  refine t_get (a := 9) (p := 0) (T := TX6) dX6_outletFor_1 (nx := 4) rfl (by decide) (ok_m 9 rfl) rfl rfl iU6 (by decide) fl_X6_10 rfl ?_
  refine t_get (a := 7) (p := 0) (T := TX3) dX6_outletFor_4 (nx := 7) rfl (by decide) (ok_m 7 rfl) rfl rfl iU3 (by decide) fl_X6_45 rfl ?_
  refine v_iload_n 1 dX6_outletFor_7 (nx := 8) rfl rfl ?_
  refine t_ldP dX6_outletFor_8 (nx := 9) rfl (ok_m 15 rfl) ⟨by omega, by omega⟩ ?_
  refine t_get (a := 0) (p := 0) (T := TX4) dX6_outletFor_9 (nx := 12) rfl (by decide) (by first | assumption | exact ok_0 ⟨by omega, by omega⟩) rfl rfl iU4 (by decide) fl_X6_66 rfl ?_
  by_cases e12_2 : σ 0 0 p 0 = 2
  · refine v_look dX6_outletFor_12 rfl (off := 28) (by first | assumption | exact hR.1 _ _ _ _ | exact ⟨by omega, by omega⟩) (by rw [e12_2]; rfl) (tgt := 40) (by decide) ?_
    refine v_aload_n 0 dX6_outletFor_40 (nx := 41) rfl rfl ?_
    refine t_get (a := 9) (p := 0) (T := TX6) dX6_outletFor_41 (nx := 44) rfl (by decide) (ok_m 9 rfl) rfl rfl iU6 (by decide) fl_X6_10 rfl ?_
    refine v_iload_n 1 dX6_outletFor_44 (nx := 45) rfl rfl ?_
    refine v_aload_n 2 dX6_outletFor_45 (nx := 46) rfl rfl ?_
    refine t_get (a := 5) (p := 1) (T := TX0) dX6_outletFor_46 (nx := 49) rfl (by decide) (by first | assumption | exact ok_5 ⟨by omega, by omega⟩) rfl rfl iU0 (by decide) fl_X6_268 rfl ?_
    refine t_callVi (a := 7) (c_X3_screenOutlet hR hI hH.n hH.b _ _ (by first | assumption | exact hR.1 _ _ _ _ | exact ⟨by omega, by omega⟩) (by omega)) dX6_outletFor_49 (nx := 52) rfl kX3_screenOutlet ml_X6_271 (by decide) (ok_m 7 rfl) rfl rfl rfl rfl (Nat.le_of_ble_eq_true rfl) ⟨by decide, by decide⟩ ⟨by decide, by decide⟩ ?_
    exact t_iret dX6_outletFor_52 rfl (by first | (exfalso; omega) | exact ⟨congrArg (fun x => some (vi x)) (by unfold otf; rw [← g1]; (repeat (first | rewrite [if_pos (show N (8 + p) = _ by omega)] | rewrite [if_neg (show ¬ N (8 + p) = _ by omega)])); (try rfl)), rfl⟩)
  by_cases e12_3 : σ 0 0 p 0 = 3
  · refine v_look dX6_outletFor_12 rfl (off := 41) (by first | assumption | exact hR.1 _ _ _ _ | exact ⟨by omega, by omega⟩) (by rw [e12_3]; rfl) (tgt := 53) (by decide) ?_
    refine v_aload_n 0 dX6_outletFor_53 (nx := 54) rfl rfl ?_
    refine t_get (a := 9) (p := 0) (T := TX6) dX6_outletFor_54 (nx := 57) rfl (by decide) (ok_m 9 rfl) rfl rfl iU6 (by decide) fl_X6_10 rfl ?_
    refine v_aload_n 2 dX6_outletFor_57 (nx := 58) rfl rfl ?_
    refine t_get (a := 5) (p := 0) (T := TX0) dX6_outletFor_58 (nx := 61) rfl (by decide) (by first | assumption | exact ok_5 ⟨by omega, by omega⟩) rfl rfl iU0 (by decide) fl_X6_262 rfl ?_
    refine t_callVi (a := 7) (c_X3_hasFlight hR _ (by first | assumption | exact hR.1 _ _ _ _ | exact ⟨by omega, by omega⟩)) dX6_outletFor_61 (nx := 64) rfl kX3_hasFlight ml_X6_114 (by decide) (ok_m 7 rfl) rfl rfl rfl rfl (Nat.le_of_ble_eq_true rfl) ⟨by decide, by decide⟩ ⟨by decide, by decide⟩ ?_
    refine v_ifB_eq dX6_outletFor_64 (tgt := 97) (by decide) (nx := 67) rfl (fun c64 => ?_) (fun c64 => ?_)
    · refine v_iconst dX6_outletFor_97 (nx := 98) rfl ?_
      exact t_iret dX6_outletFor_98 rfl (by first | (exfalso; omega) | exact ⟨congrArg (fun x => some (vi x)) (by unfold otf; rw [← g1]; (repeat (first | rewrite [if_pos (show N (8 + p) = _ by omega)] | rewrite [if_neg (show ¬ N (8 + p) = _ by omega)])); (try rfl)), rfl⟩)
    · refine v_aload_n 0 dX6_outletFor_67 (nx := 68) rfl rfl ?_
      refine t_get (a := 9) (p := 1) (T := TX6) dX6_outletFor_68 (nx := 71) rfl (by decide) (ok_m 9 rfl) rfl rfl iU6 (by decide) fl_X6_19 rfl ?_
      refine v_aload_n 0 dX6_outletFor_71 (nx := 72) rfl rfl ?_
      refine t_get (a := 9) (p := 0) (T := TX6) dX6_outletFor_72 (nx := 75) rfl (by decide) (ok_m 9 rfl) rfl rfl iU6 (by decide) fl_X6_10 rfl ?_
      refine v_iload_n 1 dX6_outletFor_75 (nx := 76) rfl rfl ?_
      refine v_aload_n 0 dX6_outletFor_76 (nx := 77) rfl rfl ?_
      refine t_get (a := 9) (p := 0) (T := TX6) dX6_outletFor_77 (nx := 80) rfl (by decide) (ok_m 9 rfl) rfl rfl iU6 (by decide) fl_X6_10 rfl ?_
      refine t_get (a := 7) (p := 2) (T := TX3) dX6_outletFor_80 (nx := 83) rfl (by decide) (ok_m 7 rfl) rfl rfl iU3 (by decide) fl_X6_103 rfl ?_
      refine v_aload_n 2 dX6_outletFor_83 (nx := 84) rfl rfl ?_
      refine t_get (a := 5) (p := 0) (T := TX0) dX6_outletFor_84 (nx := 87) rfl (by decide) (by first | assumption | exact ok_5 ⟨by omega, by omega⟩) rfl rfl iU0 (by decide) fl_X6_262 rfl ?_
      refine v_top g0 ?_
      refine t_ldF dX6_outletFor_87 (nx := 88) rfl (ok_m 17 rfl) ⟨by omega, by omega⟩ ?_
      refine t_get (a := 4) (p := 0) (T := TX2) dX6_outletFor_88 (nx := 91) rfl (by decide) (by first | assumption | exact ok_4 ⟨by omega, by omega⟩) rfl rfl iU2 (by decide) fl_X6_192 rfl ?_
      refine v_top f0 ?_
      refine t_callVi (a := 19) (c_X5_shortestOutlet hR hI hH.n hH.b p _ (by first | assumption | exact hR.1 _ _ _ _ | exact ⟨by omega, by omega⟩) (by omega) (fun q q0 q1 => hS _ (by omega) (by omega) (by omega) q q0 q1)) dX6_outletFor_91 (nx := 94) rfl kX5_shortestOutlet ml_X6_195 (by decide) (ok_m 19 rfl) rfl rfl rfl rfl (Nat.le_of_ble_eq_true rfl) ⟨by decide, by decide⟩ ⟨by decide, by decide⟩ ?_
      refine v_goto dX6_outletFor_94 (tgt := 98) (by decide) ?_
      exact t_iret dX6_outletFor_98 rfl (by first | (exfalso; omega) | exact ⟨congrArg (fun x => some (vi x)) (by unfold otf; rw [← g1]; (repeat (first | rewrite [if_pos (show N (8 + p) = _ by omega)] | rewrite [if_neg (show ¬ N (8 + p) = _ by omega)])); (try rfl)), rfl⟩)
  refine v_look dX6_outletFor_12 rfl (off := 87) (by first | assumption | exact hR.1 _ _ _ _ | exact ⟨by omega, by omega⟩) (by show Op.lookupswitch.offset [(2, 28), (3, 41)] _ _ = _; rw [Op.lookupswitch.offset_cons, if_neg (fun q => e12_2 q.symm), Op.lookupswitch.offset_cons, if_neg (fun q => e12_3 q.symm)]; rfl) (tgt := 99) (by decide) ?_
  refine v_aload_n 0 dX6_outletFor_99 (nx := 100) rfl rfl ?_
  refine t_get (a := 9) (p := 0) (T := TX6) dX6_outletFor_100 (nx := 103) rfl (by decide) (ok_m 9 rfl) rfl rfl iU6 (by decide) fl_X6_10 rfl ?_
  refine v_iload_n 1 dX6_outletFor_103 (nx := 104) rfl rfl ?_
  refine t_callVi (a := 7) (c_X3_lowestSoundOutlet hR hI hH.n hH.b _ (by first | assumption | exact hR.1 _ _ _ _ | exact ⟨by omega, by omega⟩)) dX6_outletFor_104 (nx := 107) rfl kX3_lowestSoundOutlet ml_X6_275 (by decide) (ok_m 7 rfl) rfl rfl rfl rfl (Nat.le_of_ble_eq_true rfl) ⟨by decide, by decide⟩ ⟨by decide, by decide⟩ ?_
  exact t_iret dX6_outletFor_107 rfl (by first | (exfalso; omega) | exact ⟨congrArg (fun x => some (vi x)) (by unfold otf; rw [← g1]; (repeat (first | rewrite [if_pos (show N (8 + p) = _ by omega)] | rewrite [if_neg (show ¬ N (8 + p) = _ by omega)])); (try rfl)), rfl⟩)
