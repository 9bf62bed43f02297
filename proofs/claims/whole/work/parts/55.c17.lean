theorem tkC_IV {M : NN} {k b g p w : Int} (hI : IV M k) (hb : 0 ≤ b ∧ b < M 1) (hp : 0 ≤ p ∧ p < M 0) (hg : 0 ≤ g ∧ g < M 3) (r1 : M (148 + 12 * b + M (100 + b) - 1) = g + 1) (r3 : M (484 + g) = 1 ∧ M (544 + g) = b ∧ M (604 + g) = M (100 + b) - 1) (hw : (w = 2 ∧ (1 ≤ M (8 + p) ∧ M (8 + p) ≤ 3) ∧ M (32 + p) = 0) ∨ (w = 3 ∧ M (8 + p) = 4 ∧ ∀ x, 0 ≤ x → x < M 3 → M (484 + x) = 3 → M (544 + x) = p → M (604 + x) < M 4) ∨ ((5 ≤ w ∧ w ≤ 7) ∧ M (8 + p) = 5)) : IV (tkC M b g p w) k := by
  unfold tkC
  rcases hw with ⟨w1, w2, w3⟩ | ⟨w1, w2, w3⟩ | ⟨w1, w2⟩
  · rw [if_pos w1, w1]; exact IV_tkH hI hg hb r1 r3 hp w2 w3
  · rw [if_neg (by omega), w1]; exact IV_tkS hI hg hb r1 r3 hp w2 w3
  · rw [if_neg (by omega)]; exact IV_tkC hI hg hb r1 r3 hp w1 w2
/-- what a point must be to take a bag so -/
def tkW (N : NN) (p w : Int) : Prop := (w = 2 ∧ (1 ≤ N (8 + p) ∧ N (8 + p) ≤ 3) ∧ N (32 + p) = 0) ∨ (w = 3 ∧ N (8 + p) = 4 ∧ ∀ x, 0 ≤ x → x < N 3 → N (484 + x) = 3 → N (544 + x) = p → N (604 + x) < N 4) ∨ ((5 ≤ w ∧ w ≤ 7) ∧ N (8 + p) = 5)
theorem tkW.r {N : NN} {k p w : Int} (hI : IV N k) (hp : 0 ≤ p ∧ p < N 0) (h : tkW N p w) : (N (8 + p) = 5 ∧ 5 ≤ w ∧ w ≤ 7) ∨ (N (8 + p) ≠ 5 ∧ N (8 + p) ≠ 0 ∧ w = wcK (N (8 + p)) ∧ ∀ x, 0 ≤ x → x < N 3 → N (484 + x) = wcK (N (8 + p)) → N (544 + x) = p → N (604 + x) < N 4) := by
  rcases h with ⟨w1, w2, w3⟩ | ⟨w1, w2, w3⟩ | ⟨w1, w2⟩
  · refine Or.inr ⟨by omega, by omega, by rw [wcK2 w2.1 w2.2]; exact w1, fun x x0 x1 h1 h2 => ?_⟩
    rw [wcK2 w2.1 w2.2] at h1
    obtain ⟨-, -, -, w⟩ := hI.g x0 x1
    unfold wI at w
    rw [h2] at w
    omega
  · refine Or.inr ⟨by omega, by omega, by rw [wcK4 w2]; exact w1, fun x x0 x1 h1 h2 => ?_⟩
    rw [wcK4 w2] at h1
    exact w3 x x0 x1 h1 h2
  · exact Or.inl ⟨w2, w1⟩
theorem tk_cls {σ : SS} {N G : NN} {k b p w : Int} (hI : IV N k) (hH : RH σ 0 N) (hS : SM σ N) (hR : RG σ) (h8 : ∀ i j, σ 8 0 i j ≤ 1000000) (hF : FR σ N G) (hp : 0 ≤ p ∧ p < N 0) (hb : 0 ≤ b ∧ b < N 1) (hr : 0 ≤ rdyN N G b) (hw : tkW N p w) : TR σ (adS (tkS σ N b (rdyN N G b) p w) (rdyN N G b) (N 4) p) (tkN N G b p w) G := by
  obtain ⟨b0, b1, b2, b3, b4, b5⟩ := hI.n
  obtain ⟨-, -, l, -⟩ := hI.b hb.1 hb.2
  obtain ⟨r0, r1, r2, r3⟩ := rdy_v hI hb hr
  have hfr := hF b hb.1 hb.2
  rw [tkN_eq]
  generalize rdyN N G b = g at r0 r1 r2 r3 ⊢
  obtain ⟨hRH, hlt⟩ := RH_tk hI hH r0 hp hb r3.1 (hw.r hI hp)
  have i1 := tkC_IV hI hb hp r0 r1 r3 hw
  have e3 : tkC N b g p w 3 = N 3 := tkC_e (by omega) (by omega) (by omega) (by omega) (by omega)
  have e4 : tkC N b g p w 4 = N 4 := tkC_e (by omega) (by omega) (by omega) (by omega) (by omega)
  have e6 : tkC N b g p w (664 + g) = N (664 + g) := tkC_e (by omega) (by omega) (by omega) (by omega) (by omega)
  have gs := (hI.g r0.1 r0.2).2.2.1
  have hkk := hI.k
  have hRG := RH_goes (p := p) i1 hRH (by rw [e3]; exact r0) ⟨hp.1, by omega⟩
  rw [e4] at hRG
  have ge : ∀ j, j < 664 → goesN (tkC N b g p w) g p j = tkC N b g p w j := fun j hj => goes_e hj r0.1 (by rw [e6]; exact gs.1)
  have hk8 : ∀ a : Nat, a ≠ 0 → a ≠ 1 → a ≠ 3 → a ≠ 5 → tkS σ N b g p w a = σ a := by
    intro a a0 a1 a3 a5
    have hu : ∀ (τ : SS) (a' : Nat) (i' j' v : Int), a ≠ a' → up τ a' 0 i' j' v a = τ a := fun τ a' i' j' v hne => by
      funext t i j
      exact if_neg (fun q => hne q.1)
    unfold tkS
    split
    · rw [hu _ _ _ _ _ a5, hu _ _ _ _ _ a5, hu _ _ _ _ _ a5, hu _ _ _ _ _ a3]
    · rw [hu _ _ _ _ _ a5, hu _ _ _ _ _ a5, hu _ _ _ _ _ a5, hu _ _ _ _ _ a0, hu _ _ _ _ _ a1, hu _ _ _ _ _ a3]
  have hw7 : inR w := by
    rcases hw with ⟨q, -⟩ | ⟨q, -⟩ | ⟨q, -⟩ <;> exact ⟨by omega, by omega⟩
  obtain ⟨z0, -⟩ := hH.r p hp.1 hp.2
  have hRT : RG (tkS σ N b g p w) := by
    unfold tkS
    split
    · exact RG_up (RG_up (RG_up (RG_up hR ⟨by decide, by decide⟩) hw7) ⟨by omega, by omega⟩) ⟨by omega, by omega⟩
    · exact RG_up (RG_up (RG_up (RG_up (RG_up (RG_up hR ⟨by decide, by decide⟩) ⟨by omega, by omega⟩) ⟨by omega, by omega⟩) hw7) ⟨by omega, by omega⟩) ⟨by omega, by omega⟩
  have w5 := (hH.g g r0.1 r0.2).2.2.2.2.2
  have s5 : tkS σ N b g p w 5 0 g 5 = σ 5 0 g 5 := by
    unfold tkS
    split
    · unfold up; (repeat (first | rewrite [if_pos (by omega)] | rewrite [if_neg (by omega)] | dsimp only)); (try rfl)
    · unfold up; (repeat (first | rewrite [if_pos (by omega)] | rewrite [if_neg (by omega)] | dsimp only)); (try rfl)
  refine ⟨hRG, SM.same hI hS (by rw [adS_n (by decide) (by decide), hk8 8 (by decide) (by decide) (by decide) (by decide)]) (by rw [ge 0 (by omega)]; exact tkC_e (by omega) (by omega) (by omega) (by omega) (by omega)) (by rw [ge 1 (by omega)]; exact tkC_e (by omega) (by omega) (by omega) (by omega) (by omega)) (fun j hj => by rw [ge j (by omega)]; exact tkC_e (by omega) (by omega) (by omega) (by omega) (by omega)), RG_adS hRT ⟨by omega, by omega⟩ (by rw [s5]; exact ⟨by omega, by omega⟩), by rw [adS_n (by decide) (by decide), hk8 8 (by decide) (by decide) (by decide) (by decide)]; exact h8, fun x x0 x1 => ?_, by rw [adS_n (by decide) (by decide), hk8 9 (by decide) (by decide) (by decide) (by decide)], fun a t i h => ?_⟩
  · rw [ge 1 (by omega), tkC_e (by omega) (by omega) (by omega) (by omega) (by omega)] at x1
    rw [adS_n (by decide) (by decide), hk8 2 (by decide) (by decide) (by decide) (by decide), ge _ (by omega)]
    by_cases q : 148 + 12 * x = 148 + 12 * b + N (100 + b) - 1
    · have xb : x = b := by omega
      subst xb
      have v3 : tkC N x g p w (148 + 12 * x) = 0 := by
        rw [q]
        unfold tkC liesN
        split
        · rw [uI_n (by omega), uI_n (by omega), uI_n (by omega), uI_n (by omega), uI_s]
        · rw [uI_n (by omega), uI_n (by omega), uI_n (by omega), uI_s]
      rw [v3]
      rw [← q] at r1
      refine Or.inl ⟨?_, Or.inl rfl⟩
      rcases hfr with ⟨f, -⟩ | ⟨-, -, f⟩
      · exact f
      · rw [r1, show g + 1 - 1 = g by omega, r2] at f; omega
    · rw [tkC_e (by omega) (by omega) (by omega) q (by omega)]
      exact hF x x0 x1
  · have h2 : 10 ≤ a ∨ t ≠ 0 := h.imp id (fun q => q.1)
    rw [adS_o h2]
    unfold tkS
    split
    · rw [up_o (by decide) h2, up_o (by decide) h2, up_o (by decide) h2, up_o (by decide) h2]
    · rw [up_o (by decide) h2, up_o (by decide) h2, up_o (by decide) h2, up_o (by decide) h2, up_o (by decide) h2, up_o (by decide) h2]

set_option maxRecDepth 100000 in
theorem c_X6_whereAt {g : GG} {kp : Bool} {σ : SS} (hR : RG σ) (p fl : Int) (hp : 0 ≤ p ∧ p < 12) (hfl : inR fl) (h2 : σ 7 0 0 2 ≤ 8) : XC g kp 1 mX6_whereAt [rf g (ad 9 0 0), vi p, vi fl] σ (some (vi (if σ 0 0 p 0 = 5 then (if ¬ (0 ≤ fl ∧ fl < σ 7 0 0 2) ∨ σ 4 0 fl 0 ≠ p then 7 else if σ 7 0 0 4 < σ 4 0 fl 2 then 5 else 6) else if σ 0 0 p 0 = 4 then 3 else 2))) σ := by
  refine TC.of (by decide) (Nat.le_of_ble_eq_true rfl) rfl ?_
  refine v_aload_n 0 dX6_whereAt_0 (nx := 1) rfl rfl ?_
  refine t_get (a := 9) (p := 0) (T := TX6) dX6_whereAt_1 (nx := 4) rfl (by decide) (ok_m 9 rfl) rfl rfl iU6 (by decide) fl_X6_10 rfl ?_
  refine t_get (a := 7) (p := 0) (T := TX3) dX6_whereAt_4 (nx := 7) rfl (by decide) (ok_m 7 rfl) rfl rfl iU3 (by decide) fl_X6_45 rfl ?_
  refine v_iload_n 1 dX6_whereAt_7 (nx := 8) rfl rfl ?_
  refine t_ldP dX6_whereAt_8 (nx := 9) rfl (ok_m 15 rfl) ⟨by omega, by omega⟩ ?_
  refine t_get (a := 0) (p := 0) (T := TX4) dX6_whereAt_9 (nx := 12) rfl (by decide) (by first | assumption | exact ok_0 ⟨by omega, by omega⟩) rfl rfl iU4 (by decide) fl_X6_66 rfl ?_
  refine v_istore_n dX6_whereAt_12 (nx := 13) rfl rfl (by decide) ?_
  refine v_iload_n 3 dX6_whereAt_13 (nx := 14) rfl rfl ?_
  refine v_iconst dX6_whereAt_14 (nx := 15) rfl ?_
  refine v_icmp_eq dX6_whereAt_15 (tgt := 29) (by decide) (nx := 18) rfl (by first | assumption | exact hR.1 _ _ _ _ | exact ⟨by omega, by omega⟩) (by first | assumption | exact hR.1 _ _ _ _ | exact ⟨by omega, by omega⟩) (fun c15 => ?_) (fun c15 => ?_)
  · refine v_aload_n 0 dX6_whereAt_29 (nx := 30) rfl rfl ?_
    refine t_get (a := 9) (p := 0) (T := TX6) dX6_whereAt_30 (nx := 33) rfl (by decide) (ok_m 9 rfl) rfl rfl iU6 (by decide) fl_X6_10 rfl ?_
    refine v_iload_n 2 dX6_whereAt_33 (nx := 34) rfl rfl ?_
    refine t_callVi (a := 7) (c_X3_hasFlight hR _ (by first | assumption | exact hR.1 _ _ _ _ | exact ⟨by omega, by omega⟩)) dX6_whereAt_34 (nx := 37) rfl kX3_hasFlight ml_X6_114 (by decide) (ok_m 7 rfl) rfl rfl rfl rfl (Nat.le_of_ble_eq_true rfl) ⟨by decide, by decide⟩ ⟨by decide, by decide⟩ ?_
    refine v_ifB_eq dX6_whereAt_37 (tgt := 56) (by decide) (nx := 40) rfl (fun c37 => ?_) (fun c37 => ?_)
    · refine v_bipush dX6_whereAt_56 (nx := 58) rfl rfl ?_
      exact t_iret dX6_whereAt_58 rfl ⟨congrArg (fun x => some (vi x)) (by (repeat (first | rewrite [if_pos (by omega)] | rewrite [if_neg (by omega)])); (try rfl)), rfl⟩
    · refine v_aload_n 0 dX6_whereAt_40 (nx := 41) rfl rfl ?_
      refine t_get (a := 9) (p := 0) (T := TX6) dX6_whereAt_41 (nx := 44) rfl (by decide) (ok_m 9 rfl) rfl rfl iU6 (by decide) fl_X6_10 rfl ?_
      refine t_get (a := 7) (p := 2) (T := TX3) dX6_whereAt_44 (nx := 47) rfl (by decide) (ok_m 7 rfl) rfl rfl iU3 (by decide) fl_X6_103 rfl ?_
      refine v_iload_n 2 dX6_whereAt_47 (nx := 48) rfl rfl ?_
      refine t_ldF dX6_whereAt_48 (nx := 49) rfl (ok_m 17 rfl) ⟨by omega, by omega⟩ ?_
      refine t_get (a := 4) (p := 0) (T := TX2) dX6_whereAt_49 (nx := 52) rfl (by decide) (by first | assumption | exact ok_4 ⟨by omega, by omega⟩) rfl rfl iU2 (by decide) fl_X6_192 rfl ?_
      refine v_iload_n 1 dX6_whereAt_52 (nx := 53) rfl rfl ?_
      refine v_icmp_eq dX6_whereAt_53 (tgt := 59) (by decide) (nx := 56) rfl (by first | assumption | exact hR.1 _ _ _ _ | exact ⟨by omega, by omega⟩) (by first | assumption | exact hR.1 _ _ _ _ | exact ⟨by omega, by omega⟩) (fun c53 => ?_) (fun c53 => ?_)
      · refine v_aload_n 0 dX6_whereAt_59 (nx := 60) rfl rfl ?_
        refine t_get (a := 9) (p := 0) (T := TX6) dX6_whereAt_60 (nx := 63) rfl (by decide) (ok_m 9 rfl) rfl rfl iU6 (by decide) fl_X6_10 rfl ?_
        refine t_get (a := 7) (p := 8) (T := TX3) dX6_whereAt_63 (nx := 66) rfl (by decide) (ok_m 7 rfl) rfl rfl iU3 (by decide) fl_X6_171 rfl ?_
        refine v_aload_n 0 dX6_whereAt_66 (nx := 67) rfl rfl ?_
        refine t_get (a := 9) (p := 0) (T := TX6) dX6_whereAt_67 (nx := 70) rfl (by decide) (ok_m 9 rfl) rfl rfl iU6 (by decide) fl_X6_10 rfl ?_
        refine t_get (a := 7) (p := 2) (T := TX3) dX6_whereAt_70 (nx := 73) rfl (by decide) (ok_m 7 rfl) rfl rfl iU3 (by decide) fl_X6_103 rfl ?_
        refine v_iload_n 2 dX6_whereAt_73 (nx := 74) rfl rfl ?_
        refine t_ldF dX6_whereAt_74 (nx := 75) rfl (ok_m 17 rfl) ⟨by omega, by omega⟩ ?_
        refine t_get (a := 4) (p := 2) (T := TX2) dX6_whereAt_75 (nx := 78) rfl (by decide) (by first | assumption | exact ok_4 ⟨by omega, by omega⟩) rfl rfl iU2 (by decide) fl_X6_202 rfl ?_
        refine v_icmp_ge dX6_whereAt_78 (tgt := 85) (by decide) (nx := 81) rfl (by first | assumption | exact hR.1 _ _ _ _ | exact ⟨by omega, by omega⟩) (by first | assumption | exact hR.1 _ _ _ _ | exact ⟨by omega, by omega⟩) (fun c78 => ?_) (fun c78 => ?_)
        · refine v_bipush dX6_whereAt_85 (nx := 87) rfl rfl ?_
          exact t_iret dX6_whereAt_87 rfl ⟨congrArg (fun x => some (vi x)) (by (repeat (first | rewrite [if_pos (by omega)] | rewrite [if_neg (by omega)])); (try rfl)), rfl⟩
        · refine v_iconst dX6_whereAt_81 (nx := 82) rfl ?_
          refine v_goto dX6_whereAt_82 (tgt := 87) (by decide) ?_
          exact t_iret dX6_whereAt_87 rfl ⟨congrArg (fun x => some (vi x)) (by (repeat (first | rewrite [if_pos (by omega)] | rewrite [if_neg (by omega)])); (try rfl)), rfl⟩
      · refine v_bipush dX6_whereAt_56 (nx := 58) rfl rfl ?_
        exact t_iret dX6_whereAt_58 rfl ⟨congrArg (fun x => some (vi x)) (by (repeat (first | rewrite [if_pos (by omega)] | rewrite [if_neg (by omega)])); (try rfl)), rfl⟩
  · refine v_iload_n 3 dX6_whereAt_18 (nx := 19) rfl rfl ?_
    refine v_iconst dX6_whereAt_19 (nx := 20) rfl ?_
    refine v_icmp_ne dX6_whereAt_20 (tgt := 27) (by decide) (nx := 23) rfl (by first | assumption | exact hR.1 _ _ _ _ | exact ⟨by omega, by omega⟩) (by first | assumption | exact hR.1 _ _ _ _ | exact ⟨by omega, by omega⟩) (fun c20 => ?_) (fun c20 => ?_)
    · refine v_iconst dX6_whereAt_27 (nx := 28) rfl ?_
      exact t_iret dX6_whereAt_28 rfl ⟨congrArg (fun x => some (vi x)) (by (repeat (first | rewrite [if_pos (by omega)] | rewrite [if_neg (by omega)])); (try rfl)), rfl⟩
    · refine v_iconst dX6_whereAt_23 (nx := 24) rfl ?_
      refine v_goto dX6_whereAt_24 (tgt := 28) (by decide) ?_
      exact t_iret dX6_whereAt_28 rfl ⟨congrArg (fun x => some (vi x)) (by (repeat (first | rewrite [if_pos (by omega)] | rewrite [if_neg (by omega)])); (try rfl)), rfl⟩
