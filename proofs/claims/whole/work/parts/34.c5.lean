theorem Srt.idx {P : Int → Bool} {key row : NN} {s n l : Int} (h : Srt P key row s n) (l0 : 0 ≤ l) (l1 : l < s) : fstI (fun j => decide (row j = row l)) 0 s = l :=
  (fstI_eq (by omega) (by omega) (Or.inr ⟨l0, l1, decide_eq_true rfl, fun j j0 j1 => decide_eq_false (fun q => by have := h.inj j0 (by omega) l0 l1 q; omega)⟩)).symm
theorem and_dec {p q : Prop} [Decidable p] [Decidable q] : decide (p ∧ q) = (decide p && decide q) := by
  by_cases h : p
  · by_cases h2 : q
    · rw [decide_eq_true h, decide_eq_true h2, decide_eq_true ⟨h, h2⟩]; rfl
    · rw [decide_eq_true h, decide_eq_false h2, decide_eq_false (fun w => h2 w.2)]; rfl
  · rw [decide_eq_false h, decide_eq_false (fun w => h w.1)]; rfl
/-- index in a desk's row -/
theorem desk_idx {σ : SS} {N : NN} {k b : Int} (hI : IV N k) (hr : RHr σ 0 N) (hb : 0 ≤ b ∧ b < N 3) (hw : N (484 + b) = 0) : fstI (fun j => decide (σ 1 0 (N (544 + b)) j = b)) 0 (σ 0 0 (N (544 + b)) 4) = cntI (fun x => decide ((N (484 + x) = 0 ∧ N (544 + x) = N (544 + b)) ∧ N (604 + x) < N (604 + b))) (N 3) := by
  obtain ⟨-, -, -, w⟩ := hI.g hb.1 hb.2
  unfold wI at w
  have w2 : (0 ≤ N (544 + b) ∧ N (544 + b) < N 0) ∧ N (8 + N (544 + b)) = 0 := by omega
  have h3 := hI.n.2.2.2.1.1
  have hs := (hr _ w2.1.1 w2.1.2).srt (by omega) h3
  rw [wcK0 w2.2] at hs
  obtain ⟨l, l0, l1, e⟩ := hs.2.2.2 b hb.1 hb.2 (decide_eq_true ⟨hw, rfl⟩)
  have h1 := hs.idx l0 l1
  have h2 := hs.at' l0 l1
  rw [e] at h1 h2
  rw [h1, ← h2]
  unfold cntI
  refine cnt_cong _ (fun x _ _ => ?_)
  exact and_dec.symm
theorem list_row {σ : SS} {N : NN} {k p : Int} (hI : IV N k) (hr : RHr1 σ 0 N p) (hk : N (8 + p) = 0 ∨ N (8 + p) = 4) : cntI (wP N (if N (8 + p) = 0 then 0 else 3) p) (N 3) = σ 0 0 p 4 ∧ ∀ i, 0 ≤ i → i < σ 0 0 p 4 → fstI (fun g => decide ((N (484 + g) = (if N (8 + p) = 0 then 0 else 3) ∧ N (544 + g) = p) ∧ aheadN N g (if N (8 + p) = 0 then 0 else 3) p = i)) 0 (N 3) = σ 1 0 p i := by
  have h3 := hI.n.2.2.2.1.1
  have hs := hr.srt (by omega) h3
  have hw : wcK (N (8 + p)) = (if N (8 + p) = 0 then 0 else 3) := by
    rcases hk with h | h
    · rw [wcK0 h, if_pos h]
    · rw [wcK4 h, if_neg (by omega)]
  rw [hw] at hs
  generalize (if N (8 + p) = 0 then (0 : Int) else 3) = w at hs ⊢
  refine ⟨hs.all, fun i i0 i1 => ?_⟩
  have ha : ∀ l, 0 ≤ l → l < σ 0 0 p 4 → aheadN N (σ 1 0 p l) w p = l := by
    intro l l0 l1
    refine Eq.trans ?_ (hs.at' l0 l1)
    unfold aheadN cntI
    refine cnt_cong _ (fun x x0 x1 => ?_)
    rw [and_dec]
    show (wP N w p x && _) = (wP N w p x && _)
    cases e : wP N w p x with
    | false => rfl
    | true =>
      rw [Bool.true_and, Bool.true_and]
      obtain ⟨m, m0, m1, rfl⟩ := hs.2.2.2 x x0 (by omega) e
      have a1 := hs.lt m0 m1 l0 l1
      have a2 := hs.lt l0 l1 m0 m1
      refine decide_eq_decide.2 ⟨fun q => ?_, fun q => Or.inl q⟩
      rcases q with q | q
      · exact q
      · exfalso
        have q1 : N (604 + σ 1 0 p m) = N (604 + σ 1 0 p l) := q.1
        have e2 : m = l := by
          have b1 : ¬ m < l := fun z => by have : N (604 + σ 1 0 p m) < N (604 + σ 1 0 p l) := a1.2 z; omega
          have b2 : ¬ l < m := fun z => by have : N (604 + σ 1 0 p l) < N (604 + σ 1 0 p m) := a2.2 z; omega
          omega
        rw [e2] at q
        omega
  have hP := fun j j0 j1 => hs.2.1 j j0 j1
  have hi := hP i i0 i1
  have hi2 := of_decide_eq_true hi.2
  refine (fstI_eq (by omega) h3 (Or.inr ⟨hi.1.1, hi.1.2, decide_eq_true ⟨hi2, ha i i0 i1⟩, fun x x0 x1 => decide_eq_false (fun q => ?_)⟩)).symm
  obtain ⟨m, m0, m1, rfl⟩ := hs.2.2.2 x x0 (by omega) (decide_eq_true q.1)
  have := q.2
  rw [ha m m0 m1] at this
  rw [this] at x1
  omega

set_option maxRecDepth 100000 in
theorem c_X6_detail {g : GG} {kp : Bool} {σ : SS} (hR : RG σ) {N : NN} {kk : Int} (hI : IV N kk) (hH : RH σ 0 N) (b : Int) (hb : inR b)  : XC g kp 2 mX6_detail [rf g (ad 9 0 0), vi b] σ (some (vi (s_detail N b).1)) (fd σ (s_detail N b).2.2) := by
  refine TC.of (by decide) (Nat.le_of_ble_eq_true rfl) rfl ?_
  obtain ⟨b0, b1, b2, b3, b4, b5⟩ := hI.n
  obtain ⟨n0, n1, n2, n3, n4⟩ := hH.n
  refine v_aload_n 0 dX6_detail_0 (nx := 1) rfl rfl ?_
  refine t_get (a := 9) (p := 0) (T := TX6) dX6_detail_1 (nx := 4) rfl (by decide) (ok_m 9 rfl) rfl rfl iU6 (by decide) fl_X6_10 rfl ?_
  refine v_iload_n 1 dX6_detail_4 (nx := 5) rfl rfl ?_
  refine t_callVi (a := 7) (c_X3_hasBag hR _ (by first | assumption | exact hR.1 _ _ _ _ | exact ⟨by omega, by omega⟩)) dX6_detail_5 (nx := 8) rfl kX3_hasBag ml_X6_132 (by decide) (ok_m 7 rfl) rfl rfl rfl rfl (Nat.le_of_ble_eq_true rfl) ⟨by decide, by decide⟩ ⟨by decide, by decide⟩ ?_
  refine v_ifB_ne dX6_detail_8 (tgt := 17) (by decide) (nx := 11) rfl (fun c8 => ?_) (fun c8 => ?_)
  · obtain ⟨e0, e1, e2, e3, e4, e5⟩ := hH.g b (by omega) (by omega)
    obtain ⟨-, -, -, hwI⟩ := hI.g (g := b) (by omega) (by omega)
    unfold wI at hwI
    have hbb : 0 ≤ b ∧ b < N 3 := ⟨by omega, by omega⟩
    refine v_aload_n 0 dX6_detail_17 (nx := 18) rfl rfl ?_
    refine t_get (a := 9) (p := 0) (T := TX6) dX6_detail_18 (nx := 21) rfl (by decide) (ok_m 9 rfl) rfl rfl iU6 (by decide) fl_X6_10 rfl ?_
    refine t_get (a := 7) (p := 3) (T := TX3) dX6_detail_21 (nx := 24) rfl (by decide) (ok_m 7 rfl) rfl rfl iU3 (by decide) fl_X6_120 rfl ?_
    refine v_iload_n 1 dX6_detail_24 (nx := 25) rfl rfl ?_
    refine t_ldG dX6_detail_25 (nx := 26) rfl (ok_m 18 rfl) ⟨by omega, by omega⟩ ?_
    refine v_astore_n dX6_detail_26 (nx := 27) rfl rfl (by decide) ?_
    refine v_aload_n 2 dX6_detail_27 (nx := 28) rfl rfl ?_
    refine t_get (a := 5) (p := 2) (T := TX0) dX6_detail_28 (nx := 31) rfl (by decide) (by first | assumption | exact ok_5 ⟨by omega, by omega⟩) rfl rfl iU0 (by decide) fl_X6_135 rfl ?_
    refine v_iconst dX6_detail_31 (nx := 32) rfl ?_
    refine v_icmp_ne dX6_detail_32 (tgt := 42) (by decide) (nx := 35) rfl (by first | assumption | exact hR.1 _ _ _ _ | exact ⟨by omega, by omega⟩) (by first | assumption | exact hR.1 _ _ _ _ | exact ⟨by omega, by omega⟩) (fun c32 => ?_) (fun c32 => ?_)
    · refine v_aload_n 2 dX6_detail_42 (nx := 43) rfl rfl ?_
      refine t_get (a := 5) (p := 2) (T := TX0) dX6_detail_43 (nx := 46) rfl (by decide) (by first | assumption | exact ok_5 ⟨by omega, by omega⟩) rfl rfl iU0 (by decide) fl_X6_135 rfl ?_
      refine v_iconst dX6_detail_46 (nx := 47) rfl ?_
      refine v_icmp_ne dX6_detail_47 (tgt := 81) (by decide) (nx := 50) rfl (by first | assumption | exact hR.1 _ _ _ _ | exact ⟨by omega, by omega⟩) (by first | assumption | exact hR.1 _ _ _ _ | exact ⟨by omega, by omega⟩) (fun c47 => ?_) (fun c47 => ?_)
      · refine v_aload_n 2 dX6_detail_81 (nx := 82) rfl rfl ?_
        refine t_get (a := 5) (p := 2) (T := TX0) dX6_detail_82 (nx := 85) rfl (by decide) (by first | assumption | exact ok_5 ⟨by omega, by omega⟩) rfl rfl iU0 (by decide) fl_X6_135 rfl ?_
        refine v_if_ne dX6_detail_85 (tgt := 119) (by decide) (nx := 88) rfl (by first | assumption | exact hR.1 _ _ _ _ | exact ⟨by omega, by omega⟩) (fun c85 => ?_) (fun c85 => ?_)
        · have e4x : ¬ N (484 + b) = 0 → ¬ N (484 + b) = 1 → σ 5 0 b 4 = N (604 + b) := fun _ _ => e4 (by omega) (by omega)
          refine v_aload_n 2 dX6_detail_119 (nx := 120) rfl rfl ?_
          refine t_get (a := 5) (p := 4) (T := TX0) dX6_detail_120 (nx := 123) rfl (by decide) (by first | assumption | exact ok_5 ⟨by omega, by omega⟩) rfl rfl iU0 (by decide) fl_X6_153 rfl ?_
          exact t_iret dX6_detail_123 rfl (by first | exact cf1 (by unfold s_detail fnd; (repeat (first | rewrite [if_pos (by omega)] | rewrite [if_neg (by omega)])); dsimp only; exact ⟨by omega, rfl⟩) | exact cf0 (by unfold s_detail fnd; (repeat (first | rewrite [if_pos (by omega)] | rewrite [if_neg (by omega)])); dsimp only; exact ⟨by omega, rfl⟩) | (exfalso; omega))
        · refine v_aload_n 0 dX6_detail_88 (nx := 89) rfl rfl ?_
          refine t_get (a := 9) (p := 0) (T := TX6) dX6_detail_89 (nx := 92) rfl (by decide) (ok_m 9 rfl) rfl rfl iU6 (by decide) fl_X6_10 rfl ?_
          refine v_aload_n 2 dX6_detail_92 (nx := 93) rfl rfl ?_
          refine t_get (a := 5) (p := 3) (T := TX0) dX6_detail_93 (nx := 96) rfl (by decide) (by first | assumption | exact ok_5 ⟨by omega, by omega⟩) rfl rfl iU0 (by decide) fl_X6_144 rfl ?_
          refine t_callVi (a := 7) (c_X3_hasPoint hR _ (by first | assumption | exact hR.1 _ _ _ _ | exact ⟨by omega, by omega⟩)) dX6_detail_96 (nx := 99) rfl kX3_hasPoint ml_X6_59 (by decide) (ok_m 7 rfl) rfl rfl rfl rfl (Nat.le_of_ble_eq_true rfl) ⟨by decide, by decide⟩ ⟨by decide, by decide⟩ ?_
          refine v_ifB_eq dX6_detail_99 (tgt := 119) (by decide) (nx := 102) rfl (fun c99 => ?_) (fun c99 => ?_)
          · have e4x : ¬ N (484 + b) = 0 → ¬ N (484 + b) = 1 → σ 5 0 b 4 = N (604 + b) := fun _ _ => e4 (by omega) (by omega)
            refine v_aload_n 2 dX6_detail_119 (nx := 120) rfl rfl ?_
            refine t_get (a := 5) (p := 4) (T := TX0) dX6_detail_120 (nx := 123) rfl (by decide) (by first | assumption | exact ok_5 ⟨by omega, by omega⟩) rfl rfl iU0 (by decide) fl_X6_153 rfl ?_
            exact t_iret dX6_detail_123 rfl (by first | exact cf1 (by unfold s_detail fnd; (repeat (first | rewrite [if_pos (by omega)] | rewrite [if_neg (by omega)])); dsimp only; exact ⟨by omega, rfl⟩) | exact cf0 (by unfold s_detail fnd; (repeat (first | rewrite [if_pos (by omega)] | rewrite [if_neg (by omega)])); dsimp only; exact ⟨by omega, rfl⟩) | (exfalso; omega))
          · have hdi := desk_idx hI hH.r hbb (by omega)
            rw [← e3] at hdi
            obtain ⟨l1, -⟩ := hH.r (N (544 + b)) (by omega) (by omega)
            rw [← e3] at l1
            refine v_aload_n 0 dX6_detail_102 (nx := 103) rfl rfl ?_
            refine t_get (a := 9) (p := 0) (T := TX6) dX6_detail_103 (nx := 106) rfl (by decide) (ok_m 9 rfl) rfl rfl iU6 (by decide) fl_X6_10 rfl ?_
            refine t_get (a := 7) (p := 0) (T := TX3) dX6_detail_106 (nx := 109) rfl (by decide) (ok_m 7 rfl) rfl rfl iU3 (by decide) fl_X6_45 rfl ?_
            refine v_aload_n 2 dX6_detail_109 (nx := 110) rfl rfl ?_
            refine t_get (a := 5) (p := 3) (T := TX0) dX6_detail_110 (nx := 113) rfl (by decide) (by first | assumption | exact ok_5 ⟨by omega, by omega⟩) rfl rfl iU0 (by decide) fl_X6_144 rfl ?_
            refine t_ldP dX6_detail_113 (nx := 114) rfl (ok_m 15 rfl) ⟨by omega, by omega⟩ ?_
            refine v_iload_n 1 dX6_detail_114 (nx := 115) rfl rfl ?_
            refine t_callVi (a := 0) (c_X4_indexOf hR _ (by omega) _ (by first | assumption | exact hR.1 _ _ _ _ | exact ⟨by omega, by omega⟩) (by omega)) dX6_detail_115 (nx := 118) rfl kX4_indexOf ml_X6_150 (by decide) (by first | assumption | exact ok_0 ⟨by omega, by omega⟩) rfl rfl rfl rfl (Nat.le_of_ble_eq_true rfl) ⟨by decide, by decide⟩ ⟨by decide, by decide⟩ ?_
            exact t_iret dX6_detail_118 rfl (by first | exact cf1 (by unfold s_detail fnd; (repeat (first | rewrite [if_pos (by omega)] | rewrite [if_neg (by omega)])); dsimp only; exact ⟨by rw [hdi, e3], rfl⟩) | exact cf0 (by unfold s_detail fnd; (repeat (first | rewrite [if_pos (by omega)] | rewrite [if_neg (by omega)])); dsimp only; exact ⟨by rw [hdi, e3], rfl⟩) | (exfalso; omega))
      · refine v_aload_n 0 dX6_detail_50 (nx := 51) rfl rfl ?_
        refine t_get (a := 9) (p := 0) (T := TX6) dX6_detail_51 (nx := 54) rfl (by decide) (ok_m 9 rfl) rfl rfl iU6 (by decide) fl_X6_10 rfl ?_
        refine v_aload_n 2 dX6_detail_54 (nx := 55) rfl rfl ?_
        refine t_get (a := 5) (p := 3) (T := TX0) dX6_detail_55 (nx := 58) rfl (by decide) (by first | assumption | exact ok_5 ⟨by omega, by omega⟩) rfl rfl iU0 (by decide) fl_X6_144 rfl ?_
        refine t_callVi (a := 7) (c_X3_hasBelt hR _ (by first | assumption | exact hR.1 _ _ _ _ | exact ⟨by omega, by omega⟩)) dX6_detail_58 (nx := 61) rfl kX3_hasBelt ml_X6_85 (by decide) (ok_m 7 rfl) rfl rfl rfl rfl (Nat.le_of_ble_eq_true rfl) ⟨by decide, by decide⟩ ⟨by decide, by decide⟩ ?_
        refine v_ifB_eq dX6_detail_61 (tgt := 81) (by decide) (nx := 64) rfl (fun c61 => ?_) (fun c61 => ?_)
        · refine v_aload_n 2 dX6_detail_81 (nx := 82) rfl rfl ?_
          refine t_get (a := 5) (p := 2) (T := TX0) dX6_detail_82 (nx := 85) rfl (by decide) (by first | assumption | exact ok_5 ⟨by omega, by omega⟩) rfl rfl iU0 (by decide) fl_X6_135 rfl ?_
          refine v_if_ne dX6_detail_85 (tgt := 119) (by decide) (nx := 88) rfl (by first | assumption | exact hR.1 _ _ _ _ | exact ⟨by omega, by omega⟩) (fun c85 => ?_) (fun c85 => ?_)
          · have e4x : ¬ N (484 + b) = 0 → ¬ N (484 + b) = 1 → σ 5 0 b 4 = N (604 + b) := fun _ _ => e4 (by omega) (by omega)
            refine v_aload_n 2 dX6_detail_119 (nx := 120) rfl rfl ?_
            refine t_get (a := 5) (p := 4) (T := TX0) dX6_detail_120 (nx := 123) rfl (by decide) (by first | assumption | exact ok_5 ⟨by omega, by omega⟩) rfl rfl iU0 (by decide) fl_X6_153 rfl ?_
            exact t_iret dX6_detail_123 rfl (by first | exact cf1 (by unfold s_detail fnd; (repeat (first | rewrite [if_pos (by omega)] | rewrite [if_neg (by omega)])); dsimp only; exact ⟨by omega, rfl⟩) | exact cf0 (by unfold s_detail fnd; (repeat (first | rewrite [if_pos (by omega)] | rewrite [if_neg (by omega)])); dsimp only; exact ⟨by omega, rfl⟩) | (exfalso; omega))
          · refine v_aload_n 0 dX6_detail_88 (nx := 89) rfl rfl ?_
            refine t_get (a := 9) (p := 0) (T := TX6) dX6_detail_89 (nx := 92) rfl (by decide) (ok_m 9 rfl) rfl rfl iU6 (by decide) fl_X6_10 rfl ?_
            refine v_aload_n 2 dX6_detail_92 (nx := 93) rfl rfl ?_
            refine t_get (a := 5) (p := 3) (T := TX0) dX6_detail_93 (nx := 96) rfl (by decide) (by first | assumption | exact ok_5 ⟨by omega, by omega⟩) rfl rfl iU0 (by decide) fl_X6_144 rfl ?_
            refine t_callVi (a := 7) (c_X3_hasPoint hR _ (by first | assumption | exact hR.1 _ _ _ _ | exact ⟨by omega, by omega⟩)) dX6_detail_96 (nx := 99) rfl kX3_hasPoint ml_X6_59 (by decide) (ok_m 7 rfl) rfl rfl rfl rfl (Nat.le_of_ble_eq_true rfl) ⟨by decide, by decide⟩ ⟨by decide, by decide⟩ ?_
            refine v_ifB_eq dX6_detail_99 (tgt := 119) (by decide) (nx := 102) rfl (fun c99 => ?_) (fun c99 => ?_)
            · have e4x : ¬ N (484 + b) = 0 → ¬ N (484 + b) = 1 → σ 5 0 b 4 = N (604 + b) := fun _ _ => e4 (by omega) (by omega)
              refine v_aload_n 2 dX6_detail_119 (nx := 120) rfl rfl ?_
              refine t_get (a := 5) (p := 4) (T := TX0) dX6_detail_120 (nx := 123) rfl (by decide) (by first | assumption | exact ok_5 ⟨by omega, by omega⟩) rfl rfl iU0 (by decide) fl_X6_153 rfl ?_
              exact t_iret dX6_detail_123 rfl (by first | exact cf1 (by unfold s_detail fnd; (repeat (first | rewrite [if_pos (by omega)] | rewrite [if_neg (by omega)])); dsimp only; exact ⟨by omega, rfl⟩) | exact cf0 (by unfold s_detail fnd; (repeat (first | rewrite [if_pos (by omega)] | rewrite [if_neg (by omega)])); dsimp only; exact ⟨by omega, rfl⟩) | (exfalso; omega))
            · have hdi := desk_idx hI hH.r hbb (by omega)
              rw [← e3] at hdi
              obtain ⟨l1, -⟩ := hH.r (N (544 + b)) (by omega) (by omega)
              rw [← e3] at l1
              refine v_aload_n 0 dX6_detail_102 (nx := 103) rfl rfl ?_
              refine t_get (a := 9) (p := 0) (T := TX6) dX6_detail_103 (nx := 106) rfl (by decide) (ok_m 9 rfl) rfl rfl iU6 (by decide) fl_X6_10 rfl ?_
              refine t_get (a := 7) (p := 0) (T := TX3) dX6_detail_106 (nx := 109) rfl (by decide) (ok_m 7 rfl) rfl rfl iU3 (by decide) fl_X6_45 rfl ?_
              refine v_aload_n 2 dX6_detail_109 (nx := 110) rfl rfl ?_
              refine t_get (a := 5) (p := 3) (T := TX0) dX6_detail_110 (nx := 113) rfl (by decide) (by first | assumption | exact ok_5 ⟨by omega, by omega⟩) rfl rfl iU0 (by decide) fl_X6_144 rfl ?_
              refine t_ldP dX6_detail_113 (nx := 114) rfl (ok_m 15 rfl) ⟨by omega, by omega⟩ ?_
              refine v_iload_n 1 dX6_detail_114 (nx := 115) rfl rfl ?_
              refine t_callVi (a := 0) (c_X4_indexOf hR _ (by omega) _ (by first | assumption | exact hR.1 _ _ _ _ | exact ⟨by omega, by omega⟩) (by omega)) dX6_detail_115 (nx := 118) rfl kX4_indexOf ml_X6_150 (by decide) (by first | assumption | exact ok_0 ⟨by omega, by omega⟩) rfl rfl rfl rfl (Nat.le_of_ble_eq_true rfl) ⟨by decide, by decide⟩ ⟨by decide, by decide⟩ ?_
              exact t_iret dX6_detail_118 rfl (by first | exact cf1 (by unfold s_detail fnd; (repeat (first | rewrite [if_pos (by omega)] | rewrite [if_neg (by omega)])); dsimp only; exact ⟨by rw [hdi, e3], rfl⟩) | exact cf0 (by unfold s_detail fnd; (repeat (first | rewrite [if_pos (by omega)] | rewrite [if_neg (by omega)])); dsimp only; exact ⟨by rw [hdi, e3], rfl⟩) | (exfalso; omega))
        · have hcl := cell_of hI hH.c hH.b hbb (by omega)
          rw [← e3] at hcl
          obtain ⟨-, -, l1, -⟩ := hI.b (b := N (544 + b)) (by omega) (by omega)
          obtain ⟨-, -, l2, -⟩ := hH.b (N (544 + b)) (by omega) (by omega)
          rw [← e3] at l1 l2
          refine v_aload_n 0 dX6_detail_64 (nx := 65) rfl rfl ?_
          refine t_get (a := 9) (p := 0) (T := TX6) dX6_detail_65 (nx := 68) rfl (by decide) (ok_m 9 rfl) rfl rfl iU6 (by decide) fl_X6_10 rfl ?_
          refine t_get (a := 7) (p := 1) (T := TX3) dX6_detail_68 (nx := 71) rfl (by decide) (ok_m 7 rfl) rfl rfl iU3 (by decide) fl_X6_72 rfl ?_
          refine v_aload_n 2 dX6_detail_71 (nx := 72) rfl rfl ?_
          refine t_get (a := 5) (p := 3) (T := TX0) dX6_detail_72 (nx := 75) rfl (by decide) (by first | assumption | exact ok_5 ⟨by omega, by omega⟩) rfl rfl iU0 (by decide) fl_X6_144 rfl ?_
          refine t_ldB dX6_detail_75 (nx := 76) rfl (ok_m 16 rfl) ⟨by omega, by omega⟩ ?_
          refine v_iload_n 1 dX6_detail_76 (nx := 77) rfl rfl ?_
          refine t_callVi (a := 2) (c_X1_cellOf hR _ (by omega) _ (by first | assumption | exact hR.1 _ _ _ _ | exact ⟨by omega, by omega⟩) (by omega)) dX6_detail_77 (nx := 80) rfl kX1_cellOf ml_X6_147 (by decide) (by first | assumption | exact ok_2 ⟨by omega, by omega⟩) rfl rfl rfl rfl (Nat.le_of_ble_eq_true rfl) ⟨by decide, by decide⟩ ⟨by decide, by decide⟩ ?_
          exact t_iret dX6_detail_80 rfl (by first | exact cf1 (by unfold s_detail fnd; (repeat (first | rewrite [if_pos (by omega)] | rewrite [if_neg (by omega)])); dsimp only; exact ⟨hcl.symm, rfl⟩) | exact cf0 (by unfold s_detail fnd; (repeat (first | rewrite [if_pos (by omega)] | rewrite [if_neg (by omega)])); dsimp only; exact ⟨hcl.symm, rfl⟩) | (exfalso; omega))
    · refine v_aload_n 0 dX6_detail_35 (nx := 36) rfl rfl ?_
      refine v_bipush dX6_detail_36 (nx := 38) rfl rfl ?_
      refine t_callVi (a := 9) (c_X6_finding _) dX6_detail_38 (nx := 41) rfl kX6_finding ml_X6_38 (by decide) (ok_m 9 rfl) rfl rfl rfl rfl (Nat.le_of_ble_eq_true rfl) ⟨by decide, by decide⟩ ⟨by decide, by decide⟩ ?_
      exact t_iret dX6_detail_41 rfl (by first | exact cf1 (by unfold s_detail fnd; (repeat (first | rewrite [if_pos (by omega)] | rewrite [if_neg (by omega)])); dsimp only; exact ⟨by omega, rfl⟩) | exact cf0 (by unfold s_detail fnd; (repeat (first | rewrite [if_pos (by omega)] | rewrite [if_neg (by omega)])); dsimp only; exact ⟨by omega, rfl⟩) | (exfalso; omega))
  · refine v_aload_n 0 dX6_detail_11 (nx := 12) rfl rfl ?_
    refine v_iconst dX6_detail_12 (nx := 13) rfl ?_
    refine t_callVi (a := 9) (c_X6_finding _) dX6_detail_13 (nx := 16) rfl kX6_finding ml_X6_38 (by decide) (ok_m 9 rfl) rfl rfl rfl rfl (Nat.le_of_ble_eq_true rfl) ⟨by decide, by decide⟩ ⟨by decide, by decide⟩ ?_
    exact t_iret dX6_detail_16 rfl (by first | exact cf1 (by unfold s_detail fnd; (repeat (first | rewrite [if_pos (by omega)] | rewrite [if_neg (by omega)])); dsimp only; exact ⟨by omega, rfl⟩) | exact cf0 (by unfold s_detail fnd; (repeat (first | rewrite [if_pos (by omega)] | rewrite [if_neg (by omega)])); dsimp only; exact ⟨by omega, rfl⟩) | (exfalso; omega))

set_option maxRecDepth 100000 in
theorem c_X6_step {g : GG} {kp : Bool} {σ : SS} (hR : RG σ) {N : NN} {kk : Int} (hI : IV N kk) (hH : RH σ 0 N) (b : Int) (hb : inR b) (i : Int) (hi : inR i) (tk : Int) (htk : inR tk) (htk : tk = 0 ∨ tk = 1) (hW : WI N) : XC g kp 2 mX6_step [rf g (ad 9 0 0), vi b, vi i, vi tk] σ (some (vi (s_step N b i tk).1)) (fd σ (s_step N b i tk).2.2) := by
  refine TC.of (by decide) (Nat.le_of_ble_eq_true rfl) rfl ?_
  obtain ⟨b0, b1, b2, b3, b4, b5⟩ := hI.n
  obtain ⟨n0, n1, n2, n3, n4⟩ := hH.n
  refine v_aload_n 0 dX6_step_0 (nx := 1) rfl rfl ?_
  refine t_get (a := 9) (p := 0) (T := TX6) dX6_step_1 (nx := 4) rfl (by decide) (ok_m 9 rfl) rfl rfl iU6 (by decide) fl_X6_10 rfl ?_
  refine v_iload_n 1 dX6_step_4 (nx := 5) rfl rfl ?_
  refine t_callVi (a := 7) (c_X3_hasBag hR _ (by first | assumption | exact hR.1 _ _ _ _ | exact ⟨by omega, by omega⟩)) dX6_step_5 (nx := 8) rfl kX3_hasBag ml_X6_132 (by decide) (ok_m 7 rfl) rfl rfl rfl rfl (Nat.le_of_ble_eq_true rfl) ⟨by decide, by decide⟩ ⟨by decide, by decide⟩ ?_
  refine v_ifB_eq dX6_step_8 (tgt := 27) (by decide) (nx := 11) rfl (fun c8 => ?_) (fun c8 => ?_)
  · refine v_aload_n 0 dX6_step_27 (nx := 28) rfl rfl ?_
    refine v_iconst dX6_step_28 (nx := 29) rfl ?_
    refine t_callVi (a := 9) (c_X6_finding _) dX6_step_29 (nx := 32) rfl kX6_finding ml_X6_38 (by decide) (ok_m 9 rfl) rfl rfl rfl rfl (Nat.le_of_ble_eq_true rfl) ⟨by decide, by decide⟩ ⟨by decide, by decide⟩ ?_
    exact t_iret dX6_step_32 rfl (by first | exact cf1 (by unfold s_step fnd; (repeat (first | rewrite [if_pos (by omega)] | rewrite [if_neg (by omega)])); dsimp only; exact ⟨by omega, rfl⟩) | exact cf0 (by unfold s_step fnd; (repeat (first | rewrite [if_pos (by omega)] | rewrite [if_neg (by omega)])); dsimp only; exact ⟨by omega, rfl⟩) | (exfalso; omega))
  · obtain ⟨e0, e1, e2, e3, e4, e5⟩ := hH.g b (by omega) (by omega)
    refine v_aload_n 0 dX6_step_11 (nx := 12) rfl rfl ?_
    refine t_get (a := 9) (p := 0) (T := TX6) dX6_step_12 (nx := 15) rfl (by decide) (ok_m 9 rfl) rfl rfl iU6 (by decide) fl_X6_10 rfl ?_
    refine t_get (a := 7) (p := 3) (T := TX3) dX6_step_15 (nx := 18) rfl (by decide) (ok_m 7 rfl) rfl rfl iU3 (by decide) fl_X6_120 rfl ?_
    refine v_iload_n 1 dX6_step_18 (nx := 19) rfl rfl ?_
    refine t_ldG dX6_step_19 (nx := 20) rfl (ok_m 18 rfl) ⟨by omega, by omega⟩ ?_
    refine v_iload_n 2 dX6_step_20 (nx := 21) rfl rfl ?_
    refine t_callVi (a := 5) (c_X0_keepsStep hR _ (by omega) _ (by first | assumption | exact hR.1 _ _ _ _ | exact ⟨by omega, by omega⟩)) dX6_step_21 (nx := 24) rfl kX0_keepsStep ml_X6_159 (by decide) (by first | assumption | exact ok_5 ⟨by omega, by omega⟩) rfl rfl rfl rfl (Nat.le_of_ble_eq_true rfl) ⟨by decide, by decide⟩ ⟨by decide, by decide⟩ ?_
    refine v_ifB_ne dX6_step_24 (tgt := 33) (by decide) (nx := 27) rfl (fun c24 => ?_) (fun c24 => ?_)
    · have hw1 := hH.w b i (by omega) (by omega) (by omega) (by omega) (by omega)
      obtain ⟨hw2, hw3⟩ := hW b i (by omega) (by omega) (by omega) (by omega) (by omega)
      refine v_iload_n 3 dX6_step_33 (nx := 34) rfl rfl ?_
      refine v_if_eq dX6_step_34 (tgt := 53) (by decide) (nx := 37) rfl (by first | assumption | exact hR.1 _ _ _ _ | exact ⟨by omega, by omega⟩) (fun c34 => ?_) (fun c34 => ?_)
      · refine v_aload_n 0 dX6_step_53 (nx := 54) rfl rfl ?_
        refine t_get (a := 9) (p := 0) (T := TX6) dX6_step_54 (nx := 57) rfl (by decide) (ok_m 9 rfl) rfl rfl iU6 (by decide) fl_X6_10 rfl ?_
        refine t_get (a := 7) (p := 3) (T := TX3) dX6_step_57 (nx := 60) rfl (by decide) (ok_m 7 rfl) rfl rfl iU3 (by decide) fl_X6_120 rfl ?_
        refine v_iload_n 1 dX6_step_60 (nx := 61) rfl rfl ?_
        refine t_ldG dX6_step_61 (nx := 62) rfl (ok_m 18 rfl) ⟨by omega, by omega⟩ ?_
        refine v_iload_n 2 dX6_step_62 (nx := 63) rfl rfl ?_
        refine t_callVi (a := 5) (c_X0_stepPoint hR _ (by omega) _ (by first | assumption | exact hR.1 _ _ _ _ | exact ⟨by omega, by omega⟩) (fun _ _ _ => by omega)) dX6_step_63 (nx := 66) rfl kX0_stepPoint ml_X6_165 (by decide) (by first | assumption | exact ok_5 ⟨by omega, by omega⟩) rfl rfl rfl rfl (Nat.le_of_ble_eq_true rfl) ⟨by decide, by decide⟩ ⟨by decide, by decide⟩ ?_
        exact t_iret dX6_step_66 rfl (by first | exact cf1 (by unfold s_step fnd; (repeat (first | rewrite [if_pos (by omega)] | rewrite [if_neg (by omega)])); dsimp only; exact ⟨by omega, rfl⟩) | exact cf0 (by unfold s_step fnd; (repeat (first | rewrite [if_pos (by omega)] | rewrite [if_neg (by omega)])); dsimp only; exact ⟨by omega, rfl⟩) | (exfalso; omega))
      · refine v_aload_n 0 dX6_step_37 (nx := 38) rfl rfl ?_
        refine t_get (a := 9) (p := 0) (T := TX6) dX6_step_38 (nx := 41) rfl (by decide) (ok_m 9 rfl) rfl rfl iU6 (by decide) fl_X6_10 rfl ?_
        refine t_get (a := 7) (p := 3) (T := TX3) dX6_step_41 (nx := 44) rfl (by decide) (ok_m 7 rfl) rfl rfl iU3 (by decide) fl_X6_120 rfl ?_
        refine v_iload_n 1 dX6_step_44 (nx := 45) rfl rfl ?_
        refine t_ldG dX6_step_45 (nx := 46) rfl (ok_m 18 rfl) ⟨by omega, by omega⟩ ?_
        refine v_iload_n 2 dX6_step_46 (nx := 47) rfl rfl ?_
        refine t_callVi (a := 5) (c_X0_stepTick hR _ (by omega) _ (by first | assumption | exact hR.1 _ _ _ _ | exact ⟨by omega, by omega⟩) (fun _ _ _ => by omega)) dX6_step_47 (nx := 50) rfl kX0_stepTick ml_X6_162 (by decide) (by first | assumption | exact ok_5 ⟨by omega, by omega⟩) rfl rfl rfl rfl (Nat.le_of_ble_eq_true rfl) ⟨by decide, by decide⟩ ⟨by decide, by decide⟩ ?_
        refine v_goto dX6_step_50 (tgt := 66) (by decide) ?_
        exact t_iret dX6_step_66 rfl (by first | exact cf1 (by unfold s_step fnd; (repeat (first | rewrite [if_pos (by omega)] | rewrite [if_neg (by omega)])); dsimp only; exact ⟨by omega, rfl⟩) | exact cf0 (by unfold s_step fnd; (repeat (first | rewrite [if_pos (by omega)] | rewrite [if_neg (by omega)])); dsimp only; exact ⟨by omega, rfl⟩) | (exfalso; omega))
    · refine v_aload_n 0 dX6_step_27 (nx := 28) rfl rfl ?_
      refine v_iconst dX6_step_28 (nx := 29) rfl ?_
      refine t_callVi (a := 9) (c_X6_finding _) dX6_step_29 (nx := 32) rfl kX6_finding ml_X6_38 (by decide) (ok_m 9 rfl) rfl rfl rfl rfl (Nat.le_of_ble_eq_true rfl) ⟨by decide, by decide⟩ ⟨by decide, by decide⟩ ?_
      exact t_iret dX6_step_32 rfl (by first | exact cf1 (by unfold s_step fnd; (repeat (first | rewrite [if_pos (by omega)] | rewrite [if_neg (by omega)])); dsimp only; exact ⟨by omega, rfl⟩) | exact cf0 (by unfold s_step fnd; (repeat (first | rewrite [if_pos (by omega)] | rewrite [if_neg (by omega)])); dsimp only; exact ⟨by omega, rfl⟩) | (exfalso; omega))

set_option maxRecDepth 100000 in
theorem c_X6_list {g : GG} {kp : Bool} {σ : SS} (hR : RG σ) {N : NN} {kk : Int} (hI : IV N kk) (hH : RH σ 0 N) (p : Int) (hp : inR p) (i : Int) (hi : inR i)  : XC g kp 2 mX6_list [rf g (ad 9 0 0), vi p, vi i] σ (some (vi (s_list N p i).1)) (fd σ (s_list N p i).2.2) := by
  refine TC.of (by decide) (Nat.le_of_ble_eq_true rfl) rfl ?_
  obtain ⟨b0, b1, b2, b3, b4, b5⟩ := hI.n
  obtain ⟨n0, n1, n2, n3, n4⟩ := hH.n
  refine v_aload_n 0 dX6_list_0 (nx := 1) rfl rfl ?_
  refine t_get (a := 9) (p := 0) (T := TX6) dX6_list_1 (nx := 4) rfl (by decide) (ok_m 9 rfl) rfl rfl iU6 (by decide) fl_X6_10 rfl ?_
  refine v_iload_n 1 dX6_list_4 (nx := 5) rfl rfl ?_
  refine t_callVi (a := 7) (c_X3_hasPoint hR _ (by first | assumption | exact hR.1 _ _ _ _ | exact ⟨by omega, by omega⟩)) dX6_list_5 (nx := 8) rfl kX3_hasPoint ml_X6_59 (by decide) (ok_m 7 rfl) rfl rfl rfl rfl (Nat.le_of_ble_eq_true rfl) ⟨by decide, by decide⟩ ⟨by decide, by decide⟩ ?_
  refine v_ifB_ne dX6_list_8 (tgt := 17) (by decide) (nx := 11) rfl (fun c8 => ?_) (fun c8 => ?_)
  · obtain ⟨e0, e1, e2⟩ := hH.p p (by omega) (by omega)
    obtain ⟨l1, -⟩ := hH.r p (by omega) (by omega)
    refine v_aload_n 0 dX6_list_17 (nx := 18) rfl rfl ?_
    refine t_get (a := 9) (p := 0) (T := TX6) dX6_list_18 (nx := 21) rfl (by decide) (ok_m 9 rfl) rfl rfl iU6 (by decide) fl_X6_10 rfl ?_
    refine t_get (a := 7) (p := 0) (T := TX3) dX6_list_21 (nx := 24) rfl (by decide) (ok_m 7 rfl) rfl rfl iU3 (by decide) fl_X6_45 rfl ?_
    refine v_iload_n 1 dX6_list_24 (nx := 25) rfl rfl ?_
    refine t_ldP dX6_list_25 (nx := 26) rfl (ok_m 15 rfl) ⟨by omega, by omega⟩ ?_
    refine v_astore_n dX6_list_26 (nx := 27) rfl rfl (by decide) ?_
    refine v_aload_n 3 dX6_list_27 (nx := 28) rfl rfl ?_
    refine t_get (a := 0) (p := 0) (T := TX4) dX6_list_28 (nx := 31) rfl (by decide) (by first | assumption | exact ok_0 ⟨by omega, by omega⟩) rfl rfl iU4 (by decide) fl_X6_66 rfl ?_
    refine v_if_eq dX6_list_31 (tgt := 49) (by decide) (nx := 34) rfl (by first | assumption | exact hR.1 _ _ _ _ | exact ⟨by omega, by omega⟩) (fun c31 => ?_) (fun c31 => ?_)
    · obtain ⟨hl1, hl2⟩ := list_row hI (hH.r p (by omega) (by omega)) (by omega)
      refine v_iload_n 2 dX6_list_49 (nx := 50) rfl rfl ?_
      refine v_iconst dX6_list_50 (nx := 51) rfl ?_
      refine v_icmp_ne dX6_list_51 (tgt := 59) (by decide) (nx := 54) rfl (by first | assumption | exact hR.1 _ _ _ _ | exact ⟨by omega, by omega⟩) (by first | assumption | exact hR.1 _ _ _ _ | exact ⟨by omega, by omega⟩) (fun c51 => ?_) (fun c51 => ?_)
      · refine v_iload_n 2 dX6_list_59 (nx := 60) rfl rfl ?_
        refine v_iconst dX6_list_60 (nx := 61) rfl ?_
        refine v_aload_n 3 dX6_list_61 (nx := 62) rfl rfl ?_
        refine t_get (a := 0) (p := 4) (T := TX4) dX6_list_62 (nx := 65) rfl (by decide) (by first | assumption | exact ok_0 ⟨by omega, by omega⟩) rfl rfl iU4 (by decide) fl_X6_141 rfl ?_
        refine v_iconst dX6_list_65 (nx := 66) rfl ?_
        refine v_isub dX6_list_66 (nx := 67) rfl ?_
        refine t_callSi (c_X6_within _ _ _ (by first | assumption | exact hR.1 _ _ _ _ | exact ⟨by omega, by omega⟩) (by first | assumption | exact hR.1 _ _ _ _ | exact ⟨by omega, by omega⟩) (by first | assumption | exact hR.1 _ _ _ _ | exact ⟨by omega, by omega⟩)) dX6_list_67 (nx := 70) rfl kX6_within ml_X6_62 rfl rfl (Nat.le_of_ble_eq_true rfl) ⟨by decide, by decide⟩ ⟨by decide, by decide⟩ ?_
        refine v_ifB_eq dX6_list_70 (tgt := 82) (by decide) (nx := 73) rfl (fun c70 => ?_) (fun c70 => ?_)
        · refine v_aload_n 0 dX6_list_82 (nx := 83) rfl rfl ?_
          refine v_bipush dX6_list_83 (nx := 85) rfl rfl ?_
          refine t_callVi (a := 9) (c_X6_finding _) dX6_list_85 (nx := 88) rfl kX6_finding ml_X6_38 (by decide) (ok_m 9 rfl) rfl rfl rfl rfl (Nat.le_of_ble_eq_true rfl) ⟨by decide, by decide⟩ ⟨by decide, by decide⟩ ?_
          exact t_iret dX6_list_88 rfl (by first | exact cf1 (by unfold s_list s_listW fnd; (try rw [hl1]); (try rw [hl3]); (repeat (first | rewrite [if_pos (by omega)] | rewrite [if_neg (by omega)])); dsimp only; exact ⟨by omega, rfl⟩) | exact cf0 (by unfold s_list s_listW fnd; (try rw [hl1]); (try rw [hl3]); (repeat (first | rewrite [if_pos (by omega)] | rewrite [if_neg (by omega)])); dsimp only; exact ⟨by omega, rfl⟩) | (exfalso; omega))
        · have hl3 := hl2 i (by omega) (by omega)
          have hl4 := (hH.r p (by omega) (by omega)).2.2.1 i (by omega) (by omega)
          refine v_aload_n 3 dX6_list_73 (nx := 74) rfl rfl ?_
          refine t_get (a := 0) (p := 5) (T := TX4) dX6_list_74 (nx := 77) rfl (by decide) (by first | assumption | exact ok_0 ⟨by omega, by omega⟩) rfl rfl iU4 (by decide) fl_X6_185 rfl ?_
          refine v_iload_n 2 dX6_list_77 (nx := 78) rfl rfl ?_
          refine t_aldL (a := 1) (L := 60) dX6_list_78 (nx := 79) rfl rfl (by first | assumption | exact ok_1 ⟨by omega, by omega⟩) rfl ⟨by omega, by omega⟩ ?_
          refine v_goto dX6_list_79 (tgt := 88) (by decide) ?_
          exact t_iret dX6_list_88 rfl (by first | exact cf1 (by unfold s_list s_listW fnd; (try rw [hl1]); (try rw [hl3]); (repeat (first | rewrite [if_pos (by omega)] | rewrite [if_neg (by omega)])); dsimp only; exact ⟨by omega, rfl⟩) | exact cf0 (by unfold s_list s_listW fnd; (try rw [hl1]); (try rw [hl3]); (repeat (first | rewrite [if_pos (by omega)] | rewrite [if_neg (by omega)])); dsimp only; exact ⟨by omega, rfl⟩) | (exfalso; omega))
      · refine v_aload_n 3 dX6_list_54 (nx := 55) rfl rfl ?_
        refine t_get (a := 0) (p := 4) (T := TX4) dX6_list_55 (nx := 58) rfl (by decide) (by first | assumption | exact ok_0 ⟨by omega, by omega⟩) rfl rfl iU4 (by decide) fl_X6_141 rfl ?_
        exact t_iret dX6_list_58 rfl (by first | exact cf1 (by unfold s_list s_listW fnd; (try rw [hl1]); (try rw [hl3]); (repeat (first | rewrite [if_pos (by omega)] | rewrite [if_neg (by omega)])); dsimp only; exact ⟨by omega, rfl⟩) | exact cf0 (by unfold s_list s_listW fnd; (try rw [hl1]); (try rw [hl3]); (repeat (first | rewrite [if_pos (by omega)] | rewrite [if_neg (by omega)])); dsimp only; exact ⟨by omega, rfl⟩) | (exfalso; omega))
    · refine v_aload_n 3 dX6_list_34 (nx := 35) rfl rfl ?_
      refine t_get (a := 0) (p := 0) (T := TX4) dX6_list_35 (nx := 38) rfl (by decide) (by first | assumption | exact ok_0 ⟨by omega, by omega⟩) rfl rfl iU4 (by decide) fl_X6_66 rfl ?_
      refine v_iconst dX6_list_38 (nx := 39) rfl ?_
      refine v_icmp_eq dX6_list_39 (tgt := 49) (by decide) (nx := 42) rfl (by first | assumption | exact hR.1 _ _ _ _ | exact ⟨by omega, by omega⟩) (by first | assumption | exact hR.1 _ _ _ _ | exact ⟨by omega, by omega⟩) (fun c39 => ?_) (fun c39 => ?_)
      · obtain ⟨hl1, hl2⟩ := list_row hI (hH.r p (by omega) (by omega)) (by omega)
        refine v_iload_n 2 dX6_list_49 (nx := 50) rfl rfl ?_
        refine v_iconst dX6_list_50 (nx := 51) rfl ?_
        refine v_icmp_ne dX6_list_51 (tgt := 59) (by decide) (nx := 54) rfl (by first | assumption | exact hR.1 _ _ _ _ | exact ⟨by omega, by omega⟩) (by first | assumption | exact hR.1 _ _ _ _ | exact ⟨by omega, by omega⟩) (fun c51 => ?_) (fun c51 => ?_)
        · refine v_iload_n 2 dX6_list_59 (nx := 60) rfl rfl ?_
          refine v_iconst dX6_list_60 (nx := 61) rfl ?_
          refine v_aload_n 3 dX6_list_61 (nx := 62) rfl rfl ?_
          refine t_get (a := 0) (p := 4) (T := TX4) dX6_list_62 (nx := 65) rfl (by decide) (by first | assumption | exact ok_0 ⟨by omega, by omega⟩) rfl rfl iU4 (by decide) fl_X6_141 rfl ?_
          refine v_iconst dX6_list_65 (nx := 66) rfl ?_
          refine v_isub dX6_list_66 (nx := 67) rfl ?_
          refine t_callSi (c_X6_within _ _ _ (by first | assumption | exact hR.1 _ _ _ _ | exact ⟨by omega, by omega⟩) (by first | assumption | exact hR.1 _ _ _ _ | exact ⟨by omega, by omega⟩) (by first | assumption | exact hR.1 _ _ _ _ | exact ⟨by omega, by omega⟩)) dX6_list_67 (nx := 70) rfl kX6_within ml_X6_62 rfl rfl (Nat.le_of_ble_eq_true rfl) ⟨by decide, by decide⟩ ⟨by decide, by decide⟩ ?_
          refine v_ifB_eq dX6_list_70 (tgt := 82) (by decide) (nx := 73) rfl (fun c70 => ?_) (fun c70 => ?_)
          · refine v_aload_n 0 dX6_list_82 (nx := 83) rfl rfl ?_
            refine v_bipush dX6_list_83 (nx := 85) rfl rfl ?_
            refine t_callVi (a := 9) (c_X6_finding _) dX6_list_85 (nx := 88) rfl kX6_finding ml_X6_38 (by decide) (ok_m 9 rfl) rfl rfl rfl rfl (Nat.le_of_ble_eq_true rfl) ⟨by decide, by decide⟩ ⟨by decide, by decide⟩ ?_
            exact t_iret dX6_list_88 rfl (by first | exact cf1 (by unfold s_list s_listW fnd; (try rw [hl1]); (try rw [hl3]); (repeat (first | rewrite [if_pos (by omega)] | rewrite [if_neg (by omega)])); dsimp only; exact ⟨by omega, rfl⟩) | exact cf0 (by unfold s_list s_listW fnd; (try rw [hl1]); (try rw [hl3]); (repeat (first | rewrite [if_pos (by omega)] | rewrite [if_neg (by omega)])); dsimp only; exact ⟨by omega, rfl⟩) | (exfalso; omega))
          · have hl3 := hl2 i (by omega) (by omega)
            have hl4 := (hH.r p (by omega) (by omega)).2.2.1 i (by omega) (by omega)
            refine v_aload_n 3 dX6_list_73 (nx := 74) rfl rfl ?_
            refine t_get (a := 0) (p := 5) (T := TX4) dX6_list_74 (nx := 77) rfl (by decide) (by first | assumption | exact ok_0 ⟨by omega, by omega⟩) rfl rfl iU4 (by decide) fl_X6_185 rfl ?_
            refine v_iload_n 2 dX6_list_77 (nx := 78) rfl rfl ?_
            refine t_aldL (a := 1) (L := 60) dX6_list_78 (nx := 79) rfl rfl (by first | assumption | exact ok_1 ⟨by omega, by omega⟩) rfl ⟨by omega, by omega⟩ ?_
            refine v_goto dX6_list_79 (tgt := 88) (by decide) ?_
            exact t_iret dX6_list_88 rfl (by first | exact cf1 (by unfold s_list s_listW fnd; (try rw [hl1]); (try rw [hl3]); (repeat (first | rewrite [if_pos (by omega)] | rewrite [if_neg (by omega)])); dsimp only; exact ⟨by omega, rfl⟩) | exact cf0 (by unfold s_list s_listW fnd; (try rw [hl1]); (try rw [hl3]); (repeat (first | rewrite [if_pos (by omega)] | rewrite [if_neg (by omega)])); dsimp only; exact ⟨by omega, rfl⟩) | (exfalso; omega))
        · refine v_aload_n 3 dX6_list_54 (nx := 55) rfl rfl ?_
          refine t_get (a := 0) (p := 4) (T := TX4) dX6_list_55 (nx := 58) rfl (by decide) (by first | assumption | exact ok_0 ⟨by omega, by omega⟩) rfl rfl iU4 (by decide) fl_X6_141 rfl ?_
          exact t_iret dX6_list_58 rfl (by first | exact cf1 (by unfold s_list s_listW fnd; (try rw [hl1]); (try rw [hl3]); (repeat (first | rewrite [if_pos (by omega)] | rewrite [if_neg (by omega)])); dsimp only; exact ⟨by omega, rfl⟩) | exact cf0 (by unfold s_list s_listW fnd; (try rw [hl1]); (try rw [hl3]); (repeat (first | rewrite [if_pos (by omega)] | rewrite [if_neg (by omega)])); dsimp only; exact ⟨by omega, rfl⟩) | (exfalso; omega))
      · refine v_aload_n 0 dX6_list_42 (nx := 43) rfl rfl ?_
        refine v_bipush dX6_list_43 (nx := 45) rfl rfl ?_
        refine t_callVi (a := 9) (c_X6_finding _) dX6_list_45 (nx := 48) rfl kX6_finding ml_X6_38 (by decide) (ok_m 9 rfl) rfl rfl rfl rfl (Nat.le_of_ble_eq_true rfl) ⟨by decide, by decide⟩ ⟨by decide, by decide⟩ ?_
        exact t_iret dX6_list_48 rfl (by first | exact cf1 (by unfold s_list s_listW fnd; (try rw [hl1]); (try rw [hl3]); (repeat (first | rewrite [if_pos (by omega)] | rewrite [if_neg (by omega)])); dsimp only; exact ⟨by omega, rfl⟩) | exact cf0 (by unfold s_list s_listW fnd; (try rw [hl1]); (try rw [hl3]); (repeat (first | rewrite [if_pos (by omega)] | rewrite [if_neg (by omega)])); dsimp only; exact ⟨by omega, rfl⟩) | (exfalso; omega))
  · refine v_aload_n 0 dX6_list_11 (nx := 12) rfl rfl ?_
    refine v_iconst dX6_list_12 (nx := 13) rfl ?_
    refine t_callVi (a := 9) (c_X6_finding _) dX6_list_13 (nx := 16) rfl kX6_finding ml_X6_38 (by decide) (ok_m 9 rfl) rfl rfl rfl rfl (Nat.le_of_ble_eq_true rfl) ⟨by decide, by decide⟩ ⟨by decide, by decide⟩ ?_
    exact t_iret dX6_list_16 rfl (by first | exact cf1 (by unfold s_list s_listW fnd; (try rw [hl1]); (try rw [hl3]); (repeat (first | rewrite [if_pos (by omega)] | rewrite [if_neg (by omega)])); dsimp only; exact ⟨by omega, rfl⟩) | exact cf0 (by unfold s_list s_listW fnd; (try rw [hl1]); (try rw [hl3]); (repeat (first | rewrite [if_pos (by omega)] | rewrite [if_neg (by omega)])); dsimp only; exact ⟨by omega, rfl⟩) | (exfalso; omega))
