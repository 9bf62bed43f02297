set_option maxRecDepth 100000 in
theorem c_X5_shortenBy {g : GG} {kp : Bool} {σ : SS} (hR : RG σ) {N : NN} {kk : Int} (hI : IV N kk) (hN : RHn σ 0 N) (hB : RHb σ 0 N) (b ch : Int) (hb : 0 ≤ b ∧ b < N 1) (hch : 0 ≤ ch ∧ ch < 12) (hbd : ∀ p, σ 8 0 ch p ≤ 1000000) : XC g kp 1 mX5_shortenBy [rf g (ad 19 0 0), rf g (ad 2 0 b), vi ch, rf g (ad 7 0 0)] σ (some (vi (if (N (116 + b) = 0 ∧ ¬ σ 8 0 ch (N (84 + b)) = -1 ∧ (σ 8 0 ch (N (68 + b)) = -1 ∨ N (100 + b) + σ 8 0 ch (N (84 + b)) < σ 8 0 ch (N (68 + b)))) then 1 else 0))) (sK σ 8 ch (if (N (116 + b) = 0 ∧ ¬ σ 8 0 ch (N (84 + b)) = -1 ∧ (σ 8 0 ch (N (68 + b)) = -1 ∨ N (100 + b) + σ 8 0 ch (N (84 + b)) < σ 8 0 ch (N (68 + b)))) then uI (σ 8 0 ch) (N (68 + b)) (N (100 + b) + σ 8 0 ch (N (84 + b))) else σ 8 0 ch)) := by
  refine TC.of (by decide) (Nat.le_of_ble_eq_true rfl) rfl ?_
  obtain ⟨b0, b1, b2, b3, b4, b5⟩ := hI.n
  obtain ⟨n0, n1, n2, n3, n4⟩ := hN
  obtain ⟨e0, e1, e2, e3, e4⟩ := hB b hb.1 hb.2
  obtain ⟨q1, q2, q3, q4, q5, q6, q7⟩ := hI.b hb.1 hb.2
  rw [← e0, ← e1, ← e2, ← e4] at *
  have hb1 := hbd (σ 2 0 b 1)
  have hb2 := hR.1 8 0 ch (σ 2 0 b 1)
  refine v_aload_n 1 dX5_shortenBy_0 (nx := 1) rfl rfl ?_
  refine t_get (a := 2) (p := 4) (T := TX1) dX5_shortenBy_1 (nx := 4) rfl (by decide) (by first | assumption | exact ok_2 ⟨by omega, by omega⟩) rfl rfl iU1 (by decide) fl_X5_46 rfl ?_
  refine v_if_ne dX5_shortenBy_4 (tgt := 29) (by decide) (nx := 7) rfl (by first | assumption | exact hR.1 _ _ _ _ | exact ⟨by omega, by omega⟩) (fun c4 => ?_) (fun c4 => ?_)
  · refine v_iconst dX5_shortenBy_29 (nx := 30) rfl ?_
    exact t_zret dX5_shortenBy_30 rfl (by first | exact Or.inl rfl | exact Or.inr rfl | assumption) (by first | (exfalso; omega) | exact ⟨by rw [if_pos (by omega)], by rw [if_pos (by omega), up_sK]⟩ | exact ⟨by rw [if_neg (by omega)], by rw [if_neg (by omega), sK_id]⟩)
  · refine v_aload_n 3 dX5_shortenBy_7 (nx := 8) rfl rfl ?_
    refine v_aload_n 1 dX5_shortenBy_8 (nx := 9) rfl rfl ?_
    refine t_get (a := 2) (p := 0) (T := TX1) dX5_shortenBy_9 (nx := 12) rfl (by decide) (by first | assumption | exact ok_2 ⟨by omega, by omega⟩) rfl rfl iU1 (by decide) fl_X5_52 rfl ?_
    refine t_callVi (a := 7) (c_X3_hasPoint hR _ (by first | assumption | exact hR.1 _ _ _ _ | exact ⟨by omega, by omega⟩)) dX5_shortenBy_12 (nx := 15) rfl kX3_hasPoint ml_X5_55 (by decide) (ok_m 7 rfl) rfl rfl rfl rfl (Nat.le_of_ble_eq_true rfl) ⟨by decide, by decide⟩ ⟨by decide, by decide⟩ ?_
    refine v_ifB_eq dX5_shortenBy_15 (tgt := 29) (by decide) (nx := 18) rfl (fun c15 => ?_) (fun c15 => ?_)
    · refine v_iconst dX5_shortenBy_29 (nx := 30) rfl ?_
      exact t_zret dX5_shortenBy_30 rfl (by first | exact Or.inl rfl | exact Or.inr rfl | assumption) (by first | (exfalso; omega) | exact ⟨by rw [if_pos (by omega)], by rw [if_pos (by omega), up_sK]⟩ | exact ⟨by rw [if_neg (by omega)], by rw [if_neg (by omega), sK_id]⟩)
    · refine v_aload_n 3 dX5_shortenBy_18 (nx := 19) rfl rfl ?_
      refine v_aload_n 1 dX5_shortenBy_19 (nx := 20) rfl rfl ?_
      refine t_get (a := 2) (p := 1) (T := TX1) dX5_shortenBy_20 (nx := 23) rfl (by decide) (by first | assumption | exact ok_2 ⟨by omega, by omega⟩) rfl rfl iU1 (by decide) fl_X5_59 rfl ?_
      refine t_callVi (a := 7) (c_X3_hasPoint hR _ (by first | assumption | exact hR.1 _ _ _ _ | exact ⟨by omega, by omega⟩)) dX5_shortenBy_23 (nx := 26) rfl kX3_hasPoint ml_X5_55 (by decide) (ok_m 7 rfl) rfl rfl rfl rfl (Nat.le_of_ble_eq_true rfl) ⟨by decide, by decide⟩ ⟨by decide, by decide⟩ ?_
      refine v_ifB_ne dX5_shortenBy_26 (tgt := 31) (by decide) (nx := 29) rfl (fun c26 => ?_) (fun c26 => ?_)
      · refine v_aload_n 0 dX5_shortenBy_31 (nx := 32) rfl rfl ?_
        refine t_get (a := 19) (p := 0) (T := TX5) dX5_shortenBy_32 (nx := 35) rfl (by decide) (ok_m 19 rfl) rfl rfl iU5 (by decide) fl_X5_11 rfl ?_
        refine v_iload_n 2 dX5_shortenBy_35 (nx := 36) rfl rfl ?_
        refine t_ldS dX5_shortenBy_36 (nx := 37) rfl ⟨by omega, by omega⟩ ?_
        refine v_aload_n 1 dX5_shortenBy_37 (nx := 38) rfl rfl ?_
        refine t_get (a := 2) (p := 1) (T := TX1) dX5_shortenBy_38 (nx := 41) rfl (by decide) (by first | assumption | exact ok_2 ⟨by omega, by omega⟩) rfl rfl iU1 (by decide) fl_X5_59 rfl ?_
        refine t_aldL (a := 8) (L := 12) dX5_shortenBy_41 (nx := 42) rfl rfl (by first | assumption | exact ok_8 ⟨by omega, by omega⟩) rfl ⟨by omega, by omega⟩ ?_
        refine v_istore dX5_shortenBy_42 (nx := 44) rfl rfl (by decide) ?_
        refine v_aload_n 0 dX5_shortenBy_44 (nx := 45) rfl rfl ?_
        refine t_get (a := 19) (p := 0) (T := TX5) dX5_shortenBy_45 (nx := 48) rfl (by decide) (ok_m 19 rfl) rfl rfl iU5 (by decide) fl_X5_11 rfl ?_
        refine v_iload_n 2 dX5_shortenBy_48 (nx := 49) rfl rfl ?_
        refine t_ldS dX5_shortenBy_49 (nx := 50) rfl ⟨by omega, by omega⟩ ?_
        refine v_aload_n 1 dX5_shortenBy_50 (nx := 51) rfl rfl ?_
        refine t_get (a := 2) (p := 0) (T := TX1) dX5_shortenBy_51 (nx := 54) rfl (by decide) (by first | assumption | exact ok_2 ⟨by omega, by omega⟩) rfl rfl iU1 (by decide) fl_X5_52 rfl ?_
        refine t_aldL (a := 8) (L := 12) dX5_shortenBy_54 (nx := 55) rfl rfl (by first | assumption | exact ok_8 ⟨by omega, by omega⟩) rfl ⟨by omega, by omega⟩ ?_
        refine v_istore dX5_shortenBy_55 (nx := 57) rfl rfl (by decide) ?_
        refine v_iload 4 dX5_shortenBy_57 (nx := 59) rfl rfl ?_
        refine v_iconst dX5_shortenBy_59 (nx := 60) rfl ?_
        refine v_icmp_eq dX5_shortenBy_60 (tgt := 81) (by decide) (nx := 63) rfl (by first | assumption | exact hR.1 _ _ _ _ | exact ⟨by omega, by omega⟩) (by first | assumption | exact hR.1 _ _ _ _ | exact ⟨by omega, by omega⟩) (fun c60 => ?_) (fun c60 => ?_)
        · refine v_iconst dX5_shortenBy_81 (nx := 82) rfl ?_
          exact t_zret dX5_shortenBy_82 rfl (by first | exact Or.inl rfl | exact Or.inr rfl | assumption) (by first | (exfalso; omega) | exact ⟨by rw [if_pos (by omega)], by rw [if_pos (by omega), up_sK]⟩ | exact ⟨by rw [if_neg (by omega)], by rw [if_neg (by omega), sK_id]⟩)
        · refine v_iload 5 dX5_shortenBy_63 (nx := 65) rfl rfl ?_
          refine v_iconst dX5_shortenBy_65 (nx := 66) rfl ?_
          refine v_icmp_eq dX5_shortenBy_66 (tgt := 83) (by decide) (nx := 69) rfl (by first | assumption | exact hR.1 _ _ _ _ | exact ⟨by omega, by omega⟩) (by first | assumption | exact hR.1 _ _ _ _ | exact ⟨by omega, by omega⟩) (fun c66 => ?_) (fun c66 => ?_)
          · refine v_aload_n 0 dX5_shortenBy_83 (nx := 84) rfl rfl ?_
            refine t_get (a := 19) (p := 0) (T := TX5) dX5_shortenBy_84 (nx := 87) rfl (by decide) (ok_m 19 rfl) rfl rfl iU5 (by decide) fl_X5_11 rfl ?_
            refine v_iload_n 2 dX5_shortenBy_87 (nx := 88) rfl rfl ?_
            refine t_ldS dX5_shortenBy_88 (nx := 89) rfl ⟨by omega, by omega⟩ ?_
            refine v_aload_n 1 dX5_shortenBy_89 (nx := 90) rfl rfl ?_
            refine t_get (a := 2) (p := 0) (T := TX1) dX5_shortenBy_90 (nx := 93) rfl (by decide) (by first | assumption | exact ok_2 ⟨by omega, by omega⟩) rfl rfl iU1 (by decide) fl_X5_52 rfl ?_
            refine v_aload_n 1 dX5_shortenBy_93 (nx := 94) rfl rfl ?_
            refine t_get (a := 2) (p := 2) (T := TX1) dX5_shortenBy_94 (nx := 97) rfl (by decide) (by first | assumption | exact ok_2 ⟨by omega, by omega⟩) rfl rfl iU1 (by decide) fl_X5_62 rfl ?_
            refine v_iload 4 dX5_shortenBy_97 (nx := 99) rfl rfl ?_
            refine v_iadd dX5_shortenBy_99 (nx := 100) rfl ?_
            refine t_astL (a := 8) (L := 12) dX5_shortenBy_100 (nx := 101) rfl rfl (by first | assumption | exact ok_8 ⟨by omega, by omega⟩) rfl ⟨by omega, by omega⟩ ?_
            refine v_iconst dX5_shortenBy_101 (nx := 102) rfl ?_
            exact t_zret dX5_shortenBy_102 rfl (by first | exact Or.inl rfl | exact Or.inr rfl | assumption) (by first | (exfalso; omega) | exact ⟨by rw [if_pos (by omega)], by rw [if_pos (by omega), up_sK]⟩ | exact ⟨by rw [if_neg (by omega)], by rw [if_neg (by omega), sK_id]⟩)
          · refine v_iload 5 dX5_shortenBy_69 (nx := 71) rfl rfl ?_
            refine v_aload_n 1 dX5_shortenBy_71 (nx := 72) rfl rfl ?_
            refine t_get (a := 2) (p := 2) (T := TX1) dX5_shortenBy_72 (nx := 75) rfl (by decide) (by first | assumption | exact ok_2 ⟨by omega, by omega⟩) rfl rfl iU1 (by decide) fl_X5_62 rfl ?_
            refine v_iload 4 dX5_shortenBy_75 (nx := 77) rfl rfl ?_
            refine v_iadd dX5_shortenBy_77 (nx := 78) rfl ?_
            refine v_icmp_gt dX5_shortenBy_78 (tgt := 83) (by decide) (nx := 81) rfl (by first | assumption | exact hR.1 _ _ _ _ | exact ⟨by omega, by omega⟩) (by first | assumption | exact hR.1 _ _ _ _ | exact ⟨by omega, by omega⟩) (fun c78 => ?_) (fun c78 => ?_)
            · refine v_aload_n 0 dX5_shortenBy_83 (nx := 84) rfl rfl ?_
              refine t_get (a := 19) (p := 0) (T := TX5) dX5_shortenBy_84 (nx := 87) rfl (by decide) (ok_m 19 rfl) rfl rfl iU5 (by decide) fl_X5_11 rfl ?_
              refine v_iload_n 2 dX5_shortenBy_87 (nx := 88) rfl rfl ?_
              refine t_ldS dX5_shortenBy_88 (nx := 89) rfl ⟨by omega, by omega⟩ ?_
              refine v_aload_n 1 dX5_shortenBy_89 (nx := 90) rfl rfl ?_
              refine t_get (a := 2) (p := 0) (T := TX1) dX5_shortenBy_90 (nx := 93) rfl (by decide) (by first | assumption | exact ok_2 ⟨by omega, by omega⟩) rfl rfl iU1 (by decide) fl_X5_52 rfl ?_
              refine v_aload_n 1 dX5_shortenBy_93 (nx := 94) rfl rfl ?_
              refine t_get (a := 2) (p := 2) (T := TX1) dX5_shortenBy_94 (nx := 97) rfl (by decide) (by first | assumption | exact ok_2 ⟨by omega, by omega⟩) rfl rfl iU1 (by decide) fl_X5_62 rfl ?_
              refine v_iload 4 dX5_shortenBy_97 (nx := 99) rfl rfl ?_
              refine v_iadd dX5_shortenBy_99 (nx := 100) rfl ?_
              refine t_astL (a := 8) (L := 12) dX5_shortenBy_100 (nx := 101) rfl rfl (by first | assumption | exact ok_8 ⟨by omega, by omega⟩) rfl ⟨by omega, by omega⟩ ?_
              refine v_iconst dX5_shortenBy_101 (nx := 102) rfl ?_
              exact t_zret dX5_shortenBy_102 rfl (by first | exact Or.inl rfl | exact Or.inr rfl | assumption) (by first | (exfalso; omega) | exact ⟨by rw [if_pos (by omega)], by rw [if_pos (by omega), up_sK]⟩ | exact ⟨by rw [if_neg (by omega)], by rw [if_neg (by omega), sK_id]⟩)
            · refine v_iconst dX5_shortenBy_81 (nx := 82) rfl ?_
              exact t_zret dX5_shortenBy_82 rfl (by first | exact Or.inl rfl | exact Or.inr rfl | assumption) (by first | (exfalso; omega) | exact ⟨by rw [if_pos (by omega)], by rw [if_pos (by omega), up_sK]⟩ | exact ⟨by rw [if_neg (by omega)], by rw [if_neg (by omega), sK_id]⟩)
      · refine v_iconst dX5_shortenBy_29 (nx := 30) rfl ?_
        exact t_zret dX5_shortenBy_30 rfl (by first | exact Or.inl rfl | exact Or.inr rfl | assumption) (by first | (exfalso; omega) | exact ⟨by rw [if_pos (by omega)], by rw [if_pos (by omega), up_sK]⟩ | exact ⟨by rw [if_neg (by omega)], by rw [if_neg (by omega), sK_id]⟩)

theorem RG_sK {σ : SS} {a : Nat} {i : Int} {C : NN} (h : RG σ) (hC : ∀ j, inR (C j)) (hb : a ≠ 2 ∧ a ≠ 5 := by decide) : RG (sK σ a i C) := by
  refine ⟨fun a' t' i' j' => ?_, fun a' t' i' j' q => ?_⟩
  · unfold sK
    split
    · exact hC _
    · exact h.1 _ _ _ _
  · unfold sK
    split
    · next z => unfold isB at q; omega
    · exact h.2 _ _ _ _ q
/-- what a look at a belt does to the table's row, and to FAR -/
theorem rlx_row {N : NN} {kk ch b : Int} {r : Nat} {A : NN} (hI : IV N kk) (hc : 0 ≤ ch ∧ ch < N 0) (hk : N (8 + ch) = 5) (hb : 0 ≤ b ∧ b < N 1) (hA : ∀ p, 0 ≤ p → p < 12 → A p = rnd N ch (farI N ch r) b.toNat p) :
    (∀ p, 0 ≤ p → p < 12 → (if N (116 + b) = 0 ∧ ¬ A (N (84 + b)) = -1 ∧ (A (N (68 + b)) = -1 ∨ N (100 + b) + A (N (84 + b)) < A (N (68 + b))) then uI A (N (68 + b)) (N (100 + b) + A (N (84 + b))) else A) p = rnd N ch (farI N ch r) (b + 1).toNat p) ∧
    ((N (116 + b) = 0 ∧ ¬ A (N (84 + b)) = -1 ∧ (A (N (68 + b)) = -1 ∨ N (100 + b) + A (N (84 + b)) < A (N (68 + b)))) ∨ rnd N ch (farI N ch r) (b + 1).toNat = rnd N ch (farI N ch r) b.toNat) := by
  have ho := hI.okF hc.1 hc.2
  obtain ⟨b0, b1, b2, b3, b4, b5⟩ := hI.n
  obtain ⟨q1, q2, q3, q4, q5, q6, q7⟩ := hI.b hb.1 hb.2
  have hsg := rnd_sg ho (farI_sg ho r) b.toNat (by omega)
  have hch := rnd_ch hI hc r b.toNat (by omega)
  have hAt := hA (N (84 + b)) (by omega) (by omega)
  have hAf := hA (N (68 + b)) (by omega) (by omega)
  rw [rnd_s hb.1]
  generalize rnd N ch (farI N ch r) b.toNat = B at hsg hch hA hAt hAf
  have st := hsg (N (84 + b))
  have sf := hsg (N (68 + b))
  by_cases hc : N (116 + b) = 0 ∧ ¬ A (N (84 + b)) = -1 ∧ (A (N (68 + b)) = -1 ∨ N (100 + b) + A (N (84 + b)) < A (N (68 + b)))
  · refine ⟨fun p p0 p1 => ?_, Or.inl hc⟩
    rw [if_pos hc]
    have hl : N (84 + b) = ch ∨ (N (8 + N (84 + b)) ≠ 0 ∧ N (8 + N (84 + b)) ≠ 5) := by
      by_cases e : N (84 + b) = ch
      · exact Or.inl e
      · refine Or.inr ⟨q7, fun q => ?_⟩
        have := hch _ q e
        omega
    unfold rlx
    rw [if_neg (by intro q; rcases q with q | q | q; omega; exact q hl; omega), if_pos (by omega), hAt]
    by_cases e : p = N (68 + b)
    · rw [e, uI_s, uI_s]
    · rw [uI_n e, uI_n e]; exact hA p p0 p1
  · have e : rlx N ch B b = B := by
      unfold rlx
      by_cases h1 : N (116 + b) = 1 ∨ ¬ (N (84 + b) = ch ∨ (N (8 + N (84 + b)) ≠ 0 ∧ N (8 + N (84 + b)) ≠ 5)) ∨ B (N (84 + b)) < 0
      · rw [if_pos h1]
      · rw [if_neg h1]
        by_cases h2 : B (N (68 + b)) < 0 ∨ N (100 + b) + B (N (84 + b)) < B (N (68 + b))
        · exfalso
          exact hc ⟨by omega, by omega, by omega⟩
        · rw [if_neg h2]
    refine ⟨fun p p0 p1 => ?_, Or.inr e⟩
    rw [if_neg hc, e]
    exact hA p p0 p1

set_option maxRecDepth 100000 in
theorem l_X5_m3 {g : GG} {kp : Bool} {σ : SS} (hR : RG σ) {N : NN} {kk : Int} (hI : IV N kk) (hN : RHn σ 0 N) (hB : RHb σ 0 N) (ch : Int) (hc : 0 ≤ ch ∧ ch < N 0) (hk : N (8 + ch) = 5) (r : Nat) (hr : (r : Int) < N 0) (out : ∀ (C2 : NN) (sh : Int), (∀ p, 0 ≤ p → p < 12 → C2 p = farI N ch (r + 1) p) → (∀ j, inR (C2 j) ∧ C2 j ≤ 1000000) → ((sh = 0 ∧ stF N ch (farI N ch r)) ∨ sh = 1) → V g (rmD 2 0 0) mX5_measureTo (ZT g kp (fun r τ => r = none ∧ ∃ C : NN, (∀ p, 0 ≤ p → p < 12 → C p = farS N ch p) ∧ (∀ j, inR (C j) ∧ C j ≤ 1000000) ∧ τ = sK σ 8 ch C)) E0 86 [(0, rf g (ad 19 0 0)), (1, vi ch), (2, rf g (ad 7 0 0)), (3, vi sh), (4, vi r)] [] (vw g kp (sK σ 8 ch C2)) (sz kp) 0 0) : ∀ (m : Nat) (x : Int) (sh : Int) (C : NN), (0 ≤ x ∧ x ≤ N 1) → (N 1 - x < m) → (∀ j, inR (C j) ∧ C j ≤ 1000000) → (∀ p, 0 ≤ p → p < 12 → C p = rnd N ch (farI N ch r) x.toNat p) → ((sh = 0 ∧ rnd N ch (farI N ch r) x.toNat = farI N ch r) ∨ sh = 1) → V g (rmD 2 0 0) mX5_measureTo (ZT g kp ((fun r τ => r = none ∧ ∃ C : NN, (∀ p, 0 ≤ p → p < 12 → C p = farS N ch p) ∧ (∀ j, inR (C j) ∧ C j ≤ 1000000) ∧ τ = sK σ 8 ch C))) E0 55 [(0, rf g (ad 19 0 0)), (1, vi ch), (2, rf g (ad 7 0 0)), (3, vi sh), (4, vi r), (5, vi x)] [] (vw g kp (sK σ 8 ch C)) (sz kp) 0 0 := by
  intro m
  induction m with
  | zero => intro x sh C hx hm hCb hC hsh; exfalso; omega
  | succ m ih =>
    intro x sh C hx hm hCb hC hsh
    obtain ⟨b0, b1, b2, b3, b4, b5⟩ := hI.n
    obtain ⟨n0, n1, n2, n3, n4⟩ := hN
    have hN1 : RHn (sK σ 8 ch C) 0 N := ⟨n0, n1, n2, n3, n4⟩
    have hB1 : RHb (sK σ 8 ch C) 0 N := fun b c0 c1 => hB b c0 c1
    have ho := hI.okF hc.1 hc.2
    refine v_iload 5 dX5_measureTo_55 (nx := 57) rfl rfl ?_
    refine v_aload_n 2 dX5_measureTo_57 (nx := 58) rfl rfl ?_
    refine t_get (a := 7) (p := 5) (T := TX3) (v := vi (σ 7 0 0 1)) dX5_measureTo_58 (nx := 61) rfl (by decide) (ok_m 7 rfl) rfl rfl iU3 (by decide) fl_X5_35 rfl ?_
    refine v_icmp_ge dX5_measureTo_61 (tgt := 86) (by decide) (nx := 64) rfl (by first | assumption | exact hR.1 _ _ _ _ | exact ⟨by omega, by omega⟩) (by first | assumption | exact hR.1 _ _ _ _ | exact ⟨by omega, by omega⟩) (fun c61 => ?_) (fun c61 => ?_)
    · exact V.lpick [0, 1, 2, 3, 4] rfl ((out _ _ (fun p p0 p1 => by rw [hC p p0 p1, show x = N 1 by omega]; rfl) hCb (by
    rcases hsh with ⟨h1, h2⟩ | h
    · exact Or.inl ⟨h1, rnd_fix ho (by rw [show x = N 1 by omega] at h2; exact h2)⟩
    · exact Or.inr h)))
    · refine v_iload_n 3 dX5_measureTo_64 (nx := 65) rfl rfl ?_
      refine v_aload_n 0 dX5_measureTo_65 (nx := 66) rfl rfl ?_
      refine v_aload_n 2 dX5_measureTo_66 (nx := 67) rfl rfl ?_
      refine t_get (a := 7) (p := 1) (T := TX3) dX5_measureTo_67 (nx := 70) rfl (by decide) (ok_m 7 rfl) rfl rfl iU3 (by decide) fl_X5_38 rfl ?_
      refine v_iload 5 dX5_measureTo_70 (nx := 72) rfl rfl ?_
      refine t_ldB dX5_measureTo_72 (nx := 73) rfl (ok_m 16 rfl) ⟨by omega, by omega⟩ ?_
      refine v_iload_n 1 dX5_measureTo_73 (nx := 74) rfl rfl ?_
      refine v_aload_n 2 dX5_measureTo_74 (nx := 75) rfl rfl ?_
      refine t_callVi (a := 19) ((by
    have := c_X5_shortenBy (g := g) (kp := kp) (σ := sK σ 8 ch C) (RG_sK hR (fun j => (hCb j).1)) hI hN1 hB1 x ch (by omega) (by omega) (fun p => by rw [sK_s]; exact (hCb p).2)
    rw [sK_s, sK_sK] at this
    exact this)) dX5_measureTo_75 (nx := 78) rfl kX5_shortenBy ml_X5_42 (by decide) (ok_m 19 rfl) rfl rfl rfl rfl (Nat.le_of_ble_eq_true rfl) ⟨by decide, by decide⟩ ⟨by decide, by decide⟩ ?_
      refine v_ior dX5_measureTo_78 (nx := 79) rfl ⟨by omega, if01⟩ ?_
      have hrr := rlx_row (r := r) hI hc hk (b := x) (by omega) hC
      have hbd2 := rnd_bd ho (farI_bd ho r) (x + 1).toNat (by omega)
      obtain ⟨qb1, qb2, qb3, -⟩ := hI.b (b := x) (by omega) (by omega)
      refine v_istore_n dX5_measureTo_79 (nx := 80) rfl rfl (by decide) ?_
      refine v_iinc 5 dX5_measureTo_80 (nx := 83) rfl rfl rfl (by decide) ?_
      refine v_goto dX5_measureTo_83 (tgt := 55) (by decide) ?_
      exact (ih _ _ _ ⟨by omega, by omega⟩ (by omega) (fun j => by
    have h1 := hCb j
    by_cases q : (N (116 + x) = 0 ∧ ¬ C (N (84 + x)) = -1 ∧ (C (N (68 + x)) = -1 ∨ N (100 + x) + C (N (84 + x)) < C (N (68 + x))))
    · rw [if_pos q]
      by_cases e : j = N (68 + x)
      · rw [e, uI_s]
        have h3 := hC (N (84 + x)) (by omega) (by omega)
        have h4 := bdF_132 (rnd_bd ho (farI_bd ho r) x.toNat (by omega)) (N (84 + x))
        have h5 := rnd_sg ho (farI_sg ho r) x.toNat (by omega) (N (84 + x))
        exact ⟨⟨by omega, by omega⟩, by omega⟩
      · rw [uI_n e]; exact h1
    · rw [if_neg q]; exact h1) hrr.1 (by
    by_cases q : (N (116 + x) = 0 ∧ ¬ C (N (84 + x)) = -1 ∧ (C (N (68 + x)) = -1 ∨ N (100 + x) + C (N (84 + x)) < C (N (68 + x))))
    · refine Or.inr (if_pos (Or.inr ?_))
      rw [if_pos q]
    · rcases hsh with ⟨h1, h2⟩ | h
      · refine Or.inl ⟨if_neg (by rw [if_neg q]; omega), ?_⟩
        rcases hrr.2 with h3 | h3
        · exact absurd h3 q
        · rw [h3, h2]
      · exact Or.inr (if_pos (Or.inl h))))

set_option maxRecDepth 100000 in
theorem l_X5_m2 {g : GG} {kp : Bool} {σ : SS} (hR : RG σ) {N : NN} {kk : Int} (hI : IV N kk) (hN : RHn σ 0 N) (hB : RHb σ 0 N) (ch : Int) (hc : 0 ≤ ch ∧ ch < N 0) (hk : N (8 + ch) = 5) : ∀ (m : Nat) (r : Nat) (sh : Int) (C : NN), ((r : Int) ≤ N 0) → (N 0 - (r : Int) < m) → (∀ j, inR (C j) ∧ C j ≤ 1000000) → (∀ p, 0 ≤ p → p < 12 → C p = farI N ch r p) → ((sh = 0 ∧ stF N ch (farI N ch r)) ∨ sh = 1) → V g (rmD 2 0 0) mX5_measureTo (ZT g kp ((fun r τ => r = none ∧ ∃ C : NN, (∀ p, 0 ≤ p → p < 12 → C p = farS N ch p) ∧ (∀ j, inR (C j) ∧ C j ≤ 1000000) ∧ τ = sK σ 8 ch C))) E0 37 [(0, rf g (ad 19 0 0)), (1, vi ch), (2, rf g (ad 7 0 0)), (3, vi sh), (4, vi r)] [] (vw g kp (sK σ 8 ch C)) (sz kp) 0 0 := by
  intro m
  induction m with
  | zero => intro r sh C hr hm hCb hC hsh; exfalso; omega
  | succ m ih =>
    intro r sh C hr hm hCb hC hsh
    obtain ⟨b0, b1, b2, b3, b4, b5⟩ := hI.n
    obtain ⟨n0, n1, n2, n3, n4⟩ := id hN
    have ho := hI.okF hc.1 hc.2
    refine v_iload 4 dX5_measureTo_37 (nx := 39) rfl rfl ?_
    refine v_aload_n 2 dX5_measureTo_39 (nx := 40) rfl rfl ?_
    refine t_get (a := 7) (p := 4) (T := TX3) (v := vi (σ 7 0 0 0)) dX5_measureTo_40 (nx := 43) rfl (by decide) (ok_m 7 rfl) rfl rfl iU3 (by decide) fl_X5_16 rfl ?_
    refine v_icmp_ge dX5_measureTo_43 (tgt := 92) (by decide) (nx := 46) rfl (by first | assumption | exact hR.1 _ _ _ _ | exact ⟨by omega, by omega⟩) (by first | assumption | exact hR.1 _ _ _ _ | exact ⟨by omega, by omega⟩) (fun c43 => ?_) (fun c43 => ?_)
    · exact t_ret dX5_measureTo_92 rfl ⟨rfl, C, fun p p0 p1 => by
      rw [hC p p0 p1]
      unfold farS
      rcases hsh with ⟨e1, e2⟩ | e
      · rw [far_more ho e2 (by omega)]
      · rw [← far_n hI hc, show r = (N 0).toNat by omega], hCb, rfl⟩
    · refine v_iload_n 3 dX5_measureTo_46 (nx := 47) rfl rfl ?_
      refine v_if_eq dX5_measureTo_47 (tgt := 92) (by decide) (nx := 50) rfl (by first | assumption | exact hR.1 _ _ _ _ | exact ⟨by omega, by omega⟩) (fun c47 => ?_) (fun c47 => ?_)
      · exact t_ret dX5_measureTo_92 rfl ⟨rfl, C, fun p p0 p1 => by
      rw [hC p p0 p1]
      unfold farS
      rcases hsh with ⟨e1, e2⟩ | e
      · rw [far_more ho e2 (by omega)]
      · rw [← far_n hI hc, show r = (N 0).toNat by omega], hCb, rfl⟩
      · refine v_iconst dX5_measureTo_50 (nx := 51) rfl ?_
        refine v_istore_n dX5_measureTo_51 (nx := 52) rfl rfl (by decide) ?_
        refine v_iconst dX5_measureTo_52 (nx := 53) rfl ?_
        refine v_istore dX5_measureTo_53 (nx := 55) rfl rfl (by decide) ?_
        exact (l_X5_m3 hR hI hN hB ch hc hk r (by omega) (fun C2 sh2 q1 q2 q3 => by
    refine v_iinc 4 dX5_measureTo_86 (nx := 89) rfl rfl rfl (by decide) ?_
    refine v_goto dX5_measureTo_89 (tgt := 37) (by decide) ?_
    rcases q3 with ⟨e1, e2⟩ | e
    · refine ih (r + 1) sh2 C2 (by omega) (by omega) q2 q1 (Or.inl ⟨e1, ?_⟩)
      rw [show farI N ch (r + 1) = farI N ch r from st_rnd e2 _ (N1_nat ho)]
      exact e2
    · exact ih (r + 1) sh2 C2 (by omega) (by omega) q2 q1 (Or.inr e)) (N 1 + 1).toNat 0 0 C ⟨by omega, by omega⟩ (by omega) hCb hC (Or.inl ⟨rfl, rfl⟩))

set_option maxRecDepth 100000 in
theorem l_X5_m1 {g : GG} {kp : Bool} {σ : SS} (hR : RG σ) {N : NN} {kk : Int} (hI : IV N kk) (hN : RHn σ 0 N) (hB : RHb σ 0 N) (ch : Int) (hc : 0 ≤ ch ∧ ch < N 0) (hk : N (8 + ch) = 5) : ∀ (m : Nat) (x : Int) (C : NN), (0 ≤ x ∧ x ≤ 12) → (12 - x < m) → (∀ j, inR (C j) ∧ C j ≤ 1000000) → (∀ p, 0 ≤ p → p < x → C p = far0 ch p) → V g (rmD 2 0 0) mX5_measureTo (ZT g kp ((fun r τ => r = none ∧ ∃ C : NN, (∀ p, 0 ≤ p → p < 12 → C p = farS N ch p) ∧ (∀ j, inR (C j) ∧ C j ≤ 1000000) ∧ τ = sK σ 8 ch C))) E0 2 [(0, rf g (ad 19 0 0)), (1, vi ch), (2, rf g (ad 7 0 0)), (3, vi x)] [] (vw g kp (sK σ 8 ch C)) (sz kp) 0 0 := by
  intro m
  induction m with
  | zero => intro x C hx hm hCb hC; exfalso; omega
  | succ m ih =>
    intro x C hx hm hCb hC
    obtain ⟨b0, b1, b2, b3, b4, b5⟩ := hI.n
    obtain ⟨n0, n1, n2, n3, n4⟩ := id hN
    refine v_iload_n 3 dX5_measureTo_2 (nx := 3) rfl rfl ?_
    refine v_bipush dX5_measureTo_3 (nx := 5) rfl rfl ?_
    refine v_icmp_ge dX5_measureTo_5 (tgt := 32) (by decide) (nx := 8) rfl (by first | assumption | exact hR.1 _ _ _ _ | exact ⟨by omega, by omega⟩) (by first | assumption | exact hR.1 _ _ _ _ | exact ⟨by omega, by omega⟩) (fun c5 => ?_) (fun c5 => ?_)
    · refine v_iconst dX5_measureTo_32 (nx := 33) rfl ?_
      refine v_istore_n dX5_measureTo_33 (nx := 34) rfl rfl (by decide) ?_
      refine v_iconst dX5_measureTo_34 (nx := 35) rfl ?_
      refine v_istore dX5_measureTo_35 (nx := 37) rfl rfl (by decide) ?_
      exact (l_X5_m2 hR hI hN hB ch hc hk (N 0 + 1).toNat 0 1 C (by omega) (by omega) hCb (fun p p0 p1 => hC p p0 (by omega)) (Or.inr rfl))
    · refine v_aload_n 0 dX5_measureTo_8 (nx := 9) rfl rfl ?_
      refine t_get (a := 19) (p := 0) (T := TX5) dX5_measureTo_9 (nx := 12) rfl (by decide) (ok_m 19 rfl) rfl rfl iU5 (by decide) fl_X5_11 rfl ?_
      refine v_iload_n 1 dX5_measureTo_12 (nx := 13) rfl rfl ?_
      refine t_ldS dX5_measureTo_13 (nx := 14) rfl ⟨by omega, by omega⟩ ?_
      refine v_iload_n 3 dX5_measureTo_14 (nx := 15) rfl rfl ?_
      refine v_iload_n 3 dX5_measureTo_15 (nx := 16) rfl rfl ?_
      refine v_iload_n 1 dX5_measureTo_16 (nx := 17) rfl rfl ?_
      refine v_icmp_ne dX5_measureTo_17 (tgt := 24) (by decide) (nx := 20) rfl (by first | assumption | exact hR.1 _ _ _ _ | exact ⟨by omega, by omega⟩) (by first | assumption | exact hR.1 _ _ _ _ | exact ⟨by omega, by omega⟩) (fun c17 => ?_) (fun c17 => ?_)
      · refine v_iconst dX5_measureTo_24 (nx := 25) rfl ?_
        refine t_astL (a := 8) (L := 12) dX5_measureTo_25 (nx := 26) rfl rfl (by first | assumption | exact ok_8 ⟨by omega, by omega⟩) rfl ⟨by omega, by omega⟩ ?_
        refine v_iinc 3 dX5_measureTo_26 (nx := 29) rfl rfl rfl (by decide) ?_
        refine v_goto dX5_measureTo_29 (tgt := 2) (by decide) ?_
        exact (by
    rw [sK_up]
    exact ih _ _ ⟨by omega, by omega⟩ (by omega) (fun j => by
      by_cases e : j = x
      · rw [e, uI_s]; exact ⟨⟨by decide, by decide⟩, by decide⟩
      · rw [uI_n e]; exact hCb j) (fun p p0 p1 => by
      by_cases e : p = x
      · rw [e, uI_s]; unfold far0; first | rw [if_pos (by omega)] | rw [if_neg (by omega)]
      · rw [uI_n e]; exact hC p p0 (by omega)))
      · refine v_iconst dX5_measureTo_20 (nx := 21) rfl ?_
        refine v_goto dX5_measureTo_21 (tgt := 25) (by decide) ?_
        refine t_astL (a := 8) (L := 12) dX5_measureTo_25 (nx := 26) rfl rfl (by first | assumption | exact ok_8 ⟨by omega, by omega⟩) rfl ⟨by omega, by omega⟩ ?_
        refine v_iinc 3 dX5_measureTo_26 (nx := 29) rfl rfl rfl (by decide) ?_
        refine v_goto dX5_measureTo_29 (tgt := 2) (by decide) ?_
        exact (by
    rw [sK_up]
    exact ih _ _ ⟨by omega, by omega⟩ (by omega) (fun j => by
      by_cases e : j = x
      · rw [e, uI_s]; exact ⟨⟨by decide, by decide⟩, by decide⟩
      · rw [uI_n e]; exact hCb j) (fun p p0 p1 => by
      by_cases e : p = x
      · rw [e, uI_s]; unfold far0; first | rw [if_pos (by omega)] | rw [if_neg (by omega)]
      · rw [uI_n e]; exact hC p p0 (by omega)))

set_option maxRecDepth 100000 in
theorem c_X5_measureTo {g : GG} {kp : Bool} {σ : SS} (hR : RG σ) {N : NN} {kk : Int} (hI : IV N kk) (hN : RHn σ 0 N) (hB : RHb σ 0 N) (ch : Int) (hc : 0 ≤ ch ∧ ch < N 0) (hk : N (8 + ch) = 5) (hS : ∀ j, σ 8 0 ch j ≤ 1000000) : TC g kp 2 mX5_measureTo [rf g (ad 19 0 0), vi ch, rf g (ad 7 0 0)] σ (fun r τ => r = none ∧ ∃ C : NN, (∀ p, 0 ≤ p → p < 12 → C p = farS N ch p) ∧ (∀ j, inR (C j) ∧ C j ≤ 1000000) ∧ τ = sK σ 8 ch C) := by
  refine TC.of (by decide) (Nat.le_of_ble_eq_true rfl) rfl ?_
  refine v_iconst dX5_measureTo_0 (nx := 1) rfl ?_
  refine v_istore_n dX5_measureTo_1 (nx := 2) rfl rfl (by decide) ?_
  exact (by
    have := l_X5_m1 (g := g) (kp := kp) hR hI hN hB ch hc hk 13 0 (σ 8 0 ch) ⟨by omega, by omega⟩ (by omega) (fun j => ⟨hR.1 _ _ _ _, hS j⟩) (fun p p0 p1 => by omega)
    rw [sK_id] at this
    exact this)

set_option maxRecDepth 100000 in
theorem l_X5_measure {g : GG} {kp : Bool} {σ : SS} (hR : RG σ) {N : NN} {kk : Int} (hI : IV N kk) (hN : RHn σ 0 N) (hB : RHb σ 0 N) (hP : RHp σ 0 N) : ∀ (m : Nat) (x : Int) (τ : SS), (0 ≤ x ∧ x ≤ N 0) → (N 0 - x < m) → (∀ (a : Nat) (t i : Int), a ≠ 8 → τ a t i = σ a t i) → (∀ ch, 0 ≤ ch → ch < x → N (8 + ch) = 5 → ∀ p, 0 ≤ p → p < 12 → τ 8 0 ch p = farS N ch p) → (RG τ) → (∀ i j, τ 8 0 i j ≤ 1000000) → V g (rmD 3 0 0) mX5_measure (ZT g kp ((fun r τ => r = none ∧ (∀ (a : Nat) (t i : Int), a ≠ 8 → τ a t i = σ a t i) ∧ SM τ N ∧ RG τ ∧ ∀ i j, τ 8 0 i j ≤ 1000000))) E0 2 [(0, rf g (ad 19 0 0)), (1, rf g (ad 7 0 0)), (2, vi x)] [] (vw g kp τ) (sz kp) 0 0 := by
  intro m
  induction m with
  | zero => intro x τ hx hm h8 hS hRt hS2; exfalso; omega
  | succ m ih =>
    intro x τ hx hm h8 hS hRt hS2
    obtain ⟨b0, b1, b2, b3, b4, b5⟩ := hI.n
    obtain ⟨n0, n1, n2, n3, n4⟩ := hN
    have m0 : τ 7 0 0 0 = N 0 := by rw [h8 7 0 0 (by decide)]; exact n0
    have hN1 : RHn τ 0 N := by unfold RHn; rw [h8 7 0 0 (by decide)]; exact ⟨n0, n1, n2, n3, n4⟩
    have hB1 : RHb τ 0 N := fun b c0 c1 => by rw [h8 2 0 b (by decide)]; exact hB b c0 c1
    refine v_iload_n 2 dX5_measure_2 (nx := 3) rfl rfl ?_
    refine v_aload_n 1 dX5_measure_3 (nx := 4) rfl rfl ?_
    refine t_get (a := 7) (p := 4) (T := TX3) dX5_measure_4 (nx := 7) rfl (by decide) (ok_m 7 rfl) rfl rfl iU3 (by decide) fl_X5_16 rfl ?_
    refine v_icmp_ge dX5_measure_7 (tgt := 35) (by decide) (nx := 10) rfl (by first | assumption | exact hRt.1 _ _ _ _ | exact ⟨by omega, by omega⟩) (by first | assumption | exact hRt.1 _ _ _ _ | exact ⟨by omega, by omega⟩) (fun c7 => ?_) (fun c7 => ?_)
    · exact t_ret dX5_measure_35 rfl ⟨rfl, h8, fun c c0 c1 => hS c c0 (by omega), hRt, hS2⟩
    · have hpx := (hP x (by omega) (by omega)).1
      have hkx : τ 0 0 x 0 = N (8 + x) := by rw [h8 0 0 x (by decide)]; exact hpx
      refine v_aload_n 1 dX5_measure_10 (nx := 11) rfl rfl ?_
      refine t_get (a := 7) (p := 0) (T := TX3) dX5_measure_11 (nx := 14) rfl (by decide) (ok_m 7 rfl) rfl rfl iU3 (by decide) fl_X5_22 rfl ?_
      refine v_iload_n 2 dX5_measure_14 (nx := 15) rfl rfl ?_
      refine t_ldP dX5_measure_15 (nx := 16) rfl (ok_m 15 rfl) ⟨by omega, by omega⟩ ?_
      refine t_get (a := 0) (p := 0) (T := TX4) dX5_measure_16 (nx := 19) rfl (by decide) (by first | assumption | exact ok_0 ⟨by omega, by omega⟩) rfl rfl iU4 (by decide) fl_X5_26 rfl ?_
      refine v_iconst dX5_measure_19 (nx := 20) rfl ?_
      refine v_icmp_ne dX5_measure_20 (tgt := 29) (by decide) (nx := 23) rfl (by first | assumption | exact hRt.1 _ _ _ _ | exact ⟨by omega, by omega⟩) (by first | assumption | exact hRt.1 _ _ _ _ | exact ⟨by omega, by omega⟩) (fun c20 => ?_) (fun c20 => ?_)
      · refine v_iinc 2 dX5_measure_29 (nx := 32) rfl rfl rfl (by decide) ?_
        refine v_goto dX5_measure_32 (tgt := 2) (by decide) ?_
        exact (ih _ _ ⟨by omega, by omega⟩ (by omega) h8 (fun c c0 c1 c2 p p0 p1 => by
    by_cases e : c = x
    · exfalso; rw [e] at c2; omega
    · exact hS c c0 (by omega) c2 p p0 p1) hRt hS2)
      · refine v_aload_n 0 dX5_measure_23 (nx := 24) rfl rfl ?_
        refine v_iload_n 2 dX5_measure_24 (nx := 25) rfl rfl ?_
        refine v_aload_n 1 dX5_measure_25 (nx := 26) rfl rfl ?_
        refine t_callVvQ (a := 19) (c_X5_measureTo hRt hI hN1 hB1 x (by omega) (by omega) (fun j => hS2 x j)) dX5_measure_26 (nx := 29) rfl kX5_measureTo ml_X5_31 (by decide) (ok_m 19 rfl) rfl rfl rfl rfl (Nat.le_of_ble_eq_true rfl) ⟨by decide, by decide⟩ ⟨by decide, by decide⟩ (fun τ hq => ?_)
        obtain ⟨C, hC, hCb, rfl⟩ := hq
        refine v_iinc 2 dX5_measure_29 (nx := 32) rfl rfl rfl (by decide) ?_
        refine v_goto dX5_measure_32 (tgt := 2) (by decide) ?_
        exact (ih _ _ ⟨by omega, by omega⟩ (by omega) (fun a t i ha => by rw [sK_n (Or.inl ha)]; exact h8 a t i ha) (fun c c0 c1 c2 p p0 p1 => by
    by_cases e : c = x
    · rw [e, sK_s]; exact hC p p0 p1
    · rw [sK_n (Or.inr (Or.inr e))]; exact hS c c0 (by omega) c2 p p0 p1) (RG_sK hRt (fun j => (hCb j).1)) (fun i j => by
    by_cases e : i = x
    · rw [e, sK_s]; exact (hCb j).2
    · rw [sK_n (Or.inr (Or.inr e))]; exact hS2 i j))

set_option maxRecDepth 100000 in
theorem c_X5_measure {g : GG} {kp : Bool} {σ : SS} (hR : RG σ) {N : NN} {kk : Int} (hI : IV N kk) (hN : RHn σ 0 N) (hB : RHb σ 0 N) (hP : RHp σ 0 N) (hS2 : ∀ i j, σ 8 0 i j ≤ 1000000) : TC g kp 3 mX5_measure [rf g (ad 19 0 0), rf g (ad 7 0 0)] σ (fun r τ => r = none ∧ (∀ (a : Nat) (t i : Int), a ≠ 8 → τ a t i = σ a t i) ∧ SM τ N ∧ RG τ ∧ ∀ i j, τ 8 0 i j ≤ 1000000) := by
  refine TC.of (by decide) (Nat.le_of_ble_eq_true rfl) rfl ?_
  obtain ⟨b0, b1, b2, b3, b4, b5⟩ := hI.n
  refine v_iconst dX5_measure_0 (nx := 1) rfl ?_
  refine v_istore_n dX5_measure_1 (nx := 2) rfl rfl (by decide) ?_
  exact (l_X5_measure hR hI hN hB hP (N 0 + 1).toNat 0 σ ⟨by omega, by omega⟩ (by omega) (fun _ _ _ _ => rfl) (fun c c0 c1 => by omega) hR hS2)

set_option maxRecDepth 100000 in
theorem l_X5_so {g : GG} {kp : Bool} {σ : SS} (hR : RG σ) {N : NN} {kk : Int} (hI : IV N kk) (hN : RHn σ 0 N) (hB : RHb σ 0 N) (p ch : Int) (hp : inR p) (hc : 0 ≤ ch ∧ ch < N 0) (hS : ∀ p, 0 ≤ p → p < 12 → σ 8 0 ch p = farS N ch p) : ∀ (m : Nat) (x : Int) (c : Int) (e : Int), (0 ≤ x ∧ x ≤ N 1) → (N 1 - x < m) → (c = mnI (fun b => decide (N (68 + b) = p ∧ N (116 + b) ≠ 1 ∧ 0 ≤ farS N ch (N (84 + b)))) (fun b => N (100 + b) + farS N ch (N (84 + b))) x) → (0 ≤ c → e = (fun b => N (100 + b) + farS N ch (N (84 + b))) c) → (inR e) → V g (rmD 1 0 0) mX5_shortestOutlet (ZT g kp (fun r τ => r = (some (vi (bestO N (farS N ch) p))) ∧ τ = σ)) E0 19 [(0, rf g (ad 19 0 0)), (1, rf g (ad 7 0 0)), (2, vi p), (3, vi ch), (4, vi c), (5, vi e), (6, vi x)] [] (vw g kp σ) (sz kp) 0 0 := by
  intro m
  induction m with
  | zero => intro x c e hx hm hcc he heR; exfalso; omega
  | succ m ih =>
    intro x c e hx hm hcc he heR
    obtain ⟨b0, b1, b2, b3, b4, b5⟩ := hI.n
    obtain ⟨n0, n1, n2, n3, n4⟩ := hN
    have hcb := mnI_b (P := (fun b => decide (N (68 + b) = p ∧ N (116 + b) ≠ 1 ∧ 0 ≤ farS N ch (N (84 + b))))) (K := (fun b => N (100 + b) + farS N ch (N (84 + b)))) hx.1
    rw [← hcc] at hcb
    have hok := hI.okF hc.1 hc.2
    refine v_iload 6 dX5_shortestOutlet_19 (nx := 21) rfl rfl ?_
    refine v_aload_n 1 dX5_shortestOutlet_21 (nx := 22) rfl rfl ?_
    refine t_get (a := 7) (p := 5) (T := TX3) dX5_shortestOutlet_22 (nx := 25) rfl (by decide) (ok_m 7 rfl) rfl rfl iU3 (by decide) fl_X5_35 rfl ?_
    refine v_icmp_ge dX5_shortestOutlet_25 (tgt := 125) (by decide) (nx := 28) rfl (by first | assumption | exact hR.1 _ _ _ _ | exact ⟨by omega, by omega⟩) (by first | assumption | exact hR.1 _ _ _ _ | exact ⟨by omega, by omega⟩) (fun c25 => ?_) (fun c25 => ?_)
    · refine v_iload 4 dX5_shortestOutlet_125 (nx := 127) rfl rfl ?_
      exact t_iret dX5_shortestOutlet_127 rfl ⟨by unfold bestO; rw [hcc, show x = N 1 by omega], rfl⟩
    · obtain ⟨d0, d1, d2, d3, d4⟩ := hB x (by omega) (by omega)
      obtain ⟨q1, q2, q3, q4, q5, q6⟩ := hI.b (b := x) (by omega) (by omega)
      have hFt := hS (N (84 + x)) (by omega) (by omega)
      rw [← d1] at hFt
      have hst := farI_sg hok 12 (N (84 + x))
      have hbt := bdF_132 (farI_bd hok 12) (N (84 + x))
      have e0 : farS N ch = farI N ch 12 := rfl
      rw [← e0] at hst hbt
      rw [← d1] at hst hbt
      refine v_aload_n 1 dX5_shortestOutlet_28 (nx := 29) rfl rfl ?_
      refine t_get (a := 7) (p := 1) (T := TX3) dX5_shortestOutlet_29 (nx := 32) rfl (by decide) (ok_m 7 rfl) rfl rfl iU3 (by decide) fl_X5_38 rfl ?_
      refine v_iload 6 dX5_shortestOutlet_32 (nx := 34) rfl rfl ?_
      refine t_ldB dX5_shortestOutlet_34 (nx := 35) rfl (ok_m 16 rfl) ⟨by omega, by omega⟩ ?_
      refine v_astore dX5_shortestOutlet_35 (nx := 37) rfl rfl (by decide) ?_
      refine v_aload 7 dX5_shortestOutlet_37 (nx := 39) rfl rfl ?_
      refine t_get (a := 2) (p := 0) (T := TX1) dX5_shortestOutlet_39 (nx := 42) rfl (by decide) (by first | assumption | exact ok_2 ⟨by omega, by omega⟩) rfl rfl iU1 (by decide) fl_X5_52 rfl ?_
      refine v_iload_n 2 dX5_shortestOutlet_42 (nx := 43) rfl rfl ?_
      refine v_icmp_ne dX5_shortestOutlet_43 (tgt := 119) (by decide) (nx := 46) rfl (by first | assumption | exact hR.1 _ _ _ _ | exact ⟨by omega, by omega⟩) (by first | assumption | exact hR.1 _ _ _ _ | exact ⟨by omega, by omega⟩) (fun c43 => ?_) (fun c43 => ?_)
      · refine v_iinc 6 dX5_shortestOutlet_119 (nx := 122) rfl rfl rfl (by decide) ?_
        refine v_goto dX5_shortestOutlet_122 (tgt := 19) (by decide) ?_
        exact V.lpick [0, 1, 2, 3, 4, 5, 6] rfl ((ih _ _ _ ⟨by omega, by omega⟩ (by omega) (mn_f hcc hx.1 (by first | exact Or.inl (decide_eq_false (by rw [← d1]; omega)) | exact Or.inr (by (try dsimp only); rw [← d1]; omega))) he heR))
      · refine v_aload 7 dX5_shortestOutlet_46 (nx := 48) rfl rfl ?_
        refine t_get (a := 2) (p := 4) (T := TX1) dX5_shortestOutlet_48 (nx := 51) rfl (by decide) (by first | assumption | exact ok_2 ⟨by omega, by omega⟩) rfl rfl iU1 (by decide) fl_X5_46 rfl ?_
        refine v_if_ne dX5_shortestOutlet_51 (tgt := 119) (by decide) (nx := 54) rfl (by first | assumption | exact hR.1 _ _ _ _ | exact ⟨by omega, by omega⟩) (fun c51 => ?_) (fun c51 => ?_)
        · refine v_iinc 6 dX5_shortestOutlet_119 (nx := 122) rfl rfl rfl (by decide) ?_
          refine v_goto dX5_shortestOutlet_122 (tgt := 19) (by decide) ?_
          exact V.lpick [0, 1, 2, 3, 4, 5, 6] rfl ((ih _ _ _ ⟨by omega, by omega⟩ (by omega) (mn_f hcc hx.1 (by first | exact Or.inl (decide_eq_false (by rw [← d1]; omega)) | exact Or.inr (by (try dsimp only); rw [← d1]; omega))) he heR))
        · refine v_aload_n 1 dX5_shortestOutlet_54 (nx := 55) rfl rfl ?_
          refine v_aload 7 dX5_shortestOutlet_55 (nx := 57) rfl rfl ?_
          refine t_get (a := 2) (p := 1) (T := TX1) dX5_shortestOutlet_57 (nx := 60) rfl (by decide) (by first | assumption | exact ok_2 ⟨by omega, by omega⟩) rfl rfl iU1 (by decide) fl_X5_59 rfl ?_
          refine t_callVi (a := 7) (c_X3_hasPoint hR _ (by first | assumption | exact hR.1 _ _ _ _ | exact ⟨by omega, by omega⟩)) dX5_shortestOutlet_60 (nx := 63) rfl kX3_hasPoint ml_X5_55 (by decide) (ok_m 7 rfl) rfl rfl rfl rfl (Nat.le_of_ble_eq_true rfl) ⟨by decide, by decide⟩ ⟨by decide, by decide⟩ ?_
          refine v_ifB_eq dX5_shortestOutlet_63 (tgt := 119) (by decide) (nx := 66) rfl (fun c63 => ?_) (fun c63 => ?_)
          · refine v_iinc 6 dX5_shortestOutlet_119 (nx := 122) rfl rfl rfl (by decide) ?_
            refine v_goto dX5_shortestOutlet_122 (tgt := 19) (by decide) ?_
            exact V.lpick [0, 1, 2, 3, 4, 5, 6] rfl ((ih _ _ _ ⟨by omega, by omega⟩ (by omega) (mn_f hcc hx.1 (by first | exact Or.inl (decide_eq_false (by rw [← d1]; omega)) | exact Or.inr (by (try dsimp only); rw [← d1]; omega))) he heR))
          · refine v_aload_n 0 dX5_shortestOutlet_66 (nx := 67) rfl rfl ?_
            refine t_get (a := 19) (p := 0) (T := TX5) dX5_shortestOutlet_67 (nx := 70) rfl (by decide) (ok_m 19 rfl) rfl rfl iU5 (by decide) fl_X5_11 rfl ?_
            refine v_iload_n 3 dX5_shortestOutlet_70 (nx := 71) rfl rfl ?_
            refine t_ldS dX5_shortestOutlet_71 (nx := 72) rfl ⟨by omega, by omega⟩ ?_
            refine v_aload 7 dX5_shortestOutlet_72 (nx := 74) rfl rfl ?_
            refine t_get (a := 2) (p := 1) (T := TX1) dX5_shortestOutlet_74 (nx := 77) rfl (by decide) (by first | assumption | exact ok_2 ⟨by omega, by omega⟩) rfl rfl iU1 (by decide) fl_X5_59 rfl ?_
            refine t_aldL (a := 8) (L := 12) dX5_shortestOutlet_77 (nx := 78) rfl rfl (by first | assumption | exact ok_8 ⟨by omega, by omega⟩) rfl ⟨by omega, by omega⟩ ?_
            refine v_istore dX5_shortestOutlet_78 (nx := 80) rfl rfl (by decide) ?_
            refine v_iload 8 dX5_shortestOutlet_80 (nx := 82) rfl rfl ?_
            refine v_iconst dX5_shortestOutlet_82 (nx := 83) rfl ?_
            refine v_icmp_eq dX5_shortestOutlet_83 (tgt := 119) (by decide) (nx := 86) rfl (by first | assumption | exact hR.1 _ _ _ _ | exact ⟨by omega, by omega⟩) (by first | assumption | exact hR.1 _ _ _ _ | exact ⟨by omega, by omega⟩) (fun c83 => ?_) (fun c83 => ?_)
            · refine v_iinc 6 dX5_shortestOutlet_119 (nx := 122) rfl rfl rfl (by decide) ?_
              refine v_goto dX5_shortestOutlet_122 (tgt := 19) (by decide) ?_
              exact V.lpick [0, 1, 2, 3, 4, 5, 6] rfl ((ih _ _ _ ⟨by omega, by omega⟩ (by omega) (mn_f hcc hx.1 (by first | exact Or.inl (decide_eq_false (by rw [← d1]; omega)) | exact Or.inr (by (try dsimp only); rw [← d1]; omega))) he heR))
            · refine v_iload 4 dX5_shortestOutlet_86 (nx := 88) rfl rfl ?_
              refine v_iconst dX5_shortestOutlet_88 (nx := 89) rfl ?_
              refine v_icmp_eq dX5_shortestOutlet_89 (tgt := 105) (by decide) (nx := 92) rfl (by first | assumption | exact hR.1 _ _ _ _ | exact ⟨by omega, by omega⟩) (by first | assumption | exact hR.1 _ _ _ _ | exact ⟨by omega, by omega⟩) (fun c89 => ?_) (fun c89 => ?_)
              · refine v_iload 6 dX5_shortestOutlet_105 (nx := 107) rfl rfl ?_
                refine v_istore dX5_shortestOutlet_107 (nx := 109) rfl rfl (by decide) ?_
                refine v_aload 7 dX5_shortestOutlet_109 (nx := 111) rfl rfl ?_
                refine t_get (a := 2) (p := 2) (T := TX1) dX5_shortestOutlet_111 (nx := 114) rfl (by decide) (by first | assumption | exact ok_2 ⟨by omega, by omega⟩) rfl rfl iU1 (by decide) fl_X5_62 rfl ?_
                refine v_iload 8 dX5_shortestOutlet_114 (nx := 116) rfl rfl ?_
                refine v_iadd dX5_shortestOutlet_116 (nx := 117) rfl ?_
                refine v_istore dX5_shortestOutlet_117 (nx := 119) rfl rfl (by decide) ?_
                refine v_iinc 6 dX5_shortestOutlet_119 (nx := 122) rfl rfl rfl (by decide) ?_
                refine v_goto dX5_shortestOutlet_122 (tgt := 19) (by decide) ?_
                exact V.lpick [0, 1, 2, 3, 4, 5, 6] rfl ((ih _ _ _ ⟨by omega, by omega⟩ (by omega) (mn_t hcc hx.1 (decide_eq_true (by rw [← d1]; omega)) (by (try dsimp only); rw [← d1]; omega)) (fun _ => by (try dsimp only); rw [← d1, ← d2, hFt]) ⟨by omega, by omega⟩))
              · have he1 := he (by omega)
                dsimp only at he1
                refine v_aload 7 dX5_shortestOutlet_92 (nx := 94) rfl rfl ?_
                refine t_get (a := 2) (p := 2) (T := TX1) dX5_shortestOutlet_94 (nx := 97) rfl (by decide) (by first | assumption | exact ok_2 ⟨by omega, by omega⟩) rfl rfl iU1 (by decide) fl_X5_62 rfl ?_
                refine v_iload 8 dX5_shortestOutlet_97 (nx := 99) rfl rfl ?_
                refine v_iadd dX5_shortestOutlet_99 (nx := 100) rfl ?_
                refine v_iload 5 dX5_shortestOutlet_100 (nx := 102) rfl rfl ?_
                refine v_icmp_ge dX5_shortestOutlet_102 (tgt := 119) (by decide) (nx := 105) rfl (by first | assumption | exact hR.1 _ _ _ _ | exact ⟨by omega, by omega⟩) (by first | assumption | exact hR.1 _ _ _ _ | exact ⟨by omega, by omega⟩) (fun c102 => ?_) (fun c102 => ?_)
                · refine v_iinc 6 dX5_shortestOutlet_119 (nx := 122) rfl rfl rfl (by decide) ?_
                  refine v_goto dX5_shortestOutlet_122 (tgt := 19) (by decide) ?_
                  exact V.lpick [0, 1, 2, 3, 4, 5, 6] rfl ((ih _ _ _ ⟨by omega, by omega⟩ (by omega) (mn_f hcc hx.1 (by first | exact Or.inl (decide_eq_false (by rw [← d1]; omega)) | exact Or.inr (by (try dsimp only); rw [← d1]; omega))) he heR))
                · refine v_iload 6 dX5_shortestOutlet_105 (nx := 107) rfl rfl ?_
                  refine v_istore dX5_shortestOutlet_107 (nx := 109) rfl rfl (by decide) ?_
                  refine v_aload 7 dX5_shortestOutlet_109 (nx := 111) rfl rfl ?_
                  refine t_get (a := 2) (p := 2) (T := TX1) dX5_shortestOutlet_111 (nx := 114) rfl (by decide) (by first | assumption | exact ok_2 ⟨by omega, by omega⟩) rfl rfl iU1 (by decide) fl_X5_62 rfl ?_
                  refine v_iload 8 dX5_shortestOutlet_114 (nx := 116) rfl rfl ?_
                  refine v_iadd dX5_shortestOutlet_116 (nx := 117) rfl ?_
                  refine v_istore dX5_shortestOutlet_117 (nx := 119) rfl rfl (by decide) ?_
                  refine v_iinc 6 dX5_shortestOutlet_119 (nx := 122) rfl rfl rfl (by decide) ?_
                  refine v_goto dX5_shortestOutlet_122 (tgt := 19) (by decide) ?_
                  exact V.lpick [0, 1, 2, 3, 4, 5, 6] rfl ((ih _ _ _ ⟨by omega, by omega⟩ (by omega) (mn_t hcc hx.1 (decide_eq_true (by rw [← d1]; omega)) (by (try dsimp only); rw [← d1]; omega)) (fun _ => by (try dsimp only); rw [← d1, ← d2, hFt]) ⟨by omega, by omega⟩))

set_option maxRecDepth 100000 in
theorem c_X5_shortestOutlet {g : GG} {kp : Bool} {σ : SS} (hR : RG σ) {N : NN} {kk : Int} (hI : IV N kk) (hN : RHn σ 0 N) (hB : RHb σ 0 N) (p ch : Int) (hp : inR p) (hc : 0 ≤ ch ∧ ch < N 0) (hS : ∀ p, 0 ≤ p → p < 12 → σ 8 0 ch p = farS N ch p) : XC g kp 1 mX5_shortestOutlet [rf g (ad 19 0 0), rf g (ad 7 0 0), vi p, vi ch] σ (some (vi (bestO N (farS N ch) p))) σ := by
  refine TC.of (by decide) (Nat.le_of_ble_eq_true rfl) rfl ?_
  obtain ⟨b0, b1, b2, b3, b4, b5⟩ := hI.n
  obtain ⟨n0, n1, n2, n3, n4⟩ := id hN
  refine v_aload_n 1 dX5_shortestOutlet_0 (nx := 1) rfl rfl ?_
  refine v_iload_n 3 dX5_shortestOutlet_1 (nx := 2) rfl rfl ?_
  refine t_callVi (a := 7) (c_X3_hasPoint hR _ (by first | assumption | exact hR.1 _ _ _ _ | exact ⟨by omega, by omega⟩)) dX5_shortestOutlet_2 (nx := 5) rfl kX3_hasPoint ml_X5_55 (by decide) (ok_m 7 rfl) rfl rfl rfl rfl (Nat.le_of_ble_eq_true rfl) ⟨by decide, by decide⟩ ⟨by decide, by decide⟩ ?_
  refine v_ifB_ne dX5_shortestOutlet_5 (tgt := 10) (by decide) (nx := 8) rfl (fun c5 => ?_) (fun c5 => ?_)
  · refine v_iconst dX5_shortestOutlet_10 (nx := 11) rfl ?_
    refine v_istore dX5_shortestOutlet_11 (nx := 13) rfl rfl (by decide) ?_
    refine v_iconst dX5_shortestOutlet_13 (nx := 14) rfl ?_
    refine v_istore dX5_shortestOutlet_14 (nx := 16) rfl rfl (by decide) ?_
    refine v_iconst dX5_shortestOutlet_16 (nx := 17) rfl ?_
    refine v_istore dX5_shortestOutlet_17 (nx := 19) rfl rfl (by decide) ?_
    exact (l_X5_so hR hI hN hB p ch hp hc hS (N 1 + 1).toNat 0 (-1) 0 ⟨by omega, by omega⟩ (by omega) rfl (fun q => by omega) ⟨by omega, by omega⟩)
  · refine v_iconst dX5_shortestOutlet_8 (nx := 9) rfl ?_
    exact t_iret dX5_shortestOutlet_9 rfl (by exfalso; omega)
