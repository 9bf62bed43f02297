theorem lm_8 {a : Nat} (h : 8 ≤ a) : lm a 12 16 8 60 1 = 0 := by
  unfold lm
  rw [if_neg (by omega), if_neg (by omega), if_neg (by omega), if_neg (by omega), if_neg (by omega)]
theorem hc_10 {σ : SS} {t t' t1 i : Int} {a : Nat} (h : 8 ≤ a) : hc σ t t' 12 16 8 60 1 a t1 i = σ a t1 i := by
  funext j
  refine if_neg (fun q => ?_)
  have := q.2.2.2
  rw [lm_8 h] at this
  omega
theorem z1_0 {σ : SS} {a : Nat} {i : Int} : z1 σ a 0 i = σ a 0 i := by
  funext j
  exact if_neg (fun q => absurd q.1 (by decide))
theorem z1_10 {σ : SS} {a : Nat} {t i : Int} (h : 10 ≤ a) (h2 : a < 15) : z1 σ a t i = σ a t i := by
  funext j
  exact if_neg (by omega)
theorem RG_z1 {σ : SS} (hR : RG σ) : RG (z1 σ) := by
  refine ⟨fun a t i j => ?_, fun a t i j q => ?_⟩
  · unfold z1
    split
    · exact ⟨by decide, by decide⟩
    · exact hR.1 _ _ _ _
  · unfold z1
    split
    · exact Or.inl rfl
    · exact hR.2 _ _ _ _ q
theorem LIx.mono {kp : Bool} {s : SS} {N K G F : NN} {k f n : Int} (h : LIx kp s N K G F k f n) : LIx kp s N K G F k f (n + 1) := by
  obtain ⟨hs, hR, hH, hS, h8, h9, hf, hJ, h45, hG, hkp⟩ := h
  refine ⟨hs, hR, hH, hS, h8, h9, ⟨hf.1, by omega⟩, hJ, ⟨by omega, by omega⟩, hG, ?_⟩
  rcases hkp with q | ⟨q1, q2, K0, q3, q4, q5, q6, q7⟩
  · exact Or.inl q
  · exact Or.inr ⟨q1, q2, K0, q3, q4, q5, by omega, by omega⟩

set_option maxRecDepth 100000 in
theorem lc_keep {g : GG} {b L : Nat} {xs : Nat → Int32} {kp : Bool} {s : SS} {N K G F : NN} {k f n i : Int} (hL : L ≤ 2048) (hi : 0 ≤ i ∧ i + 4 ≤ L) (hn : 0 ≤ n ∧ n ≤ 1000) (h : LIx kp s N K G F k f n) (kk : ∀ (kp' : Bool) (s' : SS) (N' K' G' F' : NN) (k' f' : Int), LIx kp' s' N' K' G' F' k' f' (n + 1) → V g room_1 mL lw_Z (EL g b L xs) 930 [(0, Value.ref b), (1, rf g (ad 9 0 0)), (2, rf g (ad 14 0 0)), (3, vi i)] [] (vw g kp' s') (sz kp') (caK kp') (slK kp')) : V g room_1 mL lw_Z (EL g b L xs) 904 [(0, Value.ref b), (1, rf g (ad 9 0 0)), (2, rf g (ad 14 0 0)), (3, vi i)] [] (vw g kp s) (sz kp) (caK kp) (slK kp) := by
  obtain ⟨kK, kF, kc⟩ := h.K
  obtain ⟨hs, hR, hH, hS, h8, h9, hf, hJ, h45, hG, hkp⟩ := id h
  have hI := hJ.1
  obtain ⟨b0, b1, b2, b3, b4, b5⟩ := hI.n
  have h9' : 0 ≤ s 9 0 0 0 ∧ s 9 0 0 0 ≤ 1000000 := by rw [h9]; omega
  have hcs := csK kp
  refine v_aload_n 1 dL_law_904 (nx := 905) rfl rfl ?_
  cases kp with
  | true =>
    refine t_callVi (a := 9) (c_X6_keepT hR) dL_law_905 (nx := 908) rfl kX6_keep ml_L_106 (by decide) (ok_m 9 rfl) rfl rfl rfl rfl (Nat.le_of_ble_eq_true rfl) ⟨by decide, by decide⟩ hcs ?_
    refine v_top (z' := N 4) hH.n.2.2.2.2 ?_
    refine V.eq (mk_of hs (fun a t i h1 h2 => hc_10 (by omega))) ?_
    refine v_aload_n 2 dL_law_908 (nx := 909) rfl rfl ?_
    refine t_callVi (a := 14) c_X7_keep dL_law_909 (nx := 912) rfl kX7_keep ml_L_110 (by decide) (ok_m 14 rfl) rfl rfl rfl rfl (Nat.le_of_ble_eq_true rfl) ⟨by decide, by decide⟩ hcs ?_
    refine v_same dL_law_912 (tgt := 930) (by decide) ?_
    exact kk true _ _ _ _ _ _ _ (h.keep (τ := hc s 1 0 12 16 8 60 1) (fun a i => by funext j; exact hc_o (by decide)) (RG_hc hR) (hH.copy hI) hn)
  | false =>
    refine v_callV (k := 0) (x := 0) (c_X6_keepF hR) dL_law_905 (nx := 908) rfl kX6_keep ml_L_106 (by decide) rfl rfl rfl rfl (Nat.le_of_ble_eq_true rfl) ⟨by decide, by decide⟩ ⟨by decide, by decide⟩ rfl (fun r φ' n' hq => ?_)
    obtain ⟨rfl, rfl, rfl⟩ := hq
    refine V.num (n' := sz true) (ca' := caK true) (sl' := slK true) rfl rfl rfl ?_
    have hcs := csK true
    refine v_top (z := s 7 0 0 4) (z' := N 4) hH.n.2.2.2.2 ?_
    refine V.eq (mk_of hs (fun a t i h1 h2 => by rw [hc_10 (by omega), z1_10 h1 h2])) ?_
    refine v_aload_n 2 dL_law_908 (nx := 909) rfl rfl ?_
    refine t_callVi (a := 14) c_X7_keep dL_law_909 (nx := 912) rfl kX7_keep ml_L_110 (by decide) (ok_m 14 rfl) rfl rfl rfl rfl (Nat.le_of_ble_eq_true rfl) ⟨by decide, by decide⟩ hcs ?_
    refine v_same dL_law_912 (tgt := 930) (by decide) ?_
    exact kk true _ _ _ _ _ _ _ (h.keep (τ := hc (z1 s) 1 0 12 16 8 60 1) (fun a i => by (funext j); rw [hc_o (by decide), z1_0]) (RG_hc (RG_z1 hR)) (RH.copy (hH.ot (fun a i _ => z1_0)) hI) hn)

set_option maxRecDepth 100000 in
theorem lc_back {g : GG} {b L : Nat} {xs : Nat → Int32} {kp : Bool} {s : SS} {N K G F : NN} {k f n i : Int} (hL : L ≤ 2048) (hi : 0 ≤ i ∧ i + 4 ≤ L) (hn : 0 ≤ n ∧ n ≤ 1000) (h : LIx kp s N K G F k f n) (kk : ∀ (kp' : Bool) (s' : SS) (N' K' G' F' : NN) (k' f' : Int), LIx kp' s' N' K' G' F' k' f' (n + 1) → V g room_1 mL lw_Z (EL g b L xs) 930 [(0, Value.ref b), (1, rf g (ad 9 0 0)), (2, rf g (ad 14 0 0)), (3, vi i)] [] (vw g kp' s') (sz kp') (caK kp') (slK kp')) : V g room_1 mL lw_Z (EL g b L xs) 917 [(0, Value.ref b), (1, rf g (ad 9 0 0)), (2, rf g (ad 14 0 0)), (3, vi i)] [] (vw g kp s) (sz kp) (caK kp) (slK kp) := by
  obtain ⟨kK, kF, kc⟩ := h.K
  obtain ⟨hs, hR, hH, hS, h8, h9, hf, hJ, h45, hG, hkp⟩ := id h
  have hI := hJ.1
  obtain ⟨b0, b1, b2, b3, b4, b5⟩ := hI.n
  have h9' : 0 ≤ s 9 0 0 0 ∧ s 9 0 0 0 ≤ 1000000 := by rw [h9]; omega
  have hcs := csK kp
  refine v_aload_n 1 dL_law_917 (nx := 918) rfl rfl ?_
  rcases hkp with ⟨q1, q2⟩ | ⟨q1, q2, K0, q3, q4, q5, q6, q7⟩
  · subst q1; subst q2
    refine t_callVi (a := 9) c_X6_backF dL_law_918 (nx := 921) rfl kX6_back ml_L_111 (by decide) (ok_m 9 rfl) rfl rfl rfl rfl (Nat.le_of_ble_eq_true rfl) ⟨by decide, by decide⟩ hcs ?_
    refine V.eq (mk_of hs (fun a t i h1 h2 => fd_o (by omega))) ?_
    refine v_aload_n 2 dL_law_921 (nx := 922) rfl rfl ?_
    refine t_callVi (a := 14) (z := -2) (τ := mkS (fd s 1) N K G F 0 (f + 1)) (by have q := c_X7_back (g := g) (kp := false) (σ := fd s 1) (N := N) (K := K) (G := G) (F := F) (k := 0) (f := f) (Or.inl rfl); rw [if_pos rfl, if_pos rfl, if_pos rfl] at q; exact q) dL_law_922 (nx := 925) rfl kX7_back ml_L_114 (by decide) (ok_m 14 rfl) rfl rfl rfl rfl (Nat.le_of_ble_eq_true rfl) ⟨by decide, by decide⟩ hcs ?_
    refine v_same dL_law_925 (tgt := 930) (by decide) ?_
    exact kk _ _ _ _ _ _ _ _ (h.step (τ := fd s 1) (M := N) (df := 1) (CR.f1 hR hH hS h8 h9' z01_1) z01_1 hJ (by omega) (by omega) hG kF hn)
  · subst q1; subst q2
    refine t_callViQ (a := 9) (c_X6_backT hR q3.1 q4 h8) dL_law_918 (nx := 921) rfl kX6_back ml_L_111 (by decide) (ok_m 9 rfl) rfl rfl rfl rfl (Nat.le_of_ble_eq_true rfl) ⟨by decide, by decide⟩ hcs (fun τ hC => ?_)
    refine v_top (z' := K 4) (q5 4 (by decide) (by decide)).symm ?_
    refine V.eq (mk_of hs (fun a t i h1 h2 => hC.2.2.2.2.2 a t i (Or.inl h1))) ?_
    refine v_aload_n 2 dL_law_921 (nx := 922) rfl rfl ?_
    refine t_callVi (a := 14) (z := K 4) (τ := mkS τ (cpy K N 4324) K G F 1 f) (by have q := c_X7_back (g := g) (kp := true) (σ := τ) (N := N) (K := K) (G := G) (F := F) (k := 1) (f := f) (Or.inr rfl); rw [if_neg (by decide), if_neg (by decide), if_neg (by decide)] at q; exact q) dL_law_922 (nx := 925) rfl kX7_back ml_L_114 (by decide) (ok_m 14 rfl) rfl rfl rfl rfl (Nat.le_of_ble_eq_true rfl) ⟨by decide, by decide⟩ hcs ?_
    refine v_same dL_law_925 (tgt := 930) (by decide) ?_
    have e : ∀ j, 0 ≤ j → j < 4324 → cpy K N 4324 j = K0 j := fun j j0 j1 => (if_pos ⟨j0, j1⟩).trans (q5 j j0 j1)
    have hr : ∀ j, inR (cpy K N 4324 j) := fun j => by
      unfold cpy
      split
      · exact kK j
      · exact hI.r j
    have q := h.step (hC.back q3.1 e) z01_0 (q3.cong e hr) (by rw [e 4 (by decide) (by decide)]; omega) (by rw [e 5 (by decide) (by decide)]; omega) hG kF hn
    rw [Int.add_zero] at q
    exact kk _ _ _ _ _ _ _ _ q

set_option maxRecDepth 100000 in
theorem law_loop {g : GG} {b L : Nat} {xs : Nat → Int32} (hL : L ≤ 2048) : ∀ (m : Nat) (kp : Bool) (s : SS) (N K G F : NN) (k f n i : Int), i = 4 * n → 0 ≤ n → i ≤ 3000 → (L : Int) + 8 - i < m → LIx kp s N K G F k f n → V g room_1 mL lw_Z (EL g b L xs) 18 [(0, Value.ref b), (1, rf g (ad 9 0 0)), (2, rf g (ad 14 0 0)), (3, vi i)] [] (vw g kp s) (sz kp) (caK kp) (slK kp) := by
  intro m
  induction m with
  | zero => 
    intro kp s N K G F k f n i hi hn h3 hm h
    refine v_iload_n 3 dL_law_18 (nx := 19) rfl rfl ?_
    refine v_lref 0 dL_law_19 (nx := 20) rfl rfl ?_
    refine v_slen dL_law_20 (nx := 21) rfl ?_
    refine v_iconst dL_law_21 (nx := 22) rfl ?_
    refine v_isub dL_law_22 (nx := 23) rfl ?_
    refine v_icmp_gt dL_law_23 (tgt := 936) (by decide) (nx := 26) rfl ⟨by omega, by omega⟩ ⟨by omega, by omega⟩ (fun c => ?_) (fun c => ?_)
    · refine v_iconst dL_law_936 (nx := 937) rfl ?_
      exact v_lend (csK kp)
    · exfalso; omega
  | succ m ih =>
    intro kp s N K G F k f n i hi hn h3 hm h
    refine v_iload_n 3 dL_law_18 (nx := 19) rfl rfl ?_
    refine v_lref 0 dL_law_19 (nx := 20) rfl rfl ?_
    refine v_slen dL_law_20 (nx := 21) rfl ?_
    refine v_iconst dL_law_21 (nx := 22) rfl ?_
    refine v_isub dL_law_22 (nx := 23) rfl ?_
    refine v_icmp_gt dL_law_23 (tgt := 936) (by decide) (nx := 26) rfl ⟨by omega, by omega⟩ ⟨by omega, by omega⟩ (fun c => ?_) (fun c => ?_)
    · refine v_iconst dL_law_936 (nx := 937) rfl ?_
      exact v_lend (csK kp)
    · have hib : 0 ≤ i ∧ i + 4 ≤ (L : Int) := by omega
      have hn2 : 0 ≤ n ∧ n ≤ 1000 := by omega
      have kk : ∀ (kp' : Bool) (s' : SS) (N' K' G' F' : NN) (k' f' : Int), LIx kp' s' N' K' G' F' k' f' (n + 1) → V g room_1 mL lw_Z (EL g b L xs) 930 [(0, Value.ref b), (1, rf g (ad 9 0 0)), (2, rf g (ad 14 0 0)), (3, vi i)] [] (vw g kp' s') (sz kp') (caK kp') (slK kp') := by
        intro kp' s' N' K' G' F' k' f' h'
        refine v_iinc 3 dL_law_930 (nx := 933) rfl rfl rfl (by decide) ?_
        refine v_goto dL_law_933 (tgt := 18) (by decide) ?_
        exact ih kp' s' N' K' G' F' k' f' (n + 1) (i + 4) (by omega) (by omega) (by omega) (by omega) h'
      refine v_lref 0 dL_law_26 (nx := 27) rfl rfl ?_
      refine v_iload_n 3 dL_law_27 (nx := 28) rfl rfl ?_
      refine v_sld dL_law_28 (nx := 29) rfl hL ⟨by omega, by omega⟩ ?_
      refine v_bipush dL_law_29 (nx := 31) rfl rfl ?_
      refine v_and31 dL_law_31 (nx := 32) rfl (fun w w0 w1 => ?_)
      by_cases e0 : w = 0
      · refine v_tabIn dL_law_32 (off := 112) ⟨by omega, by omega⟩ (by omega) (by omega) (by rw [e0]; rfl) (tgt := 144) (by decide) ?_
        exact lc_point hL hib hn2 h kk
      by_cases e1 : w = 1
      · refine v_tabIn dL_law_32 (off := 145) ⟨by omega, by omega⟩ (by omega) (by omega) (by rw [e1]; rfl) (tgt := 177) (by decide) ?_
        exact lc_belt hL hib hn2 h kk
      by_cases e2 : w = 2
      · refine v_tabIn dL_law_32 (off := 188) ⟨by omega, by omega⟩ (by omega) (by omega) (by rw [e2]; rfl) (tgt := 220) (by decide) ?_
        exact lc_as hL hib hn2 h kk
      by_cases e3 : w = 3
      · refine v_tabIn dL_law_32 (off := 221) ⟨by omega, by omega⟩ (by omega) (by omega) (by rw [e3]; rfl) (tgt := 253) (by decide) ?_
        exact lc_turns hL hib hn2 h kk
      by_cases e4 : w = 4
      · refine v_tabIn dL_law_32 (off := 254) ⟨by omega, by omega⟩ (by omega) (by omega) (by rw [e4]; rfl) (tgt := 286) (by decide) ?_
        exact lc_flight hL hib hn2 h kk
      by_cases e5 : w = 5
      · refine v_tabIn dL_law_32 (off := 297) ⟨by omega, by omega⟩ (by omega) (by omega) (by rw [e5]; rfl) (tgt := 329) (by decide) ?_
        exact lc_fall hL hib hn2 h kk
      by_cases e6 : w = 6
      · refine v_tabIn dL_law_32 (off := 346) ⟨by omega, by omega⟩ (by omega) (by omega) (by rw [e6]; rfl) (tgt := 378) (by decide) ?_
        exact lc_bag hL hib hn2 h kk
      by_cases e7 : w = 7
      · refine v_tabIn dL_law_32 (off := 405) ⟨by omega, by omega⟩ (by omega) (by omega) (by rw [e7]; rfl) (tgt := 437) (by decide) ?_
        exact lc_take hL hib hn2 h kk
      by_cases e8 : w = 8
      · refine v_tabIn dL_law_32 (off := 428) ⟨by omega, by omega⟩ (by omega) (by omega) (by rw [e8]; rfl) (tgt := 460) (by decide) ?_
        exact lc_give hL hib hn2 h kk
      by_cases e9 : w = 9
      · refine v_tabIn dL_law_32 (off := 487) ⟨by omega, by omega⟩ (by omega) (by omega) (by rw [e9]; rfl) (tgt := 519) (by decide) ?_
        exact lc_where hL hib hn2 h kk
      by_cases e10 : w = 10
      · refine v_tabIn dL_law_32 (off := 510) ⟨by omega, by omega⟩ (by omega) (by omega) (by rw [e10]; rfl) (tgt := 542) (by decide) ?_
        exact lc_place hL hib hn2 h kk
      by_cases e11 : w = 11
      · refine v_tabIn dL_law_32 (off := 533) ⟨by omega, by omega⟩ (by omega) (by omega) (by rw [e11]; rfl) (tgt := 565) (by decide) ?_
        exact lc_detail hL hib hn2 h kk
      by_cases e12 : w = 12
      · refine v_tabIn dL_law_32 (off := 556) ⟨by omega, by omega⟩ (by omega) (by omega) (by rw [e12]; rfl) (tgt := 588) (by decide) ?_
        exact lc_steps hL hib hn2 h kk
      by_cases e13 : w = 13
      · refine v_tabIn dL_law_32 (off := 579) ⟨by omega, by omega⟩ (by omega) (by omega) (by rw [e13]; rfl) (tgt := 611) (by decide) ?_
        exact lc_step hL hib hn2 h kk
      by_cases e14 : w = 14
      · refine v_tabIn dL_law_32 (off := 638) ⟨by omega, by omega⟩ (by omega) (by omega) (by rw [e14]; rfl) (tgt := 670) (by decide) ?_
        exact lc_tick hL hib hn2 h kk
      by_cases e15 : w = 15
      · refine v_tabIn dL_law_32 (off := 661) ⟨by omega, by omega⟩ (by omega) (by omega) (by rw [e15]; rfl) (tgt := 693) (by decide) ?_
        exact lc_cell hL hib hn2 h kk
      by_cases e16 : w = 16
      · refine v_tabIn dL_law_32 (off := 694) ⟨by omega, by omega⟩ (by omega) (by omega) (by rw [e16]; rfl) (tgt := 726) (by decide) ?_
        exact lc_holds hL hib hn2 h kk
      by_cases e17 : w = 17
      · refine v_tabIn dL_law_32 (off := 717) ⟨by omega, by omega⟩ (by omega) (by omega) (by rw [e17]; rfl) (tgt := 749) (by decide) ?_
        exact lc_list hL hib hn2 h kk
      by_cases e18 : w = 18
      · refine v_tabIn dL_law_32 (off := 750) ⟨by omega, by omega⟩ (by omega) (by omega) (by rw [e18]; rfl) (tgt := 782) (by decide) ?_
        exact lc_far hL hib hn2 h kk
      by_cases e19 : w = 19
      · refine v_tabIn dL_law_32 (off := 783) ⟨by omega, by omega⟩ (by omega) (by omega) (by rw [e19]; rfl) (tgt := 815) (by decide) ?_
        exact lc_route hL hib hn2 h kk
      by_cases e20 : w = 20
      · refine v_tabIn dL_law_32 (off := 816) ⟨by omega, by omega⟩ (by omega) (by omega) (by rw [e20]; rfl) (tgt := 848) (by decide) ?_
        exact lc_flown hL hib hn2 h kk
      by_cases e21 : w = 21
      · refine v_tabIn dL_law_32 (off := 849) ⟨by omega, by omega⟩ (by omega) (by omega) (by rw [e21]; rfl) (tgt := 881) (by decide) ?_
        exact lc_count hL hib hn2 h kk
      by_cases e22 : w = 22
      · refine v_tabIn dL_law_32 (off := 872) ⟨by omega, by omega⟩ (by omega) (by omega) (by rw [e22]; rfl) (tgt := 904) (by decide) ?_
        exact lc_keep hL hib hn2 h kk
      by_cases e23 : w = 23
      · refine v_tabIn dL_law_32 (off := 885) ⟨by omega, by omega⟩ (by omega) (by omega) (by rw [e23]; rfl) (tgt := 917) (by decide) ?_
        exact lc_back hL hib hn2 h kk
      refine v_tabOut dL_law_32 ⟨by omega, by omega⟩ (by omega) (tgt := 930) (by decide) ?_
      exact kk _ _ _ _ _ _ _ _ h.mono
