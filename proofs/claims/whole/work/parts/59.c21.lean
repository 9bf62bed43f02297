theorem uI_com {A : NN} {x y v w : Int} (h : x ≠ y) : uI (uI A x v) y w = uI (uI A y w) x v := by
  funext j
  unfold uI
  by_cases h1 : j = y
  · rw [if_pos h1, if_neg (by omega), if_pos h1]
  · rw [if_neg h1]
    by_cases h2 : j = x
    · rw [if_pos h2, if_pos h2]
    · rw [if_neg h2, if_neg h2, if_neg h1]
theorem goes_com {C : NN} {g p x v : Int} (hx : x < 664) (h4 : x ≠ 4) (hg : 0 ≤ g) (hs : 0 ≤ C (664 + g)) : goesN (uI C x v) g p = uI (goesN C g p) x v := by
  unfold goesN
  rw [uI_n (show 664 + g ≠ x by omega), uI_n (show (4 : Int) ≠ x by omega)]
  split
  · rw [uI_com (A := C) (show x ≠ 724 + 30 * g + C (664 + g) by omega), uI_com (A := uI C (724 + 30 * g + C (664 + g)) p) (show x ≠ 2524 + 30 * g + C (664 + g) by omega), uI_com (show x ≠ 664 + g by omega)]
  · rw [uI_com (show x ≠ 664 + g by omega)]
theorem tk_com {A G : NN} {k p b v : Int} (hI : IV A k) (hp : 0 ≤ p ∧ p < A 0) (hb : 0 ≤ b ∧ b < A 1) (hr : 0 ≤ rdyN A G b) : tkN (uI A (56 + p) v) G b p 2 = uI (tkN A G b p 2) (56 + p) v := by
  obtain ⟨b0, b1, b2, b3, b4, b5⟩ := hI.n
  obtain ⟨-, -, l, -⟩ := hI.b hb.1 hb.2
  obtain ⟨r0, -⟩ := rdy_v hI hb hr
  have gs := (hI.g r0.1 r0.2).2.2.1
  rw [tkN_eq, tkN_eq, rdy_eq (M := A) (fun j j0 j1 => uI_n (by omega)) ⟨by omega, by omega⟩ l]
  generalize rdyN A G b = g at r0 gs ⊢
  have ec : tkC (uI A (56 + p) v) b g p 2 = uI (tkC A b g p 2) (56 + p) v := by
    unfold tkC liesN
    rw [if_pos rfl, if_pos rfl, uI_n (show 100 + b ≠ 56 + p by omega), uI_n (show (4 : Int) ≠ 56 + p by omega)]
    rw [uI_com (A := A) (show 56 + p ≠ 148 + 12 * b + A (100 + b) - 1 by omega)]
    generalize uI A (148 + 12 * b + A (100 + b) - 1) 0 = B
    rw [uI_com (A := B) (show 56 + p ≠ 484 + g by omega)]
    generalize uI B (484 + g) 2 = B
    rw [uI_com (A := B) (show 56 + p ≠ 544 + g by omega)]
    generalize uI B (544 + g) p = B
    rw [uI_com (A := B) (show 56 + p ≠ 604 + g by omega)]
    generalize uI B (604 + g) (A 4) = B
    rw [uI_com (A := B) (show 56 + p ≠ 32 + p by omega)]
  rw [ec, goes_com (by omega) (by omega) r0.1 (by rw [tkC_e (by omega) (by omega) (by omega) (by omega) (by omega)]; exact gs.1)]
theorem up_id {σ : SS} {a : Nat} {t i j v : Int} (h : σ a t i j = v) : up σ a t i j v = σ := by
  funext a' t' i' j'
  unfold up
  split
  · next q => obtain ⟨rfl, rfl, rfl, rfl⟩ := q; exact h.symm
  · rfl
theorem TR_dec {σ τ : SS} {M G : NN} {k p v : Int} (h : TR σ τ M G) (hI : IV M k) (hp : 0 ≤ p ∧ p < M 0) (hk : M (8 + p) = 1) (hv : inR v) : TR σ (up τ 0 0 p 3 v) (uI M (56 + p) v) G := by
  obtain ⟨hH, hS, hR, h8, hF, h9, ho⟩ := h
  obtain ⟨b0, b1, b2, b3, b4, b5⟩ := hI.n
  have hRH := RH_set (h := M (44 + p)) (t := v) hI hH hp
  rw [uI_id, up_id ((hH.p p hp.1 hp.2).2.2 hk).1] at hRH
  refine ⟨hRH, SM.same hI hS rfl (uI_n (by omega)) (uI_n (by omega)) (fun j hj => uI_n (by omega)), RG_up hR hv, h8, fun x x0 x1 => ?_, h9, fun a t i q => ?_⟩
  · rw [uI_n (by omega)] at x1
    rw [uI_n (by omega)]
    exact hF x x0 x1
  · rw [up_o (by decide) (q.imp id (fun z => z.1))]
    exact ho a t i q
theorem whA_1 {N : NN} {p fl : Int} (h : N (8 + p) = 1) : whA N p fl = 2 := by
  unfold whA
  rw [if_neg (by omega), if_neg (by omega)]
theorem cnt_in {N : NN} {p n b : Int} (h0 : 0 ≤ b) (h1 : b < n) (h : N (84 + b) = p) : 0 < cntI (inl N p) n := by
  have := cnt_lt (P := fun _ => false) (Q := inl N p) (q := b) n.toNat h0 (by omega) rfl (decide_eq_true h) (fun _ _ _ q => by cases q)
  have hz := cnt_none (P := fun _ => false) n.toNat (fun _ _ _ => rfl)
  unfold cntI
  omega
theorem cnt_no {N : NN} {p n : Int} (h : ∀ b, 0 ≤ b → b < n → N (84 + b) ≠ p) : cntI (inl N p) n = 0 := cnt_none _ (fun x x0 x1 => decide_eq_false (h x x0 (by omega)))

set_option maxRecDepth 100000 in
theorem c_X6_receiveFrom0 {g : GG} {kp : Bool} {σ : SS} (hR : RG σ) (p : Int) : XC g kp 2 mX6_receiveFrom [rf g (ad 9 0 0), vi (-1), vi p] σ (some (vi (if (1 : Int) = 0 then 1 else 0))) σ := by
  refine TC.of (by decide) (Nat.le_of_ble_eq_true rfl) rfl ?_
  refine v_aload_n 0 dX6_receiveFrom_0 (nx := 1) rfl rfl ?_
  refine t_get (a := 9) (p := 0) (T := TX6) dX6_receiveFrom_1 (nx := 4) rfl (by decide) (ok_m 9 rfl) rfl rfl iU6 (by decide) fl_X6_10 rfl ?_
  refine v_iload_n 1 dX6_receiveFrom_4 (nx := 5) rfl rfl ?_
  refine t_callVi (a := 7) (c_X3_hasBelt hR _ (by first | assumption | exact hR.1 _ _ _ _ | exact ⟨by omega, by omega⟩)) dX6_receiveFrom_5 (nx := 8) rfl kX3_hasBelt ml_X6_85 (by decide) (ok_m 7 rfl) rfl rfl rfl rfl (Nat.le_of_ble_eq_true rfl) ⟨by decide, by decide⟩ ⟨by decide, by decide⟩ ?_
  refine v_ifB_ne dX6_receiveFrom_8 (tgt := 13) (by decide) (nx := 11) rfl (fun c8 => ?_) (fun c8 => ?_)
  · exfalso; omega
  · refine v_iconst dX6_receiveFrom_11 (nx := 12) rfl ?_
    exact t_zret dX6_receiveFrom_12 rfl (by first | exact Or.inl rfl | exact Or.inr rfl | assumption) ⟨rfl, rfl⟩

set_option maxRecDepth 100000 in
theorem c_X6_receiveByTurns0 {g : GG} {kp : Bool} {σ : SS} (hR : RG σ) {N : NN} {kk : Int} (hI : IV N kk) (hH : RH σ 0 N) (p : Int) (hp : 0 ≤ p ∧ p < N 0) (hk : N (8 + p) = 1) (h44 : N (44 + p) = 0) (hc : cntI (inl N p) (N 1) = 0) : XC g kp 3 mX6_receiveByTurns [rf g (ad 9 0 0), vi p] σ none σ := by
  refine TC.of (by decide) (Nat.le_of_ble_eq_true rfl) rfl ?_
  obtain ⟨b0, b1, b2, b3, b4, b5⟩ := hI.n
  obtain ⟨n0, n1, n2, n3, n4⟩ := hH.n
  obtain ⟨e0, e1, e2⟩ := hH.p p (by omega) (by omega)
  obtain ⟨y7, y8⟩ := e2 hk
  refine v_aload_n 0 dX6_receiveByTurns_0 (nx := 1) rfl rfl ?_
  refine t_get (a := 9) (p := 0) (T := TX6) dX6_receiveByTurns_1 (nx := 4) rfl (by decide) (ok_m 9 rfl) rfl rfl iU6 (by decide) fl_X6_10 rfl ?_
  refine t_get (a := 7) (p := 0) (T := TX3) dX6_receiveByTurns_4 (nx := 7) rfl (by decide) (ok_m 7 rfl) rfl rfl iU3 (by decide) fl_X6_45 rfl ?_
  refine v_iload_n 1 dX6_receiveByTurns_7 (nx := 8) rfl rfl ?_
  refine t_ldP dX6_receiveByTurns_8 (nx := 9) rfl (ok_m 15 rfl) ⟨by omega, by omega⟩ ?_
  refine v_astore_n dX6_receiveByTurns_9 (nx := 10) rfl rfl (by decide) ?_
  refine v_aload_n 0 dX6_receiveByTurns_10 (nx := 11) rfl rfl ?_
  refine t_get (a := 9) (p := 0) (T := TX6) dX6_receiveByTurns_11 (nx := 14) rfl (by decide) (ok_m 9 rfl) rfl rfl iU6 (by decide) fl_X6_10 rfl ?_
  refine v_iload_n 1 dX6_receiveByTurns_14 (nx := 15) rfl rfl ?_
  refine t_callVi (a := 7) (c_X3_inletsOf hR hI hH.n hH.b _ (by first | assumption | exact hR.1 _ _ _ _ | exact ⟨by omega, by omega⟩)) dX6_receiveByTurns_15 (nx := 18) rfl kX3_inletsOf ml_X6_291 (by decide) (ok_m 7 rfl) rfl rfl rfl rfl (Nat.le_of_ble_eq_true rfl) ⟨by decide, by decide⟩ ⟨by decide, by decide⟩ ?_
  refine v_top hc ?_
  refine v_istore_n dX6_receiveByTurns_18 (nx := 19) rfl rfl (by decide) ?_
  refine v_iconst dX6_receiveByTurns_19 (nx := 20) rfl ?_
  refine v_istore dX6_receiveByTurns_20 (nx := 22) rfl rfl (by decide) ?_
  refine v_iload 4 dX6_receiveByTurns_22 (nx := 24) rfl rfl ?_
  refine v_iload_n 3 dX6_receiveByTurns_24 (nx := 25) rfl rfl ?_
  refine v_icmp_gt dX6_receiveByTurns_25 (tgt := 74) (by decide) (nx := 28) rfl (by first | assumption | exact hR.1 _ _ _ _ | exact ⟨by omega, by omega⟩) (by first | assumption | exact hR.1 _ _ _ _ | exact ⟨by omega, by omega⟩) (fun c25 => ?_) (fun c25 => ?_)
  · exfalso; omega
  · refine v_iload 4 dX6_receiveByTurns_28 (nx := 30) rfl rfl ?_
    refine v_if_le dX6_receiveByTurns_30 (tgt := 38) (by decide) (nx := 33) rfl (by first | assumption | exact hR.1 _ _ _ _ | exact ⟨by omega, by omega⟩) (fun c30 => ?_) (fun c30 => ?_)
    · refine v_aload_n 2 dX6_receiveByTurns_38 (nx := 39) rfl rfl ?_
      refine t_get (a := 0) (p := 3) (T := TX4) dX6_receiveByTurns_39 (nx := 42) rfl (by decide) (by first | assumption | exact ok_0 ⟨by omega, by omega⟩) rfl rfl iU4 (by decide) fl_X6_297 rfl ?_
      refine v_if_le dX6_receiveByTurns_42 (tgt := 68) (by decide) (nx := 45) rfl (by first | assumption | exact hR.1 _ _ _ _ | exact ⟨by omega, by omega⟩) (fun c42 => ?_) (fun c42 => ?_)
      · refine v_iinc 4 dX6_receiveByTurns_68 (nx := 71) rfl rfl rfl (by decide) ?_
        refine v_goto dX6_receiveByTurns_71 (tgt := 22) (by decide) ?_
        refine v_iload 4 dX6_receiveByTurns_22 (nx := 24) rfl rfl ?_
        refine v_iload_n 3 dX6_receiveByTurns_24 (nx := 25) rfl rfl ?_
        refine v_icmp_gt dX6_receiveByTurns_25 (tgt := 74) (by decide) (nx := 28) rfl (by first | assumption | exact hR.1 _ _ _ _ | exact ⟨by omega, by omega⟩) (by first | assumption | exact hR.1 _ _ _ _ | exact ⟨by omega, by omega⟩) (fun c25 => ?_) (fun c25 => ?_)
        · exact t_ret dX6_receiveByTurns_74 rfl ⟨rfl, rfl⟩
        · exfalso; omega
      · refine v_aload_n 0 dX6_receiveByTurns_45 (nx := 46) rfl rfl ?_
        refine v_aload_n 2 dX6_receiveByTurns_46 (nx := 47) rfl rfl ?_
        refine t_get (a := 0) (p := 2) (T := TX4) dX6_receiveByTurns_47 (nx := 50) rfl (by decide) (by first | assumption | exact ok_0 ⟨by omega, by omega⟩) rfl rfl iU4 (by decide) fl_X6_300 rfl ?_
        refine v_top (z' := -1) (by omega) ?_
        refine v_iload_n 1 dX6_receiveByTurns_50 (nx := 51) rfl rfl ?_
        refine t_callVi (a := 9) (c_X6_receiveFrom0 hR _) dX6_receiveByTurns_51 (nx := 54) rfl kX6_receiveFrom ml_X6_288 (by decide) (ok_m 9 rfl) rfl rfl rfl rfl (Nat.le_of_ble_eq_true rfl) ⟨by decide, by decide⟩ ⟨by decide, by decide⟩ ?_
        refine v_ifB_eq dX6_receiveByTurns_54 (tgt := 68) (by decide) (nx := 57) rfl (fun c54 => ?_) (fun c54 => ?_)
        · refine v_iinc 4 dX6_receiveByTurns_68 (nx := 71) rfl rfl rfl (by decide) ?_
          refine v_goto dX6_receiveByTurns_71 (tgt := 22) (by decide) ?_
          refine v_iload 4 dX6_receiveByTurns_22 (nx := 24) rfl rfl ?_
          refine v_iload_n 3 dX6_receiveByTurns_24 (nx := 25) rfl rfl ?_
          refine v_icmp_gt dX6_receiveByTurns_25 (tgt := 74) (by decide) (nx := 28) rfl (by first | assumption | exact hR.1 _ _ _ _ | exact ⟨by omega, by omega⟩) (by first | assumption | exact hR.1 _ _ _ _ | exact ⟨by omega, by omega⟩) (fun c25 => ?_) (fun c25 => ?_)
          · exact t_ret dX6_receiveByTurns_74 rfl ⟨rfl, rfl⟩
          · exfalso; omega
        · exfalso; omega
    · exfalso; omega

theorem mg_next {G X A : NN} {p cn a : Int} (hc : 0 < cn ∧ cn ≤ 16) (ha : 0 ≤ a ∧ a ≤ cn) (hno : ¬ (0 < A (56 + p) ∧ 0 ≤ rdyN A G (A (44 + p) - 1))) (hX : X = mgs G p (cn + 1 - a).toNat A) : (a + 1 = 0 ∧ X = mgs G p (cn + 1).toNat A) ∨ ((0 < a + 1 ∧ a + 1 ≤ cn) ∧ X = mgs G p (cn + 1 - (a + 1)).toNat (pasN A p)) ∨ (a + 1 = cn + 1 ∧ X = A) := by
  rw [show (cn + 1 - a).toNat = (cn - a).toNat + 1 by omega] at hX
  unfold mgs at hX
  rw [if_neg hno] at hX
  by_cases e : a = cn
  · rw [if_pos (by omega)] at hX
    exact Or.inr (Or.inr ⟨by omega, hX⟩)
  · rw [if_neg (by omega)] at hX
    refine Or.inr (Or.inl ⟨by omega, ?_⟩)
    rw [show cn + 1 - (a + 1) = cn - a by omega]
    exact hX
theorem mg_here {G X A : NN} {p cn a : Int} (ha : 0 ≤ a ∧ a ≤ cn) (hy : 0 < A (56 + p) ∧ 0 ≤ rdyN A G (A (44 + p) - 1)) (hX : X = mgs G p (cn + 1 - a).toNat A) : X = tkN (uI A (56 + p) (A (56 + p) - 1)) G (A (44 + p) - 1) p 2 := by
  rw [show (cn + 1 - a).toNat = (cn - a).toNat + 1 by omega] at hX
  unfold mgs at hX
  rw [if_pos hy] at hX
  exact hX

theorem tk_dec {σ τ υ : SS} {N0 A G : NN} {k p b : Int} (hTA : TR σ τ A G) (hT : TI N0 A G k p) (hk3 : k < 300) (hp : 0 ≤ p ∧ p < A 0) (hb : 0 ≤ b ∧ b < A 1) (k8 : A (8 + p) = 1) (k32 : A (32 + p) = 0) (hr : 0 ≤ rdyN A G b) (h56 : 0 < A (56 + p)) (hq : TR τ υ (tkN A G b p 2) G) : TR σ (up υ 0 0 p 3 (υ 0 0 p 3 - 1)) (uI (tkN A G b p 2) (56 + p) (A (56 + p) - 1)) G := by
  obtain ⟨b0, b1, b2, b3, b4, b5⟩ := hT.1.n
  obtain ⟨-, -, l, -⟩ := hT.1.b hb.1 hb.2
  obtain ⟨-, -, -, -, p5, p6, -⟩ := hT.1.p hp.1 hp.2
  obtain ⟨r0, r1, -, r3⟩ := rdy_v hT.1 hb hr
  have gs := (hT.1.g r0.1 r0.2).2.2.1
  have hkk := hT.1.k
  have e : ∀ j, j < 32 ∨ (44 ≤ j ∧ j < 68) → tkN A G b p 2 j = A j := fun j hj => by
    rw [tkN_eq, goes_e (by omega) r0.1 (by rw [tkC_e (by omega) (by omega) (by omega) (by omega) (by omega)]; exact gs.1), tkC_e (by omega) (by omega) (by omega) (by omega) (by omega)]
  obtain ⟨hH, -⟩ := id hq
  have y := ((hH.p p hp.1 (by rw [e 0 (by omega)]; exact hp.2)).2.2 (by rw [e _ (by omega)]; exact k8)).2
  rw [e _ (by omega)] at y
  rw [y]
  have hT2 := tk_ok hT (show p ≤ p + 1 by omega) hk3 hb hp hr (w := 2) (Or.inl ⟨rfl, by omega, k32⟩)
  exact TR_dec (hTA.trans hq) hT2.1 (by rw [e 0 (by omega)]; exact hp) ((e _ (Or.inl (by omega))).trans k8) ⟨by omega, by omega⟩

set_option maxRecDepth 100000 in
theorem l_X6_turns {g : GG} {kp : Bool} {σ : SS} (p : Int) {N0 G X : NN} {kk cn : Int} (hk3 : kk < 300) (hc : 0 < cn ∧ cn ≤ 16)  : ∀ (m : Nat) (a : Int) (M : NN) (τ : SS), (0 ≤ a ∧ a ≤ cn + 1) → (cn + 1 - a < m) → ((a = 0 ∧ X = mgs G p (cn + 1).toNat M) ∨ ((0 < a ∧ a ≤ cn) ∧ X = mgs G p (cn + 1 - a).toNat (pasN M p)) ∨ (a = cn + 1 ∧ X = M)) → (TI N0 M G kk p) → (M (8 + p) = 1) → (M (32 + p) = 0) → (1 ≤ M (44 + p) ∧ M (84 + (M (44 + p) - 1)) = p) → (0 ≤ p ∧ p < M 0) → (TR σ τ M G) → V g (rmD 3 0 0) mX6_receiveByTurns (ZT g kp ((fun r τ => r = none ∧ TR σ τ X G))) E0 22 [(0, rf g (ad 9 0 0)), (1, vi p), (2, rf g (ad 0 0 p)), (3, vi cn), (4, vi a)] [] (vw g kp τ) (sz kp) 0 0 := by
  intro m
  induction m with
  | zero => intro a M τ hx hm hX hTI k8 k32 k44 hpA hTA; exfalso; omega
  | succ m ih =>
    intro a M τ hx hm hX hTI k8 k32 k44 hpA hTA
    obtain ⟨b0, b1, b2, b3, b4, b5⟩ := hTI.1.n
    refine v_iload 4 dX6_receiveByTurns_22 (nx := 24) rfl rfl ?_
    refine v_iload_n 3 dX6_receiveByTurns_24 (nx := 25) rfl rfl ?_
    refine v_icmp_gt dX6_receiveByTurns_25 (tgt := 74) (by decide) (nx := 28) rfl (by first | assumption | exact hR.1 _ _ _ _ | exact ⟨by omega, by omega⟩) (by first | assumption | exact hR.1 _ _ _ _ | exact ⟨by omega, by omega⟩) (fun c25 => ?_) (fun c25 => ?_)
    · exact t_ret dX6_receiveByTurns_74 rfl ⟨rfl, by
    have e : X = M := by
      rcases hX with ⟨q, w⟩ | ⟨q, w⟩ | ⟨q, w⟩
      · exfalso; omega
      · exfalso; omega
      · exact w
    rw [e]; exact hTA⟩
    · refine v_iload 4 dX6_receiveByTurns_28 (nx := 30) rfl rfl ?_
      refine v_if_le dX6_receiveByTurns_30 (tgt := 38) (by decide) (nx := 33) rfl (by first | assumption | exact hR.1 _ _ _ _ | exact ⟨by omega, by omega⟩) (fun c30 => ?_) (fun c30 => ?_)
      · replace hX : X = mgs G p (cn + 1 - a).toNat M := by
          rcases hX with ⟨q, w⟩ | ⟨q, w⟩ | ⟨q, w⟩
          · rw [q, Int.sub_zero]; exact w
          · exfalso; omega
          · exfalso; omega
        obtain ⟨A, eA⟩ : ∃ A, A = M := ⟨_, rfl⟩
        rw [← eA] at hX hTI k8 k32 k44 hpA hTA b0 b1 b2 b3 b4 b5
        obtain ⟨hH, hS, hR, h8, hF, h9, ho⟩ := id hTA
        obtain ⟨e0, e1, e2⟩ := hH.p p hpA.1 hpA.2
        obtain ⟨y7, y8⟩ := e2 k8
        obtain ⟨-, -, -, -, p5, p6, -⟩ := hTI.1.p hpA.1 hpA.2
        refine v_aload_n 2 dX6_receiveByTurns_38 (nx := 39) rfl rfl ?_
        refine t_get (a := 0) (p := 3) (T := TX4) dX6_receiveByTurns_39 (nx := 42) rfl (by decide) (by first | assumption | exact ok_0 ⟨by omega, by omega⟩) rfl rfl iU4 (by decide) fl_X6_297 rfl ?_
        refine v_top (z' := A (56 + p)) y8 ?_
        refine v_if_le dX6_receiveByTurns_42 (tgt := 68) (by decide) (nx := 45) rfl (by first | assumption | exact hR.1 _ _ _ _ | exact ⟨by omega, by omega⟩) (fun c42 => ?_) (fun c42 => ?_)
        · refine v_iinc 4 dX6_receiveByTurns_68 (nx := 71) rfl rfl rfl (by decide) ?_
          refine v_goto dX6_receiveByTurns_71 (tgt := 22) (by decide) ?_
          exact (ih (a + 1) A τ ⟨by omega, by omega⟩ (by omega) (mg_next hc ⟨by omega, by omega⟩ (by omega) hX) hTI k8 k32 k44 hpA hTA)
        · refine v_aload_n 0 dX6_receiveByTurns_45 (nx := 46) rfl rfl ?_
          refine v_aload_n 2 dX6_receiveByTurns_46 (nx := 47) rfl rfl ?_
          refine t_get (a := 0) (p := 2) (T := TX4) dX6_receiveByTurns_47 (nx := 50) rfl (by decide) (by first | assumption | exact ok_0 ⟨by omega, by omega⟩) rfl rfl iU4 (by decide) fl_X6_300 rfl ?_
          refine v_top (z' := A (44 + p) - 1) y7 ?_
          refine v_iload_n 1 dX6_receiveByTurns_50 (nx := 51) rfl rfl ?_
          refine t_callViQ (a := 9) (c_X6_receiveFrom hR hTI.1 hH hS h8 hF hTI.2.2.1 (A (44 + p) - 1) p (by omega) hpA (fun _ => by rw [whA_1 k8]; exact Or.inl ⟨rfl, by omega, k32⟩)) dX6_receiveByTurns_51 (nx := 54) rfl kX6_receiveFrom ml_X6_288 (by decide) (ok_m 9 rfl) rfl rfl rfl rfl (Nat.le_of_ble_eq_true rfl) ⟨by decide, by decide⟩ ⟨by decide, by decide⟩ (fun τ hq => ?_)
          rw [whA_1 k8] at hq
          refine v_ifB_eq dX6_receiveByTurns_54 (tgt := 68) (by decide) (nx := 57) rfl (fun c54 => ?_) (fun c54 => ?_)
          · refine v_iinc 4 dX6_receiveByTurns_68 (nx := 71) rfl rfl rfl (by decide) ?_
            refine v_goto dX6_receiveByTurns_71 (tgt := 22) (by decide) ?_
            exact (ih (a + 1) A τ ⟨by omega, by omega⟩ (by omega) (mg_next hc ⟨by omega, by omega⟩ (by omega) hX) hTI k8 k32 k44 hpA (by rw [if_neg c54] at hq; exact hTA.trans hq))
          · refine v_aload_n 2 dX6_receiveByTurns_57 (nx := 58) rfl rfl ?_
            refine v_dup dX6_receiveByTurns_58 (nx := 59) rfl rfl ?_
            refine t_get (a := 0) (p := 3) (T := TX4) dX6_receiveByTurns_59 (nx := 62) rfl (by decide) (by first | assumption | exact ok_0 ⟨by omega, by omega⟩) rfl rfl iU4 (by decide) fl_X6_297 rfl ?_
            refine v_iconst dX6_receiveByTurns_62 (nx := 63) rfl ?_
            refine v_isub dX6_receiveByTurns_63 (nx := 64) rfl ?_
            refine t_put (a := 0) (j := 3) (p := 3) (T := TX4) dX6_receiveByTurns_64 (nx := 67) rfl (by decide) (by first | assumption | exact ok_0 ⟨by omega, by omega⟩) rfl rfl iU4 tyX4 tyX4_ok nmX4 (by decide) fl_X6_297 rfl (Or.inl rfl) (Nat.le_of_ble_eq_true rfl) (by rfl) ?_
            exact t_ret dX6_receiveByTurns_67 rfl ⟨rfl, by
    rw [if_pos c54] at hq
    have hb : 0 ≤ A (44 + p) - 1 ∧ A (44 + p) - 1 < A 1 := ⟨by omega, by omega⟩
    rw [mg_here ⟨by omega, by omega⟩ ⟨by omega, c54⟩ hX, tk_com hTI.1 hpA hb c54]
    exact tk_dec hTA hTI hk3 hpA hb k8 k32 c54 (by omega) hq⟩
      · obtain ⟨hH, hS, hR, h8, hF, h9, ho⟩ := id hTA
        refine v_aload_n 0 dX6_receiveByTurns_33 (nx := 34) rfl rfl ?_
        refine v_iload_n 1 dX6_receiveByTurns_34 (nx := 35) rfl rfl ?_
        refine t_callVvQ (a := 9) (c_X6_passTurn hR hTI.1 hH hS h8 hF p hpA k8 k44) dX6_receiveByTurns_35 (nx := 38) rfl kX6_passTurn ml_X6_294 (by decide) (ok_m 9 rfl) rfl rfl rfl rfl (Nat.le_of_ble_eq_true rfl) ⟨by decide, by decide⟩ ⟨by decide, by decide⟩ (fun τ hq => ?_)
        replace hX : X = mgs G p (cn + 1 - a).toNat (pasN M p) := by
          rcases hX with ⟨q, w⟩ | ⟨q, w⟩ | ⟨q, w⟩
          · exfalso; omega
          · exact w
          · exfalso; omega
        obtain ⟨i1, i2, i3⟩ := hTI.1.pas hpA k44
        obtain ⟨-, -, -, -, p5, -⟩ := hTI.1.p hpA.1 hpA.2
        obtain ⟨n1, n2, n3⟩ := nxt_in (b := M (44 + p) - 1) hTI.1 (by omega) ⟨M (44 + p) - 1, by omega, by omega, k44.2⟩
        obtain ⟨-, -, -, -, l5, -⟩ := hTI.1.b n1 n2
        replace hTI : TI N0 (pasN M p) G kk p := hTI.set (h := nxtI M p (M (44 + p) - 1) + 1) (l := M (132 + nxtI M p (M (44 + p) - 1))) hpA ⟨by omega, by omega⟩ (by rw [show nxtI M p (M (44 + p) - 1) + 1 - 1 = nxtI M p (M (44 + p) - 1) by omega]; exact n3) l5
        replace hTA := hTA.trans hq
        replace k8 : pasN M p (8 + p) = 1 := by rw [i3 _ (by omega) (by omega)]; exact k8
        replace k32 : pasN M p (32 + p) = 0 := by rw [i3 _ (by omega) (by omega)]; exact k32
        replace k44 := i2
        replace hpA : 0 ≤ p ∧ p < pasN M p 0 := ⟨hpA.1, by rw [i3 0 (by omega) (by omega)]; exact hpA.2⟩
        clear p5 hH hS hR h8 hF h9 ho hq i1 i2 i3 n1 n2 n3 l5 b0 b1 b2 b3 b4 b5
        generalize pasN M p = A at hX hTI hTA k8 k32 k44 hpA
        obtain ⟨b0, b1, b2, b3, b4, b5⟩ := hTI.1.n
        obtain ⟨hH, hS, hR, h8, hF, h9, ho⟩ := id hTA
        obtain ⟨e0, e1, e2⟩ := hH.p p hpA.1 hpA.2
        obtain ⟨y7, y8⟩ := e2 k8
        obtain ⟨-, -, -, -, p5, p6, -⟩ := hTI.1.p hpA.1 hpA.2
        refine v_aload_n 2 dX6_receiveByTurns_38 (nx := 39) rfl rfl ?_
        refine t_get (a := 0) (p := 3) (T := TX4) dX6_receiveByTurns_39 (nx := 42) rfl (by decide) (by first | assumption | exact ok_0 ⟨by omega, by omega⟩) rfl rfl iU4 (by decide) fl_X6_297 rfl ?_
        refine v_top (z' := A (56 + p)) y8 ?_
        refine v_if_le dX6_receiveByTurns_42 (tgt := 68) (by decide) (nx := 45) rfl (by first | assumption | exact hR.1 _ _ _ _ | exact ⟨by omega, by omega⟩) (fun c42 => ?_) (fun c42 => ?_)
        · refine v_iinc 4 dX6_receiveByTurns_68 (nx := 71) rfl rfl rfl (by decide) ?_
          refine v_goto dX6_receiveByTurns_71 (tgt := 22) (by decide) ?_
          exact (ih (a + 1) A τ ⟨by omega, by omega⟩ (by omega) (mg_next hc ⟨by omega, by omega⟩ (by omega) hX) hTI k8 k32 k44 hpA hTA)
        · refine v_aload_n 0 dX6_receiveByTurns_45 (nx := 46) rfl rfl ?_
          refine v_aload_n 2 dX6_receiveByTurns_46 (nx := 47) rfl rfl ?_
          refine t_get (a := 0) (p := 2) (T := TX4) dX6_receiveByTurns_47 (nx := 50) rfl (by decide) (by first | assumption | exact ok_0 ⟨by omega, by omega⟩) rfl rfl iU4 (by decide) fl_X6_300 rfl ?_
          refine v_top (z' := A (44 + p) - 1) y7 ?_
          refine v_iload_n 1 dX6_receiveByTurns_50 (nx := 51) rfl rfl ?_
          refine t_callViQ (a := 9) (c_X6_receiveFrom hR hTI.1 hH hS h8 hF hTI.2.2.1 (A (44 + p) - 1) p (by omega) hpA (fun _ => by rw [whA_1 k8]; exact Or.inl ⟨rfl, by omega, k32⟩)) dX6_receiveByTurns_51 (nx := 54) rfl kX6_receiveFrom ml_X6_288 (by decide) (ok_m 9 rfl) rfl rfl rfl rfl (Nat.le_of_ble_eq_true rfl) ⟨by decide, by decide⟩ ⟨by decide, by decide⟩ (fun τ hq => ?_)
          rw [whA_1 k8] at hq
          refine v_ifB_eq dX6_receiveByTurns_54 (tgt := 68) (by decide) (nx := 57) rfl (fun c54 => ?_) (fun c54 => ?_)
          · refine v_iinc 4 dX6_receiveByTurns_68 (nx := 71) rfl rfl rfl (by decide) ?_
            refine v_goto dX6_receiveByTurns_71 (tgt := 22) (by decide) ?_
            exact (ih (a + 1) A τ ⟨by omega, by omega⟩ (by omega) (mg_next hc ⟨by omega, by omega⟩ (by omega) hX) hTI k8 k32 k44 hpA (by rw [if_neg c54] at hq; exact hTA.trans hq))
          · refine v_aload_n 2 dX6_receiveByTurns_57 (nx := 58) rfl rfl ?_
            refine v_dup dX6_receiveByTurns_58 (nx := 59) rfl rfl ?_
            refine t_get (a := 0) (p := 3) (T := TX4) dX6_receiveByTurns_59 (nx := 62) rfl (by decide) (by first | assumption | exact ok_0 ⟨by omega, by omega⟩) rfl rfl iU4 (by decide) fl_X6_297 rfl ?_
            refine v_iconst dX6_receiveByTurns_62 (nx := 63) rfl ?_
            refine v_isub dX6_receiveByTurns_63 (nx := 64) rfl ?_
            refine t_put (a := 0) (j := 3) (p := 3) (T := TX4) dX6_receiveByTurns_64 (nx := 67) rfl (by decide) (by first | assumption | exact ok_0 ⟨by omega, by omega⟩) rfl rfl iU4 tyX4 tyX4_ok nmX4 (by decide) fl_X6_297 rfl (Or.inl rfl) (Nat.le_of_ble_eq_true rfl) (by rfl) ?_
            exact t_ret dX6_receiveByTurns_67 rfl ⟨rfl, by
    rw [if_pos c54] at hq
    have hb : 0 ≤ A (44 + p) - 1 ∧ A (44 + p) - 1 < A 1 := ⟨by omega, by omega⟩
    rw [mg_here ⟨by omega, by omega⟩ ⟨by omega, c54⟩ hX, tk_com hTI.1 hpA hb c54]
    exact tk_dec hTA hTI hk3 hpA hb k8 k32 c54 (by omega) hq⟩

set_option maxRecDepth 100000 in
theorem c_X6_receiveByTurns1 {g : GG} {kp : Bool} {σ : SS} (p : Int) {N0 N G : NN} {kk : Int} (hp : 0 ≤ p ∧ p < N 0) (hTI : TI N0 N G kk p) (hk3 : kk < 300) (k8 : N (8 + p) = 1) (k32 : N (32 + p) = 0) (h44 : 1 ≤ N (44 + p) ∧ N (84 + (N (44 + p) - 1)) = p) (hTR : TR σ σ N G) : TC g kp 3 mX6_receiveByTurns [rf g (ad 9 0 0), vi p] σ (fun r τ => r = none ∧ TR σ τ (mgN N G p) G) := by
  refine TC.of (by decide) (Nat.le_of_ble_eq_true rfl) rfl ?_
  obtain ⟨hH, hS, hR, h8, hF, h9, ho⟩ := id hTR
  have hI := hTI.1
  obtain ⟨b0, b1, b2, b3, b4, b5⟩ := hI.n
  obtain ⟨-, -, -, -, p5, -⟩ := hI.p hp.1 hp.2
  have hcn := cnt_in (p := p) (n := N 1) (show 0 ≤ N (44 + p) - 1 by omega) (by omega) h44.2
  have hcb := cntI_b (P := inl N p) b1.1
  refine v_aload_n 0 dX6_receiveByTurns_0 (nx := 1) rfl rfl ?_
  refine t_get (a := 9) (p := 0) (T := TX6) dX6_receiveByTurns_1 (nx := 4) rfl (by decide) (ok_m 9 rfl) rfl rfl iU6 (by decide) fl_X6_10 rfl ?_
  refine t_get (a := 7) (p := 0) (T := TX3) dX6_receiveByTurns_4 (nx := 7) rfl (by decide) (ok_m 7 rfl) rfl rfl iU3 (by decide) fl_X6_45 rfl ?_
  refine v_iload_n 1 dX6_receiveByTurns_7 (nx := 8) rfl rfl ?_
  refine t_ldP dX6_receiveByTurns_8 (nx := 9) rfl (ok_m 15 rfl) ⟨by omega, by omega⟩ ?_
  refine v_astore_n dX6_receiveByTurns_9 (nx := 10) rfl rfl (by decide) ?_
  refine v_aload_n 0 dX6_receiveByTurns_10 (nx := 11) rfl rfl ?_
  refine t_get (a := 9) (p := 0) (T := TX6) dX6_receiveByTurns_11 (nx := 14) rfl (by decide) (ok_m 9 rfl) rfl rfl iU6 (by decide) fl_X6_10 rfl ?_
  refine v_iload_n 1 dX6_receiveByTurns_14 (nx := 15) rfl rfl ?_
  refine t_callVi (a := 7) (c_X3_inletsOf hR hI hH.n hH.b _ (by first | assumption | exact hR.1 _ _ _ _ | exact ⟨by omega, by omega⟩)) dX6_receiveByTurns_15 (nx := 18) rfl kX3_inletsOf ml_X6_291 (by decide) (ok_m 7 rfl) rfl rfl rfl rfl (Nat.le_of_ble_eq_true rfl) ⟨by decide, by decide⟩ ⟨by decide, by decide⟩ ?_
  refine v_istore_n dX6_receiveByTurns_18 (nx := 19) rfl rfl (by decide) ?_
  refine v_iconst dX6_receiveByTurns_19 (nx := 20) rfl ?_
  refine v_istore dX6_receiveByTurns_20 (nx := 22) rfl rfl (by decide) ?_
  exact l_X6_turns p (N0 := N0) (kk := kk) hk3 ⟨hcn, by omega⟩ (cntI (inl N p) (N 1) + 2).toNat 0 N σ ⟨by omega, by omega⟩ (by omega) (Or.inl ⟨rfl, by unfold mgN; rw [if_pos hcn]⟩) hTI k8 k32 h44 hp hTR

/-- a merge takes -/
theorem c_X6_receiveByTurns {g : GG} {kp : Bool} {σ : SS} (p : Int) {N0 N G : NN} {kk : Int} (hp : 0 ≤ p ∧ p < N 0) (hTI : TI N0 N G kk p) (hk3 : kk < 300) (k8 : N (8 + p) = 1) (k32 : N (32 + p) = 0) (hTR : TR σ σ N G) : TC g kp 3 mX6_receiveByTurns [rf g (ad 9 0 0), vi p] σ (fun r τ => r = none ∧ TR σ τ (mgN N G p) G) := by
  obtain ⟨-, -, -, -, -, -, p7⟩ := hTI.1.p hp.1 hp.2
  rcases p7 k8 with ⟨h1, h2⟩ | h1
  · have hc := cnt_no h2
    refine (c_X6_receiveByTurns0 hTR.2.2.1 hTI.1 hTR.1 p hp k8 h1 hc).mono (fun r τ h => ?_)
    rw [h.2]
    refine ⟨h.1, ?_⟩
    unfold mgN
    rw [if_neg (by omega)]
    exact hTR
  · exact c_X6_receiveByTurns1 p hp hTI hk3 k8 k32 h1 hTR

set_option maxRecDepth 100000 in
theorem c_X6_receiveAt {g : GG} {kp : Bool} {σ : SS} (p : Int) {N0 N G : NN} {kk : Int} (hp : 0 ≤ p ∧ p < N 0) (hTI : TI N0 N G kk p) (hk3 : kk + 16 ≤ 300) (hTR : TR σ σ N G) : TC g kp 4 mX6_receiveAt [rf g (ad 9 0 0), vi p] σ (fun r τ => r = none ∧ TR σ τ (tkA N G p) G) := by
  refine TC.of (by decide) (Nat.le_of_ble_eq_true rfl) rfl ?_
  obtain ⟨hH, hS, hR, h8, hF, h9, ho⟩ := id hTR
  have hI := hTI.1
  obtain ⟨b0, b1, b2, b3, b4, b5⟩ := hI.n
  obtain ⟨e0, e1, e2⟩ := hH.p p (by omega) (by omega)
  obtain ⟨k1, k2, k3, -⟩ := hI.p hp.1 hp.2
  have hh := fun h => hold_row hI (hH.r p hp.1 hp.2) hp h
  have hl : N (8 + p) = 4 → cntI (wP N 3 p) (N 3) = σ 0 0 p 4 := fun h => by
    have q := (list_row hI (hH.r p hp.1 hp.2) (Or.inr h)).1
    rw [if_neg (by omega)] at q
    exact q
  have hsi : N (8 + p) = 4 → ∀ x, 0 ≤ x → x < N 3 → N (484 + x) = 3 → N (544 + x) = p → N (604 + x) < N 4 := fun h x x0 x1 q1 q2 => hTI.2.2.2.2 x x0 x1 q1 (by omega)
  have a5 : N (8 + p) = 5 → tkA N G p = chs G p N (N 1).toNat := fun h => by unfold tkA; rw [if_pos h]
  have a4 : N (8 + p) = 4 → σ 0 0 p 4 < N (20 + p) → tkA N G p = (if 0 ≤ rdyI N G p then tkN N G (rdyI N G p) p (if N (8 + p) = 4 then 3 else 2) else N) := fun h h2 => by
    unfold tkA; rw [if_neg (by omega), if_pos h, hl h, if_pos h]
    by_cases q : 0 ≤ rdyI N G p
    · rw [if_pos ⟨q, h2⟩, if_pos q]
    · rw [if_neg (fun z => q z.1), if_neg q]
  have a1 : N (8 + p) = 1 → N (32 + p) = 0 → tkA N G p = mgN N G p := fun h h2 => by unfold tkA; rw [if_neg (by omega), if_neg (by omega), if_neg (by omega), if_pos h]
  have a2 : N (8 + p) = 2 ∨ N (8 + p) = 3 → N (32 + p) = 0 → tkA N G p = (if 0 ≤ rdyI N G p then tkN N G (rdyI N G p) p (if N (8 + p) = 4 then 3 else 2) else N) := fun h h2 => by unfold tkA; rw [if_neg (by omega), if_neg (by omega), if_neg (by omega), if_neg (by omega), if_neg (show ¬ N (8 + p) = 4 by omega)]
  have a0 : N (8 + p) = 0 ∨ (N (8 + p) = 4 ∧ ¬ σ 0 0 p 4 < N (20 + p)) ∨ ((1 ≤ N (8 + p) ∧ N (8 + p) ≤ 3) ∧ N (32 + p) ≠ 0) → tkA N G p = N := fun h => by
    unfold tkA; rw [if_neg (by omega)]
    by_cases q : N (8 + p) = 4
    · rw [if_pos q, hl q, if_neg (by omega)]
    · rw [if_neg q, if_pos (by omega)]
  refine v_aload_n 0 dX6_receiveAt_0 (nx := 1) rfl rfl ?_
  refine t_get (a := 9) (p := 0) (T := TX6) dX6_receiveAt_1 (nx := 4) rfl (by decide) (ok_m 9 rfl) rfl rfl iU6 (by decide) fl_X6_10 rfl ?_
  refine t_get (a := 7) (p := 0) (T := TX3) dX6_receiveAt_4 (nx := 7) rfl (by decide) (ok_m 7 rfl) rfl rfl iU3 (by decide) fl_X6_45 rfl ?_
  refine v_iload_n 1 dX6_receiveAt_7 (nx := 8) rfl rfl ?_
  refine t_ldP dX6_receiveAt_8 (nx := 9) rfl (ok_m 15 rfl) ⟨by omega, by omega⟩ ?_
  refine v_astore_n dX6_receiveAt_9 (nx := 10) rfl rfl (by decide) ?_
  refine v_aload_n 2 dX6_receiveAt_10 (nx := 11) rfl rfl ?_
  refine t_callVi (a := 0) (c_X4_hasRoom hR _ (by omega)) dX6_receiveAt_11 (nx := 14) rfl kX4_hasRoom ml_X6_278 (by decide) (by first | assumption | exact ok_0 ⟨by omega, by omega⟩) rfl rfl rfl rfl (Nat.le_of_ble_eq_true rfl) ⟨by decide, by decide⟩ ⟨by decide, by decide⟩ ?_
  refine v_ifB_ne dX6_receiveAt_14 (tgt := 18) (by decide) (nx := 17) rfl (fun c14 => ?_) (fun c14 => ?_)
  · refine v_aload_n 2 dX6_receiveAt_18 (nx := 19) rfl rfl ?_
    refine t_get (a := 0) (p := 0) (T := TX4) dX6_receiveAt_19 (nx := 22) rfl (by decide) (by first | assumption | exact ok_0 ⟨by omega, by omega⟩) rfl rfl iU4 (by decide) fl_X6_66 rfl ?_
    refine v_iconst dX6_receiveAt_22 (nx := 23) rfl ?_
    refine v_icmp_ne dX6_receiveAt_23 (tgt := 34) (by decide) (nx := 26) rfl (by first | assumption | exact hR.1 _ _ _ _ | exact ⟨by omega, by omega⟩) (by first | assumption | exact hR.1 _ _ _ _ | exact ⟨by omega, by omega⟩) (fun c23 => ?_) (fun c23 => ?_)
    · refine v_aload_n 0 dX6_receiveAt_34 (nx := 35) rfl rfl ?_
      refine v_iload_n 1 dX6_receiveAt_35 (nx := 36) rfl rfl ?_
      refine v_aload_n 2 dX6_receiveAt_36 (nx := 37) rfl rfl ?_
      refine t_get (a := 0) (p := 0) (T := TX4) dX6_receiveAt_37 (nx := 40) rfl (by decide) (by first | assumption | exact ok_0 ⟨by omega, by omega⟩) rfl rfl iU4 (by decide) fl_X6_66 rfl ?_
      refine v_iconst dX6_receiveAt_40 (nx := 41) rfl ?_
      refine v_icmp_ne dX6_receiveAt_41 (tgt := 48) (by decide) (nx := 44) rfl (by first | assumption | exact hR.1 _ _ _ _ | exact ⟨by omega, by omega⟩) (by first | assumption | exact hR.1 _ _ _ _ | exact ⟨by omega, by omega⟩) (fun c41 => ?_) (fun c41 => ?_)
      · have hw1 : N (8 + p) = 4 ∨ ((N (8 + p) = 2 ∨ N (8 + p) = 3) ∧ N (32 + p) = 0) := by
          by_cases q : N (8 + p) = 4
          · exact Or.inl q
          · have q1 : 1 ≤ N (8 + p) ∧ N (8 + p) ≤ 3 := by omega
            have := hh q1
            exact Or.inr ⟨by omega, by omega⟩
        have wOK : tkW N p (if N (8 + p) = 4 then 3 else 2) := by
          rcases hw1 with h | ⟨h, h2⟩
          · rw [if_pos h]; exact Or.inr (Or.inl ⟨rfl, h, hsi h⟩)
          · rw [if_neg (by omega)]; exact Or.inl ⟨rfl, by omega, h2⟩
        have wE : tkA N G p = (if 0 ≤ rdyI N G p then tkN N G (rdyI N G p) p (if N (8 + p) = 4 then 3 else 2) else N) := by
          rcases hw1 with h | ⟨h, h2⟩
          · exact a4 h (by omega)
          · exact a2 h h2
        refine v_iconst dX6_receiveAt_48 (nx := 49) rfl ?_
        refine t_callVvQ (a := 9) (c_X6_receiveByNumbersB p hp hI hTI.2.2.1 (by omega) wOK hTR) dX6_receiveAt_49 (nx := 52) rfl kX6_receiveByNumbers ml_X6_284 (by decide) (ok_m 9 rfl) rfl rfl rfl rfl (Nat.le_of_ble_eq_true rfl) ⟨by decide, by decide⟩ ⟨by decide, by decide⟩ (fun τ hq => ?_)
        rw [← wE] at hq
        exact t_ret dX6_receiveAt_52 rfl ⟨rfl, hq⟩
      · refine v_iconst dX6_receiveAt_44 (nx := 45) rfl ?_
        refine v_goto dX6_receiveAt_45 (tgt := 49) (by decide) ?_
        refine t_callVvQ (a := 9) (c_X6_receiveByNumbersA p hp (hTI.later (Int.le_refl _) (by omega) (by omega)) (by omega) (by omega) hTR) dX6_receiveAt_49 (nx := 52) rfl kX6_receiveByNumbers ml_X6_284 (by decide) (ok_m 9 rfl) rfl rfl rfl rfl (Nat.le_of_ble_eq_true rfl) ⟨by decide, by decide⟩ ⟨by decide, by decide⟩ (fun τ hq => ?_)
        rw [← a5 (by omega)] at hq
        exact t_ret dX6_receiveAt_52 rfl ⟨rfl, hq⟩
    · refine v_aload_n 0 dX6_receiveAt_26 (nx := 27) rfl rfl ?_
      refine v_iload_n 1 dX6_receiveAt_27 (nx := 28) rfl rfl ?_
      refine t_callVvQ (a := 9) (c_X6_receiveByTurns p hp hTI (by omega) (by omega) (by have := hh (by omega); omega) hTR) dX6_receiveAt_28 (nx := 31) rfl kX6_receiveByTurns ml_X6_281 (by decide) (ok_m 9 rfl) rfl rfl rfl rfl (Nat.le_of_ble_eq_true rfl) ⟨by decide, by decide⟩ ⟨by decide, by decide⟩ (fun τ hq => ?_)
      rw [← a1 (by omega) (by have := hh (by omega); omega)] at hq
      refine v_goto dX6_receiveAt_31 (tgt := 52) (by decide) ?_
      exact t_ret dX6_receiveAt_52 rfl ⟨rfl, hq⟩
  · exact t_ret dX6_receiveAt_17 rfl ⟨rfl, by
    have e : tkA N G p = N := a0 (by
      by_cases q0 : N (8 + p) = 0
      · exact Or.inl q0
      · by_cases q4 : N (8 + p) = 4
        · exact Or.inr (Or.inl ⟨q4, by omega⟩)
        · have q1 : 1 ≤ N (8 + p) ∧ N (8 + p) ≤ 3 := by omega
          have := hh q1
          exact Or.inr (Or.inr ⟨q1, by omega⟩))
    rw [e]; exact hTR⟩
