theorem ntg_v {N : NN} {k p : Int} (hI : IV N k) (hp : 0 ≤ p ∧ p < N 0) (h : 0 ≤ ntg N p) : (0 ≤ ntg N p ∧ ntg N p < N 3) ∧ N (484 + ntg N p) = wcK (N (8 + p)) ∧ N (544 + ntg N p) = p ∧ N (8 + p) ≠ 5 := by
  obtain ⟨b0, b1, b2, b3, b4, b5⟩ := hI.n
  obtain ⟨p1, -, -, p4, -⟩ := hI.p hp.1 hp.2
  unfold ntg at h ⊢
  by_cases k4 : N (8 + p) = 4
  · rw [if_pos k4] at h ⊢
    have hb3 := mnI_b (P := fun g => decide ((N (484 + g) = 3 ∧ N (544 + g) = p) ∧ N (348 + N (364 + g)) ≤ N 4)) (K := fun g => N (604 + g)) b3.1
    have hPP := of_decide_eq_true (mnI_P (P := fun g => decide ((N (484 + g) = 3 ∧ N (544 + g) = p) ∧ N (348 + N (364 + g)) ≤ N 4)) (K := fun g => N (604 + g)) h)
    have ef : fstO N p = mnI (fun g => decide ((N (484 + g) = 3 ∧ N (544 + g) = p) ∧ N (348 + N (364 + g)) ≤ N 4)) (fun g => N (604 + g)) (N 3) := rfl
    rw [← ef] at hb3 hPP
    rw [wcK4 k4]
    exact ⟨by omega, hPP.1.1, hPP.1.2, by omega⟩
  · rw [if_neg k4] at h ⊢
    by_cases k0 : N (8 + p) = 0
    · rw [if_pos k0] at h ⊢
      have hb3 := mnI_b (P := wP N 0 p) (K := fun g => N (604 + g)) b3.1
      have hPP := of_decide_eq_true (mnI_P (P := wP N 0 p) (K := fun g => N (604 + g)) h)
      have ef : fstW N p = mnI (wP N 0 p) (fun g => N (604 + g)) (N 3) := rfl
      rw [← ef] at hb3 hPP
      rw [wcK0 k0]
      exact ⟨by omega, hPP.1, hPP.2, by omega⟩
    · rw [if_neg k0] at h ⊢
      by_cases k5 : N (8 + p) = 5
      · rw [if_pos k5] at h; omega
      · rw [if_neg k5] at h ⊢
        by_cases c : N (8 + p) = 2 ∧ 0 ≤ N (32 + p) - 1 ∧ N 4 < N (604 + (N (32 + p) - 1)) + N (20 + p)
        · rw [if_pos c] at h; omega
        · rw [if_neg c] at h ⊢
          rw [wcK2 (by omega) (by omega)]
          have q5 : (1 ≤ N (32 + p) ∧ N (32 + p) ≤ N 3) ∧ N (484 + (N (32 + p) - 1)) = 2 ∧ N (544 + (N (32 + p) - 1)) = p := by omega
          exact ⟨by omega, q5.2.1, q5.2.2, k5⟩
theorem otf_b {N : NN} {k p g : Int} (hI : IV N k) : otf N p g < N 1 ∧ -1 ≤ otf N p g := by
  obtain ⟨b0, b1, b2, b3, b4, b5⟩ := hI.n
  have a0 := fstI_b (P := fun b => decide (N (68 + b) = p) && decide (cntI (fun x => decide (N (68 + x) = p)) b = 0)) (lo := 0) (hi := N 1) (by omega) b1.1
  have a1 := fstI_b (P := fun b => decide (N (68 + b) = p) && decide (cntI (fun x => decide (N (68 + x) = p)) b = 1)) (lo := 0) (hi := N 1) (by omega) b1.1
  have e0 : outA N p 0 = fstI (fun b => decide (N (68 + b) = p) && decide (cntI (fun x => decide (N (68 + x) = p)) b = 0)) 0 (N 1) := rfl
  have e1 : outA N p 1 = fstI (fun b => decide (N (68 + b) = p) && decide (cntI (fun x => decide (N (68 + x) = p)) b = 1)) 0 (N 1) := rfl
  have s0 := fstI_b (P := fun b => decide (N (68 + b) = p ∧ N (116 + b) = 0)) (lo := 0) (hi := N 1) (by omega) b1.1
  have e2 : outS N p = fstI (fun b => decide (N (68 + b) = p ∧ N (116 + b) = 0)) 0 (N 1) := rfl
  have m0 := mnI_b (P := fun b => decide (N (68 + b) = p ∧ N (116 + b) ≠ 1 ∧ 0 ≤ farS N (N (340 + N (364 + g))) (N (84 + b)))) (K := fun b => N (100 + b) + farS N (N (340 + N (364 + g))) (N (84 + b))) b1.1
  have e3 : outF N p (N (364 + g)) = mnI (fun b => decide (N (68 + b) = p ∧ N (116 + b) ≠ 1 ∧ 0 ≤ farS N (N (340 + N (364 + g))) (N (84 + b)))) (fun b => N (100 + b) + farS N (N (340 + N (364 + g))) (N (84 + b))) (N 1) := rfl
  unfold otf
  split
  · split <;> omega
  · split <;> omega
theorem c_X4_leaveP {g : GG} {kp : Bool} {σ : SS} (hR : RG σ) (i : Int) (hi : 0 ≤ i ∧ i < 12) (b : Int) (hb : inR b) (hs : 0 ≤ σ 0 0 i 4 ∧ σ 0 0 i 4 ≤ 60) : XC g kp 1 mX4_leave [rf g (ad 0 0 i), vi b] σ none (lvP σ i b) := c_X4_leave hR i hi b hb hs
theorem RG_rm {σ : SS} {i l : Int} (hR : RG σ) (h : 0 ≤ σ 0 0 i 4) : RG (rmS σ i l) := by
  unfold rmS
  refine RG_up (RG_sK hR (fun j => ?_)) ⟨by omega, by have := (hR.1 0 0 i 4).2; omega⟩
  unfold shf
  split <;> exact hR.1 _ _ _ _
theorem FR.send {σ τ : SS} {N M G : NN} {k g b : Int} (hI : IV N k) (hF : FR σ N G) (hg : 0 ≤ g ∧ g < N 3) (hb : 0 ≤ b ∧ b < N 1) (hn : N (484 + g) ≠ 1) (t5 : ∀ x, τ 2 0 x 5 = if x = b then 1 else σ 2 0 x 5) (m1 : M 1 = N 1) (hc : ∀ x, 0 ≤ x → x < N 1 → M (148 + 12 * x) = if x = b then g + 1 else N (148 + 12 * x)) : FR τ M (uI G g 1) := by
  intro x x0 x1
  rw [m1] at x1
  rw [t5 x, hc x x0 x1]
  by_cases q : x = b
  · rw [if_pos q, if_pos q, show g + 1 - 1 = g by omega, uI_s]
    exact Or.inr ⟨rfl, by omega, rfl⟩
  · rw [if_neg q, if_neg q]
    have hne := cell_ne (c := 0) (g := g) hI x0 x1 (by omega) (by omega) (fun z => hn z.1) hg.1
    rw [show 148 + 12 * x + 0 = 148 + 12 * x by omega] at hne
    rw [uI_n (by omega)]
    exact hF x x0 x1
theorem send_ok {σ : SS} {N G : NN} {k p l g b : Int} (hI : IV N k) (hH : RH σ 0 N) (hS : SM σ N) (hR : RG σ) (h8 : ∀ i j, σ 8 0 i j ≤ 1000000) (hF : FR σ N G) (hp : 0 ≤ p ∧ p < N 0) (hg : 0 ≤ g ∧ g < N 3) (hat : N (484 + g) = wcK (N (8 + p))) (hpl : N (544 + g) = p) (hb : 0 ≤ b ∧ b < N 1) (hc : N (148 + 12 * b) = 0) (hl : 0 ≤ l ∧ l < σ 0 0 p 4 ∧ σ 1 0 p l = g) : TR σ (if N (8 + p) = 0 then adS (sndS σ p l b g) g (N 4) p else sndS σ p l b g) (sdN N p g b) (uI G g 1) := by
  obtain ⟨b0, b1, b2, b3, b4, b5⟩ := hI.n
  obtain ⟨w0, w1, w2, w3, w4, w5⟩ := hH.g g hg.1 hg.2
  obtain ⟨-, -, gs, -⟩ := hI.g hg.1 hg.2
  have hkk := hI.k
  have hn1 : N (484 + g) ≠ 1 := by rcases wcK_c (N (8 + p)) with q | q | q <;> omega
  have hpv : putN N g b (148 + 12 * b) = g + 1 := by unfold putN liesN; rw [uI_n (by omega), uI_n (by omega), uI_n (by omega), uI_s]
  have r4 : 0 ≤ σ 0 0 p 4 := by omega
  have hRS : RG (sndS σ p l b g) := by
    unfold sndS
    exact RG_up (RG_up (RG_up (RG_up (RG_rm hR r4) ⟨by omega, by omega⟩) ⟨by decide, by decide⟩) ⟨by decide, by decide⟩) ⟨by omega, by omega⟩
  have hOS : ∀ (a : Nat) (t i : Int), 10 ≤ a ∨ (t ≠ 0 ∧ a ≠ 8) → sndS σ p l b g a t i = σ a t i := by
    intro a t i h
    have h2 : 10 ≤ a ∨ t ≠ 0 := h.imp id (fun q => q.1)
    unfold sndS rmS
    rw [up_o (by decide) h2, up_o (by decide) h2, up_o (by decide) h2, up_o (by decide) h2, up_o (by decide) h2, sK_o (by decide) h2]
  have t5 : ∀ x, sndS σ p l b g 2 0 x 5 = if x = b then 1 else σ 2 0 x 5 := by
    intro x
    by_cases q : x = b
    · rw [if_pos q]; unfold sndS rmS up sK; (repeat (first | rewrite [if_pos (by omega)] | rewrite [if_neg (by omega)] | dsimp only)); (try rfl)
    · rw [if_neg q]; unfold sndS rmS up sK; (repeat (first | rewrite [if_pos (by omega)] | rewrite [if_neg (by omega)] | dsimp only)); (try rfl)
  have s5 : sndS σ p l b g 5 0 g 5 = σ 5 0 g 5 := by unfold sndS rmS up sK; (repeat (first | rewrite [if_pos (by omega)] | rewrite [if_neg (by omega)] | dsimp only)); (try rfl)
  have hcell : ∀ x, 0 ≤ x → x < N 1 → putN N g b (148 + 12 * x) = if x = b then g + 1 else N (148 + 12 * x) := by
    intro x x0 x1
    by_cases q : x = b
    · rw [if_pos q, q]; exact hpv
    · rw [if_neg q]; exact put_e (by omega) (by omega) (by omega) (by omega)
  have hput := put_v (N := N) (g := g) (b := b)
  unfold sdN
  by_cases k0 : N (8 + p) = 0
  · rw [if_pos k0, if_pos k0]
    have i1 := IV_put hI hg hb hc (Or.inl (by rw [hat, wcK0 k0]))
    have hRH := RH_send (M := putN N g b) hI hH hg hp hb hl hpl (fun j q0 q1 q2 q3 _ => put_e q0 q1 q2 q3) hput.1 hput.2.1 hpv
    have e3 : putN N g b 3 = N 3 := put_e (by omega) (by omega) (by omega) (by omega)
    have e4 : putN N g b 4 = N 4 := put_e (by omega) (by omega) (by omega) (by omega)
    have e6 : putN N g b (664 + g) = N (664 + g) := put_e (by omega) (by omega) (by omega) (by omega)
    have hRG := RH_goes (p := p) i1 hRH (by rw [e3]; exact hg) ⟨hp.1, by omega⟩
    rw [e4] at hRG
    have ge : ∀ j, j < 664 → goesN (putN N g b) g p j = putN N g b j := fun j hj => goes_e hj hg.1 (by rw [e6]; exact gs.1)
    refine ⟨hRG, SM.same hI hS (by rw [adS_n (by decide) (by decide)]; rfl) (by rw [ge 0 (by omega)]; exact put_e (by omega) (by omega) (by omega) (by omega)) (by rw [ge 1 (by omega)]; exact put_e (by omega) (by omega) (by omega) (by omega)) (fun j hj => by rw [ge j (by omega)]; exact put_e (by omega) (by omega) (by omega) (by omega)), RG_adS hRS ⟨by omega, by omega⟩ (by rw [s5]; exact ⟨by omega, by omega⟩), by rw [adS_n (by decide) (by decide)]; exact h8, hF.send hI hg hb hn1 (fun x => by rw [adS_n (by decide) (by decide)]; exact t5 x) (by rw [ge 1 (by omega)]; exact put_e (by omega) (by omega) (by omega) (by omega)) (fun x x0 x1 => by rw [ge _ (by omega)]; exact hcell x x0 x1), by rw [adS_n (by decide) (by decide)]; rfl, fun a t i h => by rw [adS_o (h.imp id (fun q => q.1))]; exact hOS a t i h⟩
  · rw [if_neg k0, if_neg k0]
    by_cases k4 : N (8 + p) = 4
    · rw [if_pos k4]
      have hRH := RH_send (M := putN N g b) hI hH hg hp hb hl hpl (fun j q0 q1 q2 q3 _ => put_e q0 q1 q2 q3) hput.1 hput.2.1 hpv
      exact ⟨hRH, SM.same hI hS rfl (put_e (by omega) (by omega) (by omega) (by omega)) (put_e (by omega) (by omega) (by omega) (by omega)) (fun j hj => put_e (by omega) (by omega) (by omega) (by omega)), hRS, h8, hF.send hI hg hb hn1 t5 (put_e (by omega) (by omega) (by omega) (by omega)) hcell, rfl, hOS⟩
    · rw [if_neg k4]
      have ue : ∀ j, (32 ≤ j → 44 ≤ j) → uI (putN N g b) (32 + p) 0 j = putN N g b j := fun j hj => uI_n (by omega)
      have hRH := RH_send (M := uI (putN N g b) (32 + p) 0) hI hH hg hp hb hl hpl (fun j q0 q1 q2 q3 q4 => by rw [ue j q4]; exact put_e q0 q1 q2 q3) (by rw [ue _ (by omega)]; exact hput.1) (by rw [ue _ (by omega)]; exact hput.2.1) (by rw [ue _ (by omega)]; exact hpv)
      exact ⟨hRH, SM.same hI hS rfl (by rw [ue _ (by omega)]; exact put_e (by omega) (by omega) (by omega) (by omega)) (by rw [ue _ (by omega)]; exact put_e (by omega) (by omega) (by omega) (by omega)) (fun j hj => by rw [ue _ (by omega)]; exact put_e (by omega) (by omega) (by omega) (by omega)), hRS, h8, hF.send hI hg hb hn1 t5 (by rw [ue _ (by omega)]; exact put_e (by omega) (by omega) (by omega) (by omega)) (fun x x0 x1 => by rw [ue _ (by omega)]; exact hcell x x0 x1), rfl, hOS⟩
theorem TR.refl {σ : SS} {M G : NN} (hH : RH σ 0 M) (hS : SM σ M) (hR : RG σ) (h8 : ∀ i j, σ 8 0 i j ≤ 1000000) (hF : FR σ M G) : TR σ σ M G := ⟨hH, hS, hR, h8, hF, rfl, fun _ _ _ _ => rfl⟩

set_option maxRecDepth 100000 in
theorem c_X6_sendFrom {g : GG} {kp : Bool} {σ : SS} (hR : RG σ) {N : NN} {kk : Int} (hI : IV N kk) (hH : RH σ 0 N) {G : NN} (hS : SM σ N) (h8 : ∀ i j, σ 8 0 i j ≤ 1000000) (hF : FR σ N G) (p : Int) (hp : 0 ≤ p ∧ p < N 0) : TC g kp 4 mX6_sendFrom [rf g (ad 9 0 0), vi p] σ (fun r τ => r = none ∧ TR σ τ (gvN N G p).1 (gvN N G p).2) := by
  refine TC.of (by decide) (Nat.le_of_ble_eq_true rfl) rfl ?_
  obtain ⟨b0, b1, b2, b3, b4, b5⟩ := hI.n
  obtain ⟨n0, n1, n2, n3, n4⟩ := hH.n
  obtain ⟨e0, e1, e2⟩ := hH.p p (by omega) (by omega)
  obtain ⟨k1, -⟩ := hI.p hp.1 hp.2
  have hge := gv_eq (G := G) k1
  have hnv := fun h => ntg_v hI hp h
  have hob := otf_b (p := p) (g := ntg N p) hI
  obtain ⟨r0, r1, -⟩ := hH.r p hp.1 hp.2
  have hnR : inR (ntg N p) := by
    have hb1 : ntg N p < N 3 := by
      by_cases q : 0 ≤ ntg N p
      · exact (hnv q).1.2
      · omega
    have hb2 : -1 ≤ ntg N p := by
      have a1 := mnI_b (P := wP N 0 p) (K := fun g => N (604 + g)) b3.1
      have a2 := mnI_b (P := fun g => decide ((N (484 + g) = 3 ∧ N (544 + g) = p) ∧ N (348 + N (364 + g)) ≤ N 4)) (K := fun g => N (604 + g)) b3.1
      have a3 : fstW N p = mnI (wP N 0 p) (fun g => N (604 + g)) (N 3) := rfl
      have a4 : fstO N p = mnI (fun g => decide ((N (484 + g) = 3 ∧ N (544 + g) = p) ∧ N (348 + N (364 + g)) ≤ N 4)) (fun g => N (604 + g)) (N 3) := rfl
      have a5 := hI.hv hp.1 hp.2
      unfold ntg
      split
      · omega
      · split
        · omega
        · split
          · omega
          · split <;> omega
    exact ⟨by omega, by omega⟩
  refine v_aload_n 0 dX6_sendFrom_0 (nx := 1) rfl rfl ?_
  refine t_get (a := 9) (p := 0) (T := TX6) dX6_sendFrom_1 (nx := 4) rfl (by decide) (ok_m 9 rfl) rfl rfl iU6 (by decide) fl_X6_10 rfl ?_
  refine t_get (a := 7) (p := 0) (T := TX3) dX6_sendFrom_4 (nx := 7) rfl (by decide) (ok_m 7 rfl) rfl rfl iU3 (by decide) fl_X6_45 rfl ?_
  refine v_iload_n 1 dX6_sendFrom_7 (nx := 8) rfl rfl ?_
  refine t_ldP dX6_sendFrom_8 (nx := 9) rfl (ok_m 15 rfl) ⟨by omega, by omega⟩ ?_
  refine v_astore_n dX6_sendFrom_9 (nx := 10) rfl rfl (by decide) ?_
  refine v_aload_n 0 dX6_sendFrom_10 (nx := 11) rfl rfl ?_
  refine v_aload_n 2 dX6_sendFrom_11 (nx := 12) rfl rfl ?_
  refine t_callVi (a := 9) (c_X6_nextToGo hR hI hH p hp) dX6_sendFrom_12 (nx := 15) rfl kX6_nextToGo ml_X6_232 (by decide) (ok_m 9 rfl) rfl rfl rfl rfl (Nat.le_of_ble_eq_true rfl) ⟨by decide, by decide⟩ ⟨by decide, by decide⟩ ?_
  refine v_istore_n dX6_sendFrom_15 (nx := 16) rfl rfl (by decide) ?_
  refine v_aload_n 0 dX6_sendFrom_16 (nx := 17) rfl rfl ?_
  refine t_get (a := 9) (p := 0) (T := TX6) dX6_sendFrom_17 (nx := 20) rfl (by decide) (ok_m 9 rfl) rfl rfl iU6 (by decide) fl_X6_10 rfl ?_
  refine v_iload_n 3 dX6_sendFrom_20 (nx := 21) rfl rfl ?_
  refine t_callVi (a := 7) (c_X3_hasBag hR _ (by first | assumption | exact hR.1 _ _ _ _ | exact ⟨by omega, by omega⟩)) dX6_sendFrom_21 (nx := 24) rfl kX3_hasBag ml_X6_132 (by decide) (ok_m 7 rfl) rfl rfl rfl rfl (Nat.le_of_ble_eq_true rfl) ⟨by decide, by decide⟩ ⟨by decide, by decide⟩ ?_
  refine v_ifB_ne dX6_sendFrom_24 (tgt := 28) (by decide) (nx := 27) rfl (fun c24 => ?_) (fun c24 => ?_)
  · obtain ⟨hg, hat, hpl, h5⟩ := hnv (by omega)
    refine v_aload_n 0 dX6_sendFrom_28 (nx := 29) rfl rfl ?_
    refine v_iload_n 1 dX6_sendFrom_29 (nx := 30) rfl rfl ?_
    refine v_aload_n 0 dX6_sendFrom_30 (nx := 31) rfl rfl ?_
    refine t_get (a := 9) (p := 0) (T := TX6) dX6_sendFrom_31 (nx := 34) rfl (by decide) (ok_m 9 rfl) rfl rfl iU6 (by decide) fl_X6_10 rfl ?_
    refine t_get (a := 7) (p := 3) (T := TX3) dX6_sendFrom_34 (nx := 37) rfl (by decide) (ok_m 7 rfl) rfl rfl iU3 (by decide) fl_X6_120 rfl ?_
    refine v_iload_n 3 dX6_sendFrom_37 (nx := 38) rfl rfl ?_
    refine t_ldG dX6_sendFrom_38 (nx := 39) rfl (ok_m 18 rfl) ⟨by omega, by omega⟩ ?_
    refine t_callVi (a := 9) (c_X6_outletFor hR hI hH hS p _ hp hg) dX6_sendFrom_39 (nx := 42) rfl kX6_outletFor ml_X6_236 (by decide) (ok_m 9 rfl) rfl rfl rfl rfl (Nat.le_of_ble_eq_true rfl) ⟨by decide, by decide⟩ ⟨by decide, by decide⟩ ?_
    refine v_istore dX6_sendFrom_42 (nx := 44) rfl rfl (by decide) ?_
    refine v_aload_n 0 dX6_sendFrom_44 (nx := 45) rfl rfl ?_
    refine t_get (a := 9) (p := 0) (T := TX6) dX6_sendFrom_45 (nx := 48) rfl (by decide) (ok_m 9 rfl) rfl rfl iU6 (by decide) fl_X6_10 rfl ?_
    refine v_iload 4 dX6_sendFrom_48 (nx := 50) rfl rfl ?_
    refine t_callVi (a := 7) (c_X3_hasBelt hR _ (by first | assumption | exact hR.1 _ _ _ _ | exact ⟨by omega, by omega⟩)) dX6_sendFrom_50 (nx := 53) rfl kX3_hasBelt ml_X6_85 (by decide) (ok_m 7 rfl) rfl rfl rfl rfl (Nat.le_of_ble_eq_true rfl) ⟨by decide, by decide⟩ ⟨by decide, by decide⟩ ?_
    refine v_ifB_eq dX6_sendFrom_53 (tgt := 72) (by decide) (nx := 56) rfl (fun c53 => ?_) (fun c53 => ?_)
    · exact t_ret dX6_sendFrom_72 rfl (by refine ⟨rfl, ?_⟩; rw [hge, if_neg (fun q => by have := of_decide_eq_true q.2; omega)]; exact TR.refl hH hS hR h8 hF)
    · obtain ⟨l0, l1, l2, l3, l4⟩ := hH.b (otf N p (ntg N p)) (by omega) (by omega)
      have hc0 := hH.c (otf N p (ntg N p)) 0 (by omega) (by omega) (by omega) (by omega)
      rw [show 148 + 12 * otf N p (ntg N p) + 0 = 148 + 12 * otf N p (ntg N p) by omega] at hc0
      refine v_aload_n 0 dX6_sendFrom_56 (nx := 57) rfl rfl ?_
      refine t_get (a := 9) (p := 0) (T := TX6) dX6_sendFrom_57 (nx := 60) rfl (by decide) (ok_m 9 rfl) rfl rfl iU6 (by decide) fl_X6_10 rfl ?_
      refine t_get (a := 7) (p := 1) (T := TX3) dX6_sendFrom_60 (nx := 63) rfl (by decide) (ok_m 7 rfl) rfl rfl iU3 (by decide) fl_X6_72 rfl ?_
      refine v_iload 4 dX6_sendFrom_63 (nx := 65) rfl rfl ?_
      refine t_ldB dX6_sendFrom_65 (nx := 66) rfl (ok_m 16 rfl) ⟨by omega, by omega⟩ ?_
      refine t_callVi (a := 2) (c_X1_canEnter hR _ (by omega)) dX6_sendFrom_66 (nx := 69) rfl kX1_canEnter ml_X6_240 (by decide) (by first | assumption | exact ok_2 ⟨by omega, by omega⟩) rfl rfl rfl rfl (Nat.le_of_ble_eq_true rfl) ⟨by decide, by decide⟩ ⟨by decide, by decide⟩ ?_
      refine v_ifB_ne dX6_sendFrom_69 (tgt := 73) (by decide) (nx := 72) rfl (fun c69 => ?_) (fun c69 => ?_)
      · obtain ⟨l, hl, hlv⟩ := lvP_eq (hH.r p hp.1 hp.2) h5 hg ⟨hat, hpl⟩
        have hsd := send_ok (G := G) hI hH hS hR h8 hF hp hg hat hpl (b := otf N p (ntg N p)) ⟨by omega, by omega⟩ (by omega) hl
        have hfb : freeB N (otf N p (ntg N p)) = true := decide_eq_true ⟨by omega, by omega, by omega⟩
        rw [if_pos ⟨hg.1, hfb⟩] at hge
        refine v_aload_n 2 dX6_sendFrom_73 (nx := 74) rfl rfl ?_
        refine v_iload_n 3 dX6_sendFrom_74 (nx := 75) rfl rfl ?_
        refine t_callVv (a := 0) ((by have h := c_X4_leaveP (g := g) (kp := kp) hR p (by omega) (ntg N p) (by first | assumption | exact hR.1 _ _ _ _ | exact ⟨by omega, by omega⟩) r0; rw [hlv] at h; exact h)) dX6_sendFrom_75 (nx := 78) rfl kX4_leave ml_X6_244 (by decide) (by first | assumption | exact ok_0 ⟨by omega, by omega⟩) rfl rfl rfl rfl (Nat.le_of_ble_eq_true rfl) ⟨by decide, by decide⟩ ⟨by decide, by decide⟩ ?_
        refine v_aload_n 0 dX6_sendFrom_78 (nx := 79) rfl rfl ?_
        refine t_get (a := 9) (p := 0) (T := TX6) dX6_sendFrom_79 (nx := 82) rfl (by decide) (ok_m 9 rfl) rfl rfl iU6 (by decide) fl_X6_10 rfl ?_
        refine t_get (a := 7) (p := 1) (T := TX3) dX6_sendFrom_82 (nx := 85) rfl (by decide) (ok_m 7 rfl) rfl rfl iU3 (by decide) fl_X6_72 rfl ?_
        refine v_iload 4 dX6_sendFrom_85 (nx := 87) rfl rfl ?_
        refine t_ldB dX6_sendFrom_87 (nx := 88) rfl (ok_m 16 rfl) ⟨by omega, by omega⟩ ?_
        refine v_iload_n 3 dX6_sendFrom_88 (nx := 89) rfl rfl ?_
        refine t_callVv (a := 2) (c_X1_enter _ (by omega) _) dX6_sendFrom_89 (nx := 92) rfl kX1_enter ml_X6_247 (by decide) (by first | assumption | exact ok_2 ⟨by omega, by omega⟩) rfl rfl rfl rfl (Nat.le_of_ble_eq_true rfl) ⟨by decide, by decide⟩ ⟨by decide, by decide⟩ ?_
        refine v_aload_n 0 dX6_sendFrom_92 (nx := 93) rfl rfl ?_
        refine t_get (a := 9) (p := 0) (T := TX6) dX6_sendFrom_93 (nx := 96) rfl (by decide) (ok_m 9 rfl) rfl rfl iU6 (by decide) fl_X6_10 rfl ?_
        refine t_get (a := 7) (p := 3) (T := TX3) dX6_sendFrom_96 (nx := 99) rfl (by decide) (ok_m 7 rfl) rfl rfl iU3 (by decide) fl_X6_120 rfl ?_
        refine v_iload_n 3 dX6_sendFrom_99 (nx := 100) rfl rfl ?_
        refine t_ldG dX6_sendFrom_100 (nx := 101) rfl (ok_m 18 rfl) ⟨by omega, by omega⟩ ?_
        refine v_iconst dX6_sendFrom_101 (nx := 102) rfl ?_
        refine v_iload 4 dX6_sendFrom_102 (nx := 104) rfl rfl ?_
        refine t_callVv (a := 5) (c_X0_put _ (by omega) _ _) dX6_sendFrom_104 (nx := 107) rfl kX0_put ml_X6_250 (by decide) (by first | assumption | exact ok_5 ⟨by omega, by omega⟩) rfl rfl rfl rfl (Nat.le_of_ble_eq_true rfl) ⟨by decide, by decide⟩ ⟨by decide, by decide⟩ ?_
        refine v_aload_n 2 dX6_sendFrom_107 (nx := 108) rfl rfl ?_
        refine t_get (a := 0) (p := 0) (T := TX4) dX6_sendFrom_108 (nx := 111) rfl (by decide) (by first | assumption | exact ok_0 ⟨by omega, by omega⟩) rfl rfl iU4 (by decide) fl_X6_66 rfl ?_
        refine v_top (z' := N (8 + p)) (by rw [← e0]; unfold rmS up sK; (repeat (first | rewrite [if_pos (by omega)] | rewrite [if_neg (by omega)] | dsimp only)); (try rfl)) ?_
        refine v_if_ne dX6_sendFrom_111 (tgt := 134) (by decide) (nx := 114) rfl (by first | assumption | exact hR.1 _ _ _ _ | exact ⟨by omega, by omega⟩) (fun c111 => ?_) (fun c111 => ?_)
        · exact t_ret dX6_sendFrom_134 rfl (by refine ⟨rfl, ?_⟩; rw [hge]; rw [if_neg (by assumption)] at hsd; exact hsd)
        · refine v_aload_n 0 dX6_sendFrom_114 (nx := 115) rfl rfl ?_
          refine t_get (a := 9) (p := 0) (T := TX6) dX6_sendFrom_115 (nx := 118) rfl (by decide) (ok_m 9 rfl) rfl rfl iU6 (by decide) fl_X6_10 rfl ?_
          refine t_get (a := 7) (p := 3) (T := TX3) dX6_sendFrom_118 (nx := 121) rfl (by decide) (ok_m 7 rfl) rfl rfl iU3 (by decide) fl_X6_120 rfl ?_
          refine v_iload_n 3 dX6_sendFrom_121 (nx := 122) rfl rfl ?_
          refine t_ldG dX6_sendFrom_122 (nx := 123) rfl (ok_m 18 rfl) ⟨by omega, by omega⟩ ?_
          refine v_aload_n 0 dX6_sendFrom_123 (nx := 124) rfl rfl ?_
          refine t_get (a := 9) (p := 0) (T := TX6) dX6_sendFrom_124 (nx := 127) rfl (by decide) (ok_m 9 rfl) rfl rfl iU6 (by decide) fl_X6_10 rfl ?_
          refine t_get (a := 7) (p := 8) (T := TX3) dX6_sendFrom_127 (nx := 130) rfl (by decide) (ok_m 7 rfl) rfl rfl iU3 (by decide) fl_X6_171 rfl ?_
          refine v_top (z' := N 4) n4 ?_
          refine v_iload_n 1 dX6_sendFrom_130 (nx := 131) rfl rfl ?_
          refine t_callVv (a := 5) (c_X0_addStep (show RG (sndS σ p l (otf N p (ntg N p)) (ntg N p)) from (RG_up (RG_up (RG_up (RG_up (RG_rm hR r0.1) (by first | assumption | exact hR.1 _ _ _ _ | exact ⟨by omega, by omega⟩)) ⟨by decide, by decide⟩) ⟨by decide, by decide⟩) ⟨by omega, by omega⟩)) _ (by omega) _ _ (by show 0 ≤ sndS σ p l (otf N p (ntg N p)) (ntg N p) 5 0 (ntg N p) 5; rw [show sndS σ p l (otf N p (ntg N p)) (ntg N p) 5 0 (ntg N p) 5 = σ 5 0 (ntg N p) 5 from (by unfold sndS rmS up sK; (repeat (first | rewrite [if_pos (by omega)] | rewrite [if_neg (by omega)] | dsimp only)); (try rfl))]; have h1 := (hH.g _ hg.1 hg.2).2.2.2.2.2; have h2 := (hI.g hg.1 hg.2).2.2.1.1; omega)) dX6_sendFrom_131 (nx := 134) rfl kX0_addStep ml_X6_253 (by decide) (by first | assumption | exact ok_5 ⟨by omega, by omega⟩) rfl rfl rfl rfl (Nat.le_of_ble_eq_true rfl) ⟨by decide, by decide⟩ ⟨by decide, by decide⟩ ?_
          exact t_ret dX6_sendFrom_134 rfl (by refine ⟨rfl, ?_⟩; rw [hge]; rw [if_pos (by assumption)] at hsd; exact hsd)
      · exact t_ret dX6_sendFrom_72 rfl (by refine ⟨rfl, ?_⟩; rw [hge, if_neg (fun q => by have := of_decide_eq_true q.2; omega)]; exact TR.refl hH hS hR h8 hF)
  · exact t_ret dX6_sendFrom_27 rfl (by refine ⟨rfl, ?_⟩; rw [hge, if_neg (fun q => by have := hnv q.1; omega)]; exact TR.refl hH hS hR h8 hF)
