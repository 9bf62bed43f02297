set_option maxRecDepth 100000 in
theorem l_X7_waitingAt {g : GG} {kp : Bool} {σ : SS} {N K G F : Int → Int} {k f : Int} (hR : ∀ j, inR (N j)) (p : Int) (hp : inR p) (b3 : 0 ≤ N 3 ∧ N 3 ≤ 60) : ∀ (m : Nat) (x c : Int), (0 ≤ x ∧ x ≤ N 3) → (N 3 - x < m) → (c = cntI (wP N 0 p) x) → V g (rmD 0 0 0) mX7_waitingAt (ZT g kp (fun r τ => r = (some (vi (cntI (wP N 0 p) (N 3)))) ∧ τ = (mkS σ N K G F k f))) E0 4 [(0, rf g (ad 14 0 0)), (1, vi p), (2, vi c), (3, vi x)] [] (vw g kp (mkS σ N K G F k f)) (sz kp) 0 0 := by
  intro m
  induction m with
  | zero => intro x c hx hm hc; exfalso; omega
  | succ m ih =>
    intro x c hx hm hc
    have hcb := cntI_b (P := wP N 0 p) hx.1
    rw [← hc] at hcb
    refine v_iload_n 3 dX7_waitingAt_4 (nx := 5) rfl rfl ?_
    refine v_aload_n 0 dX7_waitingAt_5 (nx := 6) rfl rfl ?_
    refine m_gA 10 (p := 0) dX7_waitingAt_6 (nx := 9) rfl (by decide) fl_X7_9 rfl ?_
    refine v_iconst dX7_waitingAt_9 (nx := 10) rfl ?_
    refine m_ald10 dX7_waitingAt_10 (nx := 11) rfl ⟨by omega, by omega⟩ ?_
    refine v_icmp_ge dX7_waitingAt_11 (tgt := 55) (by decide) (nx := 14) rfl (by first | assumption | exact hR _ | exact ⟨by omega, by omega⟩) (by first | assumption | exact hR _ | exact ⟨by omega, by omega⟩) (fun c11 => ?_) (fun c11 => ?_)
    · refine v_iload_n 2 dX7_waitingAt_55 (nx := 56) rfl rfl ?_
      exact t_iret dX7_waitingAt_56 rfl ⟨by rw [hc, show x = N 3 by omega], rfl⟩
    · refine v_iload_n 2 dX7_waitingAt_14 (nx := 15) rfl rfl ?_
      refine v_aload_n 0 dX7_waitingAt_15 (nx := 16) rfl rfl ?_
      refine m_gA 10 (p := 0) dX7_waitingAt_16 (nx := 19) rfl (by decide) fl_X7_9 rfl ?_
      refine v_sipush dX7_waitingAt_19 (nx := 22) rfl rfl ?_
      refine v_iload_n 3 dX7_waitingAt_22 (nx := 23) rfl rfl ?_
      refine v_iadd dX7_waitingAt_23 (nx := 24) rfl ?_
      refine m_ald10 dX7_waitingAt_24 (nx := 25) rfl ⟨by omega, by omega⟩ ?_
      refine v_if_ne dX7_waitingAt_25 (tgt := 46) (by decide) (nx := 28) rfl (by first | assumption | exact hR _ | exact ⟨by omega, by omega⟩) (fun c25 => ?_) (fun c25 => ?_)
      · refine v_iconst dX7_waitingAt_46 (nx := 47) rfl ?_
        refine v_iadd dX7_waitingAt_47 (nx := 48) rfl ?_
        refine v_istore_n dX7_waitingAt_48 (nx := 49) rfl rfl (by decide) ?_
        refine v_iinc 3 dX7_waitingAt_49 (nx := 52) rfl rfl rfl (by decide) ?_
        refine v_goto dX7_waitingAt_52 (tgt := 4) (by decide) ?_
        exact ih _ _ ⟨by omega, by omega⟩ (by omega) (by first | exact cn_t hc hx.1 (decide_eq_true (by omega)) | exact cn_f hc hx.1 (decide_eq_false (by omega)) | exact cn_n hc hx.1 (decide_eq_false (by omega)))
      · refine v_aload_n 0 dX7_waitingAt_28 (nx := 29) rfl rfl ?_
        refine m_gA 10 (p := 0) dX7_waitingAt_29 (nx := 32) rfl (by decide) fl_X7_9 rfl ?_
        refine v_sipush dX7_waitingAt_32 (nx := 35) rfl rfl ?_
        refine v_iload_n 3 dX7_waitingAt_35 (nx := 36) rfl rfl ?_
        refine v_iadd dX7_waitingAt_36 (nx := 37) rfl ?_
        refine m_ald10 dX7_waitingAt_37 (nx := 38) rfl ⟨by omega, by omega⟩ ?_
        refine v_iload_n 1 dX7_waitingAt_38 (nx := 39) rfl rfl ?_
        refine v_icmp_ne dX7_waitingAt_39 (tgt := 46) (by decide) (nx := 42) rfl (by first | assumption | exact hR _ | exact ⟨by omega, by omega⟩) (by first | assumption | exact hR _ | exact ⟨by omega, by omega⟩) (fun c39 => ?_) (fun c39 => ?_)
        · refine v_iconst dX7_waitingAt_46 (nx := 47) rfl ?_
          refine v_iadd dX7_waitingAt_47 (nx := 48) rfl ?_
          refine v_istore_n dX7_waitingAt_48 (nx := 49) rfl rfl (by decide) ?_
          refine v_iinc 3 dX7_waitingAt_49 (nx := 52) rfl rfl rfl (by decide) ?_
          refine v_goto dX7_waitingAt_52 (tgt := 4) (by decide) ?_
          exact ih _ _ ⟨by omega, by omega⟩ (by omega) (by first | exact cn_t hc hx.1 (decide_eq_true (by omega)) | exact cn_f hc hx.1 (decide_eq_false (by omega)) | exact cn_n hc hx.1 (decide_eq_false (by omega)))
        · refine v_iconst dX7_waitingAt_42 (nx := 43) rfl ?_
          refine v_goto dX7_waitingAt_43 (tgt := 47) (by decide) ?_
          refine v_iadd dX7_waitingAt_47 (nx := 48) rfl ?_
          refine v_istore_n dX7_waitingAt_48 (nx := 49) rfl rfl (by decide) ?_
          refine v_iinc 3 dX7_waitingAt_49 (nx := 52) rfl rfl rfl (by decide) ?_
          refine v_goto dX7_waitingAt_52 (tgt := 4) (by decide) ?_
          exact ih _ _ ⟨by omega, by omega⟩ (by omega) (by first | exact cn_t hc hx.1 (decide_eq_true (by omega)) | exact cn_f hc hx.1 (decide_eq_false (by omega)) | exact cn_n hc hx.1 (decide_eq_false (by omega)))

set_option maxRecDepth 100000 in
theorem c_X7_waitingAt {g : GG} {kp : Bool} {σ : SS} {N K G F : Int → Int} {k f : Int} (hR : ∀ j, inR (N j)) (p : Int) (hp : inR p) (b3 : 0 ≤ N 3 ∧ N 3 ≤ 60) : XC g kp 0 mX7_waitingAt [rf g (ad 14 0 0), vi p] (mkS σ N K G F k f) (some (vi (cntI (wP N 0 p) (N 3)))) (mkS σ N K G F k f) := by
  refine TC.of (by decide) (Nat.le_of_ble_eq_true rfl) rfl ?_
  refine v_iconst dX7_waitingAt_0 (nx := 1) rfl ?_
  refine v_istore_n dX7_waitingAt_1 (nx := 2) rfl rfl (by decide) ?_
  refine v_iconst dX7_waitingAt_2 (nx := 3) rfl ?_
  refine v_istore_n dX7_waitingAt_3 (nx := 4) rfl rfl (by decide) ?_
  exact l_X7_waitingAt hR p hp b3 (N 3 + 1).toNat 0 0 ⟨by omega, by omega⟩ (by omega) cntI_0.symm

set_option maxRecDepth 100000 in
theorem l_X7_storedAt {g : GG} {kp : Bool} {σ : SS} {N K G F : Int → Int} {k f : Int} (hR : ∀ j, inR (N j)) (p : Int) (hp : inR p) (b3 : 0 ≤ N 3 ∧ N 3 ≤ 60) : ∀ (m : Nat) (x c : Int), (0 ≤ x ∧ x ≤ N 3) → (N 3 - x < m) → (c = cntI (wP N 3 p) x) → V g (rmD 0 0 0) mX7_storedAt (ZT g kp (fun r τ => r = (some (vi (cntI (wP N 3 p) (N 3)))) ∧ τ = (mkS σ N K G F k f))) E0 4 [(0, rf g (ad 14 0 0)), (1, vi p), (2, vi c), (3, vi x)] [] (vw g kp (mkS σ N K G F k f)) (sz kp) 0 0 := by
  intro m
  induction m with
  | zero => intro x c hx hm hc; exfalso; omega
  | succ m ih =>
    intro x c hx hm hc
    have hcb := cntI_b (P := wP N 3 p) hx.1
    rw [← hc] at hcb
    refine v_iload_n 3 dX7_storedAt_4 (nx := 5) rfl rfl ?_
    refine v_aload_n 0 dX7_storedAt_5 (nx := 6) rfl rfl ?_
    refine m_gA 10 (p := 0) dX7_storedAt_6 (nx := 9) rfl (by decide) fl_X7_9 rfl ?_
    refine v_iconst dX7_storedAt_9 (nx := 10) rfl ?_
    refine m_ald10 dX7_storedAt_10 (nx := 11) rfl ⟨by omega, by omega⟩ ?_
    refine v_icmp_ge dX7_storedAt_11 (tgt := 56) (by decide) (nx := 14) rfl (by first | assumption | exact hR _ | exact ⟨by omega, by omega⟩) (by first | assumption | exact hR _ | exact ⟨by omega, by omega⟩) (fun c11 => ?_) (fun c11 => ?_)
    · refine v_iload_n 2 dX7_storedAt_56 (nx := 57) rfl rfl ?_
      exact t_iret dX7_storedAt_57 rfl ⟨by rw [hc, show x = N 3 by omega], rfl⟩
    · refine v_iload_n 2 dX7_storedAt_14 (nx := 15) rfl rfl ?_
      refine v_aload_n 0 dX7_storedAt_15 (nx := 16) rfl rfl ?_
      refine m_gA 10 (p := 0) dX7_storedAt_16 (nx := 19) rfl (by decide) fl_X7_9 rfl ?_
      refine v_sipush dX7_storedAt_19 (nx := 22) rfl rfl ?_
      refine v_iload_n 3 dX7_storedAt_22 (nx := 23) rfl rfl ?_
      refine v_iadd dX7_storedAt_23 (nx := 24) rfl ?_
      refine m_ald10 dX7_storedAt_24 (nx := 25) rfl ⟨by omega, by omega⟩ ?_
      refine v_iconst dX7_storedAt_25 (nx := 26) rfl ?_
      refine v_icmp_ne dX7_storedAt_26 (tgt := 47) (by decide) (nx := 29) rfl (by first | assumption | exact hR _ | exact ⟨by omega, by omega⟩) (by first | assumption | exact hR _ | exact ⟨by omega, by omega⟩) (fun c26 => ?_) (fun c26 => ?_)
      · refine v_iconst dX7_storedAt_47 (nx := 48) rfl ?_
        refine v_iadd dX7_storedAt_48 (nx := 49) rfl ?_
        refine v_istore_n dX7_storedAt_49 (nx := 50) rfl rfl (by decide) ?_
        refine v_iinc 3 dX7_storedAt_50 (nx := 53) rfl rfl rfl (by decide) ?_
        refine v_goto dX7_storedAt_53 (tgt := 4) (by decide) ?_
        exact ih _ _ ⟨by omega, by omega⟩ (by omega) (by first | exact cn_t hc hx.1 (decide_eq_true (by omega)) | exact cn_f hc hx.1 (decide_eq_false (by omega)) | exact cn_n hc hx.1 (decide_eq_false (by omega)))
      · refine v_aload_n 0 dX7_storedAt_29 (nx := 30) rfl rfl ?_
        refine m_gA 10 (p := 0) dX7_storedAt_30 (nx := 33) rfl (by decide) fl_X7_9 rfl ?_
        refine v_sipush dX7_storedAt_33 (nx := 36) rfl rfl ?_
        refine v_iload_n 3 dX7_storedAt_36 (nx := 37) rfl rfl ?_
        refine v_iadd dX7_storedAt_37 (nx := 38) rfl ?_
        refine m_ald10 dX7_storedAt_38 (nx := 39) rfl ⟨by omega, by omega⟩ ?_
        refine v_iload_n 1 dX7_storedAt_39 (nx := 40) rfl rfl ?_
        refine v_icmp_ne dX7_storedAt_40 (tgt := 47) (by decide) (nx := 43) rfl (by first | assumption | exact hR _ | exact ⟨by omega, by omega⟩) (by first | assumption | exact hR _ | exact ⟨by omega, by omega⟩) (fun c40 => ?_) (fun c40 => ?_)
        · refine v_iconst dX7_storedAt_47 (nx := 48) rfl ?_
          refine v_iadd dX7_storedAt_48 (nx := 49) rfl ?_
          refine v_istore_n dX7_storedAt_49 (nx := 50) rfl rfl (by decide) ?_
          refine v_iinc 3 dX7_storedAt_50 (nx := 53) rfl rfl rfl (by decide) ?_
          refine v_goto dX7_storedAt_53 (tgt := 4) (by decide) ?_
          exact ih _ _ ⟨by omega, by omega⟩ (by omega) (by first | exact cn_t hc hx.1 (decide_eq_true (by omega)) | exact cn_f hc hx.1 (decide_eq_false (by omega)) | exact cn_n hc hx.1 (decide_eq_false (by omega)))
        · refine v_iconst dX7_storedAt_43 (nx := 44) rfl ?_
          refine v_goto dX7_storedAt_44 (tgt := 48) (by decide) ?_
          refine v_iadd dX7_storedAt_48 (nx := 49) rfl ?_
          refine v_istore_n dX7_storedAt_49 (nx := 50) rfl rfl (by decide) ?_
          refine v_iinc 3 dX7_storedAt_50 (nx := 53) rfl rfl rfl (by decide) ?_
          refine v_goto dX7_storedAt_53 (tgt := 4) (by decide) ?_
          exact ih _ _ ⟨by omega, by omega⟩ (by omega) (by first | exact cn_t hc hx.1 (decide_eq_true (by omega)) | exact cn_f hc hx.1 (decide_eq_false (by omega)) | exact cn_n hc hx.1 (decide_eq_false (by omega)))

set_option maxRecDepth 100000 in
theorem c_X7_storedAt {g : GG} {kp : Bool} {σ : SS} {N K G F : Int → Int} {k f : Int} (hR : ∀ j, inR (N j)) (p : Int) (hp : inR p) (b3 : 0 ≤ N 3 ∧ N 3 ≤ 60) : XC g kp 0 mX7_storedAt [rf g (ad 14 0 0), vi p] (mkS σ N K G F k f) (some (vi (cntI (wP N 3 p) (N 3)))) (mkS σ N K G F k f) := by
  refine TC.of (by decide) (Nat.le_of_ble_eq_true rfl) rfl ?_
  refine v_iconst dX7_storedAt_0 (nx := 1) rfl ?_
  refine v_istore_n dX7_storedAt_1 (nx := 2) rfl rfl (by decide) ?_
  refine v_iconst dX7_storedAt_2 (nx := 3) rfl ?_
  refine v_istore_n dX7_storedAt_3 (nx := 4) rfl rfl (by decide) ?_
  exact l_X7_storedAt hR p hp b3 (N 3 + 1).toNat 0 0 ⟨by omega, by omega⟩ (by omega) cntI_0.symm
