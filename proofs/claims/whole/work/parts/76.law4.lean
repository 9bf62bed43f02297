theorem CLa : Cond.classLink RL 7 RX6 ∈ wU := by decide +kernel
theorem CLb : Cond.classLink RL 10 RX7 ∈ wU := by decide +kernel
def n0 : NN := fun _ => 0
theorem JI_0 : JI n0 := by
  refine ⟨⟨⟨⟨by decide, by decide⟩, ⟨by decide, by decide⟩, ⟨by decide, by decide⟩, ⟨by decide, by decide⟩, ⟨by decide, by decide⟩, ⟨by decide, by decide⟩⟩, ?_, ?_, ?_, ?_, ?_, ?_, fun j => inR_0, ⟨by decide, by decide⟩⟩, ?_, ?_⟩
  · intro p h0 h1
    exact absurd (show p < 0 from h1) (by omega)
  · intro p h0 h1
    exact absurd (show p < 0 from h1) (by omega)
  · intro p h0 h1
    exact absurd (show p < 0 from h1) (by omega)
  · intro p h0 h1
    exact absurd (show p < 0 from h1) (by omega)
  · intro p q h0 h1
    exact absurd (show p < 0 from h1) (by omega)
  · intro p q h0 h1
    exact absurd (show p < 0 from h1) (by omega)
  · intro p i h0 h1
    exact absurd (show p < 0 from h1) (by omega)
  · intro p h0 h1
    exact absurd (show p < 0 from h1) (by omega)
theorem z0_mk : z0 = mkS z0 n0 n0 n0 n0 0 0 := by
  funext a t i j
  unfold mkS
  split <;> first | rfl | (split <;> first | rfl | (split <;> rfl))
theorem LIx_0 : LIx false z0 n0 n0 n0 n0 0 0 0 := by
  refine ⟨z0_mk, ⟨fun _ _ _ _ => inR_0, fun _ _ _ _ _ => Or.inl rfl⟩, ⟨⟨rfl, rfl, rfl, rfl, rfl⟩, ?_, ?_, ?_, ?_, ?_, ?_, ?_⟩, ?_, fun _ _ => (show (0 : Int) ≤ 1000000 by decide), rfl, ⟨by decide, by decide⟩, JI_0, ⟨by decide, by decide⟩, ⟨fun _ => Or.inl rfl, fun _ _ => rfl⟩, Or.inl ⟨rfl, rfl⟩⟩
  · intro p h0 h1
    exact absurd (show p < 0 from h1) (by omega)
  · intro p h0 h1
    exact absurd (show p < 0 from h1) (by omega)
  · intro p c h0 h1
    exact absurd (show p < 0 from h1) (by omega)
  · intro p h0 h1
    exact absurd (show p < 0 from h1) (by omega)
  · intro p h0 h1
    exact absurd (show p < 0 from h1) (by omega)
  · intro p c h0 h1
    exact absurd (show p < 0 from h1) (by omega)
  · intro p h0 h1
    exact absurd (show p < 0 from h1) (by omega)
  · intro p h0 h1
    exact absurd (show p < 0 from h1) (by omega)
set_option maxRecDepth 100000 in
theorem law_all {g : GG} {b L : Nat} {xs : Nat → Int32} {φ : Nat → ce} (hL : L ≤ 2048) : V g room_1 mL lw_Z (EL g b L xs) 0 [(0, Value.ref b)] [] φ 0 0 0 := by
  refine v_new (ci := 6) (N := 4) (C := RX6) (T := TX6) (fs := [.null, .null, .null, vi 0]) dL_law_0 (nx := 3) rfl CLa IN6 IT6 rfl iU6 tyX6 tyX6_ok (by intro j hj; match j, hj with | 0, _ => rfl | 1, _ => rfl | 2, _ => rfl | 3, _ => rfl) ⟨by decide, by decide⟩ ?_
  refine v_dup dL_law_3 (nx := 4) rfl rfl ?_
  refine v_callI (x := 0) (c_X6_init va_s) dL_law_4 (nx := 7) rfl kX6_init ml_L_9 rfl rfl (Nat.le_of_ble_eq_true rfl) ⟨by decide, by decide⟩ ⟨by decide, by decide⟩ (fun r φ' n' hq => ?_)
  obtain ⟨rfl, rfl, hc⟩ := hq
  refine V.ceq hc ?_
  refine v_astore_n (k := 1) (x := 0) dL_law_7 (nx := 8) rfl rfl (by decide) ?_
  refine v_new (ci := 7) (N := 6) (C := RX7) (T := TX7) (fs := [.null, .null, vi 0, vi 0, .null, .null]) dL_law_8 (nx := 11) rfl CLb IN7 IT7 rfl iU7 tyX7 tyX7_ok (by intro j hj; match j, hj with | 0, _ => rfl | 1, _ => rfl | 2, _ => rfl | 3, _ => rfl | 4, _ => rfl | 5, _ => rfl) ⟨by decide, by decide⟩ ?_
  refine v_dup dL_law_11 (nx := 12) rfl rfl ?_
  refine v_callI (x := 0) (c_X7_init va_s) dL_law_12 (nx := 15) rfl kX7_init ml_L_12 rfl rfl (Nat.le_of_ble_eq_true rfl) ⟨by decide, by decide⟩ ⟨by decide, by decide⟩ (fun r φ' n' hq => ?_)
  obtain ⟨rfl, rfl, hc2⟩ := hq
  refine V.cong (ψ := vw g false z0) (fun k hk => ?_) ?_
  · rw [hc2 k hk]
    split
    · exact va_n (by omega)
    · rfl
  refine v_astore_n (k := 2) (x := 204) dL_law_15 (nx := 16) rfl rfl (by decide) ?_
  refine v_iconst dL_law_16 (nx := 17) rfl ?_
  refine v_istore_n (k := 3) dL_law_17 (nx := 18) rfl rfl (by decide) ?_
  exact V.num (n' := sz false) (ca' := caK false) (sl' := slK false) rfl rfl rfl (law_loop hL 3000 false z0 n0 n0 n0 n0 0 0 0 0 (by omega) (by omega) (by omega) (by omega) LIx_0)
/-! ===== what the tables give at the entry ===== -/
theorem AR_prim {s : State} {args : Array Value} {ty : FieldType} (h : (Cond.arrayClass ty).before args s = true) : ∃ cA : ClassId, ArrOfT s cA ty ∧ s.vm.findClass ("[" ++ ty.toString) = some cA := by
  obtain ⟨c, k, comp, h1, h2, h3⟩ := Cond.arrayClass_spec h
  exact ⟨c, fun N z => ⟨fun q h => (by cases h), k, h2, comp, h3⟩, h1⟩
theorem AR_obj {s : State} {args : Array Value} {C : String} (h : (Cond.arrayOver (.object C)).before args s = true) : ∃ cA : ClassId, ArrOfT s cA (.object C) ∧ va_RA s cA (.object C) := by
  obtain ⟨comp, c, k, h1, -, h2, h3, h4⟩ := Cond.arrayOver_spec h
  exact ⟨c, fun N z => ⟨fun q h => (by cases h), k, h2, comp, h3⟩, k, comp, h2, h3, h1, h4⟩
theorem AR_arr {s : State} {args : Array Value} (h : (Cond.arrayOver (.array .int)).before args s = true) : ∃ cA : ClassId, ArrOfT s cA (.array .int) ∧ va_RA s cA (.array .int) := by
  obtain ⟨comp, c, k, h1, h2, h3, h4⟩ := mo_over h
  exact ⟨c, fun N z => ⟨fun q h => (by cases h), k, h2, comp, h3⟩, h4⟩

theorem tw0 : Cond.arrayOver (.object RX4) ∈ lw_tbl := by decide +kernel

theorem tw1 : Cond.arrayOver (.object RX1) ∈ lw_tbl := by decide +kernel

theorem tw2 : Cond.arrayOver (.object RX2) ∈ lw_tbl := by decide +kernel

theorem tw3 : Cond.arrayOver (.object RX0) ∈ lw_tbl := by decide +kernel

theorem tw4 : Cond.arrayOver (.array .int) ∈ lw_tbl := by decide +kernel

theorem tw5 : Cond.methodLinkNest RX3 35 yX4_init RX6 ∈ lw_tbl := by decide +kernel

theorem tw6 : Cond.methodLinkNest RX3 36 yX1_init RX6 ∈ lw_tbl := by decide +kernel

theorem tw7 : Cond.methodLinkNest RX3 37 yX2_init RX6 ∈ lw_tbl := by decide +kernel

theorem tw8 : Cond.methodLinkNest RX3 38 yX0_init RX6 ∈ lw_tbl := by decide +kernel

theorem tw9 : Cond.methodLinkNest RX6 18 yX5_init RX6 ∈ lw_tbl := by decide +kernel

set_option maxRecDepth 100000 in
theorem whole_start {p : Program} {e : Env} {s : State} {m : MethodId} {below : List Frame} {meth : Method} {c : Code} (l : Launch) {b L : Nat} {xs : Nat → Int32} (hL : L ≤ 2048) (C0 : lw_At p s m meth c b L xs) : W p l e room_1 s m #[Value.ref b] below meth c s.heap [] 0 0 (lw_Z below #[Value.ref b] s) (entryFrame m ([Value.ref b] : List Value).toArray 4) := by
  obtain ⟨hex, hb, hr, hml, hown, hts, hX, hbl, hlk, -⟩ := C0
  have htU : ∀ w ∈ wU, w.before #[Value.ref b] s = true := fun w hw => hts w (wU_in hw)
  obtain ⟨c0, i0, u0⟩ := u_known (C := RX0) (T := TX0) (N := 7) htU iU0 (htU _ IN0)
  obtain ⟨c1, i1, u1⟩ := u_known (C := RX1) (T := TX1) (N := 7) htU iU1 (htU _ IN1)
  obtain ⟨c2, i2, u2⟩ := u_known (C := RX2) (T := TX2) (N := 3) htU iU2 (htU _ IN2)
  obtain ⟨c3, i3, u3⟩ := u_known (C := RX3) (T := TX3) (N := 9) htU iU3 (htU _ IN3)
  obtain ⟨c4, i4, u4⟩ := u_known (C := RX4) (T := TX4) (N := 6) htU iU4 (htU _ IN4)
  obtain ⟨c5, i5, u5⟩ := u_known (C := RX5) (T := TX5) (N := 1) htU iU5 (htU _ IN5)
  obtain ⟨c6, i6, u6⟩ := u_known (C := RX6) (T := TX6) (N := 4) htU iU6 (htU _ IN6)
  obtain ⟨c7, i7, u7⟩ := u_known (C := RX7) (T := TX7) (N := 6) htU iU7 (htU _ IN7)
  obtain ⟨a0, r0, f0⟩ := AR_prim (htU _ alI)
  obtain ⟨a1, r1, f1⟩ := AR_prim (htU _ alZ)
  obtain ⟨a2, r2, f2⟩ := AR_obj (hts _ tw0)
  obtain ⟨a3, r3, f3⟩ := AR_obj (hts _ tw1)
  obtain ⟨a4, r4, f4⟩ := AR_obj (hts _ tw2)
  obtain ⟨a5, r5, f5⟩ := AR_obj (hts _ tw3)
  obtain ⟨a6, r6, f6⟩ := AR_arr (hts _ tw4)
  have hKU : KU (l, s.heap.size, (fun k => match k with | 0 => c0 | 1 => c1 | 2 => c2 | 3 => c3 | 4 => c4 | 5 => c5 | 6 => c6 | _ => c7, fun k => match k with | 0 => i0 | 1 => i1 | 2 => i2 | 3 => i3 | 4 => i4 | 5 => i5 | 6 => i6 | _ => i7), fun k => match k with | 0 => a0 | 1 => a1 | 2 => a2 | 3 => a3 | 4 => a4 | 5 => a5 | _ => a6) s := by
    refine ⟨fun k q hq => ?_, fun k q hq => ?_⟩
    · match k, hq with
      | 0, hq => cases hq; exact u0
      | 1, hq => cases hq; exact u1
      | 2, hq => cases hq; exact u2
      | 3, hq => cases hq; exact u3
      | 4, hq => cases hq; exact u4
      | 5, hq => cases hq; exact u5
      | 6, hq => cases hq; exact u6
      | 7, hq => cases hq; exact u7
      | k + 8, hq => cases hq
    · match k, hq with
      | 0, hq => cases hq; exact ⟨r0, f0⟩
      | 1, hq => cases hq; exact ⟨r1, f1⟩
      | 2, hq => cases hq; exact ⟨r2, f2⟩
      | 3, hq => cases hq; exact ⟨r3, f3⟩
      | 4, hq => cases hq; exact ⟨r4, f4⟩
      | 5, hq => cases hq; exact ⟨r5, f5⟩
      | 6, hq => cases hq; exact ⟨r6, f6⟩
      | k + 7, hq => cases hq
  have hKX : KX s := ⟨⟨va_AO.of (hts _ tw0), va_AO.of (hts _ tw1), va_AO.of (hts _ tw2), va_AO.of (hts _ tw3), show (Cond.arrayOver (.array .int)).before #[] s = true from hts _ tw4⟩, va_Nw.of rfl (hts _ tw5), va_Nw.of rfl (hts _ tw6), va_Nw.of rfl (hts _ tw7), va_Nw.of rfl (hts _ tw8), va_Nw.of rfl (hts _ tw9)⟩
  rw [lg_entry_eq]
  exact law_all (g := (l, s.heap.size, (fun k => match k with | 0 => c0 | 1 => c1 | 2 => c2 | 3 => c3 | 4 => c4 | 5 => c5 | 6 => c6 | _ => c7, fun k => match k with | 0 => i0 | 1 => i1 | 2 => i2 | 3 => i3 | 4 => i4 | 5 => i5 | 6 => i6 | _ => i7), fun k => match k with | 0 => a0 | 1 => a1 | 2 => a2 | 3 => a3 | 4 => a4 | 5 => a5 | _ => a6)) (φ := fun _ => .inr (0, [])) hL p e s m #[Value.ref b] below meth c s.heap [] _ ⟨hex, hb, hr, hml, hown, htU, hlk, fun q => absurd q (by decide), hKU, Nat.le_refl _, ⟨rfl, hX, hbl, rfl⟩, hKX⟩ ⟨⟨rfl, fun k hk => absurd hk (Nat.not_lt_zero k)⟩, va_S.rf⟩ (lv_entry [Value.ref b] (Nat.le_of_ble_eq_true rfl))
