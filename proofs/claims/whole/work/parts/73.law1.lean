set_option maxRecDepth 100000 in
theorem c_X7_step2 {g : GG} {kp : Bool} {σ : SS} {N K G F : Int → Int} {k f : Int} (hR : ∀ j, inR (N j)) (b : Int) (i : Int) (tk : Int) (hb : inR b) (hi : inR i) (htk : inR tk) (b0 : 0 ≤ N 0 ∧ N 0 ≤ 12) (b1 : 0 ≤ N 1 ∧ N 1 ≤ 16) (b2 : 0 ≤ N 2 ∧ N 2 ≤ 8) (b3 : 0 ≤ N 3 ∧ N 3 ≤ 60) (hs : ∀ b, 0 ≤ b → b < N 3 → 0 ≤ N (664 + b) ∧ N (664 + b) < 2000000000) (h01 : tk = 0 ∨ tk = 1) : XC g kp 2 mX7_step [rf g (ad 14 0 0), vi b, vi i, vi tk] (mkS σ N K G F k f) (some (vi (s_step N b i tk).1)) (mkS σ (s_step N b i tk).2.1 K G F k (f + (s_step N b i tk).2.2)) := by
  refine TC.of (by decide) (Nat.le_of_ble_eq_true rfl) rfl ?_
  refine v_aload_n 0 dX7_step_0 (nx := 1) rfl rfl ?_
  refine v_iload_n 1 dX7_step_1 (nx := 2) rfl rfl ?_
  refine t_callVi (a := 14) (c_X7_isBag _ (by assumption) (by omega)) dX7_step_2 (nx := 5) rfl kX7_isBag ml_X7_56 (by decide) (ok_m 14 rfl) rfl rfl rfl rfl (Nat.le_of_ble_eq_true rfl) ⟨by decide, by decide⟩ ⟨by decide, by decide⟩ ?_
  refine v_ifB_eq dX7_step_5 (tgt := 33) (by decide) (nx := 8) rfl (fun c5 => ?_) (fun c5 => ?_)
  · refine v_aload_n 0 dX7_step_33 (nx := 34) rfl rfl ?_
    refine v_iconst dX7_step_34 (nx := 35) rfl ?_
    refine t_callVi (a := 14) (c_X7_finding _) dX7_step_35 (nx := 38) rfl kX7_finding ml_X7_31 (by decide) (ok_m 14 rfl) rfl rfl rfl rfl (Nat.le_of_ble_eq_true rfl) ⟨by decide, by decide⟩ ⟨by decide, by decide⟩ ?_
    exact t_iret dX7_step_38 rfl (by first | exact lf1 (by unfold s_step; (repeat (first | rewrite [if_pos (by omega)] | rewrite [if_neg (by omega)])); first | rfl | (refine Prod.ext rfl (Prod.ext (congrArg (uI _ _) ?_) rfl); unfold uI; (repeat rw [if_neg (by omega)]))) | exact lf0 (by unfold s_step; (repeat (first | rewrite [if_pos (by omega)] | rewrite [if_neg (by omega)])); first | rfl | (refine Prod.ext rfl (Prod.ext (congrArg (uI _ _) ?_) rfl); unfold uI; (repeat rw [if_neg (by omega)]))) | (exfalso; omega))
  · have hsb := hs b (by omega) (by omega)
    refine v_iload_n 2 dX7_step_8 (nx := 9) rfl rfl ?_
    refine v_iconst dX7_step_9 (nx := 10) rfl ?_
    refine v_aload_n 0 dX7_step_10 (nx := 11) rfl rfl ?_
    refine m_gA 10 (p := 0) dX7_step_11 (nx := 14) rfl (by decide) fl_X7_9 rfl ?_
    refine v_sipush dX7_step_14 (nx := 17) rfl rfl ?_
    refine v_iload_n 1 dX7_step_17 (nx := 18) rfl rfl ?_
    refine v_iadd dX7_step_18 (nx := 19) rfl ?_
    refine m_ald10 dX7_step_19 (nx := 20) rfl ⟨by omega, by omega⟩ ?_
    refine v_bipush dX7_step_20 (nx := 22) rfl rfl ?_
    refine t_min dX7_step_22 (nx := 25) rfl ml_X7_62 ⟨by decide, by decide⟩ (hR _) (by exact ⟨by decide, by decide⟩) (Nat.le_of_ble_eq_true rfl) ⟨by decide, by decide⟩ ?_
    refine v_iconst dX7_step_25 (nx := 26) rfl ?_
    refine v_isub dX7_step_26 (nx := 27) rfl ?_
    refine t_callSi (c_X7_in _ _ _ (by assumption) (by exact ⟨by decide, by decide⟩) (by split <;> exact ⟨by omega, by omega⟩)) dX7_step_27 (nx := 30) rfl kX7_in ml_X7_27 rfl rfl (Nat.le_of_ble_eq_true rfl) ⟨by decide, by decide⟩ ⟨by decide, by decide⟩ ?_
    refine v_ifB_ne dX7_step_30 (tgt := 39) (by decide) (nx := 33) rfl (fun c30 => ?_) (fun c30 => ?_)
    · refine v_aload_n 0 dX7_step_39 (nx := 40) rfl rfl ?_
      refine m_gA 10 (p := 0) dX7_step_40 (nx := 43) rfl (by decide) fl_X7_9 rfl ?_
      refine v_iload_n 3 dX7_step_43 (nx := 44) rfl rfl ?_
      refine v_if_eq dX7_step_44 (tgt := 53) (by decide) (nx := 47) rfl (by first | assumption | exact hR _ | exact ⟨by omega, by omega⟩) (fun c44 => ?_) (fun c44 => ?_)
      · refine v_sipush dX7_step_53 (nx := 56) rfl rfl ?_
        refine v_bipush dX7_step_56 (nx := 58) rfl rfl ?_
        refine v_iload_n 1 dX7_step_58 (nx := 59) rfl rfl ?_
        refine v_imul dX7_step_59 (nx := 60) rfl ?_
        refine v_iadd dX7_step_60 (nx := 61) rfl ?_
        refine v_iload_n 2 dX7_step_61 (nx := 62) rfl rfl ?_
        refine v_iadd dX7_step_62 (nx := 63) rfl ?_
        refine m_ald10 dX7_step_63 (nx := 64) rfl (by split at c30 <;> exact ⟨by omega, by omega⟩) ?_
        exact t_iret dX7_step_64 rfl (by first | exact lf1 (by unfold s_step; (repeat (first | rewrite [if_pos (by omega)] | rewrite [if_neg (by omega)])); first | rfl | (refine Prod.ext rfl (Prod.ext (congrArg (uI _ _) ?_) rfl); unfold uI; (repeat rw [if_neg (by omega)]))) | exact lf0 (by unfold s_step; (repeat (first | rewrite [if_pos (by omega)] | rewrite [if_neg (by omega)])); first | rfl | (refine Prod.ext rfl (Prod.ext (congrArg (uI _ _) ?_) rfl); unfold uI; (repeat rw [if_neg (by omega)]))) | (exfalso; omega))
      · refine v_sipush dX7_step_47 (nx := 50) rfl rfl ?_
        refine v_goto dX7_step_50 (tgt := 56) (by decide) ?_
        refine v_bipush dX7_step_56 (nx := 58) rfl rfl ?_
        refine v_iload_n 1 dX7_step_58 (nx := 59) rfl rfl ?_
        refine v_imul dX7_step_59 (nx := 60) rfl ?_
        refine v_iadd dX7_step_60 (nx := 61) rfl ?_
        refine v_iload_n 2 dX7_step_61 (nx := 62) rfl rfl ?_
        refine v_iadd dX7_step_62 (nx := 63) rfl ?_
        refine m_ald10 dX7_step_63 (nx := 64) rfl (by split at c30 <;> exact ⟨by omega, by omega⟩) ?_
        exact t_iret dX7_step_64 rfl (by first | exact lf1 (by unfold s_step; (repeat (first | rewrite [if_pos (by omega)] | rewrite [if_neg (by omega)])); first | rfl | (refine Prod.ext rfl (Prod.ext (congrArg (uI _ _) ?_) rfl); unfold uI; (repeat rw [if_neg (by omega)]))) | exact lf0 (by unfold s_step; (repeat (first | rewrite [if_pos (by omega)] | rewrite [if_neg (by omega)])); first | rfl | (refine Prod.ext rfl (Prod.ext (congrArg (uI _ _) ?_) rfl); unfold uI; (repeat rw [if_neg (by omega)]))) | (exfalso; omega))
    · refine v_aload_n 0 dX7_step_33 (nx := 34) rfl rfl ?_
      refine v_iconst dX7_step_34 (nx := 35) rfl ?_
      refine t_callVi (a := 14) (c_X7_finding _) dX7_step_35 (nx := 38) rfl kX7_finding ml_X7_31 (by decide) (ok_m 14 rfl) rfl rfl rfl rfl (Nat.le_of_ble_eq_true rfl) ⟨by decide, by decide⟩ ⟨by decide, by decide⟩ ?_
      exact t_iret dX7_step_38 rfl (by first | exact lf1 (by unfold s_step; (repeat (first | rewrite [if_pos (by omega)] | rewrite [if_neg (by omega)])); first | rfl | (refine Prod.ext rfl (Prod.ext (congrArg (uI _ _) ?_) rfl); unfold uI; (repeat rw [if_neg (by omega)]))) | exact lf0 (by unfold s_step; (repeat (first | rewrite [if_pos (by omega)] | rewrite [if_neg (by omega)])); first | rfl | (refine Prod.ext rfl (Prod.ext (congrArg (uI _ _) ?_) rfl); unfold uI; (repeat rw [if_neg (by omega)]))) | (exfalso; omega))

set_option maxRecDepth 100000 in
theorem c_X7_tickB {g : GG} {kp : Bool} {σ : SS} {N K G F : Int → Int} {k f : Int} (n : Int) (hn : inR n) (hz : GZ G) (hT : ¬ (1 ≤ n ∧ n ≤ 100)) : TC g kp 5 mX7_tick [rf g (ad 14 0 0), vi n] (mkS σ N K G F k f) (fun r τ => r = some (vi (s_tick N n).1) ∧ ∃ F' G' : NN, GZ G' ∧ τ = mkS σ (s_tick N n).2.1 K G' F' k (f + (s_tick N n).2.2)) := by
  refine TC.of (by decide) (Nat.le_of_ble_eq_true rfl) rfl ?_
  refine v_iload_n 1 dX7_tick_0 (nx := 1) rfl rfl ?_
  refine v_iconst dX7_tick_1 (nx := 2) rfl ?_
  refine v_bipush dX7_tick_2 (nx := 4) rfl rfl ?_
  refine t_callSi (c_X7_in _ _ _ (by first | assumption | exact hR _ | exact ⟨by omega, by omega⟩) (by first | assumption | exact hR _ | exact ⟨by omega, by omega⟩) (by first | assumption | exact hR _ | exact ⟨by omega, by omega⟩)) dX7_tick_4 (nx := 7) rfl kX7_in ml_X7_27 rfl rfl (Nat.le_of_ble_eq_true rfl) ⟨by decide, by decide⟩ ⟨by decide, by decide⟩ ?_
  refine v_ifB_ne dX7_tick_7 (tgt := 16) (by decide) (nx := 10) rfl (fun c7 => ?_) (fun c7 => ?_)
  · refine v_iconst dX7_tick_16 (nx := 17) rfl ?_
    refine v_istore_n dX7_tick_17 (nx := 18) rfl rfl (by decide) ?_
    exact (by exfalso; omega)
  · refine v_aload_n 0 dX7_tick_10 (nx := 11) rfl rfl ?_
    refine v_iconst dX7_tick_11 (nx := 12) rfl ?_
    refine t_callVi (a := 14) (c_X7_finding _) dX7_tick_12 (nx := 15) rfl kX7_finding ml_X7_31 (by decide) (ok_m 14 rfl) rfl rfl rfl rfl (Nat.le_of_ble_eq_true rfl) ⟨by decide, by decide⟩ ⟨by decide, by decide⟩ ?_
    exact t_iret dX7_tick_15 rfl (by rw [show s_tick N n = (-1, N, 1) by unfold s_tick; rw [if_pos (by omega)]; rfl]; exact ⟨rfl, F, G, hz, rfl⟩)

theorem c_X7_tickC {g : GG} {kp : Bool} {σ : SS} {N K G F : NN} {k f : Int} (n : Int) (hn : inR n) (hz : GZ G) (hJ : JI N) (h4 : N 4 + 100 ≤ 1000000) : TC g kp 5 mX7_tick [rf g (ad 14 0 0), vi n] (mkS σ N K G F k f) (fun r τ => r = some (vi (s_tick N n).1) ∧ ∃ F' G' : NN, GZ G' ∧ τ = mkS σ (s_tick N n).2.1 K G' F' k (f + (s_tick N n).2.2)) := by
  by_cases h : 1 ≤ n ∧ n ≤ 100
  · refine c_X7_tick n hn hz (fun x x0 x1 => ?_)
    obtain ⟨j1, j2, -⟩ := hJ.tickn x.toNat (by omega)
    exact (j1.tick (by omega)).1
  · exact c_X7_tickB n hn hz h

theorem z01_0 : (0 : Int) ≤ 0 ∧ (0 : Int) ≤ 1 := ⟨by decide, by decide⟩
theorem z01_1 : (0 : Int) ≤ 1 ∧ (1 : Int) ≤ 1 := ⟨by decide, by decide⟩

theorem rd_where {N : NN} {p : Int} : (s_where N p).2.1 = N ∧ 0 ≤ (s_where N p).2.2 ∧ (s_where N p).2.2 ≤ 1 := by
  unfold s_where fnd
  (repeat' split) <;> first | exact ⟨rfl, z01_0⟩ | exact ⟨rfl, z01_1⟩

theorem rd_place {N : NN} {p : Int} : (s_place N p).2.1 = N ∧ 0 ≤ (s_place N p).2.2 ∧ (s_place N p).2.2 ≤ 1 := by
  unfold s_place fnd
  (repeat' split) <;> first | exact ⟨rfl, z01_0⟩ | exact ⟨rfl, z01_1⟩

theorem rd_steps {N : NN} {p : Int} : (s_steps N p).2.1 = N ∧ 0 ≤ (s_steps N p).2.2 ∧ (s_steps N p).2.2 ≤ 1 := by
  unfold s_steps fnd
  (repeat' split) <;> first | exact ⟨rfl, z01_0⟩ | exact ⟨rfl, z01_1⟩

theorem rd_detail {N : NN} {b : Int} : (s_detail N b).2.1 = N ∧ 0 ≤ (s_detail N b).2.2 ∧ (s_detail N b).2.2 ≤ 1 := by
  unfold s_detail fnd
  (repeat' split) <;> first | exact ⟨rfl, z01_0⟩ | exact ⟨rfl, z01_1⟩

theorem rd_holds {N : NN} {p : Int} : (s_holds N p).2.1 = N ∧ 0 ≤ (s_holds N p).2.2 ∧ (s_holds N p).2.2 ≤ 1 := by
  unfold s_holds fnd
  (repeat' split) <;> first | exact ⟨rfl, z01_0⟩ | exact ⟨rfl, z01_1⟩

theorem rd_as {N : NN} {p kd : Int} : (s_as N p kd).2.1 = N ∧ 0 ≤ (s_as N p kd).2.2 ∧ (s_as N p kd).2.2 ≤ 1 := by
  unfold s_as fnd
  (repeat' split) <;> first | exact ⟨rfl, z01_0⟩ | exact ⟨rfl, z01_1⟩

theorem rd_cell {N : NN} {b c : Int} : (s_cell N b c).2.1 = N ∧ 0 ≤ (s_cell N b c).2.2 ∧ (s_cell N b c).2.2 ≤ 1 := by
  unfold s_cell fnd
  (repeat' split) <;> first | exact ⟨rfl, z01_0⟩ | exact ⟨rfl, z01_1⟩

theorem rd_list {N : NN} {p i : Int} : (s_list N p i).2.1 = N ∧ 0 ≤ (s_list N p i).2.2 ∧ (s_list N p i).2.2 ≤ 1 := by
  unfold s_list s_listW fnd
  (repeat' split) <;> first | exact ⟨rfl, z01_0⟩ | exact ⟨rfl, z01_1⟩

theorem rd_far {N : NN} {p ch : Int} : (s_far N p ch).2.1 = N ∧ 0 ≤ (s_far N p ch).2.2 ∧ (s_far N p ch).2.2 ≤ 1 := by
  unfold s_far fnd
  (repeat' split) <;> first | exact ⟨rfl, z01_0⟩ | exact ⟨rfl, z01_1⟩

theorem rd_route {N : NN} {p fl : Int} : (s_route N p fl).2.1 = N ∧ 0 ≤ (s_route N p fl).2.2 ∧ (s_route N p fl).2.2 ≤ 1 := by
  unfold s_route fnd
  (repeat' split) <;> first | exact ⟨rfl, z01_0⟩ | exact ⟨rfl, z01_1⟩

theorem rd_flown {N : NN} {fl w : Int} : (s_flown N fl w).2.1 = N ∧ 0 ≤ (s_flown N fl w).2.2 ∧ (s_flown N fl w).2.2 ≤ 1 := by
  unfold s_flown fnd
  (repeat' split) <;> first | exact ⟨rfl, z01_0⟩ | exact ⟨rfl, z01_1⟩

theorem rd_step {N : NN} {b i tk : Int} : (s_step N b i tk).2.1 = N ∧ 0 ≤ (s_step N b i tk).2.2 ∧ (s_step N b i tk).2.2 ≤ 1 := by
  unfold s_step fnd
  (repeat' split) <;> first | exact ⟨rfl, z01_0⟩ | exact ⟨rfl, z01_1⟩

theorem rd_count {N : NN} {f w : Int} : (s_count N f w).2.1 = N ∧ 0 ≤ (s_count N f w).2.2 ∧ (s_count N f w).2.2 ≤ 1 := by
  unfold s_count fnd
  (repeat' split) <;> first | exact ⟨rfl, z01_0⟩ | exact ⟨rfl, z01_1⟩

theorem dt_point {N : NN} {kd v : Int} : 0 ≤ (s_point N kd v).2.2 ∧ (s_point N kd v).2.2 ≤ 1 := by
  unfold s_point fnd
  (repeat' split) <;> first | exact z01_0 | exact z01_1

theorem dt_belt {N : NN} {fr to cs : Int} : 0 ≤ (s_belt N fr to cs).2.2 ∧ (s_belt N fr to cs).2.2 ≤ 1 := by
  unfold s_belt fnd
  (repeat' split) <;> first | exact z01_0 | exact z01_1

theorem dt_turns {N : NN} {b v : Int} : 0 ≤ (s_turns N b v).2.2 ∧ (s_turns N b v).2.2 ≤ 1 := by
  unfold s_turns fnd
  (repeat' split) <;> first | exact z01_0 | exact z01_1

theorem dt_flight {N : NN} {c o e : Int} : 0 ≤ (s_flight N c o e).2.2 ∧ (s_flight N c o e).2.2 ≤ 1 := by
  unfold s_flight fnd
  (repeat' split) <;> first | exact z01_0 | exact z01_1

theorem dt_fall {N : NN} {b on : Int} : 0 ≤ (s_fall N b on).2.2 ∧ (s_fall N b on).2.2 ≤ 1 := by
  unfold s_fall fnd
  (repeat' split) <;> first | exact z01_0 | exact z01_1

theorem dt_bag {N : NN} {dk fl db : Int} : 0 ≤ (s_bag N dk fl db).2.2 ∧ (s_bag N dk fl db).2.2 ≤ 1 := by
  unfold s_bag fnd
  (repeat' split) <;> first | exact z01_0 | exact z01_1

theorem dt_take {N : NN} {b : Int} : 0 ≤ (s_take N b).2.2 ∧ (s_take N b).2.2 ≤ 1 := by
  unfold s_take fnd
  (repeat' split) <;> first | exact z01_0 | exact z01_1

theorem dt_give {N : NN} {b dk db : Int} : 0 ≤ (s_give N b dk db).2.2 ∧ (s_give N b dk db).2.2 ≤ 1 := by
  unfold s_give fnd
  (repeat' split) <;> first | exact z01_0 | exact z01_1

theorem dt_tick {N : NN} {n : Int} : 0 ≤ (s_tick N n).2.2 ∧ (s_tick N n).2.2 ≤ 1 := by
  unfold s_tick fnd
  (repeat' split) <;> first | exact z01_0 | exact z01_1

theorem J_tick {N : NN} {n : Int} (h : JI N) (h4 : N 4 + 100 ≤ 1000000) : JI (s_tick N n).2.1 ∧ (s_tick N n).2.1 4 ≤ N 4 + 100 ∧ (s_tick N n).2.1 5 = N 5 := by
  unfold s_tick fnd
  split
  · exact ⟨h, by show N 4 ≤ _; omega, rfl⟩
  · obtain ⟨j1, j2, j3⟩ := h.tickn n.toNat (by omega)
    exact ⟨j1, by show ticks N n.toNat 4 ≤ _; omega, j3 5 (by decide) (by decide)⟩
section VSAME
variable {g : GG} {R : Room} {mi : MI} {Z : List Frame → Array Value → State → State → Prop} {E : Array Value → State → Prop} {pc nx : Nat} {lv : List (Nat × Value)} {st : List Value} {φ : Nat → ce} {n ca sl : Nat}
theorem v_same {x off : Int} {tgt : Nat} (hd : decode mi.2.1 pc = .ok (.if_icmp .eq off, 3)) (ht : (pc : Int) + off = (tgt : Int)) (kk : V g R mi Z E tgt lv st φ n ca sl) : V g R mi Z E pc lv (vi x :: vi x :: st) φ n ca sl := by
  intro p e s m args below meth c H locs ls ev hw hh
  exact lv_icmp_eq ev.1 ev.2.1 hd ht (fun _ => kk p e s m args below meth c H locs ls ev hw hh) (fun h => absurd rfl h)
end VSAME
theorem fd_o {σ : SS} {x : Int} {a : Nat} {t i : Int} (h : a ≠ 9) : fd σ x a t i = σ a t i := by
  funext j
  exact if_neg (fun q => h q.1)
def caK (kp : Bool) : Nat := if kp then 398 else 209
def slK (kp : Bool) : Nat := if kp then 15777 else 12332
theorem csK (kp : Bool) : caK kp ≤ room_1.cells ∧ slK kp ≤ room_1.slots := by cases kp <;> decide
