/-! ===== constructors ===== -/
theorem alI : Cond.arrayClass .int ∈ wU := by decide +kernel
theorem alZ : Cond.arrayClass .boolean ∈ wU := by decide +kernel
theorem va_n {φ : Nat → ce} {a k : Nat} {x : ce} (h : k ≠ a) : va_up φ a x k = φ k := if_neg h
theorem va_s {φ : Nat → ce} {a : Nat} {x : ce} : va_up φ a x a = x := if_pos rfl
section VNUM
variable {g : GG} {R : Room} {mi : MI} {Z : List Frame → Array Value → State → State → Prop} {E : Array Value → State → Prop} {pc : Nat} {lv : List (Nat × Value)} {st : List Value} {φ : Nat → ce} {n ca sl n' ca' sl' : Nat}
theorem V.num (h1 : n = n') (h2 : ca = ca') (h3 : sl = sl') (kk : V g R mi Z E pc lv st φ n' ca' sl') : V g R mi Z E pc lv st φ n ca sl := by
  subst h1; subst h2; subst h3
  exact kk
end VNUM

set_option maxRecDepth 100000 in
theorem c_X4_init {g : GG} {φ : Nat → ce} {n k : Nat} (hk : k < n) (hφ : φ k = (.inr (4, [vi 0, vi 0, vi 0, vi 0, vi 0, .null]))) : CT g 1 1 60 mX4_init [rf g k] φ n (fun r φ' n' => r = none ∧ n' = n + 1 ∧ φ' = va_up (va_up φ n (.inl (0, 60, .inl (fun _ => 0)))) k (.inr (4, [vi 0, vi 0, vi 0, vi 0, vi 0, rf g n]))) := by
  refine CT.of (by decide) (Nat.le_of_ble_eq_true rfl) rfl ?_
  refine v_aload_n 0 dX4_init_0 (nx := 1) rfl rfl ?_
  refine v_objInit dX4_init_1 (nx := 4) rfl ml_X4_3 io_w co_w ⟨by decide, by decide⟩ (Nat.le_of_ble_eq_true rfl) ?_
  refine v_aload_n 0 dX4_init_4 (nx := 5) rfl rfl ?_
  refine v_bipush dX4_init_5 (nx := 7) rfl rfl ?_
  refine v_newI (N := 60) dX4_init_7 (nx := 9) rfl alI rfl (by decide) ⟨by decide, by decide⟩ ?_
  refine v_put (ci := 4) (p := 5) (T := TX4) dX4_init_9 (nx := 12) rfl (by omega) ((va_n (by omega)).trans hφ) rfl iU4 tyX4 tyX4_ok nmX4 (by decide) fl_X4_9 (Or.inr ⟨rfl, rfl, rfl⟩) rfl rfl (Nat.le_of_ble_eq_true rfl) ?_
  exact v_ret dX4_init_12 rfl ⟨rfl, rfl, rfl⟩

set_option maxRecDepth 100000 in
theorem c_X1_init {g : GG} {φ : Nat → ce} {n k : Nat} (hk : k < n) (hφ : φ k = (.inr (1, [vi 0, vi 0, vi 0, vi 0, vi 0, vi 0, .null]))) : CT g 1 1 12 mX1_init [rf g k] φ n (fun r φ' n' => r = none ∧ n' = n + 1 ∧ φ' = va_up (va_up φ n (.inl (0, 12, .inl (fun _ => 0)))) k (.inr (1, [vi 0, vi 0, vi 0, vi 0, vi 0, vi 0, rf g n]))) := by
  refine CT.of (by decide) (Nat.le_of_ble_eq_true rfl) rfl ?_
  refine v_aload_n 0 dX1_init_0 (nx := 1) rfl rfl ?_
  refine v_objInit dX1_init_1 (nx := 4) rfl ml_X1_3 io_w co_w ⟨by decide, by decide⟩ (Nat.le_of_ble_eq_true rfl) ?_
  refine v_aload_n 0 dX1_init_4 (nx := 5) rfl rfl ?_
  refine v_bipush dX1_init_5 (nx := 7) rfl rfl ?_
  refine v_newI (N := 12) dX1_init_7 (nx := 9) rfl alI rfl (by decide) ⟨by decide, by decide⟩ ?_
  refine v_put (ci := 1) (p := 6) (T := TX1) dX1_init_9 (nx := 12) rfl (by omega) ((va_n (by omega)).trans hφ) rfl iU1 tyX1 tyX1_ok nmX1 (by decide) fl_X1_9 (Or.inr ⟨rfl, rfl, rfl⟩) rfl rfl (Nat.le_of_ble_eq_true rfl) ?_
  exact v_ret dX1_init_12 rfl ⟨rfl, rfl, rfl⟩

set_option maxRecDepth 100000 in
theorem c_X0_init {g : GG} {φ : Nat → ce} {n k : Nat} (hk : k < n) (hφ : φ k = (.inr (0, [vi 0, vi 0, vi 0, vi 0, vi 0, vi 0, .null]))) : CT g 1 1 30 mX0_init [rf g k] φ n (fun r φ' n' => r = none ∧ n' = n + 1 ∧ φ' = va_up (va_up φ n (.inl (0, 30, .inl (fun _ => 0)))) k (.inr (0, [vi 0, vi 0, vi 0, vi 0, vi 0, vi 0, rf g n]))) := by
  refine CT.of (by decide) (Nat.le_of_ble_eq_true rfl) rfl ?_
  refine v_aload_n 0 dX0_init_0 (nx := 1) rfl rfl ?_
  refine v_objInit dX0_init_1 (nx := 4) rfl ml_X0_3 io_w co_w ⟨by decide, by decide⟩ (Nat.le_of_ble_eq_true rfl) ?_
  refine v_aload_n 0 dX0_init_4 (nx := 5) rfl rfl ?_
  refine v_bipush dX0_init_5 (nx := 7) rfl rfl ?_
  refine v_newI (N := 30) dX0_init_7 (nx := 9) rfl alI rfl (by decide) ⟨by decide, by decide⟩ ?_
  refine v_put (ci := 0) (p := 6) (T := TX0) dX0_init_9 (nx := 12) rfl (by omega) ((va_n (by omega)).trans hφ) rfl iU0 tyX0 tyX0_ok nmX0 (by decide) fl_X0_9 (Or.inr ⟨rfl, rfl, rfl⟩) rfl rfl (Nat.le_of_ble_eq_true rfl) ?_
  exact v_ret dX0_init_12 rfl ⟨rfl, rfl, rfl⟩

set_option maxRecDepth 100000 in
theorem c_X2_init {g : GG} {φ : Nat → ce} {n k : Nat} : CT g 1 0 0 mX2_init [rf g k] φ n (fun r φ' n' => r = none ∧ n' = n ∧ φ' = φ) := by
  refine CT.of (by decide) (Nat.le_of_ble_eq_true rfl) rfl ?_
  refine v_aload_n 0 dX2_init_0 (nx := 1) rfl rfl ?_
  refine v_objInit dX2_init_1 (nx := 4) rfl ml_X2_1 io_w co_w ⟨by decide, by decide⟩ (Nat.le_of_ble_eq_true rfl) ?_
  exact v_ret dX2_init_4 rfl ⟨rfl, rfl, rfl⟩

def hb (g : GG) (t : Int) (x y z w : Nat) (a : Nat) (i : Int) : ce := match a with
  | 15 => .inl (2, 12, .inr (.inr (.inr (.inr (fun j => if j < x then some (g.2.1 + ad 0 t j) else none)))))
  | 16 => .inl (3, 16, .inr (.inr (.inr (.inr (fun j => if j < y then some (g.2.1 + ad 2 t j) else none)))))
  | 17 => .inl (4, 8, .inr (.inr (.inr (.inr (fun j => if j < z then some (g.2.1 + ad 4 t j) else none)))))
  | 18 => .inl (5, 60, .inr (.inr (.inr (.inr (fun j => if j < w then some (g.2.1 + ad 5 t j) else none)))))
  | a => bld g true a t i (fun _ => 0)
/-- a hall in the making, from the cell B on -/
def hwf (g : GG) (φ : Nat → ce) (B : Nat) (t : Int) (x y z w : Nat) : Nat → ce := fun k => if k < B then φ k else hb g t x y z w (hkx (k - B)).1 (hkx (k - B)).2
theorem hk0 : ∀ x : Fin 12, hkx (5 + 2 * x.val) = (0, (x.val : Int)) ∧ hkx (6 + 2 * x.val) = (1, (x.val : Int)) := by decide +kernel
theorem hk2 : ∀ x : Fin 16, hkx (29 + 2 * x.val) = (2, (x.val : Int)) ∧ hkx (30 + 2 * x.val) = (3, (x.val : Int)) := by decide +kernel
theorem hk4 : ∀ x : Fin 8, hkx (61 + x.val) = (4, (x.val : Int)) := by decide +kernel
theorem hk5 : ∀ x : Fin 60, hkx (69 + 2 * x.val) = (5, (x.val : Int)) ∧ hkx (70 + 2 * x.val) = (6, (x.val : Int)) := by decide +kernel
theorem hk15 : ∀ j : Fin 189, ((hkx j.val).1 = 15 → j.val = 1) ∧ ((hkx j.val).1 = 16 → j.val = 2) ∧ ((hkx j.val).1 = 17 → j.val = 3) ∧ ((hkx j.val).1 = 18 → j.val = 4) := by decide +kernel
theorem hw_o {g : GG} {φ : Nat → ce} {B : Nat} {t : Int} {x y z w k : Nat} (h : B ≤ k) : hwf g φ B t x y z w k = hb g t x y z w (hkx (k - B)).1 (hkx (k - B)).2 := if_neg (by omega)
theorem hw_B {g : GG} {φ : Nat → ce} {B : Nat} {t : Int} {x y z w : Nat} (hB : (B : Int) = 1 + 208 * t) : hwf g φ B t x y z w B = .inr (3, [rf g (B + 1), rf g (B + 2), rf g (B + 3), rf g (B + 4), vi 0, vi 0, vi 0, vi 0, vi 0]) := by
  rw [hw_o (Nat.le_refl _), Nat.sub_self]
  show (.inr (3, [rf g (2 + 208 * t).toNat, rf g (3 + 208 * t).toNat, rf g (4 + 208 * t).toNat, rf g (5 + 208 * t).toNat, vi 0, vi 0, vi 0, vi 0, vi 0]) : ce) = _
  rw [show (2 + 208 * t).toNat = B + 1 by omega, show (3 + 208 * t).toNat = B + 2 by omega, show (4 + 208 * t).toNat = B + 3 by omega, show (5 + 208 * t).toNat = B + 4 by omega]

theorem hw_1 {g : GG} {φ : Nat → ce} {B : Nat} {t : Int} {x y z w : Nat} : hwf g φ B t x y z w (B + 1) = .inl (2, 12, .inr (.inr (.inr (.inr (fun j => if j < x then some (g.2.1 + ad 0 t j) else none))))) := by
  rw [hw_o (by omega), show B + 1 - B = 1 by omega]
  rfl

theorem hw_2 {g : GG} {φ : Nat → ce} {B : Nat} {t : Int} {x y z w : Nat} : hwf g φ B t x y z w (B + 2) = .inl (3, 16, .inr (.inr (.inr (.inr (fun j => if j < y then some (g.2.1 + ad 2 t j) else none))))) := by
  rw [hw_o (by omega), show B + 2 - B = 2 by omega]
  rfl

theorem hw_3 {g : GG} {φ : Nat → ce} {B : Nat} {t : Int} {x y z w : Nat} : hwf g φ B t x y z w (B + 3) = .inl (4, 8, .inr (.inr (.inr (.inr (fun j => if j < z then some (g.2.1 + ad 4 t j) else none))))) := by
  rw [hw_o (by omega), show B + 3 - B = 3 by omega]
  rfl

theorem hw_4 {g : GG} {φ : Nat → ce} {B : Nat} {t : Int} {x y z w : Nat} : hwf g φ B t x y z w (B + 4) = .inl (5, 60, .inr (.inr (.inr (.inr (fun j => if j < w then some (g.2.1 + ad 5 t j) else none))))) := by
  rw [hw_o (by omega), show B + 4 - B = 4 by omega]
  rfl

theorem hw_stP {g : GG} {φ : Nat → ce} {B : Nat} {t : Int} {x : Nat} (hB : (B : Int) = 1 + 208 * t) (hx : x < 12) (k : Nat) (hk : k < (B + 5 + 2 * x) + 2) : va_up (va_up (va_up (va_up (hwf g φ B t x 0 0 0) (B + 5 + 2 * x) (.inr (4, [vi 0, vi 0, vi 0, vi 0, vi 0, .null]))) ((B + 5 + 2 * x) + 1) (.inl (0, 60, .inl (fun _ => 0)))) (B + 5 + 2 * x) (.inr (4, [vi 0, vi 0, vi 0, vi 0, vi 0, rf g ((B + 5 + 2 * x) + 1)]))) (B + 1) (.inl (2, 12, .inr (.inr (.inr (.inr (va_up (fun j => if j < x then some (g.2.1 + ad 0 t j) else none) x (some (g.2.1 + (B + 5 + 2 * x))))))))) k = hwf g φ B t (x + 1) 0 0 0 k := by
  have ea : ad 0 t (x : Int) = (B + 5 + 2 * x) := by
    show (6 + 208 * t + 2 * (x : Int)).toNat = _
    omega
  have er : ad 1 t (x : Int) = (B + 5 + 2 * x) + 1 := by
    show (7 + 208 * t + 2 * (x : Int)).toNat = _
    omega
  obtain ⟨h1, h2⟩ := hk0 ⟨x, hx⟩
  dsimp only at h1 h2
  by_cases c1 : k = B + 1
  · subst c1
    rw [va_s, hw_1]
    congr 7
    funext j
    unfold va_up
    by_cases q : j = x
    · subst q
      rw [if_pos rfl, if_pos (by omega), ea]
    · rw [if_neg q]
      dsimp only
      by_cases q2 : j < x
      · rw [if_pos q2, if_pos (by omega)]
      · rw [if_neg q2, if_neg (by omega)]
  · rw [va_n c1]
    by_cases c2 : k = (B + 5 + 2 * x)
    · subst c2
      rw [va_s, hw_o (by omega), show (B + 5 + 2 * x) - B = 5 + 2 * x by omega, h1]
      show _ = (.inr (4, [vi 0, vi 0, vi 0, vi 0, vi 0, rf g (ad 1 t (x : Int))]) : ce)
      rw [er]
    · rw [va_n c2]
      by_cases c3 : k = (B + 5 + 2 * x) + 1
      · subst c3
        rw [va_s, hw_o (by omega), show (B + 5 + 2 * x) + 1 - B = 6 + 2 * x by omega, h2]
        rfl
      · rw [va_n c3, va_n c2]
        by_cases c4 : k < B
        · unfold hwf
          rw [if_pos c4, if_pos c4]
        · rw [hw_o (by omega), hw_o (by omega)]
          have h15 := hk15 ⟨k - B, by omega⟩
          dsimp only at h15
          generalize hkx (k - B) = q at h15
          obtain ⟨a, i⟩ := q
          dsimp only at h15 ⊢
          unfold hb
          split <;> first | rfl | (exfalso; omega)

theorem hw_stB {g : GG} {φ : Nat → ce} {B : Nat} {t : Int} {x : Nat} (hB : (B : Int) = 1 + 208 * t) (hx : x < 16) (k : Nat) (hk : k < (B + 29 + 2 * x) + 2) : va_up (va_up (va_up (va_up (hwf g φ B t 12 x 0 0) (B + 29 + 2 * x) (.inr (1, [vi 0, vi 0, vi 0, vi 0, vi 0, vi 0, .null]))) ((B + 29 + 2 * x) + 1) (.inl (0, 12, .inl (fun _ => 0)))) (B + 29 + 2 * x) (.inr (1, [vi 0, vi 0, vi 0, vi 0, vi 0, vi 0, rf g ((B + 29 + 2 * x) + 1)]))) (B + 2) (.inl (3, 16, .inr (.inr (.inr (.inr (va_up (fun j => if j < x then some (g.2.1 + ad 2 t j) else none) x (some (g.2.1 + (B + 29 + 2 * x))))))))) k = hwf g φ B t 12 (x + 1) 0 0 k := by
  have ea : ad 2 t (x : Int) = (B + 29 + 2 * x) := by
    show (30 + 208 * t + 2 * (x : Int)).toNat = _
    omega
  have er : ad 3 t (x : Int) = (B + 29 + 2 * x) + 1 := by
    show (31 + 208 * t + 2 * (x : Int)).toNat = _
    omega
  obtain ⟨h1, h2⟩ := hk2 ⟨x, hx⟩
  dsimp only at h1 h2
  by_cases c1 : k = B + 2
  · subst c1
    rw [va_s, hw_2]
    congr 7
    funext j
    unfold va_up
    by_cases q : j = x
    · subst q
      rw [if_pos rfl, if_pos (by omega), ea]
    · rw [if_neg q]
      dsimp only
      by_cases q2 : j < x
      · rw [if_pos q2, if_pos (by omega)]
      · rw [if_neg q2, if_neg (by omega)]
  · rw [va_n c1]
    by_cases c2 : k = (B + 29 + 2 * x)
    · subst c2
      rw [va_s, hw_o (by omega), show (B + 29 + 2 * x) - B = 29 + 2 * x by omega, h1]
      show _ = (.inr (1, [vi 0, vi 0, vi 0, vi 0, vi 0, vi 0, rf g (ad 3 t (x : Int))]) : ce)
      rw [er]
    · rw [va_n c2]
      by_cases c3 : k = (B + 29 + 2 * x) + 1
      · subst c3
        rw [va_s, hw_o (by omega), show (B + 29 + 2 * x) + 1 - B = 30 + 2 * x by omega, h2]
        rfl
      · rw [va_n c3, va_n c2]
        by_cases c4 : k < B
        · unfold hwf
          rw [if_pos c4, if_pos c4]
        · rw [hw_o (by omega), hw_o (by omega)]
          have h15 := hk15 ⟨k - B, by omega⟩
          dsimp only at h15
          generalize hkx (k - B) = q at h15
          obtain ⟨a, i⟩ := q
          dsimp only at h15 ⊢
          unfold hb
          split <;> first | rfl | (exfalso; omega)

theorem hw_stF {g : GG} {φ : Nat → ce} {B : Nat} {t : Int} {x : Nat} (hB : (B : Int) = 1 + 208 * t) (hx : x < 8) (k : Nat) (hk : k < (B + 61 + x) + 1) : va_up (va_up (hwf g φ B t 12 16 x 0) (B + 61 + x) (.inr (2, [vi 0, vi 0, vi 0]))) (B + 3) (.inl (4, 8, .inr (.inr (.inr (.inr (va_up (fun j => if j < x then some (g.2.1 + ad 4 t j) else none) x (some (g.2.1 + (B + 61 + x))))))))) k = hwf g φ B t 12 16 (x + 1) 0 k := by
  have ea : ad 4 t (x : Int) = (B + 61 + x) := by
    show (62 + 208 * t + (x : Int)).toNat = _
    omega
  have h1 := hk4 ⟨x, hx⟩
  dsimp only at h1
  by_cases c1 : k = B + 3
  · subst c1
    rw [va_s, hw_3]
    congr 7
    funext j
    unfold va_up
    by_cases q : j = x
    · subst q
      rw [if_pos rfl, if_pos (by omega), ea]
    · rw [if_neg q]
      dsimp only
      by_cases q2 : j < x
      · rw [if_pos q2, if_pos (by omega)]
      · rw [if_neg q2, if_neg (by omega)]
  · rw [va_n c1]
    by_cases c2 : k = (B + 61 + x)
    · subst c2
      rw [va_s, hw_o (by omega), show (B + 61 + x) - B = 61 + x by omega, h1]
      rfl
    · rw [va_n c2]
      by_cases c4 : k < B
      · unfold hwf
        rw [if_pos c4, if_pos c4]
      · rw [hw_o (by omega), hw_o (by omega)]
        have h15 := hk15 ⟨k - B, by omega⟩
        dsimp only at h15
        generalize hkx (k - B) = q at h15
        obtain ⟨a, i⟩ := q
        dsimp only at h15 ⊢
        unfold hb
        split <;> first | rfl | (exfalso; omega)

theorem hw_stG {g : GG} {φ : Nat → ce} {B : Nat} {t : Int} {x : Nat} (hB : (B : Int) = 1 + 208 * t) (hx : x < 60) (k : Nat) (hk : k < (B + 69 + 2 * x) + 2) : va_up (va_up (va_up (va_up (hwf g φ B t 12 16 8 x) (B + 69 + 2 * x) (.inr (0, [vi 0, vi 0, vi 0, vi 0, vi 0, vi 0, .null]))) ((B + 69 + 2 * x) + 1) (.inl (0, 30, .inl (fun _ => 0)))) (B + 69 + 2 * x) (.inr (0, [vi 0, vi 0, vi 0, vi 0, vi 0, vi 0, rf g ((B + 69 + 2 * x) + 1)]))) (B + 4) (.inl (5, 60, .inr (.inr (.inr (.inr (va_up (fun j => if j < x then some (g.2.1 + ad 5 t j) else none) x (some (g.2.1 + (B + 69 + 2 * x))))))))) k = hwf g φ B t 12 16 8 (x + 1) k := by
  have ea : ad 5 t (x : Int) = (B + 69 + 2 * x) := by
    show (70 + 208 * t + 2 * (x : Int)).toNat = _
    omega
  have er : ad 6 t (x : Int) = (B + 69 + 2 * x) + 1 := by
    show (71 + 208 * t + 2 * (x : Int)).toNat = _
    omega
  obtain ⟨h1, h2⟩ := hk5 ⟨x, hx⟩
  dsimp only at h1 h2
  by_cases c1 : k = B + 4
  · subst c1
    rw [va_s, hw_4]
    congr 7
    funext j
    unfold va_up
    by_cases q : j = x
    · subst q
      rw [if_pos rfl, if_pos (by omega), ea]
    · rw [if_neg q]
      dsimp only
      by_cases q2 : j < x
      · rw [if_pos q2, if_pos (by omega)]
      · rw [if_neg q2, if_neg (by omega)]
  · rw [va_n c1]
    by_cases c2 : k = (B + 69 + 2 * x)
    · subst c2
      rw [va_s, hw_o (by omega), show (B + 69 + 2 * x) - B = 69 + 2 * x by omega, h1]
      show _ = (.inr (0, [vi 0, vi 0, vi 0, vi 0, vi 0, vi 0, rf g (ad 6 t (x : Int))]) : ce)
      rw [er]
    · rw [va_n c2]
      by_cases c3 : k = (B + 69 + 2 * x) + 1
      · subst c3
        rw [va_s, hw_o (by omega), show (B + 69 + 2 * x) + 1 - B = 70 + 2 * x by omega, h2]
        rfl
      · rw [va_n c3, va_n c2]
        by_cases c4 : k < B
        · unfold hwf
          rw [if_pos c4, if_pos c4]
        · rw [hw_o (by omega), hw_o (by omega)]
          have h15 := hk15 ⟨k - B, by omega⟩
          dsimp only at h15
          generalize hkx (k - B) = q at h15
          obtain ⟨a, i⟩ := q
          dsimp only at h15 ⊢
          unfold hb
          split <;> first | rfl | (exfalso; omega)

theorem IN0 : Cond.instantiable RX0 7 ∈ wU := by decide +kernel
theorem IT0 : Cond.initialized RX0 ∈ wU := by decide +kernel
theorem IN1 : Cond.instantiable RX1 7 ∈ wU := by decide +kernel
theorem IT1 : Cond.initialized RX1 ∈ wU := by decide +kernel
theorem IN2 : Cond.instantiable RX2 3 ∈ wU := by decide +kernel
theorem IT2 : Cond.initialized RX2 ∈ wU := by decide +kernel
theorem IN3 : Cond.instantiable RX3 9 ∈ wU := by decide +kernel
theorem IT3 : Cond.initialized RX3 ∈ wU := by decide +kernel
theorem IN4 : Cond.instantiable RX4 6 ∈ wU := by decide +kernel
theorem IT4 : Cond.initialized RX4 ∈ wU := by decide +kernel
theorem IN5 : Cond.instantiable RX5 1 ∈ wU := by decide +kernel
theorem IT5 : Cond.initialized RX5 ∈ wU := by decide +kernel
theorem IN6 : Cond.instantiable RX6 4 ∈ wU := by decide +kernel
theorem IT6 : Cond.initialized RX6 ∈ wU := by decide +kernel
theorem IN7 : Cond.instantiable RX7 6 ∈ wU := by decide +kernel
theorem IT7 : Cond.initialized RX7 ∈ wU := by decide +kernel
theorem CL1 : Cond.classLink RX3 9 RX4 ∈ wU := by decide +kernel
theorem CL2 : Cond.classLink RX3 17 RX1 ∈ wU := by decide +kernel
theorem CL3 : Cond.classLink RX3 23 RX2 ∈ wU := by decide +kernel
theorem CL4 : Cond.classLink RX3 29 RX0 ∈ wU := by decide +kernel

set_option maxRecDepth 100000 in
theorem l_X3_iG {g : GG} {φ : Nat → ce} {B : Nat} {t : Int} (hB : (B : Int) = 1 + 208 * t) : ∀ (m x : Nat), x ≤ 60 → 60 - x < m → V g (rmD 2 188 3436) mX3_init (ZM g 188 3436 (fun r φ' n' => r = none ∧ n' = B + 189 ∧ φ' = hwf g φ B t 12 16 8 60)) E0 132 [(0, rf g B), (1, vi (x : Int))] [] (hwf g φ B t 12 16 8 x) (B + 69 + 2 * x) (68 + 2 * x) (1216 + 37 * x) := by
  intro m
  induction m with
  | zero => intro x hx hm; exfalso; omega
  | succ m ih =>
    intro x hx hm
    refine v_iload_n 1 dX3_init_132 (nx := 133) rfl rfl ?_
    refine v_aload_n 0 dX3_init_133 (nx := 134) rfl rfl ?_
    refine v_get (p := 3) (T := TX3) dX3_init_134 (nx := 137) rfl (by omega) (hw_B hB) rfl iU3 (by decide) fl_X3_31 rfl ?_
    refine v_alen (tt := 5) dX3_init_137 (nx := 138) rfl (by omega) hw_4 rfl ?_
    refine v_icmp_ge dX3_init_138 (tgt := 160) (by decide) (nx := 141) rfl ⟨by omega, by omega⟩ (show inR ((60 : Nat) : Int) from ⟨by decide, by decide⟩) (fun cc => ?_) (fun cc => ?_)
    · have hxe : x = 60 := by have := (show (60 : Int) ≤ (x : Int) from cc); omega
      subst hxe
      exact v_ret dX3_init_160 rfl ⟨rfl, rfl, rfl⟩
    · have hxl : x < 60 := by have := (show ¬ (60 : Int) ≤ (x : Int) from cc); omega
      refine v_aload_n 0 dX3_init_141 (nx := 142) rfl rfl ?_
      refine v_get (p := 3) (T := TX3) dX3_init_142 (nx := 145) rfl (by omega) (hw_B hB) rfl iU3 (by decide) fl_X3_31 rfl ?_
      refine v_iload_n 1 dX3_init_145 (nx := 146) rfl rfl ?_
      refine v_new (ci := 0) (N := 7) (C := RX0) (T := TX0) (fs := [vi 0, vi 0, vi 0, vi 0, vi 0, vi 0, .null]) dX3_init_146 (nx := 149) rfl CL4 IN0 IT0 rfl iU0 tyX0 tyX0_ok (by intro j hj; match j, hj with | 0, _ => rfl | 1, _ => rfl | 2, _ => rfl | 3, _ => rfl | 4, _ => rfl | 5, _ => rfl | 6, _ => rfl) ⟨by show (68 + 2 * x) + 1 ≤ 188; omega, by show (1216 + 37 * x) + 7 ≤ 3436; omega⟩ ?_
      refine v_dup dX3_init_149 (nx := 150) rfl rfl ?_
      refine v_callIN (x := 0) (c_X0_init (by omega) va_s) dX3_init_150 (nx := 153) rfl kX0_init (fun U h => h.2.2.2.2.1) rfl rfl (Nat.le_of_ble_eq_true rfl) ⟨by decide, by decide⟩ ⟨by show (68 + 2 * x) + 1 + 1 ≤ 188; omega, by show (1216 + 37 * x) + 7 + 30 ≤ 3436; omega⟩ (fun r φ' n' hq => ?_)
      obtain ⟨rfl, rfl, rfl⟩ := hq
      refine v_aast (k := B + 4) (k' := (B + 69 + 2 * x)) (tt := 5) (N := 60) (ci := 0) (r := (RX0, TX0, 7)) (i := (x : Int)) (f := fun j => if j < x then some (g.2.1 + ad 5 t j) else none) dX3_init_153 (nx := 154) rfl (by omega) (by rw [va_n (by omega), va_n (by omega), va_n (by omega)]; exact hw_4) rfl (by omega) va_s rfl (by omega) (by omega) (by decide) ?_
      rw [Int.toNat_natCast]
      refine v_iinc 1 dX3_init_154 (nx := 157) rfl rfl rfl (by decide) ?_
      refine v_goto dX3_init_157 (tgt := 132) (by decide) ?_
      refine V.cong (fun k hk => hw_stG hB hxl k (by omega)) ?_
      exact V.num (by omega) (by omega) (by omega) (ih (x + 1) (by omega) (by omega))

set_option maxRecDepth 100000 in
theorem l_X3_iF {g : GG} {φ : Nat → ce} {B : Nat} {t : Int} (hB : (B : Int) = 1 + 208 * t) : ∀ (m x : Nat), x ≤ 8 → 8 - x < m → V g (rmD 2 188 3436) mX3_init (ZM g 188 3436 (fun r φ' n' => r = none ∧ n' = B + 189 ∧ φ' = hwf g φ B t 12 16 8 60)) E0 102 [(0, rf g B), (1, vi (x : Int))] [] (hwf g φ B t 12 16 x 0) (B + 61 + x) (60 + x) (1192 + 3 * x) := by
  intro m
  induction m with
  | zero => intro x hx hm; exfalso; omega
  | succ m ih =>
    intro x hx hm
    refine v_iload_n 1 dX3_init_102 (nx := 103) rfl rfl ?_
    refine v_aload_n 0 dX3_init_103 (nx := 104) rfl rfl ?_
    refine v_get (p := 2) (T := TX3) dX3_init_104 (nx := 107) rfl (by omega) (hw_B hB) rfl iU3 (by decide) fl_X3_25 rfl ?_
    refine v_alen (tt := 4) dX3_init_107 (nx := 108) rfl (by omega) hw_3 rfl ?_
    refine v_icmp_ge dX3_init_108 (tgt := 130) (by decide) (nx := 111) rfl ⟨by omega, by omega⟩ (show inR ((8 : Nat) : Int) from ⟨by decide, by decide⟩) (fun cc => ?_) (fun cc => ?_)
    · have hxe : x = 8 := by have := (show (8 : Int) ≤ (x : Int) from cc); omega
      subst hxe
      refine v_iconst dX3_init_130 (nx := 131) rfl ?_
      refine v_istore_n dX3_init_131 (nx := 132) rfl rfl (by decide) ?_
      exact l_X3_iG hB 61 0 (by omega) (by omega)
    · have hxl : x < 8 := by have := (show ¬ (8 : Int) ≤ (x : Int) from cc); omega
      refine v_aload_n 0 dX3_init_111 (nx := 112) rfl rfl ?_
      refine v_get (p := 2) (T := TX3) dX3_init_112 (nx := 115) rfl (by omega) (hw_B hB) rfl iU3 (by decide) fl_X3_25 rfl ?_
      refine v_iload_n 1 dX3_init_115 (nx := 116) rfl rfl ?_
      refine v_new (ci := 2) (N := 3) (C := RX2) (T := TX2) (fs := [vi 0, vi 0, vi 0]) dX3_init_116 (nx := 119) rfl CL3 IN2 IT2 rfl iU2 tyX2 tyX2_ok (by intro j hj; match j, hj with | 0, _ => rfl | 1, _ => rfl | 2, _ => rfl) ⟨by show (60 + x) + 1 ≤ 188; omega, by show (1192 + 3 * x) + 3 ≤ 3436; omega⟩ ?_
      refine v_dup dX3_init_119 (nx := 120) rfl rfl ?_
      refine v_callIN (x := 0) (c_X2_init) dX3_init_120 (nx := 123) rfl kX2_init (fun U h => h.2.2.2.1) rfl rfl (Nat.le_of_ble_eq_true rfl) ⟨by decide, by decide⟩ ⟨by show (60 + x) + 1 + 0 ≤ 188; omega, by show (1192 + 3 * x) + 3 + 0 ≤ 3436; omega⟩ (fun r φ' n' hq => ?_)
      obtain ⟨rfl, rfl, rfl⟩ := hq
      refine v_aast (k := B + 3) (k' := (B + 61 + x)) (tt := 4) (N := 8) (ci := 2) (r := (RX2, TX2, 3)) (i := (x : Int)) (f := fun j => if j < x then some (g.2.1 + ad 4 t j) else none) dX3_init_123 (nx := 124) rfl (by omega) (by rw [va_n (by omega)]; exact hw_3) rfl (by omega) va_s rfl (by omega) (by omega) (by decide) ?_
      rw [Int.toNat_natCast]
      refine v_iinc 1 dX3_init_124 (nx := 127) rfl rfl rfl (by decide) ?_
      refine v_goto dX3_init_127 (tgt := 102) (by decide) ?_
      refine V.cong (fun k hk => hw_stF hB hxl k (by omega)) ?_
      exact V.num (by omega) (by omega) (by omega) (ih (x + 1) (by omega) (by omega))

set_option maxRecDepth 100000 in
theorem l_X3_iB {g : GG} {φ : Nat → ce} {B : Nat} {t : Int} (hB : (B : Int) = 1 + 208 * t) : ∀ (m x : Nat), x ≤ 16 → 16 - x < m → V g (rmD 2 188 3436) mX3_init (ZM g 188 3436 (fun r φ' n' => r = none ∧ n' = B + 189 ∧ φ' = hwf g φ B t 12 16 8 60)) E0 72 [(0, rf g B), (1, vi (x : Int))] [] (hwf g φ B t 12 x 0 0) (B + 29 + 2 * x) (28 + 2 * x) (888 + 19 * x) := by
  intro m
  induction m with
  | zero => intro x hx hm; exfalso; omega
  | succ m ih =>
    intro x hx hm
    refine v_iload_n 1 dX3_init_72 (nx := 73) rfl rfl ?_
    refine v_aload_n 0 dX3_init_73 (nx := 74) rfl rfl ?_
    refine v_get (p := 1) (T := TX3) dX3_init_74 (nx := 77) rfl (by omega) (hw_B hB) rfl iU3 (by decide) fl_X3_19 rfl ?_
    refine v_alen (tt := 3) dX3_init_77 (nx := 78) rfl (by omega) hw_2 rfl ?_
    refine v_icmp_ge dX3_init_78 (tgt := 100) (by decide) (nx := 81) rfl ⟨by omega, by omega⟩ (show inR ((16 : Nat) : Int) from ⟨by decide, by decide⟩) (fun cc => ?_) (fun cc => ?_)
    · have hxe : x = 16 := by have := (show (16 : Int) ≤ (x : Int) from cc); omega
      subst hxe
      refine v_iconst dX3_init_100 (nx := 101) rfl ?_
      refine v_istore_n dX3_init_101 (nx := 102) rfl rfl (by decide) ?_
      exact l_X3_iF hB 9 0 (by omega) (by omega)
    · have hxl : x < 16 := by have := (show ¬ (16 : Int) ≤ (x : Int) from cc); omega
      refine v_aload_n 0 dX3_init_81 (nx := 82) rfl rfl ?_
      refine v_get (p := 1) (T := TX3) dX3_init_82 (nx := 85) rfl (by omega) (hw_B hB) rfl iU3 (by decide) fl_X3_19 rfl ?_
      refine v_iload_n 1 dX3_init_85 (nx := 86) rfl rfl ?_
      refine v_new (ci := 1) (N := 7) (C := RX1) (T := TX1) (fs := [vi 0, vi 0, vi 0, vi 0, vi 0, vi 0, .null]) dX3_init_86 (nx := 89) rfl CL2 IN1 IT1 rfl iU1 tyX1 tyX1_ok (by intro j hj; match j, hj with | 0, _ => rfl | 1, _ => rfl | 2, _ => rfl | 3, _ => rfl | 4, _ => rfl | 5, _ => rfl | 6, _ => rfl) ⟨by show (28 + 2 * x) + 1 ≤ 188; omega, by show (888 + 19 * x) + 7 ≤ 3436; omega⟩ ?_
      refine v_dup dX3_init_89 (nx := 90) rfl rfl ?_
      refine v_callIN (x := 0) (c_X1_init (by omega) va_s) dX3_init_90 (nx := 93) rfl kX1_init (fun U h => h.2.2.1) rfl rfl (Nat.le_of_ble_eq_true rfl) ⟨by decide, by decide⟩ ⟨by show (28 + 2 * x) + 1 + 1 ≤ 188; omega, by show (888 + 19 * x) + 7 + 12 ≤ 3436; omega⟩ (fun r φ' n' hq => ?_)
      obtain ⟨rfl, rfl, rfl⟩ := hq
      refine v_aast (k := B + 2) (k' := (B + 29 + 2 * x)) (tt := 3) (N := 16) (ci := 1) (r := (RX1, TX1, 7)) (i := (x : Int)) (f := fun j => if j < x then some (g.2.1 + ad 2 t j) else none) dX3_init_93 (nx := 94) rfl (by omega) (by rw [va_n (by omega), va_n (by omega), va_n (by omega)]; exact hw_2) rfl (by omega) va_s rfl (by omega) (by omega) (by decide) ?_
      rw [Int.toNat_natCast]
      refine v_iinc 1 dX3_init_94 (nx := 97) rfl rfl rfl (by decide) ?_
      refine v_goto dX3_init_97 (tgt := 72) (by decide) ?_
      refine V.cong (fun k hk => hw_stB hB hxl k (by omega)) ?_
      exact V.num (by omega) (by omega) (by omega) (ih (x + 1) (by omega) (by omega))

set_option maxRecDepth 100000 in
theorem l_X3_iP {g : GG} {φ : Nat → ce} {B : Nat} {t : Int} (hB : (B : Int) = 1 + 208 * t) : ∀ (m x : Nat), x ≤ 12 → 12 - x < m → V g (rmD 2 188 3436) mX3_init (ZM g 188 3436 (fun r φ' n' => r = none ∧ n' = B + 189 ∧ φ' = hwf g φ B t 12 16 8 60)) E0 42 [(0, rf g B), (1, vi (x : Int))] [] (hwf g φ B t x 0 0 0) (B + 5 + 2 * x) (4 + 2 * x) (96 + 66 * x) := by
  intro m
  induction m with
  | zero => intro x hx hm; exfalso; omega
  | succ m ih =>
    intro x hx hm
    refine v_iload_n 1 dX3_init_42 (nx := 43) rfl rfl ?_
    refine v_aload_n 0 dX3_init_43 (nx := 44) rfl rfl ?_
    refine v_get (p := 0) (T := TX3) dX3_init_44 (nx := 47) rfl (by omega) (hw_B hB) rfl iU3 (by decide) fl_X3_11 rfl ?_
    refine v_alen (tt := 2) dX3_init_47 (nx := 48) rfl (by omega) hw_1 rfl ?_
    refine v_icmp_ge dX3_init_48 (tgt := 70) (by decide) (nx := 51) rfl ⟨by omega, by omega⟩ (show inR ((12 : Nat) : Int) from ⟨by decide, by decide⟩) (fun cc => ?_) (fun cc => ?_)
    · have hxe : x = 12 := by have := (show (12 : Int) ≤ (x : Int) from cc); omega
      subst hxe
      refine v_iconst dX3_init_70 (nx := 71) rfl ?_
      refine v_istore_n dX3_init_71 (nx := 72) rfl rfl (by decide) ?_
      exact l_X3_iB hB 17 0 (by omega) (by omega)
    · have hxl : x < 12 := by have := (show ¬ (12 : Int) ≤ (x : Int) from cc); omega
      refine v_aload_n 0 dX3_init_51 (nx := 52) rfl rfl ?_
      refine v_get (p := 0) (T := TX3) dX3_init_52 (nx := 55) rfl (by omega) (hw_B hB) rfl iU3 (by decide) fl_X3_11 rfl ?_
      refine v_iload_n 1 dX3_init_55 (nx := 56) rfl rfl ?_
      refine v_new (ci := 4) (N := 6) (C := RX4) (T := TX4) (fs := [vi 0, vi 0, vi 0, vi 0, vi 0, .null]) dX3_init_56 (nx := 59) rfl CL1 IN4 IT4 rfl iU4 tyX4 tyX4_ok (by intro j hj; match j, hj with | 0, _ => rfl | 1, _ => rfl | 2, _ => rfl | 3, _ => rfl | 4, _ => rfl | 5, _ => rfl) ⟨by show (4 + 2 * x) + 1 ≤ 188; omega, by show (96 + 66 * x) + 6 ≤ 3436; omega⟩ ?_
      refine v_dup dX3_init_59 (nx := 60) rfl rfl ?_
      refine v_callIN (x := 0) (c_X4_init (by omega) va_s) dX3_init_60 (nx := 63) rfl kX4_init (fun U h => h.2.1) rfl rfl (Nat.le_of_ble_eq_true rfl) ⟨by decide, by decide⟩ ⟨by show (4 + 2 * x) + 1 + 1 ≤ 188; omega, by show (96 + 66 * x) + 6 + 60 ≤ 3436; omega⟩ (fun r φ' n' hq => ?_)
      obtain ⟨rfl, rfl, rfl⟩ := hq
      refine v_aast (k := B + 1) (k' := (B + 5 + 2 * x)) (tt := 2) (N := 12) (ci := 4) (r := (RX4, TX4, 6)) (i := (x : Int)) (f := fun j => if j < x then some (g.2.1 + ad 0 t j) else none) dX3_init_63 (nx := 64) rfl (by omega) (by rw [va_n (by omega), va_n (by omega), va_n (by omega)]; exact hw_1) rfl (by omega) va_s rfl (by omega) (by omega) (by decide) ?_
      rw [Int.toNat_natCast]
      refine v_iinc 1 dX3_init_64 (nx := 67) rfl rfl rfl (by decide) ?_
      refine v_goto dX3_init_67 (tgt := 42) (by decide) ?_
      refine V.cong (fun k hk => hw_stP hB hxl k (by omega)) ?_
      exact V.num (by omega) (by omega) (by omega) (ih (x + 1) (by omega) (by omega))

set_option maxRecDepth 100000 in
theorem c_X3_init {g : GG} {φ : Nat → ce} {B : Nat} {t : Int} (hB : (B : Int) = 1 + 208 * t) (hφ : φ B = .inr (3, [.null, .null, .null, .null, vi 0, vi 0, vi 0, vi 0, vi 0])) : CT g 2 188 3436 mX3_init [rf g B] φ (B + 1) (fun r φ' n' => r = none ∧ n' = B + 189 ∧ φ' = hwf g φ B t 12 16 8 60) := by
  refine CT.of (by decide) (Nat.le_of_ble_eq_true rfl) rfl ?_
  refine v_aload_n 0 dX3_init_0 (nx := 1) rfl rfl ?_
  refine v_objInit dX3_init_1 (nx := 4) rfl ml_X3_3 io_w co_w ⟨by decide, by decide⟩ (Nat.le_of_ble_eq_true rfl) ?_
  refine v_aload_n 0 dX3_init_4 (nx := 5) rfl rfl ?_
  refine v_bipush dX3_init_5 (nx := 7) rfl rfl ?_
  refine v_anew (N := 12) (tt := 2) (C := RX4) dX3_init_7 (nx := 10) rfl CL1 (fun U h => h.1.1) rfl rfl (by decide) ⟨by decide, by decide⟩ ?_
  refine v_put (ci := 3) (p := 0) (T := TX3) dX3_init_10 (nx := 13) rfl (by omega) ((va_n (by omega)).trans hφ) rfl iU3 tyX3 tyX3_ok nmX3 (by decide) fl_X3_11 (Or.inr ⟨rfl, rfl, rfl⟩) rfl rfl (Nat.le_of_ble_eq_true rfl) ?_
  refine v_aload_n 0 dX3_init_13 (nx := 14) rfl rfl ?_
  refine v_bipush dX3_init_14 (nx := 16) rfl rfl ?_
  refine v_anew (N := 16) (tt := 3) (C := RX1) dX3_init_16 (nx := 19) rfl CL2 (fun U h => h.1.2.1) rfl rfl (by decide) ⟨by decide, by decide⟩ ?_
  refine v_put (ci := 3) (p := 1) (T := TX3) dX3_init_19 (nx := 22) rfl (by omega) ((va_n (by omega)).trans va_s) rfl iU3 tyX3 tyX3_ok nmX3 (by decide) fl_X3_19 (Or.inr ⟨rfl, rfl, rfl⟩) rfl rfl (Nat.le_of_ble_eq_true rfl) ?_
  refine v_aload_n 0 dX3_init_22 (nx := 23) rfl rfl ?_
  refine v_bipush dX3_init_23 (nx := 25) rfl rfl ?_
  refine v_anew (N := 8) (tt := 4) (C := RX2) dX3_init_25 (nx := 28) rfl CL3 (fun U h => h.1.2.2.1) rfl rfl (by decide) ⟨by decide, by decide⟩ ?_
  refine v_put (ci := 3) (p := 2) (T := TX3) dX3_init_28 (nx := 31) rfl (by omega) ((va_n (by omega)).trans va_s) rfl iU3 tyX3 tyX3_ok nmX3 (by decide) fl_X3_25 (Or.inr ⟨rfl, rfl, rfl⟩) rfl rfl (Nat.le_of_ble_eq_true rfl) ?_
  refine v_aload_n 0 dX3_init_31 (nx := 32) rfl rfl ?_
  refine v_bipush dX3_init_32 (nx := 34) rfl rfl ?_
  refine v_anew (N := 60) (tt := 5) (C := RX0) dX3_init_34 (nx := 37) rfl CL4 (fun U h => h.1.2.2.2.1) rfl rfl (by decide) ⟨by decide, by decide⟩ ?_
  refine v_put (ci := 3) (p := 3) (T := TX3) dX3_init_37 (nx := 40) rfl (by omega) ((va_n (by omega)).trans va_s) rfl iU3 tyX3 tyX3_ok nmX3 (by decide) fl_X3_31 (Or.inr ⟨rfl, rfl, rfl⟩) rfl rfl (Nat.le_of_ble_eq_true rfl) ?_
  refine v_iconst dX3_init_40 (nx := 41) rfl ?_
  refine v_istore_n dX3_init_41 (nx := 42) rfl rfl (by decide) ?_
  refine V.cong (ψ := hwf g φ B t 0 0 0 0) (fun k hk => ?_) (V.num (by omega) rfl rfl (l_X3_iP hB 13 0 (by omega) (by omega)))
  by_cases c0 : k = B
  · subst c0
    rw [va_s, hw_B hB]
    rfl
  · rw [va_n c0]
    by_cases c4 : k = B + 4
    · subst c4
      rw [hw_4]
      exact va_s
    · rw [va_n (by omega), va_n c0]
      by_cases c3 : k = B + 3
      · subst c3
        rw [hw_3]
        exact va_s
      · rw [va_n (by omega), va_n c0]
        by_cases c2 : k = B + 2
        · subst c2
          rw [hw_2]
          exact va_s
        · rw [va_n (by omega), va_n c0]
          by_cases c1 : k = B + 1
          · subst c1
            rw [hw_1]
            exact va_s
          · rw [va_n (by omega)]
            unfold hwf
            rw [if_pos (by omega)]
