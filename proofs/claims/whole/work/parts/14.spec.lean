/-! ===== the promises as functions of the reference's array N (its places as the reference numbers them) ===== -/
/-- how many of 0 .. n-1 -/
def cnt (P : Int → Bool) : Nat → Int
  | 0 => 0
  | n + 1 => cnt P n + (if P n then 1 else 0)
def cntI (P : Int → Bool) (n : Int) : Int := cnt P n.toNat
/-- the first of lo, lo+1 .. hi-1, or -1 -/
def isF (P : Int → Bool) (lo hi r : Int) : Prop := (r = -1 ∧ ∀ b, lo ≤ b → b < hi → P b = false) ∨ (lo ≤ r ∧ r < hi ∧ P r = true ∧ ∀ b, lo ≤ b → b < r → P b = false)
def fst (P : Int → Bool) (lo : Int) : Nat → Int
  | 0 => -1
  | n + 1 => if 0 ≤ fst P lo n then fst P lo n else if P (lo + n) then lo + n else -1
def fstI (P : Int → Bool) (lo hi : Int) : Int := fst P lo (hi - lo).toNat
/-- the one with the least K of 0 .. n-1, the first of several; -1 if there is none -/
def mn (P : Int → Bool) (K : Int → Int) : Nat → Int
  | 0 => -1
  | n + 1 => if P n = true ∧ (mn P K n < 0 ∨ K n < K (mn P K n)) then n else mn P K n
def mnI (P : Int → Bool) (K : Int → Int) (n : Int) : Int := mn P K n.toNat
theorem toNat_s {g : Int} (h : 0 ≤ g) : (g + 1).toNat = g.toNat + 1 := by omega
theorem cntI_s {P : Int → Bool} {g : Int} (h : 0 ≤ g) : cntI P (g + 1) = cntI P g + (if P g then 1 else 0) := by
  unfold cntI
  rw [toNat_s h]
  show cnt P g.toNat + (if P (g.toNat : Int) then 1 else 0) = _
  rw [Int.toNat_of_nonneg h]
theorem cntI_0 {P : Int → Bool} : cntI P 0 = 0 := rfl
theorem cnt_b (P : Int → Bool) : ∀ n : Nat, 0 ≤ cnt P n ∧ cnt P n ≤ n
  | 0 => ⟨Int.le_refl _, Int.le_refl _⟩
  | n + 1 => by
    have ih := cnt_b P n
    show 0 ≤ cnt P n + _ ∧ cnt P n + _ ≤ _
    by_cases h : P n = true
    · rw [if_pos h]; omega
    · rw [if_neg h]; omega
theorem cntI_b {P : Int → Bool} {n : Int} (h : 0 ≤ n) : 0 ≤ cntI P n ∧ cntI P n ≤ n := by
  have := cnt_b P n.toNat
  unfold cntI
  omega
theorem mnI_s {P : Int → Bool} {K : Int → Int} {g : Int} (h : 0 ≤ g) : mnI P K (g + 1) = if P g = true ∧ (mnI P K g < 0 ∨ K g < K (mnI P K g)) then g else mnI P K g := by
  unfold mnI
  rw [toNat_s h]
  show (if P (g.toNat : Int) = true ∧ (mn P K g.toNat < 0 ∨ K (g.toNat : Int) < K (mn P K g.toNat)) then (g.toNat : Int) else mn P K g.toNat) = _
  rw [Int.toNat_of_nonneg h]
theorem mn_b (P : Int → Bool) (K : Int → Int) : ∀ n : Nat, mn P K n = -1 ∨ (0 ≤ mn P K n ∧ mn P K n < n)
  | 0 => Or.inl rfl
  | n + 1 => by
    have ih := mn_b P K n
    unfold mn
    split <;> omega
theorem mnI_b {P : Int → Bool} {K : Int → Int} {n : Int} (h : 0 ≤ n) : mnI P K n = -1 ∨ (0 ≤ mnI P K n ∧ mnI P K n < n) := by
  have := mn_b P K n.toNat
  unfold mnI
  omega
theorem fst_is (P : Int → Bool) {lo : Int} (h0 : 0 ≤ lo) : ∀ n : Nat, isF P lo (lo + n) (fst P lo n)
  | 0 => Or.inl ⟨rfl, fun b h1 h2 => by omega⟩
  | n + 1 => by
    have ih := fst_is P h0 n
    unfold fst
    rcases ih with ⟨h1, h2⟩ | ⟨h1, h2, h3, h4⟩
    · rw [if_neg (by omega)]
      by_cases h : P (lo + n) = true
      · rw [if_pos h]
        exact Or.inr ⟨by omega, by omega, h, fun b b1 b2 => h2 b b1 b2⟩
      · rw [if_neg h]
        refine Or.inl ⟨rfl, fun b b1 b2 => ?_⟩
        by_cases e : b = lo + n
        · subst e; simpa using h
        · exact h2 b b1 (by omega)
    · rw [if_pos (by omega)]
      exact Or.inr ⟨h1, by omega, h3, h4⟩
theorem isF_u {P : Int → Bool} {lo hi r s : Int} (h0 : 0 ≤ lo) (h1 : isF P lo hi r) (h2 : isF P lo hi s) : r = s := by
  rcases h1 with ⟨a1, a2⟩ | ⟨a1, a2, a3, a4⟩ <;> rcases h2 with ⟨b1, b2⟩ | ⟨b1, b2, b3, b4⟩
  · omega
  · have := a2 s b1 b2; rw [this] at b3; cases b3
  · have := b2 r a1 a2; rw [this] at a3; cases a3
  · by_cases c : r < s
    · have := b4 r a1 c; rw [this] at a3; cases a3
    · by_cases c2 : s < r
      · have := a4 s b1 c2; rw [this] at b3; cases b3
      · omega
theorem fstI_is {P : Int → Bool} {lo hi : Int} (h0 : 0 ≤ lo) (h1 : lo ≤ hi) : isF P lo hi (fstI P lo hi) := by
  have := fst_is P h0 (hi - lo).toNat
  rw [show lo + ((hi - lo).toNat : Int) = hi by omega] at this
  exact this
theorem fstI_eq {P : Int → Bool} {lo hi r : Int} (h0 : 0 ≤ lo) (h1 : lo ≤ hi) (h : isF P lo hi r) : r = fstI P lo hi := isF_u h0 h (fstI_is h0 h1)
theorem fstI_e {P : Int → Bool} {lo hi : Int} (h1 : hi ≤ lo) : fstI P lo hi = -1 := by
  unfold fstI
  rw [show (hi - lo).toNat = 0 by omega]
  rfl
theorem fstI_b {P : Int → Bool} {lo hi : Int} (h0 : 0 ≤ lo) (h1 : lo ≤ hi) : fstI P lo hi = -1 ∨ (lo ≤ fstI P lo hi ∧ fstI P lo hi < hi) := by
  rcases fstI_is (P := P) h0 h1 with h | h
  · exact Or.inl h.1
  · exact Or.inr ⟨h.1, h.2.1⟩
/-! the answers and the acts: (answer, the array behind it, how many findings) -/
abbrev NN : Type := Int → Int
abbrev RR : Type := Int × NN × Int
def fnd (N : NN) (w : Int) : RR := (w, N, 1)
def s_point (N : NN) (kind v : Int) : RR :=
  if ¬ (0 ≤ kind ∧ kind ≤ 5) ∨ (kind = 2 ∧ ¬ (1 ≤ v ∧ v ≤ 9)) ∨ (kind = 4 ∧ ¬ (1 ≤ v ∧ v ≤ 20)) then fnd N (-1)
  else if N 0 = 12 then fnd N (-3)
  else (N 0, uI (uI (uI (uI (uI (uI N (8 + N 0) kind) (20 + N 0) v) (32 + N 0) 0) (44 + N 0) 0) (56 + N 0) 0) 0 (N 0 + 1), 0)
/-- the cells of belt n empty -/
def clr (N : NN) (n c : Int) : NN := fun j => if 148 + 12 * n ≤ j ∧ j < 148 + 12 * n + c then 0 else N j
def s_belt1 (N : NN) (fr to cells : Int) : NN := clr (uI (uI (uI (uI (uI N (68 + N 1) fr) (84 + N 1) to) (100 + N 1) cells) (116 + N 1) 0) (132 + N 1) 1) (N 1) 12
def s_belt (N : NN) (fr to cells : Int) : RR :=
  if ¬ (0 ≤ fr ∧ fr < N 0) ∨ ¬ (0 ≤ to ∧ to < N 0) ∨ ¬ (1 ≤ cells ∧ cells ≤ 12) then fnd N (-1)
  else if fr = to then fnd N (-5)
  else if N (8 + fr) = 5 ∨ N (8 + to) = 0 then fnd N (-4)
  else if N 1 = 16 then fnd N (-3)
  else if N (8 + to) = 1 ∧ N (44 + to) = 0 then (N 1, uI (uI (uI (s_belt1 N fr to cells) (44 + to) (N 1 + 1)) (56 + to) 1) 1 (N 1 + 1), 0)
  else (N 1, uI (s_belt1 N fr to cells) 1 (N 1 + 1), 0)
def s_as (N : NN) (p kind : Int) : RR := if ¬ (0 ≤ p ∧ p < N 0) ∨ ¬ (0 ≤ kind ∧ kind ≤ 5) then fnd N (-1) else if N (8 + p) = kind then (p, N, 0) else fnd N (-4)
def s_turns (N : NN) (b v : Int) : RR :=
  if ¬ (0 ≤ b ∧ b < N 1) ∨ ¬ (0 ≤ v ∧ v ≤ 9) then fnd N (-1)
  else if N (8 + N (84 + b)) ≠ 1 then fnd N (-4)
  else if N (44 + N (84 + b)) = b + 1 ∧ v < N (56 + N (84 + b)) then (N (132 + b), uI (uI N (132 + b) v) (56 + N (84 + b)) v, 0)
  else (N (132 + b), uI N (132 + b) v, 0)
def s_flight (N : NN) (c o e : Int) : RR :=
  if ¬ (0 ≤ c ∧ c < N 0) ∨ ¬ (0 ≤ o ∧ o ≤ 5000) ∨ ¬ (0 ≤ e ∧ e ≤ 5000) ∨ e < o then fnd N (-1)
  else if N (8 + c) ≠ 5 then fnd N (-4)
  else if N 2 = 8 then fnd N (-3)
  else (N 2, uI (uI (uI (uI N (340 + N 2) c) (348 + N 2) o) (356 + N 2) e) 2 (N 2 + 1), 0)
def s_fall (N : NN) (b on : Int) : RR := if ¬ (0 ≤ b ∧ b < N 1) then fnd N (-1) else (if (if N (116 + b) = 1 then 1 else 0) = on then 0 else 1, uI N (116 + b) on, 0)
def liesN (N : NN) (g w p d : Int) : NN := uI (uI (uI N (484 + g) w) (544 + g) p) (604 + g) d
def waitsN (N : NN) (g p : Int) : NN := uI (liesN N g 0 p (N 5)) 5 (N 5 + 1)
/-- the bags that are so at such a place -/
def wP (N : NN) (w p : Int) : Int → Bool := fun g => decide (N (484 + g) = w ∧ N (544 + g) = p)
def s_bag (N : NN) (dk fl db : Int) : RR :=
  if ¬ (0 ≤ dk ∧ dk < N 0) ∨ ¬ (0 ≤ fl ∧ fl < N 2) then fnd N (-1)
  else if N (8 + dk) ≠ 0 then fnd N (-4)
  else if N 3 = 60 then fnd N (-3)
  else (N 3, uI (waitsN (uI (uI (uI N (364 + N 3) fl) (424 + N 3) db) (664 + N 3) 0) (N 3) dk) 3 (N 3 + 1), 0)
def s_take (N : NN) (g : Int) : RR :=
  if ¬ (0 ≤ g ∧ g < N 3) then fnd N (-1)
  else if 4 ≤ N (484 + g) then fnd N (-6)
  else if N (484 + g) = 1 then (1, liesN (uI N (148 + 12 * N (544 + g) + N (604 + g)) 0) g 4 (-100) 0, 0)
  else if N (484 + g) = 2 then (1, liesN (uI N (32 + N (544 + g)) 0) g 4 (-100) 0, 0)
  else (1, liesN N g 4 (-100) 0, 0)
def s_give (N : NN) (g dk db : Int) : RR :=
  if ¬ (0 ≤ g ∧ g < N 3) ∨ ¬ (0 ≤ dk ∧ dk < N 0) then fnd N (-1)
  else if N (8 + dk) ≠ 0 then fnd N (-4)
  else if N (484 + g) ≠ 4 then fnd N (-2)
  else (cntI (wP (waitsN (uI N (424 + g) db) g dk) 0 dk) (N 3), waitsN (uI N (424 + g) db) g dk, 0)
def s_where (N : NN) (g : Int) : RR := if 0 ≤ g ∧ g < N 3 then (N (484 + g), N, 0) else fnd N (-1)
def s_place (N : NN) (g : Int) : RR := if 0 ≤ g ∧ g < N 3 then (N (544 + g), N, 0) else fnd N (-1)
def s_detail (N : NN) (g : Int) : RR :=
  if ¬ (0 ≤ g ∧ g < N 3) then fnd N (-1)
  else if N (484 + g) = 4 then fnd N (-2)
  else if N (484 + g) ≠ 0 then (N (604 + g), N, 0)
  else (cntI (fun x => decide ((N (484 + x) = 0 ∧ N (544 + x) = N (544 + g)) ∧ N (604 + x) < N (604 + g))) (N 3), N, 0)
def s_steps (N : NN) (g : Int) : RR := if 0 ≤ g ∧ g < N 3 then (N (664 + g), N, 0) else fnd N (-1)
def s_step (N : NN) (g i tk : Int) : RR := if ¬ (0 ≤ g ∧ g < N 3) ∨ ¬ (0 ≤ i ∧ i < N (664 + g) ∧ i < 30) then fnd N (-1) else (N ((if tk = 0 then 724 else 2524) + 30 * g + i), N, 0)
def s_cell (N : NN) (b c : Int) : RR := if ¬ (0 ≤ b ∧ b < N 1) ∨ ¬ (0 ≤ c ∧ c < N (100 + b)) then fnd N (-1) else if N (148 + 12 * b + c) - 1 < 0 then fnd N (-2) else (N (148 + 12 * b + c) - 1, N, 0)
def s_holds (N : NN) (p : Int) : RR := if ¬ (0 ≤ p ∧ p < N 0) then fnd N (-1) else if ¬ (1 ≤ N (8 + p) ∧ N (8 + p) ≤ 3) then fnd N (-4) else if N (32 + p) = 0 then fnd N (-2) else (N (32 + p) - 1, N, 0)
/-- how many stand ahead of g among those -/
def aheadN (N : NN) (g w p : Int) : Int := cntI (fun x => decide ((N (484 + x) = w ∧ N (544 + x) = p) ∧ (N (604 + x) < N (604 + g) ∨ (N (604 + x) = N (604 + g) ∧ x < g)))) (N 3)
def s_listW (N : NN) (p i w : Int) : RR :=
  if ¬ (0 ≤ p ∧ p < N 0) then fnd N (-1)
  else if N (8 + p) ≠ 0 ∧ N (8 + p) ≠ 4 then fnd N (-4)
  else if i = -1 then (cntI (wP N w p) (N 3), N, 0)
  else if ¬ (0 ≤ i ∧ i < cntI (wP N w p) (N 3)) then fnd N (-2)
  else if fstI (fun g => decide ((N (484 + g) = w ∧ N (544 + g) = p) ∧ aheadN N g w p = i)) 0 (N 3) = -1 then fnd N (-2)
  else (fstI (fun g => decide ((N (484 + g) = w ∧ N (544 + g) = p) ∧ aheadN N g w p = i)) 0 (N 3), N, 0)
def s_list (N : NN) (p i : Int) : RR := s_listW N p i (if N (8 + p) = 0 then 0 else 3)
def s_flown (N : NN) (fl w : Int) : RR :=
  if ¬ (0 ≤ fl ∧ fl < N 2) ∨ ¬ (0 ≤ w ∧ w ≤ 6) then fnd N (-1)
  else if w < 3 then (N ((if w = 0 then 340 else if w = 1 then 348 else 356) + fl), N, 0)
  else (cntI (fun g => decide (N (364 + g) = fl ∧ (w = 6 ∨ N (484 + g) = 5 + w - 3))) (N 3), N, 0)
def s_count (N : NN) (f w : Int) : RR :=
  if ¬ (0 ≤ w ∧ w ≤ 14) then fnd N (-1)
  else if w = 8 then (N 3, N, 0) else if w = 9 then (N 0, N, 0) else if w = 10 then (N 1, N, 0) else if w = 11 then (N 2, N, 0)
  else if w = 12 then (cntI (fun g => decide (N (484 + g) = w)) (N 3) + cntI (fun b => decide (N (116 + b) = 1)) (N 1), N, 0)
  else if w = 13 then (N 4, N, 0) else if w = 14 then (f, N, 0)
  else (cntI (fun g => decide (N (484 + g) = w)) (N 3), N, 0)
/-! FAR -/
/-- one belt looked at: F with from made shorter, if it can be -/
def rlx (N : NN) (ch : Int) (F : NN) (b : Int) : NN :=
  if N (116 + b) = 1 ∨ ¬ (N (84 + b) = ch ∨ (N (8 + N (84 + b)) ≠ 0 ∧ N (8 + N (84 + b)) ≠ 5)) ∨ F (N (84 + b)) < 0 then F
  else if F (N (68 + b)) < 0 ∨ N (100 + b) + F (N (84 + b)) < F (N (68 + b)) then uI F (N (68 + b)) (N (100 + b) + F (N (84 + b))) else F
def rnd (N : NN) (ch : Int) (F : NN) : Nat → NN
  | 0 => F
  | b + 1 => rlx N ch (rnd N ch F b) b
def far0 (ch : Int) : NN := fun p => if p = ch then 0 else -1
def farI (N : NN) (ch : Int) : Nat → NN
  | 0 => far0 ch
  | m + 1 => rnd N ch (farI N ch m) (N 1).toNat
/-- FAR of all points to the chute ch (-1: no way) -/
def farS (N : NN) (ch : Int) : NN := farI N ch 12
def bestO (N : NN) (F : NN) (p : Int) : Int := mnI (fun b => decide (N (68 + b) = p ∧ N (116 + b) ≠ 1 ∧ 0 ≤ F (N (84 + b)))) (fun b => N (100 + b) + F (N (84 + b))) (N 1)
def outF (N : NN) (p fl : Int) : Int := bestO N (farS N (N (340 + fl))) p
def s_far (N : NN) (p ch : Int) : RR :=
  if ¬ (0 ≤ p ∧ p < N 0) ∨ ¬ (0 ≤ ch ∧ ch < N 0) then fnd N (-1)
  else if N (8 + ch) ≠ 5 then fnd N (-4)
  else if farS N ch p < 0 then fnd N (-2) else (farS N ch p, N, 0)
def s_route (N : NN) (p fl : Int) : RR :=
  if ¬ (0 ≤ p ∧ p < N 0) ∨ ¬ (0 ≤ fl ∧ fl < N 2) then fnd N (-1)
  else if N (8 + p) ≠ 3 then fnd N (-4)
  else if outF N p fl < 0 then fnd N (-2) else (outF N p fl, N, 0)
/-! the tick -/
def goesN (N : NN) (g p : Int) : NN := uI (if N (664 + g) < 30 then uI (uI N (724 + 30 * g + N (664 + g)) p) (2524 + 30 * g + N (664 + g)) (N 4) else N) (664 + g) (N (664 + g) + 1)
def outS (N : NN) (p : Int) : Int := fstI (fun b => decide (N (68 + b) = p ∧ N (116 + b) = 0)) 0 (N 1)
def outA (N : NN) (p w : Int) : Int := fstI (fun b => decide (N (68 + b) = p) && decide (cntI (fun x => decide (N (68 + x) = p)) b = w)) 0 (N 1)
def freeB (N : NN) (b : Int) : Bool := decide (0 ≤ b ∧ N (116 + b) = 0 ∧ N (148 + 12 * b) = 0)
def putN (N : NN) (g b : Int) : NN := liesN (uI N (148 + 12 * b) (g + 1)) g 1 b 0
def fstW (N : NN) (p : Int) : Int := mnI (wP N 0 p) (fun g => N (604 + g)) (N 3)
def fstO (N : NN) (p : Int) : Int := mnI (fun g => decide ((N (484 + g) = 3 ∧ N (544 + g) = p) ∧ N (348 + N (364 + g)) ≤ N 4)) (fun g => N (604 + g)) (N 3)
def scrN (N : NN) (p g : Int) : Int := if N 4 < N (604 + g) + N (20 + p) then -1 else if N (424 + g) = 1 ∧ 0 ≤ outA N p 1 then outA N p 1 else outA N p 0
/-- what a point that isn't a desk or a store sends its bag by -/
def beltN (N : NN) (p g : Int) : Int := if N (8 + p) = 1 then outS N p else if N (8 + p) = 2 then scrN N p g else outF N p (N (364 + g))
/-- (1) of a tick, at one point -/
def gvN (N G : NN) (p : Int) : NN × NN :=
  if N (8 + p) = 0 then (if 0 ≤ fstW N p ∧ freeB N (outS N p) = true then (goesN (putN N (fstW N p) (outS N p)) (fstW N p) p, uI G (fstW N p) 1) else (N, G))
  else if N (8 + p) = 4 then (if 0 ≤ fstO N p ∧ freeB N (outS N p) = true then (putN N (fstO N p) (outS N p), uI G (fstO N p) 1) else (N, G))
  else if N (8 + p) = 5 ∨ N (32 + p) - 1 < 0 then (N, G)
  else if freeB N (beltN N p (N (32 + p) - 1)) = true then (uI (putN N (N (32 + p) - 1) (beltN N p (N (32 + p) - 1))) (32 + p) 0, uI G (N (32 + p) - 1) 1)
  else (N, G)
/-- (2), one cell -/
def mv1 (N G : NN) (b c : Int) : NN :=
  if N (148 + 12 * b + c) - 1 < 0 ∨ G (N (148 + 12 * b + c) - 1) ≠ 0 ∨ N (148 + 12 * b + c + 1) ≠ 0 then N
  else uI (uI (uI N (148 + 12 * b + c + 1) (N (148 + 12 * b + c) - 1 + 1)) (148 + 12 * b + c) 0) (604 + (N (148 + 12 * b + c) - 1)) (c + 1)
def mvs (G : NN) (b : Int) : Nat → NN → NN
  | 0, N => N
  | c + 1, N => mvs G b c (mv1 N G b c)
def mvN (N G : NN) (b : Int) : NN := if N (116 + b) = 1 then N else mvs G b (N (100 + b) - 1).toNat N
/-- the bag that an inlet has ready, or -1 -/
def rdyN (N G : NN) (b : Int) : Int := if N (116 + b) = 1 then -1 else if N (148 + 12 * b + N (100 + b) - 1) - 1 < 0 ∨ G (N (148 + 12 * b + N (100 + b) - 1) - 1) ≠ 0 then -1 else N (148 + 12 * b + N (100 + b) - 1) - 1
def tkN (N G : NN) (b p w : Int) : NN :=
  goesN (if w = 2 then uI (liesN (uI N (148 + 12 * b + N (100 + b) - 1) 0) (rdyN N G b) w p (N 4)) (32 + p) (rdyN N G b + 1) else liesN (uI N (148 + 12 * b + N (100 + b) - 1) 0) (rdyN N G b) w p (N 4)) (rdyN N G b) p
def rdyI (N G : NN) (p : Int) : Int := fstI (fun b => decide (N (84 + b) = p ∧ 0 ≤ rdyN N G b)) 0 (N 1)
def inl (N : NN) (p : Int) : Int → Bool := fun b => decide (N (84 + b) = p)
def nxtI (N : NN) (p b : Int) : Int := if 0 ≤ fstI (inl N p) (b + 1) (N 1) then fstI (inl N p) (b + 1) (N 1) else fstI (inl N p) 0 (N 1)
/-- the next inlet of a merge is at hand -/
def pasN (N : NN) (p : Int) : NN := uI (uI N (44 + p) (nxtI N p (N (44 + p) - 1) + 1)) (56 + p) (N (132 + nxtI N p (N (44 + p) - 1)))
def mgs (G : NN) (p : Int) : Nat → NN → NN
  | 0, N => N
  | m + 1, N => if 0 < N (56 + p) ∧ 0 ≤ rdyN N G (N (44 + p) - 1) then tkN (uI N (56 + p) (N (56 + p) - 1)) G (N (44 + p) - 1) p 2 else if m = 0 then N else mgs G p m (pasN N p)
def mgN (N G : NN) (p : Int) : NN := if 0 < cntI (inl N p) (N 1) then mgs G p (cntI (inl N p) (N 1) + 1).toNat N else N
def chW (N G : NN) (b p : Int) : Int := if N (340 + N (364 + rdyN N G b)) ≠ p then 7 else if N 4 < N (356 + N (364 + rdyN N G b)) then 5 else 6
def ch1 (G : NN) (p : Int) (N : NN) (b : Int) : NN := if N (84 + b) = p ∧ 0 ≤ rdyN N G b then tkN N G b p (chW N G b p) else N
def chs (G : NN) (p : Int) (N : NN) : Nat → NN
  | 0 => N
  | b + 1 => ch1 G p (chs G p N b) b
/-- (3), at one point -/
def tkA (N G : NN) (p : Int) : NN :=
  if N (8 + p) = 5 then chs G p N (N 1).toNat
  else if N (8 + p) = 4 then (if 0 ≤ rdyI N G p ∧ cntI (wP N 3 p) (N 3) < N (20 + p) then tkN N G (rdyI N G p) p 3 else N)
  else if N (8 + p) = 0 ∨ N (32 + p) ≠ 0 then N
  else if N (8 + p) = 1 then mgN N G p
  else if 0 ≤ rdyI N G p then tkN N G (rdyI N G p) p 2 else N
def gvs (N G : NN) : Nat → NN × NN
  | 0 => (N, G)
  | p + 1 => gvN (gvs N G p).1 (gvs N G p).2 p
def mvA (N G : NN) : Nat → NN
  | 0 => N
  | b + 1 => mvN (mvA N G b) G b
def tks (N G : NN) : Nat → NN
  | 0 => N
  | p + 1 => tkA (tks N G p) G p
def g0 : NN := fun _ => 0
def tick1 (N : NN) : NN := uI (tks (mvA (gvs N g0 (N 0).toNat).1 (gvs N g0 (N 0).toNat).2 (N 1).toNat) (gvs N g0 (N 0).toNat).2 (N 0).toNat) 4 (N 4 + 1)
def ticks (N : NN) : Nat → NN
  | 0 => N
  | m + 1 => tick1 (ticks N m)
def s_tick (N : NN) (m : Int) : RR := if ¬ (1 ≤ m ∧ m ≤ 100) then fnd N (-1) else (ticks N m.toNat 4, ticks N m.toNat, 0)
/-! leaves of a walk -/
theorem lf1 {σ : SS} {K G F : NN} {k f : Int} {s : RR} {x : Int} {N' : NN} (h : s = (x, N', 1)) : some (vi x) = some (vi s.1) ∧ mkS σ N' K G F k (f + 1) = mkS σ s.2.1 K G F k (f + s.2.2) := by
  subst h; exact ⟨rfl, rfl⟩
theorem lf0 {σ : SS} {K G F : NN} {k f : Int} {s : RR} {x : Int} {N' : NN} (h : s = (x, N', 0)) : some (vi x) = some (vi s.1) ∧ mkS σ N' K G F k f = mkS σ s.2.1 K G F k (f + s.2.2) := by
  subst h; exact ⟨rfl, by rw [Int.add_zero]⟩
theorem inR_uI {N : NN} {x v : Int} (h : ∀ j, inR (N j)) (hv : inR v) (j : Int) : inR (uI N x v j) := by
  unfold uI
  split
  · exact hv
  · exact h j
section MRE
variable {g : GG} {R : Room} {mi : MI} {Z : List Frame → Array Value → State → State → Prop} {E : Array Value → State → Prop} {pc nx : Nat} {lv : List (Nat × Value)} {st : List Value} {kp : Bool} {σ : SS} {N K G F : Int → Int} {k f : Int} {ca sl : Nat}
theorem m_ald10e {x z : Int} (hd : decode mi.2.1 pc = .ok (.iaload, 1)) (hn : pc + 1 = nx) (h0 : 0 ≤ x ∧ x < 4324) (hv : N x = z) (kk : V g R mi Z E nx lv (vi z :: st) (vw g kp (mkS σ N K G F k f)) (sz kp) ca sl) : V g R mi Z E pc lv (vi x :: rf g (ad 10 0 0) :: st) (vw g kp (mkS σ N K G F k f)) (sz kp) ca sl := by
  subst hv
  exact m_ald10 hd hn h0 kk
/-- the top of the stack named anew -/
theorem v_top {z z' : Int} {φ : Nat → ce} {n : Nat} (h : z = z') (kk : V g R mi Z E pc lv (vi z' :: st) φ n ca sl) : V g R mi Z E pc lv (vi z :: st) φ n ca sl := by
  subst h
  exact kk
end MRE
theorem cn_t {P : Int → Bool} {c x : Int} (hc : c = cntI P x) (h0 : 0 ≤ x) (h : P x = true) : c + 1 = cntI P (x + 1) := by
  rw [cntI_s h0, if_pos h, hc]
theorem cn_f {P : Int → Bool} {c x : Int} (hc : c = cntI P x) (h0 : 0 ≤ x) (h : P x = false) : c + 0 = cntI P (x + 1) := by
  rw [cntI_s h0, if_neg (by rw [h]; decide), hc]
theorem cn_n {P : Int → Bool} {c x : Int} (hc : c = cntI P x) (h0 : 0 ≤ x) (h : P x = false) : c = cntI P (x + 1) := by
  rw [cntI_s h0, if_neg (by rw [h]; decide), hc, Int.add_zero]
theorem mn_t {P : Int → Bool} {K : Int → Int} {c x : Int} (hc : c = mnI P K x) (h0 : 0 ≤ x) (h : P x = true) (h2 : c < 0 ∨ K x < K c) : x = mnI P K (x + 1) := by
  rw [mnI_s h0, if_pos ⟨h, by rw [← hc]; exact h2⟩]
theorem mn_f {P : Int → Bool} {K : Int → Int} {c x : Int} (hc : c = mnI P K x) (h0 : 0 ≤ x) (h : P x = false ∨ ¬ (c < 0 ∨ K x < K c)) : c = mnI P K (x + 1) := by
  rw [mnI_s h0, ← hc, if_neg]
  rintro ⟨a, b⟩
  rcases h with h | h
  · rw [h] at a; cases a
  · exact h b
section VSW
variable {g : GG} {R : Room} {mi : MI} {Z : List Frame → Array Value → State → State → Prop} {E : Array Value → State → Prop} {pc : Nat} {lv : List (Nat × Value)} {st : List Value} {φ : Nat → ce} {n ca sl : Nat}
theorem v_tabIn {w lo hi dflt off : Int} {offs : Array Int} {len tgt : Nat} (hd : decode mi.2.1 pc = .ok (.tableswitch dflt lo hi offs, len)) (hw : inR w) (h1 : lo ≤ w) (h2 : w ≤ hi) (ho : offs[(w - lo).toNat]? = some off) (ht : (pc : Int) + off = (tgt : Int)) (kk : V g R mi Z E tgt lv st φ n ca sl) : V g R mi Z E pc lv (vi w :: st) φ n ca sl := by
  intro p e s m args below meth c H locs ls ev hh hl
  exact lv_tableIn ev.1 ev.2.1 hd (by rw [I_toInt hw]; omega) (by rw [I_toInt hw]; omega) (by rw [I_toInt hw]; exact ho) ht (kk p e s m args below meth c H locs ls ev hh hl)
theorem v_tabOut {w lo hi dflt : Int} {offs : Array Int} {len tgt : Nat} (hd : decode mi.2.1 pc = .ok (.tableswitch dflt lo hi offs, len)) (hw : inR w) (h1 : w < lo ∨ hi < w) (ht : (pc : Int) + dflt = (tgt : Int)) (kk : V g R mi Z E tgt lv st φ n ca sl) : V g R mi Z E pc lv (vi w :: st) φ n ca sl := by
  intro p e s m args below meth c H locs ls ev hh hl
  exact lv_tableOut ev.1 ev.2.1 hd (by rw [I_toInt hw]; omega) ht (kk p e s m args below meth c H locs ls ev hh hl)
theorem v_look {w dflt off : Int} {ps : Array (Int × Int)} {len tgt : Nat} (hd : decode mi.2.1 pc = .ok (.lookupswitch dflt ps, len)) (hp : (ps.toList.zip (ps.toList.drop 1)).all (fun (a, next) => a.1 < next.1) = true) (hw : inR w) (ho : Op.lookupswitch.offset ps.toList dflt w = off) (ht : (pc : Int) + off = (tgt : Int)) (kk : V g R mi Z E tgt lv st φ n ca sl) : V g R mi Z E pc lv (vi w :: st) φ n ca sl := by
  intro p e s m args below meth c H locs ls ev hh hl
  exact lv_lookup ev.1 ev.2.1 hd hp (by rw [I_toInt hw]; exact ho) ht (kk p e s m args below meth c H locs ls ev hh hl)
theorem V.lpick (ks : List Nat) {lv' : List (Nat × Value)} (h : lv_pick lv ks = lv') (kk : V g R mi Z E pc lv' st φ n ca sl) : V g R mi Z E pc lv st φ n ca sl :=
  fun p e s m args below meth c H locs ls ev hh hl => kk p e s m args below meth c H locs ls ev hh (lv_sub hl ks h)
end VSW
