/-! ===== the typed world: every int of every cell by (kind, hall, number, place) ===== -/
abbrev SS : Type := Nat → Int → Int → Int → Int
def up (σ : SS) (a : Nat) (t i j v : Int) : SS := fun a' t' i' j' => if a' = a ∧ t' = t ∧ i' = i ∧ j' = j then v else σ a' t' i' j'
/-- kinds: 0 point, 1 its row, 2 belt, 3 its cells, 4 flight, 5 bag, 6 its way, 7 hall, 8 a row of sums, 9 BagHall, 10 now, 11 kept, 12 isGiven, 13 far, 14 BagHallModel, 15 to 18 the arrays of points, belts, flights, bags, 19 Ways, 20 sums -/
def hkx (j : Nat) : Nat × Int := if j = 0 then (7, 0) else if j < 5 then (14 + j, 0) else if j < 29 then (if (j - 5) % 2 = 0 then (0, ((j - 5) / 2 : Nat)) else (1, ((j - 5) / 2 : Nat))) else if j < 61 then (if (j - 29) % 2 = 0 then (2, ((j - 29) / 2 : Nat)) else (3, ((j - 29) / 2 : Nat))) else if j < 69 then (4, (j - 61 : Nat)) else (if (j - 69) % 2 = 0 then (5, ((j - 69) / 2 : Nat)) else (6, ((j - 69) / 2 : Nat)))
def ky (k : Nat) : Nat × Int × Int := if k = 0 then (9, 0, 0) else if k < 190 then ((hkx (k - 1)).1, 0, (hkx (k - 1)).2) else if k = 190 then (19, 0, 0) else if k = 191 then (20, 0, 0) else if k < 204 then (8, 0, (k - 192 : Nat)) else if k = 204 then (14, 0, 0) else if k < 209 then (k - 195, 0, 0) else ((hkx (k - 209)).1, 1, (hkx (k - 209)).2)
def adI (a : Nat) (t i : Int) : Int := match a with
  | 0 => 6 + 208 * t + 2 * i
  | 1 => 7 + 208 * t + 2 * i
  | 2 => 30 + 208 * t + 2 * i
  | 3 => 31 + 208 * t + 2 * i
  | 4 => 62 + 208 * t + i
  | 5 => 70 + 208 * t + 2 * i
  | 6 => 71 + 208 * t + 2 * i
  | 7 => 1 + 208 * t
  | 8 => 192 + i
  | 9 => 0
  | 10 => 205
  | 11 => 206
  | 12 => 207
  | 13 => 208
  | 14 => 204
  | 15 => 2 + 208 * t
  | 16 => 3 + 208 * t
  | 17 => 4 + 208 * t
  | 18 => 5 + 208 * t
  | 19 => 190
  | _ => 191
def ad (a : Nat) (t i : Int) : Nat := (adI a t i).toNat
def lenK (a : Nat) : Int := match a with
  | 0 => 12
  | 1 => 12
  | 2 => 16
  | 3 => 16
  | 4 => 8
  | 5 => 60
  | 6 => 60
  | 8 => 12
  | _ => 1
def isH (a : Nat) : Bool := a < 8 || (15 ≤ a && a < 19)
def sz (kp : Bool) : Nat := if kp then 398 else 209
def ok (kp : Bool) (a : Nat) (t i : Int) : Prop := 0 ≤ i ∧ i < lenK a ∧ (t = 0 ∨ (t = 1 ∧ kp = true ∧ isH a = true))
def bld (g : GG) (kp : Bool) (a : Nat) (t i : Int) (f : Int → Int) : ce := match a with
  | 0 => .inr (4, [vi (f 0), vi (f 1), vi (f 2), vi (f 3), vi (f 4), rf g (ad 1 t i)])
  | 1 => .inl (0, 60, .inl (fun j => Int32.ofInt (f j)))
  | 2 => .inr (1, [vi (f 0), vi (f 1), vi (f 2), vi (f 3), vi (f 4), vi (f 5), rf g (ad 3 t i)])
  | 3 => .inl (0, 12, .inl (fun j => Int32.ofInt (f j)))
  | 4 => .inr (2, [vi (f 0), vi (f 1), vi (f 2)])
  | 5 => .inr (0, [vi (f 0), vi (f 1), vi (f 2), vi (f 3), vi (f 4), vi (f 5), rf g (ad 6 t i)])
  | 6 => .inl (0, 30, .inl (fun j => Int32.ofInt (f j)))
  | 7 => .inr (3, [rf g (ad 15 t 0), rf g (ad 16 t 0), rf g (ad 17 t 0), rf g (ad 18 t 0), vi (f 0), vi (f 1), vi (f 2), vi (f 3), vi (f 4)])
  | 8 => .inl (0, 12, .inl (fun j => Int32.ofInt (f j)))
  | 9 => .inr (6, [rf g (ad 7 0 0), rf g (ad 19 0 0), if kp then rf g (ad 7 1 0) else .null, vi (f 0)])
  | 10 => .inl (0, 4324, .inl (fun j => Int32.ofInt (f j)))
  | 11 => .inl (0, 4324, .inl (fun j => Int32.ofInt (f j)))
  | 12 => .inl (1, 60, .inl (fun j => Int32.ofInt (f j)))
  | 13 => .inl (0, 12, .inl (fun j => Int32.ofInt (f j)))
  | 14 => .inr (7, [rf g (ad 10 0 0), rf g (ad 11 0 0), vi (f 0), vi (f 1), rf g (ad 12 0 0), rf g (ad 13 0 0)])
  | 15 => .inl (2, 12, .inr (.inr (.inr (.inr (fun j => some (g.2.1 + ad 0 t j))))))
  | 16 => .inl (3, 16, .inr (.inr (.inr (.inr (fun j => some (g.2.1 + ad 2 t j))))))
  | 17 => .inl (4, 8, .inr (.inr (.inr (.inr (fun j => some (g.2.1 + ad 4 t j))))))
  | 18 => .inl (5, 60, .inr (.inr (.inr (.inr (fun j => some (g.2.1 + ad 5 t j))))))
  | 19 => .inr (5, [rf g (ad 20 0 0)])
  | _ => .inl (6, 12, .inr (.inr (.inr (.inr (fun j => some (g.2.1 + ad 8 0 j))))))
def vw (g : GG) (kp : Bool) (σ : SS) (k : Nat) : ce := bld g kp (ky k).1 (ky k).2.1 (ky k).2.2 (σ (ky k).1 (ky k).2.1 (ky k).2.2)
theorem ky_ad0 : ∀ a : Fin 21, ∀ t : Fin 2, ∀ i : Fin 60, ((i.val : Int) < lenK a.val) → (t.val = 0 ∨ isH a.val = true) → ky (ad a.val (t.val : Int) (i.val : Int)) = (a.val, (t.val : Int), (i.val : Int)) ∧ ad a.val (t.val : Int) (i.val : Int) < (if t.val = 1 then 398 else 209) := by decide +kernel
theorem ad_ky0 : ∀ k : Fin 398, ad (ky k.val).1 (ky k.val).2.1 (ky k.val).2.2 = k.val := by decide +kernel
theorem sz_le (kp : Bool) : sz kp ≤ 398 := by cases kp <;> decide
theorem lenK_le (a : Nat) : lenK a ≤ 60 := by
  unfold lenK
  split <;> decide
theorem ky_ad {kp : Bool} {a : Nat} {t i : Int} (ha : a < 21) (h : ok kp a t i) : ky (ad a t i) = (a, t, i) ∧ ad a t i < sz kp := by
  obtain ⟨h0, h1, h2⟩ := h
  have hl := lenK_le a
  obtain ⟨n, rfl⟩ := Int.eq_ofNat_of_zero_le h0
  rcases h2 with rfl | ⟨rfl, hk, hh⟩
  · have := ky_ad0 ⟨a, ha⟩ 0 ⟨n, by omega⟩ h1 (Or.inl rfl)
    refine ⟨this.1, ?_⟩
    have h3 : ad a 0 n < 209 := this.2
    cases kp <;> simp [sz] <;> omega
  · have := ky_ad0 ⟨a, ha⟩ 1 ⟨n, by omega⟩ h1 (Or.inr hh)
    refine ⟨this.1, ?_⟩
    have h3 : ad a 1 n < 398 := this.2
    rw [hk]
    exact h3
theorem vw_at {g : GG} {kp : Bool} {σ : SS} {a : Nat} {t i : Int} (ha : a < 21) (h : ok kp a t i) : vw g kp σ (ad a t i) = bld g kp a t i (σ a t i) := by
  unfold vw
  rw [(ky_ad ha h).1]
theorem vw_up {g : GG} {kp : Bool} {σ : SS} {a : Nat} {t i j v : Int} {k : Nat} (hk : k < sz kp) (hne : k ≠ ad a t i) : vw g kp (up σ a t i j v) k = vw g kp σ k := by
  have hk2 : k < 398 := Nat.lt_of_lt_of_le hk (sz_le kp)
  unfold vw
  congr 1
  funext x
  unfold up
  rw [if_neg]
  rintro ⟨e1, e2, e3, -⟩
  apply hne
  have := ad_ky0 ⟨k, hk2⟩
  simp only at this
  rw [← this, e1, e2, e3]
theorem vw_upat {g : GG} {kp : Bool} {σ : SS} {a : Nat} {t i j v : Int} (ha : a < 21) (h : ok kp a t i) : vw g kp (up σ a t i j v) (ad a t i) = bld g kp a t i (fun x => if x = j then v else σ a t i x) := by
  rw [vw_at ha h]
  congr 1
  funext x
  unfold up
  by_cases e : x = j
  · rw [if_pos ⟨rfl, rfl, rfl, e⟩, if_pos e]
  · rw [if_neg (fun q => e q.2.2.2), if_neg e]
section VT
variable {g : GG} {R : Room} {mi : MI} {Z : List Frame → Array Value → State → State → Prop} {E : Array Value → State → Prop} {pc nx : Nat} {lv : List (Nat × Value)} {st : List Value} {kp : Bool} {σ : SS} {ca sl : Nat}
/-- behind a write to one cell -/
theorem t_upd {a : Nat} {t i j v : Int} {x : ce} (ha : a < 21) (h : ok kp a t i) (hx : bld g kp a t i (fun y => if y = j then v else σ a t i y) = x) (kk : V g R mi Z E pc lv st (vw g kp (up σ a t i j v)) (sz kp) ca sl) : V g R mi Z E pc lv st (va_up (vw g kp σ) (ad a t i) x) (sz kp) ca sl := by
  refine V.cong (fun k hk => ?_) kk
  by_cases e : k = ad a t i
  · subst e
    rw [show va_up (vw g kp σ) (ad a t i) x (ad a t i) = x from if_pos rfl, vw_upat ha h, hx]
  · rw [show va_up (vw g kp σ) (ad a t i) x k = vw g kp σ k from if_neg e, vw_up hk e]
/-- reads of an object's field: p is the field's number; a the kind, ci, C, T, N of its class -/
theorem t_get {a : Nat} {t i : Int} {p idx ci N : Nat} {fs : List Value} {v : Value} {C : String} {T : u_T} (hd : decode mi.2.1 pc = .ok (.getfield idx, 3)) (hn : pc + 3 = nx) (ha : a < 21) (h : ok kp a t i) (hb : bld g kp a t i (σ a t i) = .inr (ci, fs)) (hc : vwCl[ci]? = some (C, T, N)) (hin : ∀ w ∈ u_ws C T N, w ∈ wU) (hp : p < N) (hl : Cond.fieldLink mi.1.cls idx (T p).1 (T p).2.1 (T p).2.2.1 ∈ wU) (hv : fs[p]? = some v) (kk : V g R mi Z E nx lv (v :: st) (vw g kp σ) (sz kp) ca sl) : V g R mi Z E pc lv (rf g (ad a t i) :: st) (vw g kp σ) (sz kp) ca sl :=
  v_get hd hn (ky_ad ha h).2 ((vw_at ha h).trans hb) hc hin hp hl hv kk
theorem t_put {a : Nat} {t i j z : Int} {p idx ci N : Nat} {fs : List Value} {C : String} {T : u_T} (hd : decode mi.2.1 pc = .ok (.putfield idx, 3)) (hn : pc + 3 = nx) (ha : a < 21) (h : ok kp a t i) (hb : bld g kp a t i (σ a t i) = .inr (ci, fs)) (hc : vwCl[ci]? = some (C, T, N)) (hin : ∀ w ∈ u_ws C T N, w ∈ wU) (ty0 : Nat → FieldType) (hty : ∀ k, k < N → parseFieldDescriptor (T k).2.2.1 = some (ty0 k)) (hnm : ∀ a, a < N → ∀ b, b < N → a ≠ b → (T a).2.1 ≠ (T b).2.1) (hp : p < N) (hl : Cond.fieldLink mi.1.cls idx (T p).1 (T p).2.1 (T p).2.2.1 ∈ wU) (hfin : (T p).2.2.2 = false) (hty2 : ty0 p = .int ∨ (ty0 p = .boolean ∧ (z = 0 ∨ z = 1))) (hfl : p < fs.length) (hj : bld g kp a t i (fun y => if y = j then z else σ a t i y) = .inr (ci, fs.set p (vi z))) (kk : V g R mi Z E nx lv st (vw g kp (up σ a t i j z)) (sz kp) ca sl) : V g R mi Z E pc lv (vi z :: rf g (ad a t i) :: st) (vw g kp σ) (sz kp) ca sl := by
  have hnf : narrow (ty0 p) (vi z) = vi z ∧ fits (ty0 p) (vi z) = true := by
    rcases hty2 with e | ⟨e, rfl | rfl⟩ <;> rw [e] <;> exact ⟨rfl, rfl⟩
  exact v_put hd hn (ky_ad ha h).2 ((vw_at ha h).trans hb) hc hin ty0 hty hnm hp hl (Or.inl hfin) hnf.1 hnf.2 hfl (t_upd ha h hj kk)
/-- int arrays: kinds 1, 3, 6, 8, 10, 11, 13 -/
def lenA (a : Nat) : Nat := match a with
  | 1 => 60
  | 6 => 30
  | 10 => 4324
  | 11 => 4324
  | 12 => 60
  | _ => 12
def isA (a : Nat) : Bool := a == 1 || a == 3 || a == 6 || a == 8 || a == 10 || a == 11 || a == 13
theorem bld_A {a : Nat} (h : isA a = true) (t i : Int) (f : Int → Int) : bld g kp a t i f = .inl (0, lenA a, .inl (fun j => Int32.ofInt (f j))) := by
  simp only [isA, Bool.or_eq_true, beq_iff_eq] at h
  rcases h with (((((rfl | rfl) | rfl) | rfl) | rfl) | rfl) | rfl <;> rfl
theorem lenA_lt (a : Nat) : lenA a < 2147483648 := by
  unfold lenA
  split <;> decide
theorem isA_lt {a : Nat} (h : isA a = true) : a < 21 := by
  simp only [isA, Bool.or_eq_true, beq_iff_eq] at h
  omega
theorem t_ald {a : Nat} {t i x : Int} (hd : decode mi.2.1 pc = .ok (.iaload, 1)) (hn : pc + 1 = nx) (hA : isA a = true) (h : ok kp a t i) (h0 : 0 ≤ x ∧ x < lenA a) (kk : V g R mi Z E nx lv (vi (σ a t i x) :: st) (vw g kp σ) (sz kp) ca sl) : V g R mi Z E pc lv (vi x :: rf g (ad a t i) :: st) (vw g kp σ) (sz kp) ca sl :=
  v_iald hd hn (ky_ad (isA_lt hA) h).2 ((vw_at (isA_lt hA) h).trans (bld_A hA t i _)) h0.1 h0.2 (lenA_lt a) (by rw [Int.toNat_of_nonneg h0.1]) kk
theorem t_ast {a : Nat} {t i x z : Int} (hd : decode mi.2.1 pc = .ok (.iastore, 1)) (hn : pc + 1 = nx) (hA : isA a = true) (h : ok kp a t i) (h0 : 0 ≤ x ∧ x < lenA a) (kk : V g R mi Z E nx lv st (vw g kp (up σ a t i x z)) (sz kp) ca sl) : V g R mi Z E pc lv (vi z :: vi x :: rf g (ad a t i) :: st) (vw g kp σ) (sz kp) ca sl := by
  refine v_iast hd hn (ky_ad (isA_lt hA) h).2 ((vw_at (isA_lt hA) h).trans (bld_A hA t i _)) h0.1 h0.2 (lenA_lt a) (t_upd (j := x) (v := z) (isA_lt hA) h ?_ kk)
  rw [bld_A hA]
  congr 4
  funext q
  unfold upd
  by_cases e : q = x.toNat
  · subst e
    rw [if_pos (Int.toNat_of_nonneg h0.1), if_pos rfl]
  · rw [if_neg (fun z => e (by omega)), if_neg e]
theorem t_zld {x : Int} (hd : decode mi.2.1 pc = .ok (.baload, 1)) (hn : pc + 1 = nx) (h0 : 0 ≤ x ∧ x < 60) (kk : V g R mi Z E nx lv (vi (σ 12 0 0 x) :: st) (vw g kp σ) (sz kp) ca sl) : V g R mi Z E pc lv (vi x :: rf g (ad 12 0 0) :: st) (vw g kp σ) (sz kp) ca sl :=
  v_zald (N := 60) hd hn (ky_ad (a := 12) (by decide) ⟨by decide, by decide, Or.inl rfl⟩).2 (vw_at (a := 12) (by decide) ⟨by decide, by decide, Or.inl rfl⟩) h0.1 h0.2 (by decide) (by rw [Int.toNat_of_nonneg h0.1]) kk
theorem t_zst {x z : Int} (hd : decode mi.2.1 pc = .ok (.bastore, 1)) (hn : pc + 1 = nx) (h0 : 0 ≤ x ∧ x < 60) (hz : z = 0 ∨ z = 1) (kk : V g R mi Z E nx lv st (vw g kp (up σ 12 0 0 x z)) (sz kp) ca sl) : V g R mi Z E pc lv (vi z :: vi x :: rf g (ad 12 0 0) :: st) (vw g kp σ) (sz kp) ca sl := by
  refine v_zast (N := 60) hd hn (ky_ad (a := 12) (by decide) ⟨by decide, by decide, Or.inl rfl⟩).2 (vw_at (a := 12) (by decide) ⟨by decide, by decide, Or.inl rfl⟩) h0.1 h0.2 (by decide) hz (t_upd (a := 12) (j := x) (v := z) (by decide) ⟨by decide, by decide, Or.inl rfl⟩ ?_ kk)
  show (Sum.inl (1, 60, Sum.inl _) : ce) = _
  congr 4
  funext q
  show Int32.ofInt (if (q : Int) = x then z else σ 12 0 0 q) = _
  unfold upd
  by_cases e : q = x.toNat
  · subst e
    rw [if_pos (Int.toNat_of_nonneg h0.1), if_pos rfl]
  · rw [if_neg (fun z => e (by omega)), if_neg e]
/-- arrays of references: kinds 15 to 18 and 20 hold the cells of kinds 0, 2, 4, 5, 8 -/
theorem t_ldP {t x : Int} (hd : decode mi.2.1 pc = .ok (.aaload, 1)) (hn : pc + 1 = nx) (h : ok kp 15 t 0) (h0 : 0 ≤ x ∧ x < 12) (kk : V g R mi Z E nx lv (rf g (ad 0 t x) :: st) (vw g kp σ) (sz kp) ca sl) : V g R mi Z E pc lv (vi x :: rf g (ad 15 t 0) :: st) (vw g kp σ) (sz kp) ca sl :=
  v_aald (tt := 2) (N := 12) hd hn (ky_ad (by decide) h).2 (vw_at (by decide) h) rfl rfl h0.1 h0.2 (by decide) (by rw [Int.toNat_of_nonneg h0.1]) kk
theorem t_ldB {t x : Int} (hd : decode mi.2.1 pc = .ok (.aaload, 1)) (hn : pc + 1 = nx) (h : ok kp 16 t 0) (h0 : 0 ≤ x ∧ x < 16) (kk : V g R mi Z E nx lv (rf g (ad 2 t x) :: st) (vw g kp σ) (sz kp) ca sl) : V g R mi Z E pc lv (vi x :: rf g (ad 16 t 0) :: st) (vw g kp σ) (sz kp) ca sl :=
  v_aald (tt := 3) (N := 16) hd hn (ky_ad (by decide) h).2 (vw_at (by decide) h) rfl rfl h0.1 h0.2 (by decide) (by rw [Int.toNat_of_nonneg h0.1]) kk
theorem t_ldF {t x : Int} (hd : decode mi.2.1 pc = .ok (.aaload, 1)) (hn : pc + 1 = nx) (h : ok kp 17 t 0) (h0 : 0 ≤ x ∧ x < 8) (kk : V g R mi Z E nx lv (rf g (ad 4 t x) :: st) (vw g kp σ) (sz kp) ca sl) : V g R mi Z E pc lv (vi x :: rf g (ad 17 t 0) :: st) (vw g kp σ) (sz kp) ca sl :=
  v_aald (tt := 4) (N := 8) hd hn (ky_ad (by decide) h).2 (vw_at (by decide) h) rfl rfl h0.1 h0.2 (by decide) (by rw [Int.toNat_of_nonneg h0.1]) kk
theorem t_ldG {t x : Int} (hd : decode mi.2.1 pc = .ok (.aaload, 1)) (hn : pc + 1 = nx) (h : ok kp 18 t 0) (h0 : 0 ≤ x ∧ x < 60) (kk : V g R mi Z E nx lv (rf g (ad 5 t x) :: st) (vw g kp σ) (sz kp) ca sl) : V g R mi Z E pc lv (vi x :: rf g (ad 18 t 0) :: st) (vw g kp σ) (sz kp) ca sl :=
  v_aald (tt := 5) (N := 60) hd hn (ky_ad (by decide) h).2 (vw_at (by decide) h) rfl rfl h0.1 h0.2 (by decide) (by rw [Int.toNat_of_nonneg h0.1]) kk
theorem t_ldS {x : Int} (hd : decode mi.2.1 pc = .ok (.aaload, 1)) (hn : pc + 1 = nx) (h0 : 0 ≤ x ∧ x < 12) (kk : V g R mi Z E nx lv (rf g (ad 8 0 x) :: st) (vw g kp σ) (sz kp) ca sl) : V g R mi Z E pc lv (vi x :: rf g (ad 20 0 0) :: st) (vw g kp σ) (sz kp) ca sl :=
  v_aald (tt := 6) (N := 12) hd hn (ky_ad (a := 20) (by decide) ⟨by decide, by decide, Or.inl rfl⟩).2 (vw_at (a := 20) (by decide) ⟨by decide, by decide, Or.inl rfl⟩) rfl rfl h0.1 h0.2 (by decide) (by rw [Int.toNat_of_nonneg h0.1]) kk
theorem t_len {a : Nat} {t i : Int} (hd : decode mi.2.1 pc = .ok (.arraylength, 1)) (hn : pc + 1 = nx) (hA : isA a = true) (h : ok kp a t i) (kk : V g R mi Z E nx lv (vi (lenA a : Int) :: st) (vw g kp σ) (sz kp) ca sl) : V g R mi Z E pc lv (rf g (ad a t i) :: st) (vw g kp σ) (sz kp) ca sl :=
  v_alen (tt := 0) hd hn (ky_ad (isA_lt hA) h).2 ((vw_at (isA_lt hA) h).trans (bld_A hA t i _)) rfl kk
end VT
