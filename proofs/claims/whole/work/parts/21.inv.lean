/-! ===== what holds of the array between the acts (k: how many steps more a bag may have than the ticks tell) ===== -/
def pI (N : NN) (p : Int) : Prop := (0 ≤ N (8 + p) ∧ N (8 + p) ≤ 5) ∧ (N (8 + p) = 2 → 1 ≤ N (20 + p) ∧ N (20 + p) ≤ 9) ∧ (N (8 + p) = 4 → 1 ≤ N (20 + p) ∧ N (20 + p) ≤ 20) ∧ (N (32 + p) = 0 ∨ ((1 ≤ N (32 + p) ∧ N (32 + p) ≤ N 3) ∧ N (484 + (N (32 + p) - 1)) = 2 ∧ N (544 + (N (32 + p) - 1)) = p)) ∧ (0 ≤ N (44 + p) ∧ N (44 + p) ≤ N 1) ∧ (0 ≤ N (56 + p) ∧ N (56 + p) ≤ 9) ∧ (N (8 + p) = 1 → (N (44 + p) = 0 ∧ ∀ b, 0 ≤ b → b < N 1 → N (84 + b) ≠ p) ∨ (1 ≤ N (44 + p) ∧ N (84 + (N (44 + p) - 1)) = p))
def bI2 (N : NN) (b : Int) : Prop := (0 ≤ N (68 + b) ∧ N (68 + b) < N 0) ∧ (0 ≤ N (84 + b) ∧ N (84 + b) < N 0) ∧ (1 ≤ N (100 + b) ∧ N (100 + b) ≤ 12) ∧ (N (116 + b) = 0 ∨ N (116 + b) = 1) ∧ (0 ≤ N (132 + b) ∧ N (132 + b) ≤ 9) ∧ N (8 + N (68 + b)) ≠ 5 ∧ N (8 + N (84 + b)) ≠ 0
def fI (N : NN) (f : Int) : Prop := (0 ≤ N (340 + f) ∧ N (340 + f) < N 0) ∧ N (8 + N (340 + f)) = 5 ∧ (0 ≤ N (348 + f) ∧ N (348 + f) ≤ 5000) ∧ (0 ≤ N (356 + f) ∧ N (356 + f) ≤ 5000)
def wI (N : NN) (g w : Int) : Prop :=
  (w = 0 ∧ (0 ≤ N (544 + g) ∧ N (544 + g) < N 0) ∧ N (8 + N (544 + g)) = 0 ∧ 0 ≤ N (604 + g) ∧ N (604 + g) < N 5) ∨
  (w = 1 ∧ (0 ≤ N (544 + g) ∧ N (544 + g) < N 1) ∧ (0 ≤ N (604 + g) ∧ N (604 + g) < N (100 + N (544 + g))) ∧ N (148 + 12 * N (544 + g) + N (604 + g)) = g + 1) ∨
  (w = 2 ∧ (0 ≤ N (544 + g) ∧ N (544 + g) < N 0) ∧ (1 ≤ N (8 + N (544 + g)) ∧ N (8 + N (544 + g)) ≤ 3) ∧ N (32 + N (544 + g)) = g + 1 ∧ 0 ≤ N (604 + g) ∧ N (604 + g) ≤ N 4) ∨
  (w = 3 ∧ (0 ≤ N (544 + g) ∧ N (544 + g) < N 0) ∧ N (8 + N (544 + g)) = 4 ∧ 0 ≤ N (604 + g) ∧ N (604 + g) ≤ N 4) ∨
  (w = 4 ∧ N (544 + g) = -100) ∨
  ((5 ≤ w ∧ w ≤ 7) ∧ (0 ≤ N (544 + g) ∧ N (544 + g) < N 0) ∧ N (8 + N (544 + g)) = 5 ∧ 0 ≤ N (604 + g) ∧ N (604 + g) ≤ N 4)
def gI (N : NN) (k g : Int) : Prop := (0 ≤ N (364 + g) ∧ N (364 + g) < N 2) ∧ (N (424 + g) = 0 ∨ N (424 + g) = 1) ∧ (0 ≤ N (664 + g) ∧ N (664 + g) ≤ 300 * N 4 + k) ∧ wI N g (N (484 + g))
def cI (N : NN) (b c : Int) : Prop := N (148 + 12 * b + c) = 0 ∨ ((1 ≤ N (148 + 12 * b + c) ∧ N (148 + 12 * b + c) ≤ N 3) ∧ N (484 + (N (148 + 12 * b + c) - 1)) = 1 ∧ N (544 + (N (148 + 12 * b + c) - 1)) = b ∧ N (604 + (N (148 + 12 * b + c) - 1)) = c)
/-- two that wait at one desk, or lie in one store, came apart -/
def dI (N : NN) (x y : Int) : Prop := (N (484 + x) = 0 ∨ N (484 + x) = 3) → N (484 + x) = N (484 + y) → N (544 + x) = N (544 + y) → N (604 + x) = N (604 + y) → x = y
def nI4 (N : NN) : Prop := (0 ≤ N 0 ∧ N 0 ≤ 12) ∧ (0 ≤ N 1 ∧ N 1 ≤ 16) ∧ (0 ≤ N 2 ∧ N 2 ≤ 8) ∧ (0 ≤ N 3 ∧ N 3 ≤ 60) ∧ (0 ≤ N 4 ∧ N 4 ≤ 1000000) ∧ (0 ≤ N 5 ∧ N 5 ≤ 1000000)
def IV (N : NN) (k : Int) : Prop := nI4 N ∧ (∀ p, 0 ≤ p → p < N 0 → pI N p) ∧ (∀ b, 0 ≤ b → b < N 1 → bI2 N b) ∧ (∀ f, 0 ≤ f → f < N 2 → fI N f) ∧ (∀ g, 0 ≤ g → g < N 3 → gI N k g) ∧ (∀ b c, 0 ≤ b → b < N 1 → 0 ≤ c → c < 12 → cI N b c) ∧ (∀ x y, 0 ≤ x → x < N 3 → 0 ≤ y → y < N 3 → dI N x y) ∧ (∀ j, inR (N j)) ∧ (0 ≤ k ∧ k ≤ 300)
/-- which bags were given in (1) of this tick -/
def GI (N G : NN) : Prop := (∀ g, G g = 0 ∨ G g = 1) ∧ (∀ g, ¬ (0 ≤ g ∧ g < N 3) → G g = 0) ∧ ∀ g, 0 ≤ g → g < N 3 → G g ≠ 0 → N (484 + g) = 1 ∧ N (604 + g) = 0
theorem IV.n {N : NN} {k : Int} (h : IV N k) : nI4 N := h.1
theorem IV.p {N : NN} {k : Int} (h : IV N k) {p : Int} (h0 : 0 ≤ p) (h1 : p < N 0) : pI N p := h.2.1 p h0 h1
theorem IV.b {N : NN} {k : Int} (h : IV N k) {b : Int} (h0 : 0 ≤ b) (h1 : b < N 1) : bI2 N b := h.2.2.1 b h0 h1
theorem IV.f {N : NN} {k : Int} (h : IV N k) {f : Int} (h0 : 0 ≤ f) (h1 : f < N 2) : fI N f := h.2.2.2.1 f h0 h1
theorem IV.g {N : NN} {k : Int} (h : IV N k) {g : Int} (h0 : 0 ≤ g) (h1 : g < N 3) : gI N k g := h.2.2.2.2.1 g h0 h1
theorem IV.c {N : NN} {k : Int} (h : IV N k) {b c : Int} (h0 : 0 ≤ b) (h1 : b < N 1) (h2 : 0 ≤ c) (h3 : c < 12) : cI N b c := h.2.2.2.2.2.1 b c h0 h1 h2 h3
theorem IV.d {N : NN} {k : Int} (h : IV N k) {x y : Int} (h0 : 0 ≤ x) (h1 : x < N 3) (h2 : 0 ≤ y) (h3 : y < N 3) : dI N x y := h.2.2.2.2.2.2.1 x y h0 h1 h2 h3
theorem IV.r {N : NN} {k : Int} (h : IV N k) : ∀ j, inR (N j) := h.2.2.2.2.2.2.2.1
theorem IV.k {N : NN} {k : Int} (h : IV N k) : 0 ≤ k ∧ k ≤ 300 := h.2.2.2.2.2.2.2.2
/-- the value of a cell -/
theorem IV.cv {N : NN} {k : Int} (h : IV N k) {b c : Int} (h0 : 0 ≤ b) (h1 : b < N 1) (h2 : 0 ≤ c) (h3 : c < 12) : 0 ≤ N (148 + 12 * b + c) ∧ N (148 + 12 * b + c) ≤ N 3 := by
  have := h.n
  unfold nI4 at this
  rcases h.c h0 h1 h2 h3 with e | ⟨e, -⟩ <;> omega
theorem IV.hv {N : NN} {k : Int} (h : IV N k) {p : Int} (h0 : 0 ≤ p) (h1 : p < N 0) : 0 ≤ N (32 + p) ∧ N (32 + p) ≤ N 3 := by
  have := h.n
  unfold nI4 at this
  obtain ⟨-, -, -, q, -⟩ := h.p h0 h1
  rcases q with e | ⟨e, -⟩ <;> omega
theorem IV.okF {N : NN} {k : Int} (h : IV N k) {ch : Int} (h0 : 0 ≤ ch) (h1 : ch < N 0) : okF N ch := by
  have hn := h.n
  unfold nI4 at hn
  refine ⟨hn.2.1, ⟨h0, by omega⟩, fun b b0 b1 => ?_⟩
  obtain ⟨q1, q2, q3, -⟩ := h.b b0 b1
  exact ⟨⟨q1.1, by omega⟩, ⟨q2.1, by omega⟩, q3⟩
section TQ
variable {g : GG} {R : Room} {mi : MI} {Z : List Frame → Array Value → State → State → Prop} {E : Array Value → State → Prop} {pc nx : Nat} {lv : List (Nat × Value)} {st : List Value} {kp : Bool} {σ : SS} {ca sl : Nat}
theorem t_callViQ {d idx x ci N a : Nat} {t i z : Int} {T : u_T} {fs : List Value} {mi' : MI} {As' st0 : List Value} {Q : SS → Prop} (hM : TC g kp d mi' (rf g (ad a t i) :: As') σ (fun r τ => r = some (vi z) ∧ Q τ)) (hd : decode mi.2.1 pc = .ok (.invokevirtual idx, 3)) (hn : pc + 3 = nx) (hm : mokV mi' x) (hl : Cond.methodLink mi.1.cls idx mi'.1 ∈ wU)
    (ha : a < 21) (h : ok kp a t i) (hb : bld g kp a t i (σ a t i) = .inr (ci, fs)) (hc : vwCl[ci]? = some (mi'.1.cls, T, N)) (hst : st0 = As'.reverse ++ rf g (ad a t i) :: st) (hx : As'.length = x) (hcat : (st.map fun v => v.category).sum ≤ 8) (hR : d + 1 ≤ R.frames ∧ 8 + (mi'.2.2.1 + 11) + 34 * d ≤ R.locals) (hca : ca ≤ R.cells ∧ sl ≤ R.slots)
    (kk : ∀ τ : SS, Q τ → V g R mi Z E nx lv (vi z :: st) (vw g kp τ) (sz kp) ca sl) : V g R mi Z E pc lv st0 (vw g kp σ) (sz kp) ca sl :=
  t_callV hM hd hn hm hl ha h hb hc hst hx hcat hR hca (fun r τ' ⟨h1, h2⟩ => by subst h1; exact kk τ' h2)
theorem t_callVvQ {d idx x ci N a : Nat} {t i : Int} {T : u_T} {fs : List Value} {mi' : MI} {As' st0 : List Value} {Q : SS → Prop} (hM : TC g kp d mi' (rf g (ad a t i) :: As') σ (fun r τ => r = none ∧ Q τ)) (hd : decode mi.2.1 pc = .ok (.invokevirtual idx, 3)) (hn : pc + 3 = nx) (hm : mokV mi' x) (hl : Cond.methodLink mi.1.cls idx mi'.1 ∈ wU)
    (ha : a < 21) (h : ok kp a t i) (hb : bld g kp a t i (σ a t i) = .inr (ci, fs)) (hc : vwCl[ci]? = some (mi'.1.cls, T, N)) (hst : st0 = As'.reverse ++ rf g (ad a t i) :: st) (hx : As'.length = x) (hcat : (st.map fun v => v.category).sum ≤ 8) (hR : d + 1 ≤ R.frames ∧ 8 + (mi'.2.2.1 + 11) + 34 * d ≤ R.locals) (hca : ca ≤ R.cells ∧ sl ≤ R.slots)
    (kk : ∀ τ : SS, Q τ → V g R mi Z E nx lv st (vw g kp τ) (sz kp) ca sl) : V g R mi Z E pc lv st0 (vw g kp σ) (sz kp) ca sl :=
  t_callV hM hd hn hm hl ha h hb hc hst hx hcat hR hca (fun r τ' ⟨h1, h2⟩ => by subst h1; exact kk τ' h2)
end TQ
