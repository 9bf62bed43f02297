/-! ===== the world's cells: reads and writes ===== -/
theorem Hp.at {g : GG} {φ : Nat → ce} {n k : Nat} {H : Heap} {x : ce} (h : Hp g φ n H) (hk : k < n) (hx : φ k = x) : va_at g.2.2.1 vwCl (g.2.1 + k, toE g x) H := by
  have := h.2 k hk
  rwa [hx] at this
theorem Hp.set {g : GG} {φ : Nat → ce} {n k : Nat} {H H1 : Heap} {x : ce} (h : Hp g φ n H) (h1 : va_at g.2.2.1 vwCl (g.2.1 + k, toE g x) H1) (hz : H1.size = H.size) (oq : ∀ q : Nat, q ≠ g.2.1 + k → H1[q]? = H[q]?) : Hp g (va_up φ k x) n H1 := by
  refine ⟨by rw [hz]; exact h.1, fun j hj => ?_⟩
  by_cases e : j = k
  · subst e
    rw [show va_up φ j x j = x from if_pos rfl]
    exact h1
  · rw [show va_up φ k x j = φ j from if_neg e]
    exact (h.2 j hj).kept (oq _ (by show g.2.1 + j ≠ g.2.1 + k; omega))
theorem Hp.push {g : GG} {φ : Nat → ce} {n : Nat} {H H1 : Heap} {x : ce} (h : Hp g φ n H) (h1 : va_at g.2.2.1 vwCl (g.2.1 + n, toE g x) H1) (hz : H1.size = H.size + 1) (oq : ∀ q : Nat, q < H.size → H1[q]? = H[q]?) : Hp g (va_up φ n x) (n + 1) H1 := by
  refine ⟨by rw [hz, h.1]; omega, fun j hj => ?_⟩
  by_cases e : j = n
  · subst e
    rw [show va_up φ j x j = x from if_pos rfl]
    exact h1
  · rw [show va_up φ n x j = φ j from if_neg e]
    exact (h.2 j (by omega)).kept (oq _ (by show g.2.1 + j < H.size; rw [h.1]; omega))
theorem Hp.cong {g : GG} {φ ψ : Nat → ce} {n : Nat} {H : Heap} (h : Hp g φ n H) (e : ∀ k, k < n → φ k = ψ k) : Hp g ψ n H := ⟨h.1, fun k hk => by rw [← e k hk]; exact h.2 k hk⟩
/-- what the machine's words give of a class of ours: fields' words among wU -/
theorem vaS_put {g : GG} {s : State} {H H1 : Heap} {locs : List Loc} {a k : Nat} (h : va_S (fun q => g.2.1 ≤ q) s.heap H locs) (z : H1.size = H.size) (oq : ∀ q : Nat, q ≠ g.2.1 + a → H1[q]? = H[q]?) : va_S (fun q => g.2.1 ≤ q) s.heap H1 (locs ++ [⟨g.2.1 + a, k⟩]) := h.put z oq (Nat.le_add_right _ _)
theorem vaS_push {g : GG} {s : State} {H H1 : Heap} {locs : List Loc} (h : va_S (fun q => g.2.1 ≤ q) s.heap H locs) (z : H.size ≤ H1.size) (oq : ∀ q : Nat, q < H.size → H1[q]? = H[q]?) : va_S (fun q => g.2.1 ≤ q) s.heap H1 locs := ⟨Nat.le_trans h.1 z, fun q h1 h2 => (oq q (Nat.lt_of_lt_of_le h1 h.1)).trans (h.2.1 q h1 h2), h.2.2⟩
section VHEAP
variable {g : GG} {R : Room} {mi : MI} {Z : List Frame → Array Value → State → State → Prop} {E : Array Value → State → Prop} {pc nx : Nat} {lv : List (Nat × Value)} {st : List Value} {φ : Nat → ce} {n ca sl : Nat}
/-- the world named anew -/
theorem V.cong {ψ : Nat → ce} (e : ∀ k, k < n → φ k = ψ k) (kk : V g R mi Z E pc lv st ψ n ca sl) : V g R mi Z E pc lv st φ n ca sl :=
  fun p e' s m args below meth c H locs ls ev hw hh => kk p e' s m args below meth c H locs ls ev ⟨hw.1.cong e, hw.2⟩ hh
theorem V.widen {ca' sl' : Nat} (h1 : ca ≤ ca') (h2 : sl ≤ sl') (kk : V g R mi Z E pc lv st φ n ca' sl') : V g R mi Z E pc lv st φ n ca sl :=
  fun p e' s m args below meth c H locs ls ev hw hh => W.widen h1 h2 (kk p e' s m args below meth c H locs ls ev hw hh)
theorem V.lsub {lv' : List (Nat × Value)} (h : ∀ q ∈ lv', q ∈ lv) (kk : V g R mi Z E pc lv' st φ n ca sl) : V g R mi Z E pc lv st φ n ca sl :=
  fun p e' s m args below meth c H locs ls ev hw hh => kk p e' s m args below meth c H locs ls ev hw ⟨hh.1, hh.2.1, fun q hq => hh.2.2 q (h q hq)⟩
theorem v_get {k p idx ci N : Nat} {fs : List Value} {v : Value} {C : String} {T : u_T} (hd : decode mi.2.1 pc = .ok (.getfield idx, 3)) (hn : pc + 3 = nx) (hk : k < n) (hφ : φ k = .inr (ci, fs)) (hc : vwCl[ci]? = some (C, T, N)) (hin : ∀ w ∈ u_ws C T N, w ∈ wU) (hp : p < N) (hl : Cond.fieldLink mi.1.cls idx (T p).1 (T p).2.1 (T p).2.2.1 ∈ wU) (hv : fs[p]? = some v) (kk : V g R mi Z E nx lv (v :: st) φ n ca sl) : V g R mi Z E pc lv (rf g k :: st) φ n ca sl := by
  subst hn
  intro p' e s m args below meth c H locs ls ev hw hh
  obtain ⟨hx, hb, hr, hml, hown, hts, hlk, hnm, hK, hbs, hE⟩ := id ev
  have hat := hw.1.at hk hφ
  exact va_get (D := g.2.2.1) (cl := vwCl) (ws := [(g.2.1 + k, .inr (ci, fs))]) (tys := tysG g) hx hb hts hin hown hK (fun j q hq => by
    have hj : j < 1 := (List.getElem?_eq_some_iff.mp hq).1
    rw [show j = 0 by omega] at hq
    cases hq
    exact hat) 0 rfl hc p hp (hts _ hl) (fun _ h => h) hv hd (kk p' e s m args below meth c H locs ls ev hw hh)
theorem v_put {k p idx ci N : Nat} {fs : List Value} {v : Value} {C : String} {T : u_T} (hd : decode mi.2.1 pc = .ok (.putfield idx, 3)) (hn : pc + 3 = nx) (hk : k < n) (hφ : φ k = .inr (ci, fs)) (hc : vwCl[ci]? = some (C, T, N)) (hin : ∀ w ∈ u_ws C T N, w ∈ wU) (ty0 : Nat → FieldType) (hty : ∀ k, k < N → parseFieldDescriptor (T k).2.2.1 = some (ty0 k)) (hnm : ∀ a, a < N → ∀ b, b < N → a ≠ b → (T a).2.1 ≠ (T b).2.1) (hp : p < N) (hl : Cond.fieldLink mi.1.cls idx (T p).1 (T p).2.1 (T p).2.2.1 ∈ wU) (hfin : (T p).2.2.2 = false ∨ ((T p).2.2.2 = true ∧ mi.1.name = "<init>" ∧ (T p).1 = mi.1.cls)) (hvt : narrow (ty0 p) v = v) (hfit : fits (ty0 p) v = true) (hfl : p < fs.length) (kk : V g R mi Z E nx lv st (va_up φ k (.inr (ci, fs.set p v))) n ca sl) : V g R mi Z E pc lv (v :: rf g k :: st) φ n ca sl := by
  subst hn
  intro p' e s m args below meth c H locs ls ev hw hh
  obtain ⟨hx, hb, hr, hml, hown, hts, hlk, hnm', hK, hbs, hE⟩ := id ev
  have hap := va_apart (own := mi.1.cls) hts hin ty0 hty hnm hK hc
  obtain ⟨r, h1, cell, q1, q2, q3, q4⟩ := hw.1.at hk hφ
  have hr' : r = (C, T, N) := Option.some.inj (h1.symm.trans hc)
  subst hr'
  obtain ⟨hS, hfc, kC, hkC, hkind⟩ := hK.1 ci _ hc
  obtain ⟨cf, kf, fi, f, hi, hsl⟩ := hS p hp
  have hlay := hts _ (hin _ (u_in_lay hp))
  have hst := (u_facts hfc hkC (u_lays hts hin hp) hi).1
  have fin : ∀ H' : Heap, H'[g.2.1 + k]? = some (cell.setSlot (g.2.2.1.2 ci p) v) → H'.size = H.size → (∀ q, q ≠ g.2.1 + k → H'[q]? = H[q]?) → W p' g.1 e R s m args below meth c H' (locs ++ [⟨g.2.1 + k, g.2.2.1.2 ci p⟩]) ca sl (Z below args s) (F0 m (pc + 3) ls st) := by
    intro H' e1 e2 e3
    refine kk p' e s m args below meth c H' _ ls ev ⟨hw.1.set ?_ e2 e3, vaS_put hw.2 e2 e3⟩ hh
    exact ⟨_, hc, t_OB.to (V := updV (vp_V fs) p v) ⟨_, e1, q2, q3, t_set q4 hap hp v⟩ (fun j _ => vp_updV_set hfl v j)⟩
  unfold u_lay at hlay
  rcases hfin with hfin | ⟨hfin, hini, hdecl⟩
  · rw [if_neg (by rw [hfin]; decide)] at hlay
    have h6 := u_store hfc hkC hkind hlay hi (hty p hp) hvt hfit
    refine W.putK hx hb (f := f) ⟨hown, hts _ hl, ⟨_, _, _, hi⟩, hst⟩ (by rw [q2]; exact h6) q1 q3 (by rw [hsl]; exact k2_hasslot (q4 p hp)) rfl rfl hd fun H' e1 e2 e3 => ?_
    rw [hsl] at e1 ⊢
    exact fin H' e1 e2 e3
  · rw [if_pos hfin] at hlay
    have hcf : m.cls = cf := by
      obtain ⟨_, _, c', _, _, _, -, -, hf', -, -, -, hown2, -⟩ := Cond.laysFinal_spec hlay
      have e1 : c' = cf := by have := hi.symm.trans hf'; simp at this; exact this.1.symm
      rw [hdecl] at hown2
      rw [← e1]; exact Option.some.inj (hown.symm.trans hown2)
    have h6 := u_fits hfc hkC hkind (Or.inr hlay) hi (hty p hp) hvt hfit
    refine W.putFinK hx hb hown (hts _ hl) hi hst hcf (hnm' hini) (by rw [q2]; exact h6) q1 q3 (by rw [hsl]; exact k2_hasslot (q4 p hp)) rfl rfl hd fun H' e1 e2 e3 => ?_
    rw [hsl] at e1 ⊢
    exact fin H' e1 e2 e3
/-- an int array -/
theorem v_iald {k N : Nat} {i : Int} {f : Nat → Int32} (hd : decode mi.2.1 pc = .ok (.iaload, 1)) (hn : pc + 1 = nx) (hk : k < n) (hφ : φ k = .inl (0, N, .inl f)) (h0 : 0 ≤ i) (h1 : i < N) (hN : N < 2147483648) {v : Int} (hv : f i.toNat = Int32.ofInt v) (kk : V g R mi Z E nx lv (vi v :: st) φ n ca sl) : V g R mi Z E pc lv (vi i :: rf g k :: st) φ n ca sl := by
  subst hn
  intro p' e s m args below meth c H locs ls ev hw hh
  obtain ⟨hx, hb, hr, hml, hown, hts, hlk, hnm, hK, hbs, hE⟩ := id ev
  have hat := hw.1.at hk hφ
  refine va_iald (D := g.2.2.1) (cl := vwCl) (ws := [(g.2.1 + k, .inl (g.2.2.2 0, N, .inl f))]) (tys := tysG g) hx hb hK (fun j q hq => by
    have hj : j < 1 := (List.getElem?_eq_some_iff.mp hq).1
    rw [show j = 0 by omega] at hq
    cases hq
    exact hat) 0 0 rfl rfl (I_in h0 h1 hN) hd ?_
  have h := kk p' e s m args below meth c H locs ls ev hw hh
  rw [I_cl ⟨by omega, by omega⟩ h0, hv]
  exact h
theorem v_iast {k N : Nat} {i x : Int} {f : Nat → Int32} (hd : decode mi.2.1 pc = .ok (.iastore, 1)) (hn : pc + 1 = nx) (hk : k < n) (hφ : φ k = .inl (0, N, .inl f)) (h0 : 0 ≤ i) (h1 : i < N) (hN : N < 2147483648) (kk : V g R mi Z E nx lv st (va_up φ k (.inl (0, N, .inl (upd f i.toNat (Int32.ofInt x))))) n ca sl) : V g R mi Z E pc lv (vi x :: vi i :: rf g k :: st) φ n ca sl := by
  subst hn
  intro p' e s m args below meth c H locs ls ev hw hh
  obtain ⟨hx, hb, hr, hml, hown, hts, hlk, hnm, hK, hbs, hE⟩ := id ev
  have hat := hw.1.at hk hφ
  have hin := I_in h0 h1 hN
  refine W.iast (j := Int32.ofInt i) (x := Int32.ofInt x) hx hb hat ((hK.2 0 _ rfl).1 N (fun j => .int (f j))) (fun q => by cases q) (by show ¬ (_ < 0 ∨ (arrV _ _ _).slots.size ≤ _); rw [arrV_size]; exact hin) rfl rfl hd fun H1 e1 z oq => ?_
  rw [I_cl ⟨by omega, by omega⟩ h0] at e1 ⊢
  refine kk p' e s m args below meth c H1 _ ls ev ⟨hw.1.set ?_ z oq, vaS_put hw.2 z oq⟩ hh
  show H1[g.2.1 + k]? = some (vp_cell _ _)
  rw [e1]
  rw [vp_cell_i, vp_cell_i, arrV_store]
  congr 2
  funext q
  by_cases hq : q = i.toNat
  · subst hq
    simp [updV, upd]
  · simp [updV, upd, hq]
/-- a boolean array -/
theorem v_zald {k N : Nat} {i : Int} {f : Nat → Int32} (hd : decode mi.2.1 pc = .ok (.baload, 1)) (hn : pc + 1 = nx) (hk : k < n) (hφ : φ k = .inl (1, N, .inl f)) (h0 : 0 ≤ i) (h1 : i < N) (hN : N < 2147483648) {v : Int} (hv : f i.toNat = Int32.ofInt v) (kk : V g R mi Z E nx lv (vi v :: st) φ n ca sl) : V g R mi Z E pc lv (vi i :: rf g k :: st) φ n ca sl := by
  subst hn
  intro p' e s m args below meth c H locs ls ev hw hh
  obtain ⟨hx, hb, hr, hml, hown, hts, hlk, hnm, hK, hbs, hE⟩ := id ev
  have hat := hw.1.at hk hφ
  refine va_zald (D := g.2.2.1) (cl := vwCl) (ws := [(g.2.1 + k, .inl (g.2.2.2 1, N, .inl f))]) (tys := tysG g) hx hb hK (fun j q hq => by
    have hj : j < 1 := (List.getElem?_eq_some_iff.mp hq).1
    rw [show j = 0 by omega] at hq
    cases hq
    exact hat) 0 1 rfl rfl (I_in h0 h1 hN) hd ?_
  have h := kk p' e s m args below meth c H locs ls ev hw hh
  rw [I_cl ⟨by omega, by omega⟩ h0, hv]
  exact h
theorem v_zast {k N : Nat} {i x : Int} {f : Nat → Int32} (hd : decode mi.2.1 pc = .ok (.bastore, 1)) (hn : pc + 1 = nx) (hk : k < n) (hφ : φ k = .inl (1, N, .inl f)) (h0 : 0 ≤ i) (h1 : i < N) (hN : N < 2147483648) (hx01 : x = 0 ∨ x = 1) (kk : V g R mi Z E nx lv st (va_up φ k (.inl (1, N, .inl (upd f i.toNat (Int32.ofInt x))))) n ca sl) : V g R mi Z E pc lv (vi x :: vi i :: rf g k :: st) φ n ca sl := by
  subst hn
  intro p' e s m args below meth c H locs ls ev hw hh
  obtain ⟨hx, hb, hr, hml, hown, hts, hlk, hnm, hK, hbs, hE⟩ := id ev
  have hat := hw.1.at hk hφ
  have hin := I_in h0 h1 hN
  have hnar : narrow .boolean (.int (Int32.ofInt x)) = .int (Int32.ofInt x) := by
    rcases hx01 with rfl | rfl <;> rfl
  refine W.zast (j := Int32.ofInt i) (x := Int32.ofInt x) hx hb hat ((hK.2 1 _ rfl).1 N (fun j => .int (f j))) (fun q => by cases q) (by show ¬ (_ < 0 ∨ (arrV _ _ _).slots.size ≤ _); rw [arrV_size]; exact hin) rfl rfl hd fun H1 e1 z oq => ?_
  rw [I_cl ⟨by omega, by omega⟩ h0] at e1 ⊢
  rw [hnar] at e1
  refine kk p' e s m args below meth c H1 _ ls ev ⟨hw.1.set ?_ z oq, vaS_put hw.2 z oq⟩ hh
  show H1[g.2.1 + k]? = some (vp_cell _ _)
  rw [e1]
  rw [vp_cell_i, vp_cell_i, arrV_store]
  congr 2
  funext q
  by_cases hq : q = i.toNat
  · subst hq
    simp [updV, upd]
  · simp [updV, upd, hq]
/-- an array of references: tt is its number among tysG -/
theorem v_aald {k N tt : Nat} {ty : FieldType} {i : Int} {f : Nat → Option Nat} (hd : decode mi.2.1 pc = .ok (.aaload, 1)) (hn : pc + 1 = nx) (hk : k < n) (hφ : φ k = .inl (tt, N, .inr (.inr (.inr (.inr f))))) (ht : (tysG g)[tt]? = some (g.2.2.2 tt, ty)) (href : ty.isReference = true) (h0 : 0 ≤ i) (h1 : i < N) (hN : N < 2147483648) {j : Nat} (hv : f i.toNat = some (g.2.1 + j)) (kk : V g R mi Z E nx lv (rf g j :: st) φ n ca sl) : V g R mi Z E pc lv (vi i :: rf g k :: st) φ n ca sl := by
  subst hn
  intro p' e s m args below meth c H locs ls ev hw hh
  obtain ⟨hx, hb, hr, hml, hown, hts, hlk, hnm, hK, hbs, hE⟩ := id ev
  have hat := hw.1.at hk hφ
  have hin := I_in h0 h1 hN
  have hlt : i.toNat < N := by omega
  refine W.aald (v := va_rf (f i.toNat)) (ty := ty) (j := Int32.ofInt i) hx hb hat ((hK.2 tt _ ht).1 N (fun j => va_rf (f j))) href (fun q => by cases q) (by show ¬ (_ < 0 ∨ (arrV _ _ _).slots.size ≤ _); rw [arrV_size]; exact hin) (by show (arrV _ _ _).slots[_]? = _; rw [I_cl ⟨by omega, by omega⟩ h0, arrV_read _ _ hlt]) rfl rfl hd ?_
  rw [hv]
  exact kk p' e s m args below meth c H locs ls ev hw hh
theorem v_alen {k tt : Nat} {ty : FieldType} {x : vp_A} (hd : decode mi.2.1 pc = .ok (.arraylength, 1)) (hn : pc + 1 = nx) (hk : k < n) (hφ : φ k = .inl (tt, x)) (ht : (tysG g)[tt]? = some (g.2.2.2 tt, ty)) (kk : V g R mi Z E nx lv (vi (x.1 : Int) :: st) φ n ca sl) : V g R mi Z E pc lv (rf g k :: st) φ n ca sl := by
  subst hn
  intro p' e s m args below meth c H locs ls ev hw hh
  obtain ⟨hx, hb, hr, hml, hown, hts, hlk, hnm, hK, hbs, hE⟩ := id ev
  have hat := hw.1.at hk hφ
  refine va_alen (D := g.2.2.1) (cl := vwCl) (ws := [(g.2.1 + k, .inl (g.2.2.2 tt, x))]) (tys := tysG g) (v := Int32.ofInt (x.1 : Int)) hx hb hK (fun j q hq => by
    have hj : j < 1 := (List.getElem?_eq_some_iff.mp hq).1
    rw [show j = 0 by omega] at hq
    cases hq
    exact hat) 0 tt rfl ht (by rw [Int32.ofInt_eq_ofNat]) hd ?_
  exact kk p' e s m args below meth c H locs ls ev hw hh
end VHEAP
