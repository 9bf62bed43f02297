/-! ===== what comes new: objects, arrays ===== -/
section VNEW
variable {g : GG} {R : Room} {mi : MI} {Z : List Frame → Array Value → State → State → Prop} {E : Array Value → State → Prop} {pc nx : Nat} {lv : List (Nat × Value)} {st : List Value} {φ : Nat → ce} {n ca sl : Nat}
theorem v_new {idx ci N : Nat} {C : String} {T : u_T} {fs : List Value} (hd : decode mi.2.1 pc = .ok (.new idx, 3)) (hn : pc + 3 = nx) (hcl : Cond.classLink mi.1.cls idx C ∈ wU) (hi : Cond.instantiable C N ∈ wU) (hini : Cond.initialized C ∈ wU) (hc : vwCl[ci]? = some (C, T, N)) (hin : ∀ w ∈ u_ws C T N, w ∈ wU) (ty : Nat → FieldType) (hty : ∀ k, k < N → parseFieldDescriptor (T k).2.2.1 = some (ty k)) (hfs : ∀ j, j < N → defaultValue (ty j) = vp_V fs j) (hca : ca + 1 ≤ R.cells ∧ sl + N ≤ R.slots)
    (kk : V g R mi Z E nx lv (rf g n :: st) (va_up φ n (.inr (ci, fs))) (n + 1) (ca + 1) (sl + N)) : V g R mi Z E pc lv st φ n ca sl := by
  subst hn
  intro p' e s m args below meth c H locs ls ev hw hh
  obtain ⟨hex, hb, hr, hml, hown, hts, hlk, hnm, hK, hbs, hE, hX⟩ := id ev
  have hKn := hK.1 ci _ hc
  refine W.newcK hex hb hown (hts _ hcl) (hts _ hi) (hts _ hini) rfl hd hca.1 hca.2 hKn.2.1 hw.1.1 fun H1 kC hkC e1 z1 o1 => ?_
  exact kk p' e s m args below meth c H1 locs ls ev ⟨hw.1.push (x := .inr (ci, fs)) ⟨_, hc, (u_born ty hts hin hKn hkC e1 hty).to hfs⟩ (by rw [z1, hw.1.1]) (fun q hq => o1 q (by rw [← hw.1.1]; exact hq)), vaS_push hw.2 (by rw [z1, hw.1.1]; omega) (fun q hq => o1 q (by rw [← hw.1.1]; exact hq))⟩ hh
theorem v_newI {x : Int} {N : Nat} (hd : decode mi.2.1 pc = .ok (.newarray .int, 2)) (hn : pc + 2 = nx) (hal : Cond.arrayClass .int ∈ wU) (hN : (N : Int) = x) (hb4 : N ≤ 100000) (hca : ca + 1 ≤ R.cells ∧ sl + N ≤ R.slots)
    (kk : V g R mi Z E nx lv (rf g n :: st) (va_up φ n (.inl (0, N, .inl (fun _ => 0)))) (n + 1) (ca + 1) (sl + N)) : V g R mi Z E pc lv (vi x :: st) φ n ca sl := by
  subst hn
  subst hN
  intro p' e s m args below meth c H locs ls ev hw hh
  obtain ⟨hex, hb, hr, hml, hown, hts, hlk, hnm, hK, hbs, hE, hX⟩ := id ev
  refine va_newaK (atype := .int) hex hb (hts _ hal) rfl hd rfl (n := Int32.ofInt (N : Int)) (N := N) (fun q => ?_) (by rw [I_cl ⟨by omega, by omega⟩ (by omega)]; rfl) (by show N * 4 ≤ _; omega) hca.1 hca.2 hw.1.1 fun H1 cA e1 z1 o1 hAr hNm => ?_
  · have := (I_lt (x := (N : Int)) (y := 0) ⟨by omega, by omega⟩ inR_0).mp q
    omega
  · have hcA : cA = g.2.2.2 0 := Option.some.inj (hNm.symm.trans (hK.2 0 _ rfl).2)
    subst hcA
    exact kk p' e s m args below meth c H1 locs ls ev ⟨hw.1.push (x := .inl (0, N, .inl (fun _ => 0))) e1 (by rw [z1, hw.1.1]) (fun q hq => o1 q (by rw [← hw.1.1]; exact hq)), vaS_push hw.2 (by rw [z1, hw.1.1]; omega) (fun q hq => o1 q (by rw [← hw.1.1]; exact hq))⟩ hh
theorem v_newZ {x : Int} {N : Nat} (hd : decode mi.2.1 pc = .ok (.newarray .boolean, 2)) (hn : pc + 2 = nx) (hal : Cond.arrayClass .boolean ∈ wU) (hN : (N : Int) = x) (hb4 : N ≤ 100000) (hca : ca + 1 ≤ R.cells ∧ sl + N ≤ R.slots)
    (kk : V g R mi Z E nx lv (rf g n :: st) (va_up φ n (.inl (1, N, .inl (fun _ => 0)))) (n + 1) (ca + 1) (sl + N)) : V g R mi Z E pc lv (vi x :: st) φ n ca sl := by
  subst hn
  subst hN
  intro p' e s m args below meth c H locs ls ev hw hh
  obtain ⟨hex, hb, hr, hml, hown, hts, hlk, hnm, hK, hbs, hE, hX⟩ := id ev
  refine va_newaK (atype := .boolean) hex hb (hts _ hal) rfl hd rfl (n := Int32.ofInt (N : Int)) (N := N) (fun q => ?_) (by rw [I_cl ⟨by omega, by omega⟩ (by omega)]; rfl) (by show N * 1 ≤ _; omega) hca.1 hca.2 hw.1.1 fun H1 cA e1 z1 o1 hAr hNm => ?_
  · have := (I_lt (x := (N : Int)) (y := 0) ⟨by omega, by omega⟩ inR_0).mp q
    omega
  · have hcA : cA = g.2.2.2 1 := Option.some.inj (hNm.symm.trans (hK.2 1 _ rfl).2)
    subst hcA
    exact kk p' e s m args below meth c H1 locs ls ev ⟨hw.1.push (x := .inl (1, N, .inl (fun _ => 0))) e1 (by rw [z1, hw.1.1]) (fun q hq => o1 q (by rw [← hw.1.1]; exact hq)), vaS_push hw.2 (by rw [z1, hw.1.1]; omega) (fun q hq => o1 q (by rw [← hw.1.1]; exact hq))⟩ hh
theorem v_anew {x : Int} {N idx tt : Nat} {C : String} (hd : decode mi.2.1 pc = .ok (.anewarray idx, 3)) (hn : pc + 3 = nx) (hcl : Cond.classLink mi.1.cls idx C ∈ wU) (hov : ∀ U : State, KX U → va_AO C U) (ht : (tysG g)[tt]? = some (g.2.2.2 tt, .object C)) (hN : (N : Int) = x) (hb4 : N ≤ 100000) (hca : ca + 1 ≤ R.cells ∧ sl + N ≤ R.slots)
    (kk : V g R mi Z E nx lv (rf g n :: st) (va_up φ n (.inl (tt, N, .inr (.inr (.inr (.inr (fun _ => none))))))) (n + 1) (ca + 1) (sl + N)) : V g R mi Z E pc lv (vi x :: st) φ n ca sl := by
  subst hn
  subst hN
  intro p' e s m args below meth c H locs ls ev hw hh
  obtain ⟨hex, hb, hr, hml, hown, hts, hlk, hnm, hK, hbs, hE, hX⟩ := id ev
  have zN : (Int32.ofInt (N : Int)).toNatClampNeg = N := by rw [I_cl ⟨by omega, by omega⟩ (by omega)]; rfl
  refine W.anew hex hb hown (hts _ hcl) (va_AO.use (hov s hX)) rfl hd rfl (n := Int32.ofInt (N : Int)) (fun q => ?_) (by rw [zN]; omega) hca.1 (by rw [zN]; exact hca.2) fun cA kA comp f1 f2 f3 f4 => ?_
  · have := (I_lt (x := (N : Int)) (y := 0) ⟨by omega, by omega⟩ inR_0).mp q
    omega
  · obtain ⟨-, kA', comp', -, -, -, h1⟩ := hK.2 tt _ ht
    have hcA : cA = g.2.2.2 tt := Option.some.inj (f1.symm.trans h1)
    subst hcA
    rw [zN, hw.1.1]
    have e1 : (H.push ({ cls := g.2.2.2 tt, slots := Array.replicate N .null, vm := .none } : Cell))[g.2.1 + n]? = some (arrV (g.2.2.2 tt) N (fun _ => .null)) := by rw [← hw.1.1, Array.getElem?_push_size, ← arrV_new]
    have o1 : ∀ q : Nat, q < H.size → (H.push ({ cls := g.2.2.2 tt, slots := Array.replicate N .null, vm := .none } : Cell))[q]? = H[q]? := fun q hq => by rw [Array.getElem?_push, if_neg (Nat.ne_of_lt hq)]
    exact kk p' e s m args below meth c _ locs ls ev ⟨hw.1.push (x := .inl (tt, N, .inr (.inr (.inr (.inr (fun _ => none)))))) e1 (by rw [Array.size_push]) o1, vaS_push hw.2 (by rw [Array.size_push]; omega) o1⟩ hh
theorem v_aast {k k' N tt ci : Nat} {r : vw_C} {i : Int} {f : Nat → Option Nat} {vs : List Value} (hd : decode mi.2.1 pc = .ok (.aastore, 1)) (hn : pc + 1 = nx) (hk : k < n) (hφ : φ k = .inl (tt, N, .inr (.inr (.inr (.inr f))))) (ht : (tysG g)[tt]? = some (g.2.2.2 tt, .object r.1)) (hk' : k' < n) (hφ' : φ k' = .inr (ci, vs)) (hc : vwCl[ci]? = some r) (h0 : 0 ≤ i) (h1 : i < N) (hN : N < 2147483648)
    (kk : V g R mi Z E nx lv st (va_up φ k (.inl (tt, N, .inr (.inr (.inr (.inr (va_up f i.toNat (some (g.2.1 + k')))))))) ) n ca sl) : V g R mi Z E pc lv (rf g k' :: vi i :: rf g k :: st) φ n ca sl := by
  subst hn
  intro p' e s m args below meth c H locs ls ev hw hh
  obtain ⟨hex, hb, hr, hml, hown, hts, hlk, hnm, hK, hbs, hE, hX⟩ := id ev
  obtain ⟨r', hr', cellV, g1, g2, g3, -⟩ := hw.1.at hk' hφ'
  have hcls := (hK.1 ci r hc).2
  obtain ⟨kA, comp, k1, k2, k3, -⟩ := (hK.2 tt _ ht).2
  have hcomp : comp = g.2.2.1.1 ci := Option.some.inj (k3.symm.trans hcls.1)
  subst hcomp
  obtain ⟨kC, hkC, -⟩ := hcls.2
  have zi : (Int32.ofInt i).toNatClampNeg = i.toNat := I_cl ⟨by omega, by omega⟩ h0
  have hiN : i.toNat < N := by omega
  have hin : ¬ Int32.ofInt i < 0 := fun q => by
    have := (I_lt (x := i) (y := 0) ⟨by omega, by omega⟩ inR_0).mp q
    omega
  refine W.aast hex hb (a := g.2.1 + k) (v := g.2.1 + k') (j := Int32.ofInt i) (hw.1.at hk hφ) (fun q h => by cases h) (fun h => by cases h) k1 k2 rfl hkC ⟨hin, by show _ < (arrV _ _ _).slots.size; rw [arrV_size, zi]; exact hiN⟩ g1 (fun q h => by rw [g3] at h; cases h) (by rw [g2]; exact hkC) (by rw [g2]; exact va_assign hcls) rfl rfl hd fun H1 e1 z oq => ?_
  rw [zi] at e1 ⊢
  refine kk p' e s m args below meth c H1 _ ls ev ⟨hw.1.set ?_ z oq, vaS_put hw.2 z oq⟩ hh
  show H1[g.2.1 + k]? = some (vp_cell _ _)
  rw [e1]
  rw [vp_cell_q, vp_cell_q, arrV_store]
  congr 2
  funext q
  by_cases hq : q = i.toNat
  · subst hq
    simp [updV, va_up, va_rf]
  · simp [updV, va_up, hq]
theorem v_null (hd : decode mi.2.1 pc = .ok (.aconst_null, 1)) (hn : pc + 1 = nx) (kk : V g R mi Z E nx lv (.null :: st) φ n ca sl) : V g R mi Z E pc lv st φ n ca sl := by
  subst hn
  intro p e s m args below meth c H locs ls ev hw hh
  exact lv_null ev.1 ev.2.1 hd (kk p e s m args below meth c H locs ls ev hw hh)
theorem v_nonnullR {k : Nat} {off : Int} {tgt : Nat} (hd : decode mi.2.1 pc = .ok (.ifnonnull off, 3)) (ht : (pc : Int) + off = (tgt : Int)) (kk : V g R mi Z E tgt lv st φ n ca sl) : V g R mi Z E pc lv (rf g k :: st) φ n ca sl := by
  intro p e s m args below meth c H locs ls ev hw hh
  exact lv_ifnonnull ev.1 ev.2.1 hd ht (kk p e s m args below meth c H locs ls ev hw hh)
theorem v_nonnullN {off : Int} (hd : decode mi.2.1 pc = .ok (.ifnonnull off, 3)) (hn : pc + 3 = nx) (kk : V g R mi Z E nx lv st φ n ca sl) : V g R mi Z E pc lv (.null :: st) φ n ca sl := by
  subst hn
  intro p e s m args below meth c H locs ls ev hw hh
  exact lv_ifnonnullN ev.1 ev.2.1 hd (kk p e s m args below meth c H locs ls ev hw hh)
theorem arrV_cong {c : ClassId} {N : Nat} {f f' : Nat → Value} (h : ∀ j, j < N → f j = f' j) : arrV c N f = arrV c N f' := by
  unfold arrV
  congr 2
  funext j
  exact h j.val j.isLt
/-- the world named anew; an array of references only as far as it goes -/
def ceq (x y : ce) : Prop := x = y ∨ ∃ (tt N : Nat) (f f' : Nat → Option Nat), x = .inl (tt, N, .inr (.inr (.inr (.inr f)))) ∧ y = .inl (tt, N, .inr (.inr (.inr (.inr f')))) ∧ ∀ j, j < N → f j = f' j
theorem Hp.ceq {ψ : Nat → ce} {H : Heap} (h : Hp g φ n H) (e : ∀ k, k < n → ceq (φ k) (ψ k)) : Hp g ψ n H := by
  refine ⟨h.1, fun k hk => ?_⟩
  rcases e k hk with q | ⟨tt, N, f, f', q1, q2, q3⟩
  · rw [← q]; exact h.2 k hk
  · have h2 := h.2 k hk
    rw [q1] at h2
    rw [q2]
    show H[g.2.1 + k]? = some (vp_cell _ _)
    have h3 : H[g.2.1 + k]? = some (vp_cell (g.2.2.2 tt) (N, .inr (.inr (.inr (.inr f))))) := h2
    rw [h3, vp_cell_q, vp_cell_q, arrV_cong (fun j hj => by rw [q3 j hj])]
theorem V.ceq {ψ : Nat → ce} (e : ∀ k, k < n → ceq (φ k) (ψ k)) (kk : V g R mi Z E pc lv st ψ n ca sl) : V g R mi Z E pc lv st φ n ca sl :=
  fun p e' s m args below meth c H locs ls ev hw hh => kk p e' s m args below meth c H locs ls ev ⟨hw.1.ceq e, hw.2⟩ hh
end VNEW
