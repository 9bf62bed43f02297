/-! ===== an array of arrays of ints ===== -/
section VMUL
variable {g : GG} {R : Room} {mi : MI} {Z : List Frame → Array Value → State → State → Prop} {E : Array Value → State → Prop} {pc nx : Nat} {lv : List (Nat × Value)} {st : List Value} {φ : Nat → ce} {n ca sl : Nat}
def mw (g : GG) (φ : Nat → ce) (n N M : Nat) : Nat → ce := fun k => if k < n then φ k else if k = n then .inl (6, N, .inr (.inr (.inr (.inr (fun j => some (g.2.1 + (n + 1 + j))))))) else .inl (0, M, .inl (fun _ => 0))
theorem outer_eq (c : ClassId) (N h0 : Nat) (f : Nat → Option Nat) (hf : ∀ j, j < N → f j = some (h0 + 1 + j)) : Jvm.Free.Multi.outerC c N h0 N = vp_cell c (N, .inr (.inr (.inr (.inr f)))) := by
  obtain ⟨a1, a2, a3⟩ := Jvm.Free.Multi.outerC_facts c N h0 N
  obtain ⟨a4, a5⟩ := Jvm.Free.Multi.outerC_plain c N h0 N
  have a6 := fun j hj => Jvm.Free.Multi.outerC_slot c N h0 N j hj
  generalize Jvm.Free.Multi.outerC c N h0 N = C at a1 a2 a3 a4 a5 a6
  obtain ⟨c1, c2, c3, c4, c5⟩ := C
  dsimp only at a1 a2 a3 a4 a5 a6
  subst a1; subst a2; subst a4; subst a5
  rw [vp_cell_q]
  unfold arrV
  congr 1
  apply Array.ext
  · simp [a3]
  · intro j h1 h2
    have h := a6 j (by omega)
    rw [if_pos (by omega), Array.getElem?_eq_getElem h1] at h
    rw [Option.some.inj h]
    simp [hf j (by omega), va_rf]
theorem v_mnew {x y : Int} {N M idx : Nat} (hd : decode mi.2.1 pc = .ok (.multianewarray idx 2, 4)) (hn : pc + 4 = nx) (hcl : Cond.classLink mi.1.cls idx ("[" ++ (FieldType.array .int).toString) ∈ wU) (hal : Cond.arrayClass .int ∈ wU) (hN : (N : Int) = x) (hM : (M : Int) = y) (hb4 : N ≤ 100000 ∧ M ≤ 100000) (hca : ca + (1 + N) ≤ R.cells ∧ sl + (N + N * M) ≤ R.slots)
    (kk : V g R mi Z E nx lv (rf g n :: st) (mw g φ n N M) (n + 1 + N) (ca + 1 + N) (sl + N + N * M)) : V g R mi Z E pc lv (vi y :: vi x :: st) φ n ca sl := by
  subst hn
  subst hN
  subst hM
  intro p' e s m args below meth c H locs ls ev hw hh
  obtain ⟨hex, hb, hr, hml, hown, hts, hlk, hnm, hK, hbs, hE, hX⟩ := id ev
  intro T hT X
  have zN : (Int32.ofInt (N : Int)).toNatClampNeg = N := by rw [I_cl ⟨by omega, by omega⟩ (by omega)]; rfl
  have zM : (Int32.ofInt (M : Int)).toNatClampNeg = M := by rw [I_cl ⟨by omega, by omega⟩ (by omega)]; rfl
  have lN : ¬ Int32.ofInt (N : Int) < 0 := fun q => by
    have := (I_lt (x := (N : Int)) (y := 0) ⟨by omega, by omega⟩ inR_0).mp q
    omega
  have lM : ¬ Int32.ofInt (M : Int) < 0 := fun q => by
    have := (I_lt (x := (M : Int)) (y := 0) ⟨by omega, by omega⟩ inR_0).mp q
    omega
  obtain ⟨vm₁, cA, comp, hW, hfA, hfC, hO, hI, X1, step⟩ := X.multianewarray2F hex (ty := .int) hown (hts _ hcl) hX.1.2.2.2.2 (hts _ hal) (g := F0 m pc ls (vi M :: vi N :: st)) rfl (by rw [hb]; exact hd) (n := Int32.ofInt (N : Int)) (k := Int32.ofInt (M : Int)) (rest := st) rfl lN lM (by rw [zN]; omega) (by rw [zM]; show M * 4 ≤ _; omega) (by rw [zM]; omega) rfl rfl (by rw [zN]; exact hca.1) (by rw [zN, zM]; exact hca.2)
  rw [zN, zM] at X1 step
  have hHs : T.heap.size = g.2.1 + n := by rw [hT]; exact hw.1.1
  have hcA : cA = g.2.2.2 6 := Option.some.inj (hfA.symm.trans (hK.2 6 _ rfl).2)
  have hcC : comp = g.2.2.2 0 := Option.some.inj (hfC.symm.trans (hK.2 0 _ rfl).2)
  subst hcA
  subst hcC
  have hh0 : (T.setVm vm₁).heap = T.heap := rfl
  have F1 := Jvm.Free.Multi.fill_facts (T.setVm vm₁) (g.2.2.2 6) (g.2.2.2 0) N M (defaultValue .int) N
  have F2 := fun a (ha : a < (T.setVm vm₁).heap.size) => Jvm.Free.Multi.fill_old (T.setVm vm₁) (g.2.2.2 6) (g.2.2.2 0) N M (defaultValue .int) ha N
  have F3 := fun j hj => Jvm.Free.Multi.fill_inner (T.setVm vm₁) (g.2.2.2 6) (g.2.2.2 0) N M (defaultValue .int) N j hj
  rw [hh0] at F1 F2 F3
  rw [hHs] at F1 F2 F3 step
  generalize Jvm.Free.Multi.fill (T.setVm vm₁) (g.2.2.2 6) (g.2.2.2 0) N M (defaultValue .int) N = U at X1 step F1 F2 F3
  have hold : ∀ q : Nat, q < g.2.1 + n → U.heap[q]? = H[q]? := fun q hq => by rw [F2 q hq, hT]
  have hp : Hp g (mw g φ n N M) (n + 1 + N) U.heap := by
    refine ⟨by rw [F1.1]; omega, fun k hk => ?_⟩
    unfold mw
    by_cases c1 : k < n
    · rw [if_pos c1]
      exact (hw.1.2 k c1).kept (hold _ (by show g.2.1 + k < _; omega))
    · rw [if_neg c1]
      by_cases c2 : k = n
      · rw [if_pos c2, c2]
        show U.heap[g.2.1 + n]? = some (vp_cell _ _)
        rw [F1.2.1, outer_eq _ _ _ (fun j => some (g.2.1 + (n + 1 + j))) (fun j _ => by congr 1; omega)]
      · rw [if_neg c2]
        show U.heap[g.2.1 + k]? = some (vp_cell _ _)
        have := F3 (k - n - 1) (by omega)
        rw [show g.2.1 + n + 1 + (k - n - 1) = g.2.1 + k by omega] at this
        rw [this, vp_cell_i, ← arrV_new]
        rfl
  obtain ⟨t, a1, b1⟩ := kk p' e s m args below meth c U.heap locs ls ev ⟨hp, vaS_push hw.2 (by rw [F1.1, hw.1.1]; omega) (fun q hq => hold q (by rw [← hw.1.1]; exact hq))⟩ hh U rfl (by rw [show ca + 1 + N = ca + 1 + N from rfl]; exact X1)
  exact ⟨t, step t a1, b1⟩
end VMUL
