/-! ===== System.arraycopy of a whole row of ints ===== -/
section VCPY
variable {g : GG} {R : Room} {mi : MI} {Z : List Frame → Array Value → State → State → Prop} {E : Array Value → State → Prop} {pc nx : Nat} {lv : List (Nat × Value)} {st : List Value} {φ : Nat → ce} {n ca sl : Nat} {kp : Bool} {σ : SS}
theorem nfw : nativeFrameWords "java/lang/System" "arraycopy" 5 + 11 ≤ 26 := by decide +kernel
theorem v_copy {k0 k1 N idx : Nat} {f h : Nat → Int32} (hd : decode mi.2.1 pc = .ok (.invokestatic idx, 3)) (hn : pc + 3 = nx) (hl : Cond.methodLink mi.1.cls idx arraycopyName ∈ wU) (hk0 : k0 < n) (hk1 : k1 < n) (hφ0 : φ k0 = .inl (0, N, .inl f)) (hφ1 : φ k1 = .inl (0, N, .inl h)) (hN : N < 2147483648) (hR : 1 ≤ R.frames ∧ 34 ≤ R.locals) (hcat : (st.map fun v => v.category).sum ≤ 8)
    (kk : V g R mi Z E nx lv st (va_up φ k1 (.inl (0, N, .inl (va_cpy f h 0 0 N)))) n ca sl) : V g R mi Z E pc lv (vi N :: vi 0 :: rf g k1 :: vi 0 :: rf g k0 :: st) φ n ca sl := by
  subst hn
  intro p' e s m args below meth c H locs ls ev hw hh
  obtain ⟨hex, hb, hr, hml, hown, hts, hlk, hnm, hK, hbs, hE, hX⟩ := id ev
  intro T hT X
  have hc0 : H[g.2.1 + k0]? = some (vp_cell (g.2.2.2 0) (N, .inl f)) := hw.1.at hk0 hφ0
  have hc1 : H[g.2.1 + k1]? = some (vp_cell (g.2.2.2 0) (N, .inl h)) := hw.1.at hk1 hφ1
  obtain ⟨-, c0, hc0', cm0, hcc0⟩ := (hK.2 0 _ rfl).1 N (fun j => .int (f j))
  obtain ⟨-, c1, hc1', cm1, hcc1⟩ := (hK.2 0 _ rfl).1 N (fun j => .int (h j))
  have z0 : (Int32.ofInt 0).toNatClampNeg = 0 := rfl
  have zN : (Int32.ofInt (N : Int)).toNatClampNeg = N := by rw [I_cl ⟨by omega, by omega⟩ (by omega)]; rfl
  have lN : ¬ (Int32.ofInt (N : Int)) < 0 := fun q => by
    have := (I_lt (x := (N : Int)) (y := 0) ⟨by omega, by omega⟩ inR_0).mp q
    omega
  have iN : (Int32.ofInt (N : Int)).toInt = N := I_toInt ⟨by omega, by omega⟩
  have i0 : (Int32.ofInt 0).toInt = 0 := rfl
  have wd := nfw
  obtain ⟨vm', X', step⟩ := X.arraycopy hex hown (hts _ hl) (hts _ ac_n) (hts _ ac_s) (hts _ ac_i) (src := g.2.1 + k0) (dst := g.2.1 + k1) (cs := vp_cell (g.2.2.2 0) (N, .inl f)) (cd := vp_cell (g.2.2.2 0) (N, .inl h)) (srcPos := Int32.ofInt 0) (destPos := Int32.ofInt 0) (n := Int32.ofInt (N : Int)) (by rw [hT]; exact hc0) (by rw [hT]; exact hc1)
    (fun _ q => by cases q) (fun _ q => by cases q) (fun q => by cases q) (fun q => by cases q) hc0' hc1' hcc0 hcc1 rfl (by decide) (by decide) lN
    (by rw [iN, i0]; show ¬ _ > ((arrV _ N (fun j => .int (f j))).slots.size : Int); rw [arrV_size]; omega)
    (by rw [iN, i0]; show ¬ _ > ((arrV _ N (fun j => .int (h j))).slots.size : Int); rw [arrV_size]; omega)
    (fun vm₁ _ i hi => by
      rw [zN] at hi
      have q : (vp_cell (g.2.2.2 0) (N, .inl f)).slots.getD ((Int32.ofInt 0).toNatClampNeg + i) .null = .int (f i) := by
        show (arrV _ N (fun j => .int (f j))).slots.getD _ _ = _
        rw [z0, Nat.zero_add, Array.getD_eq_getD_getElem?, arrV_read _ _ (by omega)]
        rfl
      exact ⟨by rw [q]; rfl, by rw [q]; exact trivial⟩)
    (g := F0 m pc ls (vi N :: vi 0 :: rf g k1 :: vi 0 :: rf g k0 :: st)) rfl (by rw [hml]; exact hh.1) (rest := st) rfl (by rw [hb]; exact hd) hR.1 (by show 2 * 0 + _ + _ ≤ _; omega)
  have e1 : copied (vp_cell (g.2.2.2 0) (N, .inl f)) (vp_cell (g.2.2.2 0) (N, .inl h)) (Int32.ofInt 0) (Int32.ofInt 0) (Int32.ofInt (N : Int)) = vp_cell (g.2.2.2 0) (N, .inl (va_cpy f h 0 0 N)) := by
    have q := va_copied (n := N) (sp := 0) (dp := 0) (n1 := N) (fun z => Value.int z) (g.2.2.2 0) (g.2.2.2 0) f h (Nat.le_of_eq (Nat.zero_add N))
    have q2 : copied (vp_cell (g.2.2.2 0) (N, .inl f)) (vp_cell (g.2.2.2 0) (N, .inl h)) (Int32.ofInt 0) (Int32.ofInt 0) (Int32.ofInt (N : Int)) = (arrV (g.2.2.2 0) N (fun j => .int (h j))).storeRun (Int32.ofInt 0).toNatClampNeg ((arrV (g.2.2.2 0) N (fun j => .int (f j))).stretch (Int32.ofInt 0).toNatClampNeg (Int32.ofInt (N : Int)).toNatClampNeg) := rfl
    rw [q2, z0, zN]
    exact q
  rw [e1] at X' step
  have hlt : g.2.1 + k1 < H.size := by rw [hw.1.1]; omega
  have hheap : ((T.setVm vm').setCell (g.2.1 + k1) (vp_cell (g.2.2.2 0) (N, .inl (va_cpy f h 0 0 N)))).heap = H.setIfInBounds (g.2.1 + k1) (vp_cell (g.2.2.2 0) (N, .inl (va_cpy f h 0 0 N))) := by rw [← hT]; rfl
  have oq : ∀ q : Nat, q ≠ g.2.1 + k1 → (H.setIfInBounds (g.2.1 + k1) (vp_cell (g.2.2.2 0) (N, .inl (va_cpy f h 0 0 N))))[q]? = H[q]? := fun q hq => by simp [Array.getElem?_setIfInBounds, Ne.symm hq]
  obtain ⟨t, a1, b1⟩ := kk p' e s m args below meth c _ _ ls ev ⟨hw.1.set (x := .inl (0, N, .inl (va_cpy f h 0 0 N))) (show (H.setIfInBounds (g.2.1 + k1) _)[g.2.1 + k1]? = some _ by simp [Array.getElem?_setIfInBounds, hlt]) (by simp) oq, ⟨by simp; exact hw.2.1, fun q g1 g2 => by
      rw [oq q (fun z => g2 (by show g.2.1 ≤ q; rw [z]; exact Nat.le_add_right _ _))]
      exact hw.2.2.1 q g1 g2, fun q hq => by
      rcases List.mem_append.mp hq with z | z
      · exact hw.2.2.2 q z
      · obtain ⟨y, -, hy⟩ := List.mem_map.mp z
        rw [← hy]
        exact Nat.le_add_right _ _⟩⟩ hh _ hheap X'
  exact ⟨t, step t a1, b1⟩
/-- one cell's ints as a whole, in either hall -/
def sT (σ : SS) (a : Nat) (t i : Int) (C : NN) : SS := fun a' t' i' j' => if a' = a ∧ t' = t ∧ i' = i then C j' else σ a' t' i' j'
theorem t_copy {a idx : Nat} {t t' i L : Int} (hd : decode mi.2.1 pc = .ok (.invokestatic idx, 3)) (hn : pc + 3 = nx) (hl : Cond.methodLink mi.1.cls idx arraycopyName ∈ wU) (hA : isA a = true) (h : ok kp a t i) (h' : ok kp a t' i) (hL : (lenA a : Int) = L) (hR : 1 ≤ R.frames ∧ 34 ≤ R.locals) (hcat : (st.map fun v => v.category).sum ≤ 8)
    (kk : V g R mi Z E nx lv st (vw g kp (sT σ a t i (cpy (σ a t' i) (σ a t i) L))) (sz kp) ca sl) : V g R mi Z E pc lv (vi L :: vi 0 :: rf g (ad a t i) :: vi 0 :: rf g (ad a t' i) :: st) (vw g kp σ) (sz kp) ca sl := by
  subst hL
  refine v_copy hd hn hl (ky_ad (isA_lt hA) h').2 (ky_ad (isA_lt hA) h).2 ((vw_at (isA_lt hA) h').trans (bld_A hA t' i _)) ((vw_at (isA_lt hA) h).trans (bld_A hA t i _)) (lenA_lt a) hR hcat ?_
  refine V.cong (fun k hk => ?_) kk
  by_cases e : k = ad a t i
  · subst e
    rw [show ∀ x, va_up (vw g kp σ) (ad a t i) x (ad a t i) = x from fun x => if_pos rfl, vw_at (isA_lt hA) h, bld_A hA]
    congr 4
    funext j
    show va_cpy _ _ 0 0 (lenA a) j = Int32.ofInt (if a = a ∧ t = t ∧ i = i then _ else _)
    rw [if_pos ⟨rfl, rfl, rfl⟩]
    unfold va_cpy cpy
    by_cases q : j < lenA a
    · rw [if_pos (by omega), if_pos (by omega), Nat.zero_add, Nat.sub_zero]
    · rw [if_neg (by omega), if_neg (by omega)]
  · rw [show ∀ x, va_up (vw g kp σ) (ad a t i) x k = vw g kp σ k from fun x => if_neg e]
    have hk2 : k < 398 := Nat.lt_of_lt_of_le hk (sz_le kp)
    unfold vw
    congr 1
    funext x
    unfold sT
    rw [if_neg]
    rintro ⟨e1, e2, e3⟩
    apply e
    have := ad_ky0 ⟨k, hk2⟩
    simp only at this
    rw [← this, e1, e2, e3]
end VCPY
