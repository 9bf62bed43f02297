/-! ===== rows for the law ===== -/
abbrev mL : MI := (yL_law, cL_law, 4, ret)
/-- the script stands ahead of all our cells -/
def EL (g : GG) (b L : Nat) (xs : Nat → Int32) : Array Value → State → Prop := fun args s => args = #[Value.ref b] ∧ va_X b L xs s s.heap ∧ b < s.heap.size ∧ g.2.1 = s.heap.size
theorem i32R (v : Int32) : inR v.toInt := ⟨by have := Int32.le_toInt v; omega, by have := Int32.toInt_lt v; omega⟩
theorem vi_to (v : Int32) : vi v.toInt = .int v := by
  unfold vi
  rw [Int32.ofInt_toInt]
theorem and31 (x : Int32) : 0 ≤ (x &&& Int32.ofInt 31).toInt ∧ (x &&& Int32.ofInt 31).toInt ≤ 31 := by
  have h : (x &&& Int32.ofInt 31).toBitVec.toNat ≤ 31 := by
    rw [Int32.toBitVec_and, BitVec.toNat_and]
    exact Nat.and_le_right
  have e : (x &&& Int32.ofInt 31).toInt = (x &&& Int32.ofInt 31).toBitVec.toInt := rfl
  rw [e, BitVec.toInt_eq_toNat_of_lt (by omega)]
  omega
section VLAW
variable {g : GG} {R : Room} {mi : MI} {Z : List Frame → Array Value → State → State → Prop} {E : Array Value → State → Prop} {pc nx : Nat} {lv : List (Nat × Value)} {st : List Value} {φ : Nat → ce} {n ca sl b L : Nat} {xs : Nat → Int32} {kp : Bool} {σ : SS}
theorem v_lref {k : Fin 4} {x : Nat} (j : Nat) (hd : decode mi.2.1 pc = .ok (.aload_n k, 1)) (hn : pc + 1 = nx) (hl : lv[j]? = some (k.val, Value.ref x)) (kk : V g R mi Z E nx lv (.ref x :: st) φ n ca sl) : V g R mi Z E pc lv st φ n ca sl := by
  subst hn
  intro p e s m args below meth c H locs ls ev hw hh
  exact lv_aload_n ev.1 ev.2.1 hd rfl (lv_at hh j hl) (kk p e s m args below meth c H locs ls ev hw hh)
theorem v_sld {i : Int} (hd : decode mi.2.1 pc = .ok (.iaload, 1)) (hn : pc + 1 = nx) (hL : L ≤ 2048) (h0 : 0 ≤ i ∧ i < L) (kk : V g R mi Z (EL g b L xs) nx lv (vi (xs i.toNat).toInt :: st) φ n ca sl) : V g R mi Z (EL g b L xs) pc lv (vi i :: .ref b :: st) φ n ca sl := by
  subst hn
  intro p e s m args below meth c H locs ls ev hw hh
  obtain ⟨hex, hb, hr, hml, hown, hts, hlk, hnm, hK, hbs, hE, hX⟩ := id ev
  obtain ⟨e1, e2, e3, e4⟩ := hE
  refine va_sld hex hb e2 e3 (show ¬ g.2.1 ≤ b by omega) hw.2 (I_in h0.1 h0.2 (by omega)) hd ?_
  rw [I_cl ⟨by omega, by omega⟩ h0.1, ← vi_to]
  exact kk p e s m args below meth c H locs ls ev hw hh
theorem v_slen (hd : decode mi.2.1 pc = .ok (.arraylength, 1)) (hn : pc + 1 = nx) (kk : V g R mi Z (EL g b L xs) nx lv (vi (L : Int) :: st) φ n ca sl) : V g R mi Z (EL g b L xs) pc lv (.ref b :: st) φ n ca sl := by
  subst hn
  intro p e s m args below meth c H locs ls ev hw hh
  obtain ⟨hex, hb, hr, hml, hown, hts, hlk, hnm, hK, hbs, hE, hX⟩ := id ev
  obtain ⟨e1, e2, e3, e4⟩ := hE
  exact va_slen hex hb e2 e3 (show ¬ g.2.1 ≤ b by omega) hw.2 hd (kk p e s m args below meth c H locs ls ev hw hh)
theorem v_and31 {x : Int} (hd : decode mi.2.1 pc = .ok (.iand, 1)) (hn : pc + 1 = nx) (kk : ∀ w : Int, 0 ≤ w → w ≤ 31 → V g R mi Z E nx lv (vi w :: st) φ n ca sl) : V g R mi Z E pc lv (vi 31 :: vi x :: st) φ n ca sl := by
  subst hn
  intro p e s m args below meth c H locs ls ev hw hh
  refine lv_iand ev.1 ev.2.1 hd ?_
  obtain ⟨w0, w1⟩ := and31 (Int32.ofInt x)
  rw [← vi_to]
  exact kk _ w0 w1 p e s m args below meth c H locs ls ev hw hh
theorem V.eq {τ : SS} (h : σ = τ) (kk : V g R mi Z E pc lv st (vw g kp τ) n ca sl) : V g R mi Z E pc lv st (vw g kp σ) n ca sl := by
  subst h
  exact kk
/-- the law's end -/
theorem v_lend (hg : ca ≤ 600000 ∧ sl ≤ 7302250) : V g room_1 mL lw_Z (EL g b L xs) 937 lv [vi 1] φ n ca sl := by
  refine V.widen hg.1 hg.2 ?_
  intro p e s m args below meth c H locs ls ev hw hh
  obtain ⟨hex, hb, hr, hml, hown, hts, hlk, hnm, hK, hbs, hE, hX⟩ := id ev
  obtain ⟨rfl, e2, e3, e4⟩ := hE
  exact va_forget (fun q hq => by have := hw.2.2.2 q hq; rw [e4] at this; exact this) (lw_ret hex hb hr hlk dL_law_937)
end VLAW
/-! the reference's cells over any state -/
theorem mk_id {σ : SS} {N K G F : NN} {k f : Int} : mkS (mkS σ N K G F k f) N K G F k f = mkS σ N K G F k f := by
  funext a t i j
  by_cases h : a < 10 ∨ 15 ≤ a
  · rw [mk_out h]
  · match a, h with
    | 10, _ => rfl
    | 11, _ => rfl
    | 12, _ => rfl
    | 13, _ => rfl
    | 14, _ => rfl
    | 0, h => exact absurd (Or.inl (by decide)) h
    | 1, h => exact absurd (Or.inl (by decide)) h
    | 2, h => exact absurd (Or.inl (by decide)) h
    | 3, h => exact absurd (Or.inl (by decide)) h
    | 4, h => exact absurd (Or.inl (by decide)) h
    | 5, h => exact absurd (Or.inl (by decide)) h
    | 6, h => exact absurd (Or.inl (by decide)) h
    | 7, h => exact absurd (Or.inl (by decide)) h
    | 8, h => exact absurd (Or.inl (by decide)) h
    | 9, h => exact absurd (Or.inl (by decide)) h
    | a + 15, h => exact absurd (Or.inr (by omega)) h
theorem mk_of {σ τ : SS} {N K G F : NN} {k f : Int} (hs : σ = mkS σ N K G F k f) (h : ∀ (a : Nat) (t i : Int), 10 ≤ a → a < 15 → τ a t i = σ a t i) : τ = mkS τ N K G F k f := by
  funext a t i j
  by_cases c : a < 10 ∨ 15 ≤ a
  · rw [mk_out c]
  · rw [h a t i (by omega) (by omega), hs]
    match a, c with
    | 10, _ => rfl
    | 11, _ => rfl
    | 12, _ => rfl
    | 13, _ => rfl
    | 14, _ => rfl
    | 0, h => exact absurd (Or.inl (by decide)) h
    | 1, h => exact absurd (Or.inl (by decide)) h
    | 2, h => exact absurd (Or.inl (by decide)) h
    | 3, h => exact absurd (Or.inl (by decide)) h
    | 4, h => exact absurd (Or.inl (by decide)) h
    | 5, h => exact absurd (Or.inl (by decide)) h
    | 6, h => exact absurd (Or.inl (by decide)) h
    | 7, h => exact absurd (Or.inl (by decide)) h
    | 8, h => exact absurd (Or.inl (by decide)) h
    | 9, h => exact absurd (Or.inl (by decide)) h
    | a + 15, h => exact absurd (Or.inr (by omega)) h
/-- any int as an int of 32 bits -/
def nr (F : NN) : NN := fun j => (Int32.ofInt (F j)).toInt
theorem nr_R {F : NN} (j : Int) : inR (nr F j) := i32R _
theorem mk_nr {g : GG} {kp : Bool} {σ : SS} {N K G F : NN} {k f : Int} : vw g kp (mkS σ N K G F k f) = vw g kp (mkS σ N K G (nr F) k f) := by
  funext q
  unfold vw
  generalize (ky q).1 = a
  by_cases h : a = 13
  · subst h
    show (Sum.inl (0, 12, Sum.inl (fun j : Nat => Int32.ofInt (F (j : Int)))) : ce) = Sum.inl (0, 12, Sum.inl (fun j : Nat => Int32.ofInt (nr F (j : Int))))
    congr 4
    funext j
    unfold nr
    rw [Int32.ofInt_toInt]
  · congr 1
    funext j
    unfold mkS
    split <;> first | rfl | (exfalso; omega)
/-! ===== what holds between two calls of the law ===== -/
def LIx (kp : Bool) (s : SS) (N K G F : NN) (k f n : Int) : Prop :=
  s = mkS s N K G F k f ∧ RG s ∧ RH s 0 N ∧ SM s N ∧ (∀ i j, s 8 0 i j ≤ 1000000) ∧ s 9 0 0 0 = f ∧ (0 ≤ f ∧ f ≤ n) ∧ JI N ∧ (N 4 ≤ 100 * n ∧ N 5 ≤ n) ∧ GZ G ∧
  ((kp = false ∧ k = 0) ∨ (kp = true ∧ k = 1 ∧ ∃ K0 : NN, JI K0 ∧ RH s 1 K0 ∧ (∀ j, 0 ≤ j → j < 4324 → K j = K0 j) ∧ K0 4 ≤ 100 * n ∧ K0 5 ≤ n))
theorem RG_mk {τ : SS} {M K G F : NN} {k f : Int} (h : RG τ) (hM : ∀ j, inR (M j)) (hK : ∀ j, inR (K j)) (hG : ∀ j, inR (G j)) (hF : ∀ j, inR (F j)) (hk : inR k) (hf : inR f) : RG (mkS τ M K G F k f) := by
  refine ⟨fun a t i j => ?_, fun a t i j q => ?_⟩
  · unfold mkS
    split
    · exact hM j
    · exact hK j
    · exact hG j
    · exact hF j
    · split
      · exact hk
      · split
        · exact hf
        · exact ⟨by decide, by decide⟩
    · exact h.1 _ _ _ _
  · rw [mk_out (by unfold isB at q; omega)]
    exact h.2 _ _ _ _ q
theorem GZ.r {G : NN} (h : GZ G) (j : Int) : inR (G j) := by
  rcases h.1 j with q | q <;> rw [q] <;> exact ⟨by decide, by decide⟩
theorem LIx.K {kp : Bool} {s : SS} {N K G F : NN} {k f n : Int} (h : LIx kp s N K G F k f n) : (∀ j, inR (K j)) ∧ (∀ j, inR (F j)) ∧ (k = 0 ∨ k = 1) := by
  obtain ⟨hs, hR, -, -, -, -, -, -, -, -, hk⟩ := h
  have h11 : ∀ j, s 11 0 0 j = K j := fun j => by rw [hs]; rfl
  have h13 : ∀ j, s 13 0 0 j = F j := fun j => by rw [hs]; rfl
  refine ⟨fun j => by rw [← h11]; exact hR.1 _ _ _ _, fun j => by rw [← h13]; exact hR.1 _ _ _ _, ?_⟩
  rcases hk with ⟨-, q⟩ | ⟨-, q, -⟩
  · exact Or.inl q
  · exact Or.inr q
theorem LIx.step {kp : Bool} {s τ : SS} {N K G F M G' F' : NN} {k f n df : Int} (h : LIx kp s N K G F k f n) (hC : CR s τ M df) (hdf : 0 ≤ df ∧ df ≤ 1) (hJ : JI M) (h4 : M 4 ≤ 100 * (n + 1)) (h5 : M 5 ≤ n + 1) (hG : GZ G') (hF : ∀ j, inR (F' j)) (hn : 0 ≤ n ∧ n ≤ 1000) : LIx kp (mkS τ M K G' F' k (f + df)) M K G' F' k (f + df) (n + 1) := by
  obtain ⟨kK, kF, kk⟩ := h.K
  obtain ⟨hs, hR, hH, hS, h8, h9, hf, hJN, h45, hGZ, hkp⟩ := h
  obtain ⟨c1, c2, c3, c4, c5, c6⟩ := hC
  refine ⟨mk_id.symm, RG_mk c3 hJ.1.r kK hG.r hF (by rcases kk with q | q <;> rw [q] <;> exact ⟨by decide, by decide⟩) ⟨by omega, by omega⟩, c1.ot (fun a i ha => ?_), c2, c4, ?_, ⟨by omega, by omega⟩, hJ, ⟨h4, h5⟩, hG, ?_⟩
  · funext j
    exact mk_out (by omega)
  · show τ 9 0 0 0 = _
    rw [c5, h9]
  · rcases hkp with q | ⟨q1, q2, K0, q3, q4, q5, q6, q7⟩
    · exact Or.inl q
    · refine Or.inr ⟨q1, q2, K0, q3, q4.ot (fun a i ha => ?_), q5, by omega, by omega⟩
      funext j
      rw [mk_out (by omega), c6 a 1 i (Or.inr ⟨by decide, by omega⟩)]
theorem LIx.keep {kp : Bool} {s τ : SS} {N K G F : NN} {k f n : Int} (h : LIx kp s N K G F k f n) (e0 : ∀ (a : Nat) (i : Int), τ a 0 i = s a 0 i) (hR1 : RG τ) (hH1 : RH τ 1 N) (hn : 0 ≤ n ∧ n ≤ 1000) : LIx true (mkS τ N (cpy N K 4324) G F 1 f) N (cpy N K 4324) G F 1 f (n + 1) := by
  obtain ⟨kK, kF, kk⟩ := h.K
  obtain ⟨hs, hR, hH, hS, h8, h9, hf, hJN, h45, hGZ, hkp⟩ := h
  refine ⟨mk_id.symm, RG_mk hR1 hJN.1.r (fun j => ?_) hGZ.r kF ⟨by decide, by decide⟩ ⟨by omega, by omega⟩, hH.ot (fun a i ha => ?_), ?_, ?_, ?_, ⟨by omega, by omega⟩, hJN, ⟨by omega, by omega⟩, hGZ, Or.inr ⟨rfl, rfl, N, hJN, hH1.ot (fun a i ha => ?_), fun j j0 j1 => if_pos ⟨j0, j1⟩, by omega, by omega⟩⟩
  · unfold cpy
    split
    · exact hJN.1.r j
    · exact kK j
  · funext j
    rw [mk_out (by omega), e0]
  · intro ch c0 c1 c2 p p0 p1
    show τ 8 0 ch p = _
    rw [e0]
    exact hS ch c0 c1 c2 p p0 p1
  · intro i j
    show τ 8 0 i j ≤ _
    rw [e0]
    exact h8 i j
  · show τ 9 0 0 0 = _
    rw [e0]
    exact h9
  · funext j
    rw [mk_out (by omega)]
/-- behind a call of back() of a hall that was kept -/
theorem CR.back {s τ : SS} {K0 M : NN} {k : Int} (h : CR s τ K0 0) (hI : IV K0 k) (e : ∀ j, 0 ≤ j → j < 4324 → M j = K0 j) : CR s τ M 0 := by
  obtain ⟨c1, c2, c3, c4, c5, c6⟩ := h
  exact ⟨c1.cong hI e, SM.same hI c2 rfl (e 0 (by omega) (by omega)) (e 1 (by omega) (by omega)) (fun j hj => e j (by omega) (by omega)), c3, c4, c5, c6⟩
