/-! ===== the reference's cells as functions: now, kept, isGiven, far, isKept, findings ===== -/
def mkS (σ : SS) (N K G F : Int → Int) (k f : Int) : SS := fun a t i j => match a with
  | 10 => N j
  | 11 => K j
  | 12 => G j
  | 13 => F j
  | 14 => if j = 0 then k else if j = 1 then f else 0
  | _ => σ a t i j
/-- a function with another value at one place -/
def uI (N : Int → Int) (x v : Int) : Int → Int := fun j => if j = x then v else N j
theorem uI_s {N : Int → Int} {x v : Int} : uI N x v x = v := if_pos rfl
theorem uI_n {N : Int → Int} {x v j : Int} (h : j ≠ x) : uI N x v j = N j := if_neg h
theorem ky_one : ∀ k : Fin 398, (ky k.val).1 < 15 → 10 ≤ (ky k.val).1 → (ky k.val).2.1 = 0 ∧ (ky k.val).2.2 = 0 := by decide +kernel
theorem vw_eq {g : GG} {kp : Bool} {σ τ : SS} (h : ∀ (a : Nat) (t i : Int), (10 ≤ a → a < 15 → t = 0 ∧ i = 0) → ∀ j : Int, σ a t i j = τ a t i j) (k : Nat) (hk : k < sz kp) : vw g kp σ k = vw g kp τ k := by
  have hk2 : k < 398 := Nat.lt_of_lt_of_le hk (sz_le kp)
  unfold vw
  congr 1
  funext j
  exact h _ _ _ (fun h1 h2 => ky_one ⟨k, hk2⟩ h2 h1) j
section MR
variable {g : GG} {R : Room} {mi : MI} {Z : List Frame → Array Value → State → State → Prop} {E : Array Value → State → Prop} {pc nx : Nat} {lv : List (Nat × Value)} {st : List Value} {kp : Bool} {σ : SS} {N K G F : Int → Int} {k f : Int} {ca sl : Nat}
theorem m_ald10 {x : Int} (hd : decode mi.2.1 pc = .ok (.iaload, 1)) (hn : pc + 1 = nx) (h0 : 0 ≤ x ∧ x < 4324) (kk : V g R mi Z E nx lv (vi (N x) :: st) (vw g kp (mkS σ N K G F k f)) (sz kp) ca sl) : V g R mi Z E pc lv (vi x :: rf g (ad 10 0 0) :: st) (vw g kp (mkS σ N K G F k f)) (sz kp) ca sl :=
  t_aldL (a := 10) (L := 4324) hd hn rfl (ok_m 10 rfl) rfl h0 kk
theorem m_ald11 {x : Int} (hd : decode mi.2.1 pc = .ok (.iaload, 1)) (hn : pc + 1 = nx) (h0 : 0 ≤ x ∧ x < 4324) (kk : V g R mi Z E nx lv (vi (K x) :: st) (vw g kp (mkS σ N K G F k f)) (sz kp) ca sl) : V g R mi Z E pc lv (vi x :: rf g (ad 11 0 0) :: st) (vw g kp (mkS σ N K G F k f)) (sz kp) ca sl :=
  t_aldL (a := 11) (L := 4324) hd hn rfl (ok_m 11 rfl) rfl h0 kk
theorem m_ald13 {x : Int} (hd : decode mi.2.1 pc = .ok (.iaload, 1)) (hn : pc + 1 = nx) (h0 : 0 ≤ x ∧ x < 12) (kk : V g R mi Z E nx lv (vi (F x) :: st) (vw g kp (mkS σ N K G F k f)) (sz kp) ca sl) : V g R mi Z E pc lv (vi x :: rf g (ad 13 0 0) :: st) (vw g kp (mkS σ N K G F k f)) (sz kp) ca sl :=
  t_aldL (a := 13) (L := 12) hd hn rfl (ok_m 13 rfl) rfl h0 kk
theorem m_zld {x : Int} (hd : decode mi.2.1 pc = .ok (.baload, 1)) (hn : pc + 1 = nx) (h0 : 0 ≤ x ∧ x < 60) (kk : V g R mi Z E nx lv (vi (G x) :: st) (vw g kp (mkS σ N K G F k f)) (sz kp) ca sl) : V g R mi Z E pc lv (vi x :: rf g (ad 12 0 0) :: st) (vw g kp (mkS σ N K G F k f)) (sz kp) ca sl :=
  t_zld hd hn h0 kk
theorem m_up {a : Nat} {x v : Int} {τ : SS} (h : ∀ (a' : Nat) (j : Int), up (mkS σ N K G F k f) a 0 0 x v a' 0 0 j = τ a' 0 0 j) (h2 : ∀ (a' : Nat) (t i j : Int), (a' < 10 ∨ 15 ≤ a') → up (mkS σ N K G F k f) a 0 0 x v a' t i j = τ a' t i j) (kk : V g R mi Z E pc lv st (vw g kp τ) (sz kp) ca sl) : V g R mi Z E pc lv st (vw g kp (up (mkS σ N K G F k f) a 0 0 x v)) (sz kp) ca sl := by
  refine V.cong (fun q hq => vw_eq (fun a' t i hh j => ?_) q hq) kk
  by_cases e : 10 ≤ a' ∧ a' < 15
  · obtain ⟨rfl, rfl⟩ := hh e.1 e.2
    exact h a' j
  · exact h2 a' t i j (by omega)
theorem up_far {σ : SS} {a : Nat} {t i x v : Int} {a' : Nat} {t' i' j : Int} (h : a' ≠ a) : up σ a t i x v a' t' i' j = σ a' t' i' j := if_neg (fun q => h q.1)
theorem up_here {σ : SS} {a : Nat} {t i x v j : Int} : up σ a t i x v a t i j = if j = x then v else σ a t i j := by
  unfold up
  by_cases e : j = x
  · rw [if_pos ⟨rfl, rfl, rfl, e⟩, if_pos e]
  · rw [if_neg (fun q => e q.2.2.2), if_neg e]
theorem mk_out {a : Nat} {t i j : Int} (h : a < 10 ∨ 15 ≤ a) : mkS σ N K G F k f a t i j = σ a t i j := by
  unfold mkS
  split <;> first | omega | rfl
theorem mk_up (a : Nat) {x v : Int} {N' K' G' F' : Int → Int} {k' f' : Int} (ha : 10 ≤ a ∧ a < 15) (h : ∀ (a' : Nat) (j : Int), 10 ≤ a' → a' < 15 → (if a' = a then (if j = x then v else mkS σ N K G F k f a 0 0 j) else mkS σ N K G F k f a' 0 0 j) = mkS σ N' K' G' F' k' f' a' 0 0 j) (kk : V g R mi Z E pc lv st (vw g kp (mkS σ N' K' G' F' k' f')) (sz kp) ca sl) : V g R mi Z E pc lv st (vw g kp (up (mkS σ N K G F k f) a 0 0 x v)) (sz kp) ca sl := by
  refine m_up (fun a' j => ?_) (fun a' t i j hh => ?_) kk
  · by_cases e : 10 ≤ a' ∧ a' < 15
    · rw [← h a' j e.1 e.2]
      by_cases e2 : a' = a
      · subst e2
        rw [if_pos rfl, up_here]
      · rw [if_neg e2, up_far e2]
    · rw [up_far (by omega), mk_out (by omega), mk_out (by omega)]
  · rw [up_far (by omega), mk_out hh, mk_out hh]
theorem m_ast10 {x z : Int} (hd : decode mi.2.1 pc = .ok (.iastore, 1)) (hn : pc + 1 = nx) (h0 : 0 ≤ x ∧ x < 4324) (kk : V g R mi Z E nx lv st (vw g kp (mkS σ (uI N x z) K G F k f)) (sz kp) ca sl) : V g R mi Z E pc lv (vi z :: vi x :: rf g (ad 10 0 0) :: st) (vw g kp (mkS σ N K G F k f)) (sz kp) ca sl :=
  t_astL (a := 10) (L := 4324) hd hn rfl (ok_m 10 rfl) rfl h0 (mk_up 10 (by decide) (fun a' j h1 h2 => by
    match a', h1, h2 with
    | 10, _, _ => rfl
    | 11, _, _ => rfl
    | 12, _, _ => rfl
    | 13, _, _ => rfl
    | 14, _, _ => rfl) kk)
theorem m_ast11 {x z : Int} (hd : decode mi.2.1 pc = .ok (.iastore, 1)) (hn : pc + 1 = nx) (h0 : 0 ≤ x ∧ x < 4324) (kk : V g R mi Z E nx lv st (vw g kp (mkS σ N (uI K x z) G F k f)) (sz kp) ca sl) : V g R mi Z E pc lv (vi z :: vi x :: rf g (ad 11 0 0) :: st) (vw g kp (mkS σ N K G F k f)) (sz kp) ca sl :=
  t_astL (a := 11) (L := 4324) hd hn rfl (ok_m 11 rfl) rfl h0 (mk_up 11 (by decide) (fun a' j h1 h2 => by
    match a', h1, h2 with
    | 10, _, _ => rfl
    | 11, _, _ => rfl
    | 12, _, _ => rfl
    | 13, _, _ => rfl
    | 14, _, _ => rfl) kk)
theorem m_ast13 {x z : Int} (hd : decode mi.2.1 pc = .ok (.iastore, 1)) (hn : pc + 1 = nx) (h0 : 0 ≤ x ∧ x < 12) (kk : V g R mi Z E nx lv st (vw g kp (mkS σ N K G (uI F x z) k f)) (sz kp) ca sl) : V g R mi Z E pc lv (vi z :: vi x :: rf g (ad 13 0 0) :: st) (vw g kp (mkS σ N K G F k f)) (sz kp) ca sl :=
  t_astL (a := 13) (L := 12) hd hn rfl (ok_m 13 rfl) rfl h0 (mk_up 13 (by decide) (fun a' j h1 h2 => by
    match a', h1, h2 with
    | 10, _, _ => rfl
    | 11, _, _ => rfl
    | 12, _, _ => rfl
    | 13, _, _ => rfl
    | 14, _, _ => rfl) kk)
theorem m_zst {x z : Int} (hd : decode mi.2.1 pc = .ok (.bastore, 1)) (hn : pc + 1 = nx) (h0 : 0 ≤ x ∧ x < 60) (hz : z = 0 ∨ z = 1) (kk : V g R mi Z E nx lv st (vw g kp (mkS σ N K (uI G x z) F k f)) (sz kp) ca sl) : V g R mi Z E pc lv (vi z :: vi x :: rf g (ad 12 0 0) :: st) (vw g kp (mkS σ N K G F k f)) (sz kp) ca sl :=
  t_zst hd hn h0 hz (mk_up 12 (by decide) (fun a' j h1 h2 => by
    match a', h1, h2 with
    | 10, _, _ => rfl
    | 11, _, _ => rfl
    | 12, _, _ => rfl
    | 13, _, _ => rfl
    | 14, _, _ => rfl) kk)
/-- the reference's own fields -/
theorem m_gA (a : Nat) {idx p : Nat} (hd : decode mi.2.1 pc = .ok (.getfield idx, 3)) (hn : pc + 3 = nx) (hp : p < 6) (hl : Cond.fieldLink mi.1.cls idx (TX7 p).1 (TX7 p).2.1 (TX7 p).2.2.1 ∈ wU) (hv : [rf g (ad 10 0 0), rf g (ad 11 0 0), vi k, vi f, rf g (ad 12 0 0), rf g (ad 13 0 0)][p]? = some (rf g (ad a 0 0))) (kk : V g R mi Z E nx lv (rf g (ad a 0 0) :: st) (vw g kp (mkS σ N K G F k f)) (sz kp) ca sl) : V g R mi Z E pc lv (rf g (ad 14 0 0) :: st) (vw g kp (mkS σ N K G F k f)) (sz kp) ca sl :=
  t_get (a := 14) (p := p) (T := TX7) hd hn (by decide) (ok_m 14 rfl) rfl rfl iU7 hp hl hv kk
theorem m_gI {idx p : Nat} {z : Int} (hd : decode mi.2.1 pc = .ok (.getfield idx, 3)) (hn : pc + 3 = nx) (hp : p < 6) (hl : Cond.fieldLink mi.1.cls idx (TX7 p).1 (TX7 p).2.1 (TX7 p).2.2.1 ∈ wU) (hv : [rf g (ad 10 0 0), rf g (ad 11 0 0), vi k, vi f, rf g (ad 12 0 0), rf g (ad 13 0 0)][p]? = some (vi z)) (kk : V g R mi Z E nx lv (vi z :: st) (vw g kp (mkS σ N K G F k f)) (sz kp) ca sl) : V g R mi Z E pc lv (rf g (ad 14 0 0) :: st) (vw g kp (mkS σ N K G F k f)) (sz kp) ca sl :=
  t_get (a := 14) (p := p) (T := TX7) hd hn (by decide) (ok_m 14 rfl) rfl rfl iU7 hp hl hv kk
theorem m_pk {idx : Nat} {z : Int} (hd : decode mi.2.1 pc = .ok (.putfield idx, 3)) (hn : pc + 3 = nx) (hl : Cond.fieldLink mi.1.cls idx "BagHallModel" "isKept" "Z" ∈ wU) (hz : z = 0 ∨ z = 1) (kk : V g R mi Z E nx lv st (vw g kp (mkS σ N K G F z f)) (sz kp) ca sl) : V g R mi Z E pc lv (vi z :: rf g (ad 14 0 0) :: st) (vw g kp (mkS σ N K G F k f)) (sz kp) ca sl :=
  t_put (a := 14) (j := 0) (p := 2) (T := TX7) hd hn (by decide) (ok_m 14 rfl) rfl rfl iU7 tyX7 tyX7_ok nmX7 (by decide) hl rfl (Or.inr ⟨rfl, hz⟩) (Nat.le_of_ble_eq_true rfl) rfl (mk_up 14 (by decide) (fun a' j h1 h2 => by
    match a', h1, h2 with
    | 10, _, _ => rfl
    | 11, _, _ => rfl
    | 12, _, _ => rfl
    | 13, _, _ => rfl
    | 14, _, _ =>
      show (if j = 0 then z else if j = 0 then k else if j = 1 then f else 0) = if j = 0 then z else if j = 1 then f else 0
      by_cases e : j = 0
      · rw [if_pos e, if_pos e]
      · rw [if_neg e, if_neg e, if_neg e]) kk)
theorem m_pf {idx : Nat} {z : Int} (hd : decode mi.2.1 pc = .ok (.putfield idx, 3)) (hn : pc + 3 = nx) (hl : Cond.fieldLink mi.1.cls idx "BagHallModel" "findings" "I" ∈ wU) (kk : V g R mi Z E nx lv st (vw g kp (mkS σ N K G F k z)) (sz kp) ca sl) : V g R mi Z E pc lv (vi z :: rf g (ad 14 0 0) :: st) (vw g kp (mkS σ N K G F k f)) (sz kp) ca sl :=
  t_put (a := 14) (j := 1) (p := 3) (T := TX7) hd hn (by decide) (ok_m 14 rfl) rfl rfl iU7 tyX7 tyX7_ok nmX7 (by decide) hl rfl (Or.inl rfl) (Nat.le_of_ble_eq_true rfl) rfl (mk_up 14 (by decide) (fun a' j h1 h2 => by
    match a', h1, h2 with
    | 10, _, _ => rfl
    | 11, _, _ => rfl
    | 12, _, _ => rfl
    | 13, _, _ => rfl
    | 14, _, _ =>
      show (if j = 1 then z else if j = 0 then k else if j = 1 then f else 0) = if j = 0 then k else if j = 1 then z else 0
      by_cases e : j = 1
      · subst e; rfl
      · by_cases e0 : j = 0
        · rw [if_neg e, if_pos e0, if_pos e0]
        · rw [if_neg e, if_neg e0, if_neg e, if_neg e0, if_neg e]) kk)
end MR
