set_option maxRecDepth 100000 in
theorem lc_point {g : GG} {b L : Nat} {xs : Nat → Int32} {kp : Bool} {s : SS} {N K G F : NN} {k f n i : Int} (hL : L ≤ 2048) (hi : 0 ≤ i ∧ i + 4 ≤ L) (hn : 0 ≤ n ∧ n ≤ 1000) (h : LIx kp s N K G F k f n) (kk : ∀ (kp' : Bool) (s' : SS) (N' K' G' F' : NN) (k' f' : Int), LIx kp' s' N' K' G' F' k' f' (n + 1) → V g room_1 mL lw_Z (EL g b L xs) 930 [(0, Value.ref b), (1, rf g (ad 9 0 0)), (2, rf g (ad 14 0 0)), (3, vi i)] [] (vw g kp' s') (sz kp') (caK kp') (slK kp')) : V g room_1 mL lw_Z (EL g b L xs) 144 [(0, Value.ref b), (1, rf g (ad 9 0 0)), (2, rf g (ad 14 0 0)), (3, vi i)] [] (vw g kp s) (sz kp) (caK kp) (slK kp) := by
  obtain ⟨kK, kF, kc⟩ := h.K
  obtain ⟨hs, hR, hH, hS, h8, h9, hf, hJ, h45, hG, hkp⟩ := id h
  have hI := hJ.1
  obtain ⟨b0, b1, b2, b3, b4, b5⟩ := hI.n
  have h9' : 0 ≤ s 9 0 0 0 ∧ s 9 0 0 0 ≤ 1000000 := by rw [h9]; omega
  have hcs := csK kp
  refine v_aload_n 1 dL_law_144 (nx := 145) rfl rfl ?_
  refine v_lref 0 dL_law_145 (nx := 146) rfl rfl ?_
  refine v_iload_n 3 dL_law_146 (nx := 147) rfl rfl ?_
  refine v_iconst dL_law_147 (nx := 148) rfl ?_
  refine v_iadd dL_law_148 (nx := 149) rfl ?_
  refine v_sld dL_law_149 (nx := 150) rfl hL ⟨by omega, by omega⟩ ?_
  refine v_lref 0 dL_law_150 (nx := 151) rfl rfl ?_
  refine v_iload_n 3 dL_law_151 (nx := 152) rfl rfl ?_
  refine v_iconst dL_law_152 (nx := 153) rfl ?_
  refine v_iadd dL_law_153 (nx := 154) rfl ?_
  refine v_sld dL_law_154 (nx := 155) rfl hL ⟨by omega, by omega⟩ ?_
  refine t_callViQ (a := 9) (c_X6_point hR hI hH hS h8 h9' ((xs (i + 1).toNat).toInt) (i32R _) ((xs (i + 2).toNat).toInt) (i32R _)) dL_law_155 (nx := 158) rfl kX6_point ml_L_13 (by decide) (ok_m 9 rfl) rfl rfl rfl rfl (Nat.le_of_ble_eq_true rfl) ⟨by decide, by decide⟩ hcs (fun τ hC => ?_)
  refine V.eq (mk_of hs (fun a t i h1 h2 => hC.2.2.2.2.2 a t i (Or.inl h1))) ?_
  refine v_aload_n 2 dL_law_158 (nx := 159) rfl rfl ?_
  refine v_lref 0 dL_law_159 (nx := 160) rfl rfl ?_
  refine v_iload_n 3 dL_law_160 (nx := 161) rfl rfl ?_
  refine v_iconst dL_law_161 (nx := 162) rfl ?_
  refine v_iadd dL_law_162 (nx := 163) rfl ?_
  refine v_sld dL_law_163 (nx := 164) rfl hL ⟨by omega, by omega⟩ ?_
  refine v_lref 0 dL_law_164 (nx := 165) rfl rfl ?_
  refine v_iload_n 3 dL_law_165 (nx := 166) rfl rfl ?_
  refine v_iconst dL_law_166 (nx := 167) rfl ?_
  refine v_iadd dL_law_167 (nx := 168) rfl ?_
  refine v_sld dL_law_168 (nx := 169) rfl hL ⟨by omega, by omega⟩ ?_
  refine t_callVi (a := 14) (c_X7_point hI.r ((xs (i + 1).toNat).toInt) ((xs (i + 2).toNat).toInt) (i32R _) (i32R _) b0 b1 b2 b3) dL_law_169 (nx := 172) rfl kX7_point ml_L_17 (by decide) (ok_m 14 rfl) rfl rfl rfl rfl (Nat.le_of_ble_eq_true rfl) ⟨by decide, by decide⟩ hcs ?_
  refine v_same dL_law_172 (tgt := 930) (by decide) ?_
  have hj : JN N (s_point N ((xs (i + 1).toNat).toInt) ((xs (i + 2).toNat).toInt)).2.1 := J_point hJ (i32R _)
  exact kk _ _ _ _ _ _ _ _ (h.step hC dt_point hj.1 (by have := hj.2.1; omega) (by have := hj.2.2; omega) hG kF hn)

set_option maxRecDepth 100000 in
theorem lc_belt {g : GG} {b L : Nat} {xs : Nat → Int32} {kp : Bool} {s : SS} {N K G F : NN} {k f n i : Int} (hL : L ≤ 2048) (hi : 0 ≤ i ∧ i + 4 ≤ L) (hn : 0 ≤ n ∧ n ≤ 1000) (h : LIx kp s N K G F k f n) (kk : ∀ (kp' : Bool) (s' : SS) (N' K' G' F' : NN) (k' f' : Int), LIx kp' s' N' K' G' F' k' f' (n + 1) → V g room_1 mL lw_Z (EL g b L xs) 930 [(0, Value.ref b), (1, rf g (ad 9 0 0)), (2, rf g (ad 14 0 0)), (3, vi i)] [] (vw g kp' s') (sz kp') (caK kp') (slK kp')) : V g room_1 mL lw_Z (EL g b L xs) 177 [(0, Value.ref b), (1, rf g (ad 9 0 0)), (2, rf g (ad 14 0 0)), (3, vi i)] [] (vw g kp s) (sz kp) (caK kp) (slK kp) := by
  obtain ⟨kK, kF, kc⟩ := h.K
  obtain ⟨hs, hR, hH, hS, h8, h9, hf, hJ, h45, hG, hkp⟩ := id h
  have hI := hJ.1
  obtain ⟨b0, b1, b2, b3, b4, b5⟩ := hI.n
  have h9' : 0 ≤ s 9 0 0 0 ∧ s 9 0 0 0 ≤ 1000000 := by rw [h9]; omega
  have hcs := csK kp
  refine v_aload_n 1 dL_law_177 (nx := 178) rfl rfl ?_
  refine v_lref 0 dL_law_178 (nx := 179) rfl rfl ?_
  refine v_iload_n 3 dL_law_179 (nx := 180) rfl rfl ?_
  refine v_iconst dL_law_180 (nx := 181) rfl ?_
  refine v_iadd dL_law_181 (nx := 182) rfl ?_
  refine v_sld dL_law_182 (nx := 183) rfl hL ⟨by omega, by omega⟩ ?_
  refine v_lref 0 dL_law_183 (nx := 184) rfl rfl ?_
  refine v_iload_n 3 dL_law_184 (nx := 185) rfl rfl ?_
  refine v_iconst dL_law_185 (nx := 186) rfl ?_
  refine v_iadd dL_law_186 (nx := 187) rfl ?_
  refine v_sld dL_law_187 (nx := 188) rfl hL ⟨by omega, by omega⟩ ?_
  refine v_lref 0 dL_law_188 (nx := 189) rfl rfl ?_
  refine v_iload_n 3 dL_law_189 (nx := 190) rfl rfl ?_
  refine v_iconst dL_law_190 (nx := 191) rfl ?_
  refine v_iadd dL_law_191 (nx := 192) rfl ?_
  refine v_sld dL_law_192 (nx := 193) rfl hL ⟨by omega, by omega⟩ ?_
  refine t_callViQ (a := 9) (c_X6_belt hR hI hH hS h8 h9' ((xs (i + 1).toNat).toInt) (i32R _) ((xs (i + 2).toNat).toInt) (i32R _) ((xs (i + 3).toNat).toInt) (i32R _)) dL_law_193 (nx := 196) rfl kX6_belt ml_L_18 (by decide) (ok_m 9 rfl) rfl rfl rfl rfl (Nat.le_of_ble_eq_true rfl) ⟨by decide, by decide⟩ hcs (fun τ hC => ?_)
  refine V.eq (mk_of hs (fun a t i h1 h2 => hC.2.2.2.2.2 a t i (Or.inl h1))) ?_
  refine v_aload_n 2 dL_law_196 (nx := 197) rfl rfl ?_
  refine v_lref 0 dL_law_197 (nx := 198) rfl rfl ?_
  refine v_iload_n 3 dL_law_198 (nx := 199) rfl rfl ?_
  refine v_iconst dL_law_199 (nx := 200) rfl ?_
  refine v_iadd dL_law_200 (nx := 201) rfl ?_
  refine v_sld dL_law_201 (nx := 202) rfl hL ⟨by omega, by omega⟩ ?_
  refine v_lref 0 dL_law_202 (nx := 203) rfl rfl ?_
  refine v_iload_n 3 dL_law_203 (nx := 204) rfl rfl ?_
  refine v_iconst dL_law_204 (nx := 205) rfl ?_
  refine v_iadd dL_law_205 (nx := 206) rfl ?_
  refine v_sld dL_law_206 (nx := 207) rfl hL ⟨by omega, by omega⟩ ?_
  refine v_lref 0 dL_law_207 (nx := 208) rfl rfl ?_
  refine v_iload_n 3 dL_law_208 (nx := 209) rfl rfl ?_
  refine v_iconst dL_law_209 (nx := 210) rfl ?_
  refine v_iadd dL_law_210 (nx := 211) rfl ?_
  refine v_sld dL_law_211 (nx := 212) rfl hL ⟨by omega, by omega⟩ ?_
  refine t_callVi (a := 14) (c_X7_belt hI.r ((xs (i + 1).toNat).toInt) ((xs (i + 2).toNat).toInt) ((xs (i + 3).toNat).toInt) (i32R _) (i32R _) (i32R _) b0 b1 b2 b3) dL_law_212 (nx := 215) rfl kX7_belt ml_L_22 (by decide) (ok_m 14 rfl) rfl rfl rfl rfl (Nat.le_of_ble_eq_true rfl) ⟨by decide, by decide⟩ hcs ?_
  refine v_same dL_law_215 (tgt := 930) (by decide) ?_
  have hj : JN N (s_belt N ((xs (i + 1).toNat).toInt) ((xs (i + 2).toNat).toInt) ((xs (i + 3).toNat).toInt)).2.1 := J_belt hJ
  exact kk _ _ _ _ _ _ _ _ (h.step hC dt_belt hj.1 (by have := hj.2.1; omega) (by have := hj.2.2; omega) hG kF hn)

set_option maxRecDepth 100000 in
theorem lc_as {g : GG} {b L : Nat} {xs : Nat → Int32} {kp : Bool} {s : SS} {N K G F : NN} {k f n i : Int} (hL : L ≤ 2048) (hi : 0 ≤ i ∧ i + 4 ≤ L) (hn : 0 ≤ n ∧ n ≤ 1000) (h : LIx kp s N K G F k f n) (kk : ∀ (kp' : Bool) (s' : SS) (N' K' G' F' : NN) (k' f' : Int), LIx kp' s' N' K' G' F' k' f' (n + 1) → V g room_1 mL lw_Z (EL g b L xs) 930 [(0, Value.ref b), (1, rf g (ad 9 0 0)), (2, rf g (ad 14 0 0)), (3, vi i)] [] (vw g kp' s') (sz kp') (caK kp') (slK kp')) : V g room_1 mL lw_Z (EL g b L xs) 220 [(0, Value.ref b), (1, rf g (ad 9 0 0)), (2, rf g (ad 14 0 0)), (3, vi i)] [] (vw g kp s) (sz kp) (caK kp) (slK kp) := by
  obtain ⟨kK, kF, kc⟩ := h.K
  obtain ⟨hs, hR, hH, hS, h8, h9, hf, hJ, h45, hG, hkp⟩ := id h
  have hI := hJ.1
  obtain ⟨b0, b1, b2, b3, b4, b5⟩ := hI.n
  have h9' : 0 ≤ s 9 0 0 0 ∧ s 9 0 0 0 ≤ 1000000 := by rw [h9]; omega
  have hcs := csK kp
  refine v_aload_n 1 dL_law_220 (nx := 221) rfl rfl ?_
  refine v_lref 0 dL_law_221 (nx := 222) rfl rfl ?_
  refine v_iload_n 3 dL_law_222 (nx := 223) rfl rfl ?_
  refine v_iconst dL_law_223 (nx := 224) rfl ?_
  refine v_iadd dL_law_224 (nx := 225) rfl ?_
  refine v_sld dL_law_225 (nx := 226) rfl hL ⟨by omega, by omega⟩ ?_
  refine v_lref 0 dL_law_226 (nx := 227) rfl rfl ?_
  refine v_iload_n 3 dL_law_227 (nx := 228) rfl rfl ?_
  refine v_iconst dL_law_228 (nx := 229) rfl ?_
  refine v_iadd dL_law_229 (nx := 230) rfl ?_
  refine v_sld dL_law_230 (nx := 231) rfl hL ⟨by omega, by omega⟩ ?_
  refine t_callVi (a := 9) (c_X6_as hR hI hH ((xs (i + 1).toNat).toInt) (i32R _) ((xs (i + 2).toNat).toInt) (i32R _)) dL_law_231 (nx := 234) rfl kX6_as ml_L_23 (by decide) (ok_m 9 rfl) rfl rfl rfl rfl (Nat.le_of_ble_eq_true rfl) ⟨by decide, by decide⟩ hcs ?_
  refine V.eq (mk_of hs (fun a t i h1 h2 => fd_o (by omega))) ?_
  refine v_aload_n 2 dL_law_234 (nx := 235) rfl rfl ?_
  refine v_lref 0 dL_law_235 (nx := 236) rfl rfl ?_
  refine v_iload_n 3 dL_law_236 (nx := 237) rfl rfl ?_
  refine v_iconst dL_law_237 (nx := 238) rfl ?_
  refine v_iadd dL_law_238 (nx := 239) rfl ?_
  refine v_sld dL_law_239 (nx := 240) rfl hL ⟨by omega, by omega⟩ ?_
  refine v_lref 0 dL_law_240 (nx := 241) rfl rfl ?_
  refine v_iload_n 3 dL_law_241 (nx := 242) rfl rfl ?_
  refine v_iconst dL_law_242 (nx := 243) rfl ?_
  refine v_iadd dL_law_243 (nx := 244) rfl ?_
  refine v_sld dL_law_244 (nx := 245) rfl hL ⟨by omega, by omega⟩ ?_
  refine t_callVi (a := 14) (c_X7_as hI.r ((xs (i + 1).toNat).toInt) ((xs (i + 2).toNat).toInt) (i32R _) (i32R _) b0 b1 b2 b3) dL_law_245 (nx := 248) rfl kX7_as ml_L_26 (by decide) (ok_m 14 rfl) rfl rfl rfl rfl (Nat.le_of_ble_eq_true rfl) ⟨by decide, by decide⟩ hcs ?_
  refine v_same dL_law_248 (tgt := 930) (by decide) ?_
  exact kk _ _ _ _ _ _ _ _ (h.step (τ := fd s (s_as N ((xs (i + 1).toNat).toInt) ((xs (i + 2).toNat).toInt)).2.2) (M := (s_as N ((xs (i + 1).toNat).toInt) ((xs (i + 2).toNat).toInt)).2.1) (df := (s_as N ((xs (i + 1).toNat).toInt) ((xs (i + 2).toNat).toInt)).2.2) (by rw [rd_as.1]; exact CR.f1 hR hH hS h8 h9' rd_as.2) rd_as.2 (by rw [rd_as.1]; exact hJ) (by rw [rd_as.1]; omega) (by rw [rd_as.1]; omega) hG kF hn)

set_option maxRecDepth 100000 in
theorem lc_turns {g : GG} {b L : Nat} {xs : Nat → Int32} {kp : Bool} {s : SS} {N K G F : NN} {k f n i : Int} (hL : L ≤ 2048) (hi : 0 ≤ i ∧ i + 4 ≤ L) (hn : 0 ≤ n ∧ n ≤ 1000) (h : LIx kp s N K G F k f n) (kk : ∀ (kp' : Bool) (s' : SS) (N' K' G' F' : NN) (k' f' : Int), LIx kp' s' N' K' G' F' k' f' (n + 1) → V g room_1 mL lw_Z (EL g b L xs) 930 [(0, Value.ref b), (1, rf g (ad 9 0 0)), (2, rf g (ad 14 0 0)), (3, vi i)] [] (vw g kp' s') (sz kp') (caK kp') (slK kp')) : V g room_1 mL lw_Z (EL g b L xs) 253 [(0, Value.ref b), (1, rf g (ad 9 0 0)), (2, rf g (ad 14 0 0)), (3, vi i)] [] (vw g kp s) (sz kp) (caK kp) (slK kp) := by
  obtain ⟨kK, kF, kc⟩ := h.K
  obtain ⟨hs, hR, hH, hS, h8, h9, hf, hJ, h45, hG, hkp⟩ := id h
  have hI := hJ.1
  obtain ⟨b0, b1, b2, b3, b4, b5⟩ := hI.n
  have h9' : 0 ≤ s 9 0 0 0 ∧ s 9 0 0 0 ≤ 1000000 := by rw [h9]; omega
  have hcs := csK kp
  refine v_aload_n 1 dL_law_253 (nx := 254) rfl rfl ?_
  refine v_lref 0 dL_law_254 (nx := 255) rfl rfl ?_
  refine v_iload_n 3 dL_law_255 (nx := 256) rfl rfl ?_
  refine v_iconst dL_law_256 (nx := 257) rfl ?_
  refine v_iadd dL_law_257 (nx := 258) rfl ?_
  refine v_sld dL_law_258 (nx := 259) rfl hL ⟨by omega, by omega⟩ ?_
  refine v_lref 0 dL_law_259 (nx := 260) rfl rfl ?_
  refine v_iload_n 3 dL_law_260 (nx := 261) rfl rfl ?_
  refine v_iconst dL_law_261 (nx := 262) rfl ?_
  refine v_iadd dL_law_262 (nx := 263) rfl ?_
  refine v_sld dL_law_263 (nx := 264) rfl hL ⟨by omega, by omega⟩ ?_
  refine t_callViQ (a := 9) (c_X6_turns hR hI hH hS h8 h9' ((xs (i + 1).toNat).toInt) (i32R _) ((xs (i + 2).toNat).toInt) (i32R _)) dL_law_264 (nx := 267) rfl kX6_turns ml_L_27 (by decide) (ok_m 9 rfl) rfl rfl rfl rfl (Nat.le_of_ble_eq_true rfl) ⟨by decide, by decide⟩ hcs (fun τ hC => ?_)
  refine V.eq (mk_of hs (fun a t i h1 h2 => hC.2.2.2.2.2 a t i (Or.inl h1))) ?_
  refine v_aload_n 2 dL_law_267 (nx := 268) rfl rfl ?_
  refine v_lref 0 dL_law_268 (nx := 269) rfl rfl ?_
  refine v_iload_n 3 dL_law_269 (nx := 270) rfl rfl ?_
  refine v_iconst dL_law_270 (nx := 271) rfl ?_
  refine v_iadd dL_law_271 (nx := 272) rfl ?_
  refine v_sld dL_law_272 (nx := 273) rfl hL ⟨by omega, by omega⟩ ?_
  refine v_lref 0 dL_law_273 (nx := 274) rfl rfl ?_
  refine v_iload_n 3 dL_law_274 (nx := 275) rfl rfl ?_
  refine v_iconst dL_law_275 (nx := 276) rfl ?_
  refine v_iadd dL_law_276 (nx := 277) rfl ?_
  refine v_sld dL_law_277 (nx := 278) rfl hL ⟨by omega, by omega⟩ ?_
  refine t_callVi (a := 14) (c_X7_turns hI.r ((xs (i + 1).toNat).toInt) ((xs (i + 2).toNat).toInt) (i32R _) (i32R _) b0 b1 b2 b3 (fun b y0 y1 => by have := (hI.b y0 y1).2.1; omega)) dL_law_278 (nx := 281) rfl kX7_turns ml_L_30 (by decide) (ok_m 14 rfl) rfl rfl rfl rfl (Nat.le_of_ble_eq_true rfl) ⟨by decide, by decide⟩ hcs ?_
  refine v_same dL_law_281 (tgt := 930) (by decide) ?_
  have hj : JN N (s_turns N ((xs (i + 1).toNat).toInt) ((xs (i + 2).toNat).toInt)).2.1 := J_turns hJ
  exact kk _ _ _ _ _ _ _ _ (h.step hC dt_turns hj.1 (by have := hj.2.1; omega) (by have := hj.2.2; omega) hG kF hn)

set_option maxRecDepth 100000 in
theorem lc_flight {g : GG} {b L : Nat} {xs : Nat → Int32} {kp : Bool} {s : SS} {N K G F : NN} {k f n i : Int} (hL : L ≤ 2048) (hi : 0 ≤ i ∧ i + 4 ≤ L) (hn : 0 ≤ n ∧ n ≤ 1000) (h : LIx kp s N K G F k f n) (kk : ∀ (kp' : Bool) (s' : SS) (N' K' G' F' : NN) (k' f' : Int), LIx kp' s' N' K' G' F' k' f' (n + 1) → V g room_1 mL lw_Z (EL g b L xs) 930 [(0, Value.ref b), (1, rf g (ad 9 0 0)), (2, rf g (ad 14 0 0)), (3, vi i)] [] (vw g kp' s') (sz kp') (caK kp') (slK kp')) : V g room_1 mL lw_Z (EL g b L xs) 286 [(0, Value.ref b), (1, rf g (ad 9 0 0)), (2, rf g (ad 14 0 0)), (3, vi i)] [] (vw g kp s) (sz kp) (caK kp) (slK kp) := by
  obtain ⟨kK, kF, kc⟩ := h.K
  obtain ⟨hs, hR, hH, hS, h8, h9, hf, hJ, h45, hG, hkp⟩ := id h
  have hI := hJ.1
  obtain ⟨b0, b1, b2, b3, b4, b5⟩ := hI.n
  have h9' : 0 ≤ s 9 0 0 0 ∧ s 9 0 0 0 ≤ 1000000 := by rw [h9]; omega
  have hcs := csK kp
  refine v_aload_n 1 dL_law_286 (nx := 287) rfl rfl ?_
  refine v_lref 0 dL_law_287 (nx := 288) rfl rfl ?_
  refine v_iload_n 3 dL_law_288 (nx := 289) rfl rfl ?_
  refine v_iconst dL_law_289 (nx := 290) rfl ?_
  refine v_iadd dL_law_290 (nx := 291) rfl ?_
  refine v_sld dL_law_291 (nx := 292) rfl hL ⟨by omega, by omega⟩ ?_
  refine v_lref 0 dL_law_292 (nx := 293) rfl rfl ?_
  refine v_iload_n 3 dL_law_293 (nx := 294) rfl rfl ?_
  refine v_iconst dL_law_294 (nx := 295) rfl ?_
  refine v_iadd dL_law_295 (nx := 296) rfl ?_
  refine v_sld dL_law_296 (nx := 297) rfl hL ⟨by omega, by omega⟩ ?_
  refine v_lref 0 dL_law_297 (nx := 298) rfl rfl ?_
  refine v_iload_n 3 dL_law_298 (nx := 299) rfl rfl ?_
  refine v_iconst dL_law_299 (nx := 300) rfl ?_
  refine v_iadd dL_law_300 (nx := 301) rfl ?_
  refine v_sld dL_law_301 (nx := 302) rfl hL ⟨by omega, by omega⟩ ?_
  refine t_callViQ (a := 9) (c_X6_flight hR hI hH hS h8 h9' ((xs (i + 1).toNat).toInt) (i32R _) ((xs (i + 2).toNat).toInt) (i32R _) ((xs (i + 3).toNat).toInt) (i32R _)) dL_law_302 (nx := 305) rfl kX6_flight ml_L_31 (by decide) (ok_m 9 rfl) rfl rfl rfl rfl (Nat.le_of_ble_eq_true rfl) ⟨by decide, by decide⟩ hcs (fun τ hC => ?_)
  refine V.eq (mk_of hs (fun a t i h1 h2 => hC.2.2.2.2.2 a t i (Or.inl h1))) ?_
  refine v_aload_n 2 dL_law_305 (nx := 306) rfl rfl ?_
  refine v_lref 0 dL_law_306 (nx := 307) rfl rfl ?_
  refine v_iload_n 3 dL_law_307 (nx := 308) rfl rfl ?_
  refine v_iconst dL_law_308 (nx := 309) rfl ?_
  refine v_iadd dL_law_309 (nx := 310) rfl ?_
  refine v_sld dL_law_310 (nx := 311) rfl hL ⟨by omega, by omega⟩ ?_
  refine v_lref 0 dL_law_311 (nx := 312) rfl rfl ?_
  refine v_iload_n 3 dL_law_312 (nx := 313) rfl rfl ?_
  refine v_iconst dL_law_313 (nx := 314) rfl ?_
  refine v_iadd dL_law_314 (nx := 315) rfl ?_
  refine v_sld dL_law_315 (nx := 316) rfl hL ⟨by omega, by omega⟩ ?_
  refine v_lref 0 dL_law_316 (nx := 317) rfl rfl ?_
  refine v_iload_n 3 dL_law_317 (nx := 318) rfl rfl ?_
  refine v_iconst dL_law_318 (nx := 319) rfl ?_
  refine v_iadd dL_law_319 (nx := 320) rfl ?_
  refine v_sld dL_law_320 (nx := 321) rfl hL ⟨by omega, by omega⟩ ?_
  refine t_callVi (a := 14) (c_X7_flight hI.r ((xs (i + 1).toNat).toInt) ((xs (i + 2).toNat).toInt) ((xs (i + 3).toNat).toInt) (i32R _) (i32R _) (i32R _) b0 b1 b2 b3) dL_law_321 (nx := 324) rfl kX7_flight ml_L_34 (by decide) (ok_m 14 rfl) rfl rfl rfl rfl (Nat.le_of_ble_eq_true rfl) ⟨by decide, by decide⟩ hcs ?_
  refine v_same dL_law_324 (tgt := 930) (by decide) ?_
  have hj : JN N (s_flight N ((xs (i + 1).toNat).toInt) ((xs (i + 2).toNat).toInt) ((xs (i + 3).toNat).toInt)).2.1 := J_flight hJ
  exact kk _ _ _ _ _ _ _ _ (h.step hC dt_flight hj.1 (by have := hj.2.1; omega) (by have := hj.2.2; omega) hG kF hn)

set_option maxRecDepth 100000 in
theorem lc_fall {g : GG} {b L : Nat} {xs : Nat → Int32} {kp : Bool} {s : SS} {N K G F : NN} {k f n i : Int} (hL : L ≤ 2048) (hi : 0 ≤ i ∧ i + 4 ≤ L) (hn : 0 ≤ n ∧ n ≤ 1000) (h : LIx kp s N K G F k f n) (kk : ∀ (kp' : Bool) (s' : SS) (N' K' G' F' : NN) (k' f' : Int), LIx kp' s' N' K' G' F' k' f' (n + 1) → V g room_1 mL lw_Z (EL g b L xs) 930 [(0, Value.ref b), (1, rf g (ad 9 0 0)), (2, rf g (ad 14 0 0)), (3, vi i)] [] (vw g kp' s') (sz kp') (caK kp') (slK kp')) : V g room_1 mL lw_Z (EL g b L xs) 329 [(0, Value.ref b), (1, rf g (ad 9 0 0)), (2, rf g (ad 14 0 0)), (3, vi i)] [] (vw g kp s) (sz kp) (caK kp) (slK kp) := by
  obtain ⟨kK, kF, kc⟩ := h.K
  obtain ⟨hs, hR, hH, hS, h8, h9, hf, hJ, h45, hG, hkp⟩ := id h
  have hI := hJ.1
  obtain ⟨b0, b1, b2, b3, b4, b5⟩ := hI.n
  have h9' : 0 ≤ s 9 0 0 0 ∧ s 9 0 0 0 ≤ 1000000 := by rw [h9]; omega
  have hcs := csK kp
  refine v_aload_n 1 dL_law_329 (nx := 330) rfl rfl ?_
  refine v_lref 0 dL_law_330 (nx := 331) rfl rfl ?_
  refine v_iload_n 3 dL_law_331 (nx := 332) rfl rfl ?_
  refine v_iconst dL_law_332 (nx := 333) rfl ?_
  refine v_iadd dL_law_333 (nx := 334) rfl ?_
  refine v_sld dL_law_334 (nx := 335) rfl hL ⟨by omega, by omega⟩ ?_
  refine v_lref 0 dL_law_335 (nx := 336) rfl rfl ?_
  refine v_iload_n 3 dL_law_336 (nx := 337) rfl rfl ?_
  refine v_iconst dL_law_337 (nx := 338) rfl ?_
  refine v_iadd dL_law_338 (nx := 339) rfl ?_
  refine v_sld dL_law_339 (nx := 340) rfl hL ⟨by omega, by omega⟩ ?_
  refine v_if_eq dL_law_340 (tgt := 347) (by decide) (nx := 343) rfl (i32R _) (fun c340 => ?_) (fun c340 => ?_)
  · refine v_iconst dL_law_347 (nx := 348) rfl ?_
    refine t_callViQ (a := 9) (c_X6_fall hR hI hH hS h8 h9' ((xs (i + 1).toNat).toInt) (i32R _) 0 ⟨by decide, by decide⟩ (by first | exact Or.inl rfl | exact Or.inr rfl)) dL_law_348 (nx := 351) rfl kX6_fall ml_L_35 (by decide) (ok_m 9 rfl) rfl rfl rfl rfl (Nat.le_of_ble_eq_true rfl) ⟨by decide, by decide⟩ hcs (fun τ hC => ?_)
    refine V.eq (mk_of hs (fun a t i h1 h2 => hC.2.2.2.2.2 a t i (Or.inl h1))) ?_
    refine v_aload_n 2 dL_law_351 (nx := 352) rfl rfl ?_
    refine v_lref 0 dL_law_352 (nx := 353) rfl rfl ?_
    refine v_iload_n 3 dL_law_353 (nx := 354) rfl rfl ?_
    refine v_iconst dL_law_354 (nx := 355) rfl ?_
    refine v_iadd dL_law_355 (nx := 356) rfl ?_
    refine v_sld dL_law_356 (nx := 357) rfl hL ⟨by omega, by omega⟩ ?_
    refine v_lref 0 dL_law_357 (nx := 358) rfl rfl ?_
    refine v_iload_n 3 dL_law_358 (nx := 359) rfl rfl ?_
    refine v_iconst dL_law_359 (nx := 360) rfl ?_
    refine v_iadd dL_law_360 (nx := 361) rfl ?_
    refine v_sld dL_law_361 (nx := 362) rfl hL ⟨by omega, by omega⟩ ?_
    refine v_if_eq dL_law_362 (tgt := 369) (by decide) (nx := 365) rfl (i32R _) (fun c362 => ?_) (fun c362 => ?_)
    · refine v_iconst dL_law_369 (nx := 370) rfl ?_
      refine t_callVi (a := 14) (c_X7_fall hI.r ((xs (i + 1).toNat).toInt) 0 (i32R _) ⟨by decide, by decide⟩ b0 b1 b2 b3 (by first | exact Or.inl rfl | exact Or.inr rfl)) dL_law_370 (nx := 373) rfl kX7_fall ml_L_39 (by decide) (ok_m 14 rfl) rfl rfl rfl rfl (Nat.le_of_ble_eq_true rfl) ⟨by decide, by decide⟩ hcs ?_
      refine v_same dL_law_373 (tgt := 930) (by decide) ?_
      have hj : JN N (s_fall N ((xs (i + 1).toNat).toInt) 0).2.1 := J_fall hJ (by first | exact Or.inl rfl | exact Or.inr rfl)
      exact kk _ _ _ _ _ _ _ _ (h.step hC dt_fall hj.1 (by have := hj.2.1; omega) (by have := hj.2.2; omega) hG kF hn)
    · exact absurd c340 c362
  · refine v_iconst dL_law_343 (nx := 344) rfl ?_
    refine v_goto dL_law_344 (tgt := 348) (by decide) ?_
    refine t_callViQ (a := 9) (c_X6_fall hR hI hH hS h8 h9' ((xs (i + 1).toNat).toInt) (i32R _) 1 ⟨by decide, by decide⟩ (by first | exact Or.inl rfl | exact Or.inr rfl)) dL_law_348 (nx := 351) rfl kX6_fall ml_L_35 (by decide) (ok_m 9 rfl) rfl rfl rfl rfl (Nat.le_of_ble_eq_true rfl) ⟨by decide, by decide⟩ hcs (fun τ hC => ?_)
    refine V.eq (mk_of hs (fun a t i h1 h2 => hC.2.2.2.2.2 a t i (Or.inl h1))) ?_
    refine v_aload_n 2 dL_law_351 (nx := 352) rfl rfl ?_
    refine v_lref 0 dL_law_352 (nx := 353) rfl rfl ?_
    refine v_iload_n 3 dL_law_353 (nx := 354) rfl rfl ?_
    refine v_iconst dL_law_354 (nx := 355) rfl ?_
    refine v_iadd dL_law_355 (nx := 356) rfl ?_
    refine v_sld dL_law_356 (nx := 357) rfl hL ⟨by omega, by omega⟩ ?_
    refine v_lref 0 dL_law_357 (nx := 358) rfl rfl ?_
    refine v_iload_n 3 dL_law_358 (nx := 359) rfl rfl ?_
    refine v_iconst dL_law_359 (nx := 360) rfl ?_
    refine v_iadd dL_law_360 (nx := 361) rfl ?_
    refine v_sld dL_law_361 (nx := 362) rfl hL ⟨by omega, by omega⟩ ?_
    refine v_if_eq dL_law_362 (tgt := 369) (by decide) (nx := 365) rfl (i32R _) (fun c362 => ?_) (fun c362 => ?_)
    · exact absurd c362 c340
    · refine v_iconst dL_law_365 (nx := 366) rfl ?_
      refine v_goto dL_law_366 (tgt := 370) (by decide) ?_
      refine t_callVi (a := 14) (c_X7_fall hI.r ((xs (i + 1).toNat).toInt) 1 (i32R _) ⟨by decide, by decide⟩ b0 b1 b2 b3 (by first | exact Or.inl rfl | exact Or.inr rfl)) dL_law_370 (nx := 373) rfl kX7_fall ml_L_39 (by decide) (ok_m 14 rfl) rfl rfl rfl rfl (Nat.le_of_ble_eq_true rfl) ⟨by decide, by decide⟩ hcs ?_
      refine v_same dL_law_373 (tgt := 930) (by decide) ?_
      have hj : JN N (s_fall N ((xs (i + 1).toNat).toInt) 1).2.1 := J_fall hJ (by first | exact Or.inl rfl | exact Or.inr rfl)
      exact kk _ _ _ _ _ _ _ _ (h.step hC dt_fall hj.1 (by have := hj.2.1; omega) (by have := hj.2.2; omega) hG kF hn)

set_option maxRecDepth 100000 in
theorem lc_bag {g : GG} {b L : Nat} {xs : Nat → Int32} {kp : Bool} {s : SS} {N K G F : NN} {k f n i : Int} (hL : L ≤ 2048) (hi : 0 ≤ i ∧ i + 4 ≤ L) (hn : 0 ≤ n ∧ n ≤ 1000) (h : LIx kp s N K G F k f n) (kk : ∀ (kp' : Bool) (s' : SS) (N' K' G' F' : NN) (k' f' : Int), LIx kp' s' N' K' G' F' k' f' (n + 1) → V g room_1 mL lw_Z (EL g b L xs) 930 [(0, Value.ref b), (1, rf g (ad 9 0 0)), (2, rf g (ad 14 0 0)), (3, vi i)] [] (vw g kp' s') (sz kp') (caK kp') (slK kp')) : V g room_1 mL lw_Z (EL g b L xs) 378 [(0, Value.ref b), (1, rf g (ad 9 0 0)), (2, rf g (ad 14 0 0)), (3, vi i)] [] (vw g kp s) (sz kp) (caK kp) (slK kp) := by
  obtain ⟨kK, kF, kc⟩ := h.K
  obtain ⟨hs, hR, hH, hS, h8, h9, hf, hJ, h45, hG, hkp⟩ := id h
  have hI := hJ.1
  obtain ⟨b0, b1, b2, b3, b4, b5⟩ := hI.n
  have h9' : 0 ≤ s 9 0 0 0 ∧ s 9 0 0 0 ≤ 1000000 := by rw [h9]; omega
  have hcs := csK kp
  refine v_aload_n 1 dL_law_378 (nx := 379) rfl rfl ?_
  refine v_lref 0 dL_law_379 (nx := 380) rfl rfl ?_
  refine v_iload_n 3 dL_law_380 (nx := 381) rfl rfl ?_
  refine v_iconst dL_law_381 (nx := 382) rfl ?_
  refine v_iadd dL_law_382 (nx := 383) rfl ?_
  refine v_sld dL_law_383 (nx := 384) rfl hL ⟨by omega, by omega⟩ ?_
  refine v_lref 0 dL_law_384 (nx := 385) rfl rfl ?_
  refine v_iload_n 3 dL_law_385 (nx := 386) rfl rfl ?_
  refine v_iconst dL_law_386 (nx := 387) rfl ?_
  refine v_iadd dL_law_387 (nx := 388) rfl ?_
  refine v_sld dL_law_388 (nx := 389) rfl hL ⟨by omega, by omega⟩ ?_
  refine v_lref 0 dL_law_389 (nx := 390) rfl rfl ?_
  refine v_iload_n 3 dL_law_390 (nx := 391) rfl rfl ?_
  refine v_iconst dL_law_391 (nx := 392) rfl ?_
  refine v_iadd dL_law_392 (nx := 393) rfl ?_
  refine v_sld dL_law_393 (nx := 394) rfl hL ⟨by omega, by omega⟩ ?_
  refine v_if_eq dL_law_394 (tgt := 401) (by decide) (nx := 397) rfl (i32R _) (fun c394 => ?_) (fun c394 => ?_)
  · refine v_iconst dL_law_401 (nx := 402) rfl ?_
    refine t_callViQ (a := 9) (c_X6_bag hR hI hH hS h8 h9' ((xs (i + 1).toNat).toInt) (i32R _) ((xs (i + 2).toNat).toInt) (i32R _) 0 ⟨by decide, by decide⟩ (by first | exact Or.inl rfl | exact Or.inr rfl) (by omega)) dL_law_402 (nx := 405) rfl kX6_bag ml_L_40 (by decide) (ok_m 9 rfl) rfl rfl rfl rfl (Nat.le_of_ble_eq_true rfl) ⟨by decide, by decide⟩ hcs (fun τ hC => ?_)
    refine V.eq (mk_of hs (fun a t i h1 h2 => hC.2.2.2.2.2 a t i (Or.inl h1))) ?_
    refine v_aload_n 2 dL_law_405 (nx := 406) rfl rfl ?_
    refine v_lref 0 dL_law_406 (nx := 407) rfl rfl ?_
    refine v_iload_n 3 dL_law_407 (nx := 408) rfl rfl ?_
    refine v_iconst dL_law_408 (nx := 409) rfl ?_
    refine v_iadd dL_law_409 (nx := 410) rfl ?_
    refine v_sld dL_law_410 (nx := 411) rfl hL ⟨by omega, by omega⟩ ?_
    refine v_lref 0 dL_law_411 (nx := 412) rfl rfl ?_
    refine v_iload_n 3 dL_law_412 (nx := 413) rfl rfl ?_
    refine v_iconst dL_law_413 (nx := 414) rfl ?_
    refine v_iadd dL_law_414 (nx := 415) rfl ?_
    refine v_sld dL_law_415 (nx := 416) rfl hL ⟨by omega, by omega⟩ ?_
    refine v_lref 0 dL_law_416 (nx := 417) rfl rfl ?_
    refine v_iload_n 3 dL_law_417 (nx := 418) rfl rfl ?_
    refine v_iconst dL_law_418 (nx := 419) rfl ?_
    refine v_iadd dL_law_419 (nx := 420) rfl ?_
    refine v_sld dL_law_420 (nx := 421) rfl hL ⟨by omega, by omega⟩ ?_
    refine v_if_eq dL_law_421 (tgt := 428) (by decide) (nx := 424) rfl (i32R _) (fun c421 => ?_) (fun c421 => ?_)
    · refine v_iconst dL_law_428 (nx := 429) rfl ?_
      refine t_callVi (a := 14) (c_X7_bag hI.r ((xs (i + 1).toNat).toInt) ((xs (i + 2).toNat).toInt) 0 (i32R _) (i32R _) ⟨by decide, by decide⟩ b0 b1 b2 b3 (by first | exact Or.inl rfl | exact Or.inr rfl)) dL_law_429 (nx := 432) rfl kX7_bag ml_L_44 (by decide) (ok_m 14 rfl) rfl rfl rfl rfl (Nat.le_of_ble_eq_true rfl) ⟨by decide, by decide⟩ hcs ?_
      refine v_same dL_law_432 (tgt := 930) (by decide) ?_
      have hj : JN N (s_bag N ((xs (i + 1).toNat).toInt) ((xs (i + 2).toNat).toInt) 0).2.1 := J_bag hJ (by omega) (by first | exact Or.inl rfl | exact Or.inr rfl)
      exact kk _ _ _ _ _ _ _ _ (h.step hC dt_bag hj.1 (by have := hj.2.1; omega) (by have := hj.2.2; omega) hG kF hn)
    · exact absurd c394 c421
  · refine v_iconst dL_law_397 (nx := 398) rfl ?_
    refine v_goto dL_law_398 (tgt := 402) (by decide) ?_
    refine t_callViQ (a := 9) (c_X6_bag hR hI hH hS h8 h9' ((xs (i + 1).toNat).toInt) (i32R _) ((xs (i + 2).toNat).toInt) (i32R _) 1 ⟨by decide, by decide⟩ (by first | exact Or.inl rfl | exact Or.inr rfl) (by omega)) dL_law_402 (nx := 405) rfl kX6_bag ml_L_40 (by decide) (ok_m 9 rfl) rfl rfl rfl rfl (Nat.le_of_ble_eq_true rfl) ⟨by decide, by decide⟩ hcs (fun τ hC => ?_)
    refine V.eq (mk_of hs (fun a t i h1 h2 => hC.2.2.2.2.2 a t i (Or.inl h1))) ?_
    refine v_aload_n 2 dL_law_405 (nx := 406) rfl rfl ?_
    refine v_lref 0 dL_law_406 (nx := 407) rfl rfl ?_
    refine v_iload_n 3 dL_law_407 (nx := 408) rfl rfl ?_
    refine v_iconst dL_law_408 (nx := 409) rfl ?_
    refine v_iadd dL_law_409 (nx := 410) rfl ?_
    refine v_sld dL_law_410 (nx := 411) rfl hL ⟨by omega, by omega⟩ ?_
    refine v_lref 0 dL_law_411 (nx := 412) rfl rfl ?_
    refine v_iload_n 3 dL_law_412 (nx := 413) rfl rfl ?_
    refine v_iconst dL_law_413 (nx := 414) rfl ?_
    refine v_iadd dL_law_414 (nx := 415) rfl ?_
    refine v_sld dL_law_415 (nx := 416) rfl hL ⟨by omega, by omega⟩ ?_
    refine v_lref 0 dL_law_416 (nx := 417) rfl rfl ?_
    refine v_iload_n 3 dL_law_417 (nx := 418) rfl rfl ?_
    refine v_iconst dL_law_418 (nx := 419) rfl ?_
    refine v_iadd dL_law_419 (nx := 420) rfl ?_
    refine v_sld dL_law_420 (nx := 421) rfl hL ⟨by omega, by omega⟩ ?_
    refine v_if_eq dL_law_421 (tgt := 428) (by decide) (nx := 424) rfl (i32R _) (fun c421 => ?_) (fun c421 => ?_)
    · exact absurd c421 c394
    · refine v_iconst dL_law_424 (nx := 425) rfl ?_
      refine v_goto dL_law_425 (tgt := 429) (by decide) ?_
      refine t_callVi (a := 14) (c_X7_bag hI.r ((xs (i + 1).toNat).toInt) ((xs (i + 2).toNat).toInt) 1 (i32R _) (i32R _) ⟨by decide, by decide⟩ b0 b1 b2 b3 (by first | exact Or.inl rfl | exact Or.inr rfl)) dL_law_429 (nx := 432) rfl kX7_bag ml_L_44 (by decide) (ok_m 14 rfl) rfl rfl rfl rfl (Nat.le_of_ble_eq_true rfl) ⟨by decide, by decide⟩ hcs ?_
      refine v_same dL_law_432 (tgt := 930) (by decide) ?_
      have hj : JN N (s_bag N ((xs (i + 1).toNat).toInt) ((xs (i + 2).toNat).toInt) 1).2.1 := J_bag hJ (by omega) (by first | exact Or.inl rfl | exact Or.inr rfl)
      exact kk _ _ _ _ _ _ _ _ (h.step hC dt_bag hj.1 (by have := hj.2.1; omega) (by have := hj.2.2; omega) hG kF hn)

set_option maxRecDepth 100000 in
theorem lc_take {g : GG} {b L : Nat} {xs : Nat → Int32} {kp : Bool} {s : SS} {N K G F : NN} {k f n i : Int} (hL : L ≤ 2048) (hi : 0 ≤ i ∧ i + 4 ≤ L) (hn : 0 ≤ n ∧ n ≤ 1000) (h : LIx kp s N K G F k f n) (kk : ∀ (kp' : Bool) (s' : SS) (N' K' G' F' : NN) (k' f' : Int), LIx kp' s' N' K' G' F' k' f' (n + 1) → V g room_1 mL lw_Z (EL g b L xs) 930 [(0, Value.ref b), (1, rf g (ad 9 0 0)), (2, rf g (ad 14 0 0)), (3, vi i)] [] (vw g kp' s') (sz kp') (caK kp') (slK kp')) : V g room_1 mL lw_Z (EL g b L xs) 437 [(0, Value.ref b), (1, rf g (ad 9 0 0)), (2, rf g (ad 14 0 0)), (3, vi i)] [] (vw g kp s) (sz kp) (caK kp) (slK kp) := by
  obtain ⟨kK, kF, kc⟩ := h.K
  obtain ⟨hs, hR, hH, hS, h8, h9, hf, hJ, h45, hG, hkp⟩ := id h
  have hI := hJ.1
  obtain ⟨b0, b1, b2, b3, b4, b5⟩ := hI.n
  have h9' : 0 ≤ s 9 0 0 0 ∧ s 9 0 0 0 ≤ 1000000 := by rw [h9]; omega
  have hcs := csK kp
  refine v_aload_n 1 dL_law_437 (nx := 438) rfl rfl ?_
  refine v_lref 0 dL_law_438 (nx := 439) rfl rfl ?_
  refine v_iload_n 3 dL_law_439 (nx := 440) rfl rfl ?_
  refine v_iconst dL_law_440 (nx := 441) rfl ?_
  refine v_iadd dL_law_441 (nx := 442) rfl ?_
  refine v_sld dL_law_442 (nx := 443) rfl hL ⟨by omega, by omega⟩ ?_
  refine t_callViQ (a := 9) (c_X6_take hR hI hH hS h8 h9' ((xs (i + 1).toNat).toInt) (i32R _)) dL_law_443 (nx := 446) rfl kX6_take ml_L_45 (by decide) (ok_m 9 rfl) rfl rfl rfl rfl (Nat.le_of_ble_eq_true rfl) ⟨by decide, by decide⟩ hcs (fun τ hC => ?_)
  refine V.eq (mk_of hs (fun a t i h1 h2 => hC.2.2.2.2.2 a t i (Or.inl h1))) ?_
  refine v_aload_n 2 dL_law_446 (nx := 447) rfl rfl ?_
  refine v_lref 0 dL_law_447 (nx := 448) rfl rfl ?_
  refine v_iload_n 3 dL_law_448 (nx := 449) rfl rfl ?_
  refine v_iconst dL_law_449 (nx := 450) rfl ?_
  refine v_iadd dL_law_450 (nx := 451) rfl ?_
  refine v_sld dL_law_451 (nx := 452) rfl hL ⟨by omega, by omega⟩ ?_
  refine t_callVi (a := 14) (c_X7_take hI.r ((xs (i + 1).toNat).toInt) (i32R _) b0 b1 b2 b3 (fun x y0 y1 hw => by obtain ⟨-, -, -, w⟩ := hI.g y0 y1; unfold wI at w; (have l := fun z0 z1 => (hI.b (b := N (544 + x)) z0 z1).2.2.1); (have w2 : (0 ≤ N (544 + x) ∧ N (544 + x) < N 1) ∧ 0 ≤ N (604 + x) ∧ N (604 + x) < N (100 + N (544 + x)) := by omega); (have l2 := l w2.1.1 w2.1.2); omega) (fun x y0 y1 hw => by obtain ⟨-, -, -, w⟩ := hI.g y0 y1; unfold wI at w; omega)) dL_law_452 (nx := 455) rfl kX7_take ml_L_49 (by decide) (ok_m 14 rfl) rfl rfl rfl rfl (Nat.le_of_ble_eq_true rfl) ⟨by decide, by decide⟩ hcs ?_
  refine v_same dL_law_455 (tgt := 930) (by decide) ?_
  have hj : JN N (s_take N ((xs (i + 1).toNat).toInt)).2.1 := J_take hJ hH
  exact kk _ _ _ _ _ _ _ _ (h.step hC dt_take hj.1 (by have := hj.2.1; omega) (by have := hj.2.2; omega) hG kF hn)

set_option maxRecDepth 100000 in
theorem lc_give {g : GG} {b L : Nat} {xs : Nat → Int32} {kp : Bool} {s : SS} {N K G F : NN} {k f n i : Int} (hL : L ≤ 2048) (hi : 0 ≤ i ∧ i + 4 ≤ L) (hn : 0 ≤ n ∧ n ≤ 1000) (h : LIx kp s N K G F k f n) (kk : ∀ (kp' : Bool) (s' : SS) (N' K' G' F' : NN) (k' f' : Int), LIx kp' s' N' K' G' F' k' f' (n + 1) → V g room_1 mL lw_Z (EL g b L xs) 930 [(0, Value.ref b), (1, rf g (ad 9 0 0)), (2, rf g (ad 14 0 0)), (3, vi i)] [] (vw g kp' s') (sz kp') (caK kp') (slK kp')) : V g room_1 mL lw_Z (EL g b L xs) 460 [(0, Value.ref b), (1, rf g (ad 9 0 0)), (2, rf g (ad 14 0 0)), (3, vi i)] [] (vw g kp s) (sz kp) (caK kp) (slK kp) := by
  obtain ⟨kK, kF, kc⟩ := h.K
  obtain ⟨hs, hR, hH, hS, h8, h9, hf, hJ, h45, hG, hkp⟩ := id h
  have hI := hJ.1
  obtain ⟨b0, b1, b2, b3, b4, b5⟩ := hI.n
  have h9' : 0 ≤ s 9 0 0 0 ∧ s 9 0 0 0 ≤ 1000000 := by rw [h9]; omega
  have hcs := csK kp
  refine v_aload_n 1 dL_law_460 (nx := 461) rfl rfl ?_
  refine v_lref 0 dL_law_461 (nx := 462) rfl rfl ?_
  refine v_iload_n 3 dL_law_462 (nx := 463) rfl rfl ?_
  refine v_iconst dL_law_463 (nx := 464) rfl ?_
  refine v_iadd dL_law_464 (nx := 465) rfl ?_
  refine v_sld dL_law_465 (nx := 466) rfl hL ⟨by omega, by omega⟩ ?_
  refine v_lref 0 dL_law_466 (nx := 467) rfl rfl ?_
  refine v_iload_n 3 dL_law_467 (nx := 468) rfl rfl ?_
  refine v_iconst dL_law_468 (nx := 469) rfl ?_
  refine v_iadd dL_law_469 (nx := 470) rfl ?_
  refine v_sld dL_law_470 (nx := 471) rfl hL ⟨by omega, by omega⟩ ?_
  refine v_lref 0 dL_law_471 (nx := 472) rfl rfl ?_
  refine v_iload_n 3 dL_law_472 (nx := 473) rfl rfl ?_
  refine v_iconst dL_law_473 (nx := 474) rfl ?_
  refine v_iadd dL_law_474 (nx := 475) rfl ?_
  refine v_sld dL_law_475 (nx := 476) rfl hL ⟨by omega, by omega⟩ ?_
  refine v_if_eq dL_law_476 (tgt := 483) (by decide) (nx := 479) rfl (i32R _) (fun c476 => ?_) (fun c476 => ?_)
  · refine v_iconst dL_law_483 (nx := 484) rfl ?_
    refine t_callViQ (a := 9) (c_X6_give hR hI hH hS h8 h9' ((xs (i + 1).toNat).toInt) (i32R _) ((xs (i + 2).toNat).toInt) (i32R _) 0 ⟨by decide, by decide⟩ (by first | exact Or.inl rfl | exact Or.inr rfl) (by omega)) dL_law_484 (nx := 487) rfl kX6_give ml_L_50 (by decide) (ok_m 9 rfl) rfl rfl rfl rfl (Nat.le_of_ble_eq_true rfl) ⟨by decide, by decide⟩ hcs (fun τ hC => ?_)
    refine V.eq (mk_of hs (fun a t i h1 h2 => hC.2.2.2.2.2 a t i (Or.inl h1))) ?_
    refine v_aload_n 2 dL_law_487 (nx := 488) rfl rfl ?_
    refine v_lref 0 dL_law_488 (nx := 489) rfl rfl ?_
    refine v_iload_n 3 dL_law_489 (nx := 490) rfl rfl ?_
    refine v_iconst dL_law_490 (nx := 491) rfl ?_
    refine v_iadd dL_law_491 (nx := 492) rfl ?_
    refine v_sld dL_law_492 (nx := 493) rfl hL ⟨by omega, by omega⟩ ?_
    refine v_lref 0 dL_law_493 (nx := 494) rfl rfl ?_
    refine v_iload_n 3 dL_law_494 (nx := 495) rfl rfl ?_
    refine v_iconst dL_law_495 (nx := 496) rfl ?_
    refine v_iadd dL_law_496 (nx := 497) rfl ?_
    refine v_sld dL_law_497 (nx := 498) rfl hL ⟨by omega, by omega⟩ ?_
    refine v_lref 0 dL_law_498 (nx := 499) rfl rfl ?_
    refine v_iload_n 3 dL_law_499 (nx := 500) rfl rfl ?_
    refine v_iconst dL_law_500 (nx := 501) rfl ?_
    refine v_iadd dL_law_501 (nx := 502) rfl ?_
    refine v_sld dL_law_502 (nx := 503) rfl hL ⟨by omega, by omega⟩ ?_
    refine v_if_eq dL_law_503 (tgt := 510) (by decide) (nx := 506) rfl (i32R _) (fun c503 => ?_) (fun c503 => ?_)
    · refine v_iconst dL_law_510 (nx := 511) rfl ?_
      refine t_callVi (a := 14) (c_X7_give hI.r ((xs (i + 1).toNat).toInt) ((xs (i + 2).toNat).toInt) 0 (i32R _) (i32R _) ⟨by decide, by decide⟩ b0 b1 b2 b3 (by first | exact Or.inl rfl | exact Or.inr rfl) ⟨by omega, by omega⟩) dL_law_511 (nx := 514) rfl kX7_give ml_L_53 (by decide) (ok_m 14 rfl) rfl rfl rfl rfl (Nat.le_of_ble_eq_true rfl) ⟨by decide, by decide⟩ hcs ?_
      refine v_same dL_law_514 (tgt := 930) (by decide) ?_
      have hj : JN N (s_give N ((xs (i + 1).toNat).toInt) ((xs (i + 2).toNat).toInt) 0).2.1 := J_give hJ (by omega) (by first | exact Or.inl rfl | exact Or.inr rfl)
      exact kk _ _ _ _ _ _ _ _ (h.step hC dt_give hj.1 (by have := hj.2.1; omega) (by have := hj.2.2; omega) hG kF hn)
    · exact absurd c476 c503
  · refine v_iconst dL_law_479 (nx := 480) rfl ?_
    refine v_goto dL_law_480 (tgt := 484) (by decide) ?_
    refine t_callViQ (a := 9) (c_X6_give hR hI hH hS h8 h9' ((xs (i + 1).toNat).toInt) (i32R _) ((xs (i + 2).toNat).toInt) (i32R _) 1 ⟨by decide, by decide⟩ (by first | exact Or.inl rfl | exact Or.inr rfl) (by omega)) dL_law_484 (nx := 487) rfl kX6_give ml_L_50 (by decide) (ok_m 9 rfl) rfl rfl rfl rfl (Nat.le_of_ble_eq_true rfl) ⟨by decide, by decide⟩ hcs (fun τ hC => ?_)
    refine V.eq (mk_of hs (fun a t i h1 h2 => hC.2.2.2.2.2 a t i (Or.inl h1))) ?_
    refine v_aload_n 2 dL_law_487 (nx := 488) rfl rfl ?_
    refine v_lref 0 dL_law_488 (nx := 489) rfl rfl ?_
    refine v_iload_n 3 dL_law_489 (nx := 490) rfl rfl ?_
    refine v_iconst dL_law_490 (nx := 491) rfl ?_
    refine v_iadd dL_law_491 (nx := 492) rfl ?_
    refine v_sld dL_law_492 (nx := 493) rfl hL ⟨by omega, by omega⟩ ?_
    refine v_lref 0 dL_law_493 (nx := 494) rfl rfl ?_
    refine v_iload_n 3 dL_law_494 (nx := 495) rfl rfl ?_
    refine v_iconst dL_law_495 (nx := 496) rfl ?_
    refine v_iadd dL_law_496 (nx := 497) rfl ?_
    refine v_sld dL_law_497 (nx := 498) rfl hL ⟨by omega, by omega⟩ ?_
    refine v_lref 0 dL_law_498 (nx := 499) rfl rfl ?_
    refine v_iload_n 3 dL_law_499 (nx := 500) rfl rfl ?_
    refine v_iconst dL_law_500 (nx := 501) rfl ?_
    refine v_iadd dL_law_501 (nx := 502) rfl ?_
    refine v_sld dL_law_502 (nx := 503) rfl hL ⟨by omega, by omega⟩ ?_
    refine v_if_eq dL_law_503 (tgt := 510) (by decide) (nx := 506) rfl (i32R _) (fun c503 => ?_) (fun c503 => ?_)
    · exact absurd c503 c476
    · refine v_iconst dL_law_506 (nx := 507) rfl ?_
      refine v_goto dL_law_507 (tgt := 511) (by decide) ?_
      refine t_callVi (a := 14) (c_X7_give hI.r ((xs (i + 1).toNat).toInt) ((xs (i + 2).toNat).toInt) 1 (i32R _) (i32R _) ⟨by decide, by decide⟩ b0 b1 b2 b3 (by first | exact Or.inl rfl | exact Or.inr rfl) ⟨by omega, by omega⟩) dL_law_511 (nx := 514) rfl kX7_give ml_L_53 (by decide) (ok_m 14 rfl) rfl rfl rfl rfl (Nat.le_of_ble_eq_true rfl) ⟨by decide, by decide⟩ hcs ?_
      refine v_same dL_law_514 (tgt := 930) (by decide) ?_
      have hj : JN N (s_give N ((xs (i + 1).toNat).toInt) ((xs (i + 2).toNat).toInt) 1).2.1 := J_give hJ (by omega) (by first | exact Or.inl rfl | exact Or.inr rfl)
      exact kk _ _ _ _ _ _ _ _ (h.step hC dt_give hj.1 (by have := hj.2.1; omega) (by have := hj.2.2; omega) hG kF hn)

set_option maxRecDepth 100000 in
theorem lc_where {g : GG} {b L : Nat} {xs : Nat → Int32} {kp : Bool} {s : SS} {N K G F : NN} {k f n i : Int} (hL : L ≤ 2048) (hi : 0 ≤ i ∧ i + 4 ≤ L) (hn : 0 ≤ n ∧ n ≤ 1000) (h : LIx kp s N K G F k f n) (kk : ∀ (kp' : Bool) (s' : SS) (N' K' G' F' : NN) (k' f' : Int), LIx kp' s' N' K' G' F' k' f' (n + 1) → V g room_1 mL lw_Z (EL g b L xs) 930 [(0, Value.ref b), (1, rf g (ad 9 0 0)), (2, rf g (ad 14 0 0)), (3, vi i)] [] (vw g kp' s') (sz kp') (caK kp') (slK kp')) : V g room_1 mL lw_Z (EL g b L xs) 519 [(0, Value.ref b), (1, rf g (ad 9 0 0)), (2, rf g (ad 14 0 0)), (3, vi i)] [] (vw g kp s) (sz kp) (caK kp) (slK kp) := by
  obtain ⟨kK, kF, kc⟩ := h.K
  obtain ⟨hs, hR, hH, hS, h8, h9, hf, hJ, h45, hG, hkp⟩ := id h
  have hI := hJ.1
  obtain ⟨b0, b1, b2, b3, b4, b5⟩ := hI.n
  have h9' : 0 ≤ s 9 0 0 0 ∧ s 9 0 0 0 ≤ 1000000 := by rw [h9]; omega
  have hcs := csK kp
  refine v_aload_n 1 dL_law_519 (nx := 520) rfl rfl ?_
  refine v_lref 0 dL_law_520 (nx := 521) rfl rfl ?_
  refine v_iload_n 3 dL_law_521 (nx := 522) rfl rfl ?_
  refine v_iconst dL_law_522 (nx := 523) rfl ?_
  refine v_iadd dL_law_523 (nx := 524) rfl ?_
  refine v_sld dL_law_524 (nx := 525) rfl hL ⟨by omega, by omega⟩ ?_
  refine t_callVi (a := 9) (c_X6_where hR hI hH ((xs (i + 1).toNat).toInt) (i32R _)) dL_law_525 (nx := 528) rfl kX6_where ml_L_54 (by decide) (ok_m 9 rfl) rfl rfl rfl rfl (Nat.le_of_ble_eq_true rfl) ⟨by decide, by decide⟩ hcs ?_
  refine V.eq (mk_of hs (fun a t i h1 h2 => fd_o (by omega))) ?_
  refine v_aload_n 2 dL_law_528 (nx := 529) rfl rfl ?_
  refine v_lref 0 dL_law_529 (nx := 530) rfl rfl ?_
  refine v_iload_n 3 dL_law_530 (nx := 531) rfl rfl ?_
  refine v_iconst dL_law_531 (nx := 532) rfl ?_
  refine v_iadd dL_law_532 (nx := 533) rfl ?_
  refine v_sld dL_law_533 (nx := 534) rfl hL ⟨by omega, by omega⟩ ?_
  refine t_callVi (a := 14) (c_X7_where hI.r ((xs (i + 1).toNat).toInt) (i32R _) b0 b1 b2 b3) dL_law_534 (nx := 537) rfl kX7_where ml_L_57 (by decide) (ok_m 14 rfl) rfl rfl rfl rfl (Nat.le_of_ble_eq_true rfl) ⟨by decide, by decide⟩ hcs ?_
  refine v_same dL_law_537 (tgt := 930) (by decide) ?_
  exact kk _ _ _ _ _ _ _ _ (h.step (τ := fd s (s_where N ((xs (i + 1).toNat).toInt)).2.2) (M := (s_where N ((xs (i + 1).toNat).toInt)).2.1) (df := (s_where N ((xs (i + 1).toNat).toInt)).2.2) (by rw [rd_where.1]; exact CR.f1 hR hH hS h8 h9' rd_where.2) rd_where.2 (by rw [rd_where.1]; exact hJ) (by rw [rd_where.1]; omega) (by rw [rd_where.1]; omega) hG kF hn)

set_option maxRecDepth 100000 in
theorem lc_place {g : GG} {b L : Nat} {xs : Nat → Int32} {kp : Bool} {s : SS} {N K G F : NN} {k f n i : Int} (hL : L ≤ 2048) (hi : 0 ≤ i ∧ i + 4 ≤ L) (hn : 0 ≤ n ∧ n ≤ 1000) (h : LIx kp s N K G F k f n) (kk : ∀ (kp' : Bool) (s' : SS) (N' K' G' F' : NN) (k' f' : Int), LIx kp' s' N' K' G' F' k' f' (n + 1) → V g room_1 mL lw_Z (EL g b L xs) 930 [(0, Value.ref b), (1, rf g (ad 9 0 0)), (2, rf g (ad 14 0 0)), (3, vi i)] [] (vw g kp' s') (sz kp') (caK kp') (slK kp')) : V g room_1 mL lw_Z (EL g b L xs) 542 [(0, Value.ref b), (1, rf g (ad 9 0 0)), (2, rf g (ad 14 0 0)), (3, vi i)] [] (vw g kp s) (sz kp) (caK kp) (slK kp) := by
  obtain ⟨kK, kF, kc⟩ := h.K
  obtain ⟨hs, hR, hH, hS, h8, h9, hf, hJ, h45, hG, hkp⟩ := id h
  have hI := hJ.1
  obtain ⟨b0, b1, b2, b3, b4, b5⟩ := hI.n
  have h9' : 0 ≤ s 9 0 0 0 ∧ s 9 0 0 0 ≤ 1000000 := by rw [h9]; omega
  have hcs := csK kp
  refine v_aload_n 1 dL_law_542 (nx := 543) rfl rfl ?_
  refine v_lref 0 dL_law_543 (nx := 544) rfl rfl ?_
  refine v_iload_n 3 dL_law_544 (nx := 545) rfl rfl ?_
  refine v_iconst dL_law_545 (nx := 546) rfl ?_
  refine v_iadd dL_law_546 (nx := 547) rfl ?_
  refine v_sld dL_law_547 (nx := 548) rfl hL ⟨by omega, by omega⟩ ?_
  refine t_callVi (a := 9) (c_X6_place hR hI hH ((xs (i + 1).toNat).toInt) (i32R _)) dL_law_548 (nx := 551) rfl kX6_place ml_L_58 (by decide) (ok_m 9 rfl) rfl rfl rfl rfl (Nat.le_of_ble_eq_true rfl) ⟨by decide, by decide⟩ hcs ?_
  refine V.eq (mk_of hs (fun a t i h1 h2 => fd_o (by omega))) ?_
  refine v_aload_n 2 dL_law_551 (nx := 552) rfl rfl ?_
  refine v_lref 0 dL_law_552 (nx := 553) rfl rfl ?_
  refine v_iload_n 3 dL_law_553 (nx := 554) rfl rfl ?_
  refine v_iconst dL_law_554 (nx := 555) rfl ?_
  refine v_iadd dL_law_555 (nx := 556) rfl ?_
  refine v_sld dL_law_556 (nx := 557) rfl hL ⟨by omega, by omega⟩ ?_
  refine t_callVi (a := 14) (c_X7_place hI.r ((xs (i + 1).toNat).toInt) (i32R _) b0 b1 b2 b3) dL_law_557 (nx := 560) rfl kX7_place ml_L_61 (by decide) (ok_m 14 rfl) rfl rfl rfl rfl (Nat.le_of_ble_eq_true rfl) ⟨by decide, by decide⟩ hcs ?_
  refine v_same dL_law_560 (tgt := 930) (by decide) ?_
  exact kk _ _ _ _ _ _ _ _ (h.step (τ := fd s (s_place N ((xs (i + 1).toNat).toInt)).2.2) (M := (s_place N ((xs (i + 1).toNat).toInt)).2.1) (df := (s_place N ((xs (i + 1).toNat).toInt)).2.2) (by rw [rd_place.1]; exact CR.f1 hR hH hS h8 h9' rd_place.2) rd_place.2 (by rw [rd_place.1]; exact hJ) (by rw [rd_place.1]; omega) (by rw [rd_place.1]; omega) hG kF hn)

set_option maxRecDepth 100000 in
theorem lc_detail {g : GG} {b L : Nat} {xs : Nat → Int32} {kp : Bool} {s : SS} {N K G F : NN} {k f n i : Int} (hL : L ≤ 2048) (hi : 0 ≤ i ∧ i + 4 ≤ L) (hn : 0 ≤ n ∧ n ≤ 1000) (h : LIx kp s N K G F k f n) (kk : ∀ (kp' : Bool) (s' : SS) (N' K' G' F' : NN) (k' f' : Int), LIx kp' s' N' K' G' F' k' f' (n + 1) → V g room_1 mL lw_Z (EL g b L xs) 930 [(0, Value.ref b), (1, rf g (ad 9 0 0)), (2, rf g (ad 14 0 0)), (3, vi i)] [] (vw g kp' s') (sz kp') (caK kp') (slK kp')) : V g room_1 mL lw_Z (EL g b L xs) 565 [(0, Value.ref b), (1, rf g (ad 9 0 0)), (2, rf g (ad 14 0 0)), (3, vi i)] [] (vw g kp s) (sz kp) (caK kp) (slK kp) := by
  obtain ⟨kK, kF, kc⟩ := h.K
  obtain ⟨hs, hR, hH, hS, h8, h9, hf, hJ, h45, hG, hkp⟩ := id h
  have hI := hJ.1
  obtain ⟨b0, b1, b2, b3, b4, b5⟩ := hI.n
  have h9' : 0 ≤ s 9 0 0 0 ∧ s 9 0 0 0 ≤ 1000000 := by rw [h9]; omega
  have hcs := csK kp
  refine v_aload_n 1 dL_law_565 (nx := 566) rfl rfl ?_
  refine v_lref 0 dL_law_566 (nx := 567) rfl rfl ?_
  refine v_iload_n 3 dL_law_567 (nx := 568) rfl rfl ?_
  refine v_iconst dL_law_568 (nx := 569) rfl ?_
  refine v_iadd dL_law_569 (nx := 570) rfl ?_
  refine v_sld dL_law_570 (nx := 571) rfl hL ⟨by omega, by omega⟩ ?_
  refine t_callVi (a := 9) (c_X6_detail hR hI hH ((xs (i + 1).toNat).toInt) (i32R _)) dL_law_571 (nx := 574) rfl kX6_detail ml_L_62 (by decide) (ok_m 9 rfl) rfl rfl rfl rfl (Nat.le_of_ble_eq_true rfl) ⟨by decide, by decide⟩ hcs ?_
  refine V.eq (mk_of hs (fun a t i h1 h2 => fd_o (by omega))) ?_
  refine v_aload_n 2 dL_law_574 (nx := 575) rfl rfl ?_
  refine v_lref 0 dL_law_575 (nx := 576) rfl rfl ?_
  refine v_iload_n 3 dL_law_576 (nx := 577) rfl rfl ?_
  refine v_iconst dL_law_577 (nx := 578) rfl ?_
  refine v_iadd dL_law_578 (nx := 579) rfl ?_
  refine v_sld dL_law_579 (nx := 580) rfl hL ⟨by omega, by omega⟩ ?_
  refine t_callVi (a := 14) (c_X7_detail hI.r ((xs (i + 1).toNat).toInt) (i32R _) b0 b1 b2 b3) dL_law_580 (nx := 583) rfl kX7_detail ml_L_65 (by decide) (ok_m 14 rfl) rfl rfl rfl rfl (Nat.le_of_ble_eq_true rfl) ⟨by decide, by decide⟩ hcs ?_
  refine v_same dL_law_583 (tgt := 930) (by decide) ?_
  exact kk _ _ _ _ _ _ _ _ (h.step (τ := fd s (s_detail N ((xs (i + 1).toNat).toInt)).2.2) (M := (s_detail N ((xs (i + 1).toNat).toInt)).2.1) (df := (s_detail N ((xs (i + 1).toNat).toInt)).2.2) (by rw [rd_detail.1]; exact CR.f1 hR hH hS h8 h9' rd_detail.2) rd_detail.2 (by rw [rd_detail.1]; exact hJ) (by rw [rd_detail.1]; omega) (by rw [rd_detail.1]; omega) hG kF hn)

set_option maxRecDepth 100000 in
theorem lc_steps {g : GG} {b L : Nat} {xs : Nat → Int32} {kp : Bool} {s : SS} {N K G F : NN} {k f n i : Int} (hL : L ≤ 2048) (hi : 0 ≤ i ∧ i + 4 ≤ L) (hn : 0 ≤ n ∧ n ≤ 1000) (h : LIx kp s N K G F k f n) (kk : ∀ (kp' : Bool) (s' : SS) (N' K' G' F' : NN) (k' f' : Int), LIx kp' s' N' K' G' F' k' f' (n + 1) → V g room_1 mL lw_Z (EL g b L xs) 930 [(0, Value.ref b), (1, rf g (ad 9 0 0)), (2, rf g (ad 14 0 0)), (3, vi i)] [] (vw g kp' s') (sz kp') (caK kp') (slK kp')) : V g room_1 mL lw_Z (EL g b L xs) 588 [(0, Value.ref b), (1, rf g (ad 9 0 0)), (2, rf g (ad 14 0 0)), (3, vi i)] [] (vw g kp s) (sz kp) (caK kp) (slK kp) := by
  obtain ⟨kK, kF, kc⟩ := h.K
  obtain ⟨hs, hR, hH, hS, h8, h9, hf, hJ, h45, hG, hkp⟩ := id h
  have hI := hJ.1
  obtain ⟨b0, b1, b2, b3, b4, b5⟩ := hI.n
  have h9' : 0 ≤ s 9 0 0 0 ∧ s 9 0 0 0 ≤ 1000000 := by rw [h9]; omega
  have hcs := csK kp
  refine v_aload_n 1 dL_law_588 (nx := 589) rfl rfl ?_
  refine v_lref 0 dL_law_589 (nx := 590) rfl rfl ?_
  refine v_iload_n 3 dL_law_590 (nx := 591) rfl rfl ?_
  refine v_iconst dL_law_591 (nx := 592) rfl ?_
  refine v_iadd dL_law_592 (nx := 593) rfl ?_
  refine v_sld dL_law_593 (nx := 594) rfl hL ⟨by omega, by omega⟩ ?_
  refine t_callVi (a := 9) (c_X6_steps hR hI hH ((xs (i + 1).toNat).toInt) (i32R _)) dL_law_594 (nx := 597) rfl kX6_steps ml_L_66 (by decide) (ok_m 9 rfl) rfl rfl rfl rfl (Nat.le_of_ble_eq_true rfl) ⟨by decide, by decide⟩ hcs ?_
  refine V.eq (mk_of hs (fun a t i h1 h2 => fd_o (by omega))) ?_
  refine v_aload_n 2 dL_law_597 (nx := 598) rfl rfl ?_
  refine v_lref 0 dL_law_598 (nx := 599) rfl rfl ?_
  refine v_iload_n 3 dL_law_599 (nx := 600) rfl rfl ?_
  refine v_iconst dL_law_600 (nx := 601) rfl ?_
  refine v_iadd dL_law_601 (nx := 602) rfl ?_
  refine v_sld dL_law_602 (nx := 603) rfl hL ⟨by omega, by omega⟩ ?_
  refine t_callVi (a := 14) (c_X7_steps hI.r ((xs (i + 1).toNat).toInt) (i32R _) b0 b1 b2 b3) dL_law_603 (nx := 606) rfl kX7_steps ml_L_69 (by decide) (ok_m 14 rfl) rfl rfl rfl rfl (Nat.le_of_ble_eq_true rfl) ⟨by decide, by decide⟩ hcs ?_
  refine v_same dL_law_606 (tgt := 930) (by decide) ?_
  exact kk _ _ _ _ _ _ _ _ (h.step (τ := fd s (s_steps N ((xs (i + 1).toNat).toInt)).2.2) (M := (s_steps N ((xs (i + 1).toNat).toInt)).2.1) (df := (s_steps N ((xs (i + 1).toNat).toInt)).2.2) (by rw [rd_steps.1]; exact CR.f1 hR hH hS h8 h9' rd_steps.2) rd_steps.2 (by rw [rd_steps.1]; exact hJ) (by rw [rd_steps.1]; omega) (by rw [rd_steps.1]; omega) hG kF hn)

set_option maxRecDepth 100000 in
theorem lc_step {g : GG} {b L : Nat} {xs : Nat → Int32} {kp : Bool} {s : SS} {N K G F : NN} {k f n i : Int} (hL : L ≤ 2048) (hi : 0 ≤ i ∧ i + 4 ≤ L) (hn : 0 ≤ n ∧ n ≤ 1000) (h : LIx kp s N K G F k f n) (kk : ∀ (kp' : Bool) (s' : SS) (N' K' G' F' : NN) (k' f' : Int), LIx kp' s' N' K' G' F' k' f' (n + 1) → V g room_1 mL lw_Z (EL g b L xs) 930 [(0, Value.ref b), (1, rf g (ad 9 0 0)), (2, rf g (ad 14 0 0)), (3, vi i)] [] (vw g kp' s') (sz kp') (caK kp') (slK kp')) : V g room_1 mL lw_Z (EL g b L xs) 611 [(0, Value.ref b), (1, rf g (ad 9 0 0)), (2, rf g (ad 14 0 0)), (3, vi i)] [] (vw g kp s) (sz kp) (caK kp) (slK kp) := by
  obtain ⟨kK, kF, kc⟩ := h.K
  obtain ⟨hs, hR, hH, hS, h8, h9, hf, hJ, h45, hG, hkp⟩ := id h
  have hI := hJ.1
  obtain ⟨b0, b1, b2, b3, b4, b5⟩ := hI.n
  have h9' : 0 ≤ s 9 0 0 0 ∧ s 9 0 0 0 ≤ 1000000 := by rw [h9]; omega
  have hcs := csK kp
  refine v_aload_n 1 dL_law_611 (nx := 612) rfl rfl ?_
  refine v_lref 0 dL_law_612 (nx := 613) rfl rfl ?_
  refine v_iload_n 3 dL_law_613 (nx := 614) rfl rfl ?_
  refine v_iconst dL_law_614 (nx := 615) rfl ?_
  refine v_iadd dL_law_615 (nx := 616) rfl ?_
  refine v_sld dL_law_616 (nx := 617) rfl hL ⟨by omega, by omega⟩ ?_
  refine v_lref 0 dL_law_617 (nx := 618) rfl rfl ?_
  refine v_iload_n 3 dL_law_618 (nx := 619) rfl rfl ?_
  refine v_iconst dL_law_619 (nx := 620) rfl ?_
  refine v_iadd dL_law_620 (nx := 621) rfl ?_
  refine v_sld dL_law_621 (nx := 622) rfl hL ⟨by omega, by omega⟩ ?_
  refine v_lref 0 dL_law_622 (nx := 623) rfl rfl ?_
  refine v_iload_n 3 dL_law_623 (nx := 624) rfl rfl ?_
  refine v_iconst dL_law_624 (nx := 625) rfl ?_
  refine v_iadd dL_law_625 (nx := 626) rfl ?_
  refine v_sld dL_law_626 (nx := 627) rfl hL ⟨by omega, by omega⟩ ?_
  refine v_if_eq dL_law_627 (tgt := 634) (by decide) (nx := 630) rfl (i32R _) (fun c627 => ?_) (fun c627 => ?_)
  · refine v_iconst dL_law_634 (nx := 635) rfl ?_
    refine t_callVi (a := 9) (c_X6_step hR hI hH ((xs (i + 1).toNat).toInt) (i32R _) ((xs (i + 2).toNat).toInt) (i32R _) 0 ⟨by decide, by decide⟩ (by first | exact Or.inl rfl | exact Or.inr rfl) hJ.2.1) dL_law_635 (nx := 638) rfl kX6_step ml_L_70 (by decide) (ok_m 9 rfl) rfl rfl rfl rfl (Nat.le_of_ble_eq_true rfl) ⟨by decide, by decide⟩ hcs ?_
    refine V.eq (mk_of hs (fun a t i h1 h2 => fd_o (by omega))) ?_
    refine v_aload_n 2 dL_law_638 (nx := 639) rfl rfl ?_
    refine v_lref 0 dL_law_639 (nx := 640) rfl rfl ?_
    refine v_iload_n 3 dL_law_640 (nx := 641) rfl rfl ?_
    refine v_iconst dL_law_641 (nx := 642) rfl ?_
    refine v_iadd dL_law_642 (nx := 643) rfl ?_
    refine v_sld dL_law_643 (nx := 644) rfl hL ⟨by omega, by omega⟩ ?_
    refine v_lref 0 dL_law_644 (nx := 645) rfl rfl ?_
    refine v_iload_n 3 dL_law_645 (nx := 646) rfl rfl ?_
    refine v_iconst dL_law_646 (nx := 647) rfl ?_
    refine v_iadd dL_law_647 (nx := 648) rfl ?_
    refine v_sld dL_law_648 (nx := 649) rfl hL ⟨by omega, by omega⟩ ?_
    refine v_lref 0 dL_law_649 (nx := 650) rfl rfl ?_
    refine v_iload_n 3 dL_law_650 (nx := 651) rfl rfl ?_
    refine v_iconst dL_law_651 (nx := 652) rfl ?_
    refine v_iadd dL_law_652 (nx := 653) rfl ?_
    refine v_sld dL_law_653 (nx := 654) rfl hL ⟨by omega, by omega⟩ ?_
    refine v_if_eq dL_law_654 (tgt := 661) (by decide) (nx := 657) rfl (i32R _) (fun c654 => ?_) (fun c654 => ?_)
    · refine v_iconst dL_law_661 (nx := 662) rfl ?_
      refine t_callVi (a := 14) (c_X7_step2 hI.r ((xs (i + 1).toNat).toInt) ((xs (i + 2).toNat).toInt) 0 (i32R _) (i32R _) ⟨by decide, by decide⟩ b0 b1 b2 b3 (fun b y0 y1 => by have := (hI.g y0 y1).2.2.1; omega) (by first | exact Or.inl rfl | exact Or.inr rfl)) dL_law_662 (nx := 665) rfl kX7_step ml_L_73 (by decide) (ok_m 14 rfl) rfl rfl rfl rfl (Nat.le_of_ble_eq_true rfl) ⟨by decide, by decide⟩ hcs ?_
      refine v_same dL_law_665 (tgt := 930) (by decide) ?_
      exact kk _ _ _ _ _ _ _ _ (h.step (τ := fd s (s_step N ((xs (i + 1).toNat).toInt) ((xs (i + 2).toNat).toInt) 0).2.2) (M := (s_step N ((xs (i + 1).toNat).toInt) ((xs (i + 2).toNat).toInt) 0).2.1) (df := (s_step N ((xs (i + 1).toNat).toInt) ((xs (i + 2).toNat).toInt) 0).2.2) (by rw [rd_step.1]; exact CR.f1 hR hH hS h8 h9' rd_step.2) rd_step.2 (by rw [rd_step.1]; exact hJ) (by rw [rd_step.1]; omega) (by rw [rd_step.1]; omega) hG kF hn)
    · exact absurd c627 c654
  · refine v_iconst dL_law_630 (nx := 631) rfl ?_
    refine v_goto dL_law_631 (tgt := 635) (by decide) ?_
    refine t_callVi (a := 9) (c_X6_step hR hI hH ((xs (i + 1).toNat).toInt) (i32R _) ((xs (i + 2).toNat).toInt) (i32R _) 1 ⟨by decide, by decide⟩ (by first | exact Or.inl rfl | exact Or.inr rfl) hJ.2.1) dL_law_635 (nx := 638) rfl kX6_step ml_L_70 (by decide) (ok_m 9 rfl) rfl rfl rfl rfl (Nat.le_of_ble_eq_true rfl) ⟨by decide, by decide⟩ hcs ?_
    refine V.eq (mk_of hs (fun a t i h1 h2 => fd_o (by omega))) ?_
    refine v_aload_n 2 dL_law_638 (nx := 639) rfl rfl ?_
    refine v_lref 0 dL_law_639 (nx := 640) rfl rfl ?_
    refine v_iload_n 3 dL_law_640 (nx := 641) rfl rfl ?_
    refine v_iconst dL_law_641 (nx := 642) rfl ?_
    refine v_iadd dL_law_642 (nx := 643) rfl ?_
    refine v_sld dL_law_643 (nx := 644) rfl hL ⟨by omega, by omega⟩ ?_
    refine v_lref 0 dL_law_644 (nx := 645) rfl rfl ?_
    refine v_iload_n 3 dL_law_645 (nx := 646) rfl rfl ?_
    refine v_iconst dL_law_646 (nx := 647) rfl ?_
    refine v_iadd dL_law_647 (nx := 648) rfl ?_
    refine v_sld dL_law_648 (nx := 649) rfl hL ⟨by omega, by omega⟩ ?_
    refine v_lref 0 dL_law_649 (nx := 650) rfl rfl ?_
    refine v_iload_n 3 dL_law_650 (nx := 651) rfl rfl ?_
    refine v_iconst dL_law_651 (nx := 652) rfl ?_
    refine v_iadd dL_law_652 (nx := 653) rfl ?_
    refine v_sld dL_law_653 (nx := 654) rfl hL ⟨by omega, by omega⟩ ?_
    refine v_if_eq dL_law_654 (tgt := 661) (by decide) (nx := 657) rfl (i32R _) (fun c654 => ?_) (fun c654 => ?_)
    · exact absurd c654 c627
    · refine v_iconst dL_law_657 (nx := 658) rfl ?_
      refine v_goto dL_law_658 (tgt := 662) (by decide) ?_
      refine t_callVi (a := 14) (c_X7_step2 hI.r ((xs (i + 1).toNat).toInt) ((xs (i + 2).toNat).toInt) 1 (i32R _) (i32R _) ⟨by decide, by decide⟩ b0 b1 b2 b3 (fun b y0 y1 => by have := (hI.g y0 y1).2.2.1; omega) (by first | exact Or.inl rfl | exact Or.inr rfl)) dL_law_662 (nx := 665) rfl kX7_step ml_L_73 (by decide) (ok_m 14 rfl) rfl rfl rfl rfl (Nat.le_of_ble_eq_true rfl) ⟨by decide, by decide⟩ hcs ?_
      refine v_same dL_law_665 (tgt := 930) (by decide) ?_
      exact kk _ _ _ _ _ _ _ _ (h.step (τ := fd s (s_step N ((xs (i + 1).toNat).toInt) ((xs (i + 2).toNat).toInt) 1).2.2) (M := (s_step N ((xs (i + 1).toNat).toInt) ((xs (i + 2).toNat).toInt) 1).2.1) (df := (s_step N ((xs (i + 1).toNat).toInt) ((xs (i + 2).toNat).toInt) 1).2.2) (by rw [rd_step.1]; exact CR.f1 hR hH hS h8 h9' rd_step.2) rd_step.2 (by rw [rd_step.1]; exact hJ) (by rw [rd_step.1]; omega) (by rw [rd_step.1]; omega) hG kF hn)

set_option maxRecDepth 100000 in
theorem lc_tick {g : GG} {b L : Nat} {xs : Nat → Int32} {kp : Bool} {s : SS} {N K G F : NN} {k f n i : Int} (hL : L ≤ 2048) (hi : 0 ≤ i ∧ i + 4 ≤ L) (hn : 0 ≤ n ∧ n ≤ 1000) (h : LIx kp s N K G F k f n) (kk : ∀ (kp' : Bool) (s' : SS) (N' K' G' F' : NN) (k' f' : Int), LIx kp' s' N' K' G' F' k' f' (n + 1) → V g room_1 mL lw_Z (EL g b L xs) 930 [(0, Value.ref b), (1, rf g (ad 9 0 0)), (2, rf g (ad 14 0 0)), (3, vi i)] [] (vw g kp' s') (sz kp') (caK kp') (slK kp')) : V g room_1 mL lw_Z (EL g b L xs) 670 [(0, Value.ref b), (1, rf g (ad 9 0 0)), (2, rf g (ad 14 0 0)), (3, vi i)] [] (vw g kp s) (sz kp) (caK kp) (slK kp) := by
  obtain ⟨kK, kF, kc⟩ := h.K
  obtain ⟨hs, hR, hH, hS, h8, h9, hf, hJ, h45, hG, hkp⟩ := id h
  have hI := hJ.1
  obtain ⟨b0, b1, b2, b3, b4, b5⟩ := hI.n
  have h9' : 0 ≤ s 9 0 0 0 ∧ s 9 0 0 0 ≤ 1000000 := by rw [h9]; omega
  have hcs := csK kp
  refine v_aload_n 1 dL_law_670 (nx := 671) rfl rfl ?_
  refine v_lref 0 dL_law_671 (nx := 672) rfl rfl ?_
  refine v_iload_n 3 dL_law_672 (nx := 673) rfl rfl ?_
  refine v_iconst dL_law_673 (nx := 674) rfl ?_
  refine v_iadd dL_law_674 (nx := 675) rfl ?_
  refine v_sld dL_law_675 (nx := 676) rfl hL ⟨by omega, by omega⟩ ?_
  refine t_callViQ (a := 9) (c_X6_tick hR hI hH hS h8 h9' hJ ((xs (i + 1).toNat).toInt) (i32R _) (by omega)) dL_law_676 (nx := 679) rfl kX6_tick ml_L_74 (by decide) (ok_m 9 rfl) rfl rfl rfl rfl (Nat.le_of_ble_eq_true rfl) ⟨by decide, by decide⟩ hcs (fun τ hC => ?_)
  refine V.eq (mk_of hs (fun a t i h1 h2 => hC.2.2.2.2.2 a t i (Or.inl h1))) ?_
  refine v_aload_n 2 dL_law_679 (nx := 680) rfl rfl ?_
  refine v_lref 0 dL_law_680 (nx := 681) rfl rfl ?_
  refine v_iload_n 3 dL_law_681 (nx := 682) rfl rfl ?_
  refine v_iconst dL_law_682 (nx := 683) rfl ?_
  refine v_iadd dL_law_683 (nx := 684) rfl ?_
  refine v_sld dL_law_684 (nx := 685) rfl hL ⟨by omega, by omega⟩ ?_
  refine t_callViQ (a := 14) (c_X7_tickC ((xs (i + 1).toNat).toInt) (i32R _) hG hJ (by omega)) dL_law_685 (nx := 688) rfl kX7_tick ml_L_77 (by decide) (ok_m 14 rfl) rfl rfl rfl rfl (Nat.le_of_ble_eq_true rfl) ⟨by decide, by decide⟩ hcs (fun ρ hq => ?_)
  obtain ⟨F', G', hG', rfl⟩ := hq
  rw [mk_nr]
  have hF' := nr_R (F := F')
  refine v_same dL_law_688 (tgt := 930) (by decide) ?_
  exact kk _ _ _ _ _ _ _ _ (h.step hC dt_tick (J_tick hJ (by omega)).1 (by have := (J_tick (n := ((xs (i + 1).toNat).toInt)) hJ (by omega)).2.1; omega) (by have := (J_tick (n := ((xs (i + 1).toNat).toInt)) hJ (by omega)).2.2; omega) hG' hF' hn)

set_option maxRecDepth 100000 in
theorem lc_cell {g : GG} {b L : Nat} {xs : Nat → Int32} {kp : Bool} {s : SS} {N K G F : NN} {k f n i : Int} (hL : L ≤ 2048) (hi : 0 ≤ i ∧ i + 4 ≤ L) (hn : 0 ≤ n ∧ n ≤ 1000) (h : LIx kp s N K G F k f n) (kk : ∀ (kp' : Bool) (s' : SS) (N' K' G' F' : NN) (k' f' : Int), LIx kp' s' N' K' G' F' k' f' (n + 1) → V g room_1 mL lw_Z (EL g b L xs) 930 [(0, Value.ref b), (1, rf g (ad 9 0 0)), (2, rf g (ad 14 0 0)), (3, vi i)] [] (vw g kp' s') (sz kp') (caK kp') (slK kp')) : V g room_1 mL lw_Z (EL g b L xs) 693 [(0, Value.ref b), (1, rf g (ad 9 0 0)), (2, rf g (ad 14 0 0)), (3, vi i)] [] (vw g kp s) (sz kp) (caK kp) (slK kp) := by
  obtain ⟨kK, kF, kc⟩ := h.K
  obtain ⟨hs, hR, hH, hS, h8, h9, hf, hJ, h45, hG, hkp⟩ := id h
  have hI := hJ.1
  obtain ⟨b0, b1, b2, b3, b4, b5⟩ := hI.n
  have h9' : 0 ≤ s 9 0 0 0 ∧ s 9 0 0 0 ≤ 1000000 := by rw [h9]; omega
  have hcs := csK kp
  refine v_aload_n 1 dL_law_693 (nx := 694) rfl rfl ?_
  refine v_lref 0 dL_law_694 (nx := 695) rfl rfl ?_
  refine v_iload_n 3 dL_law_695 (nx := 696) rfl rfl ?_
  refine v_iconst dL_law_696 (nx := 697) rfl ?_
  refine v_iadd dL_law_697 (nx := 698) rfl ?_
  refine v_sld dL_law_698 (nx := 699) rfl hL ⟨by omega, by omega⟩ ?_
  refine v_lref 0 dL_law_699 (nx := 700) rfl rfl ?_
  refine v_iload_n 3 dL_law_700 (nx := 701) rfl rfl ?_
  refine v_iconst dL_law_701 (nx := 702) rfl ?_
  refine v_iadd dL_law_702 (nx := 703) rfl ?_
  refine v_sld dL_law_703 (nx := 704) rfl hL ⟨by omega, by omega⟩ ?_
  refine t_callVi (a := 9) (c_X6_cell hR hI hH ((xs (i + 1).toNat).toInt) (i32R _) ((xs (i + 2).toNat).toInt) (i32R _)) dL_law_704 (nx := 707) rfl kX6_cell ml_L_78 (by decide) (ok_m 9 rfl) rfl rfl rfl rfl (Nat.le_of_ble_eq_true rfl) ⟨by decide, by decide⟩ hcs ?_
  refine V.eq (mk_of hs (fun a t i h1 h2 => fd_o (by omega))) ?_
  refine v_aload_n 2 dL_law_707 (nx := 708) rfl rfl ?_
  refine v_lref 0 dL_law_708 (nx := 709) rfl rfl ?_
  refine v_iload_n 3 dL_law_709 (nx := 710) rfl rfl ?_
  refine v_iconst dL_law_710 (nx := 711) rfl ?_
  refine v_iadd dL_law_711 (nx := 712) rfl ?_
  refine v_sld dL_law_712 (nx := 713) rfl hL ⟨by omega, by omega⟩ ?_
  refine v_lref 0 dL_law_713 (nx := 714) rfl rfl ?_
  refine v_iload_n 3 dL_law_714 (nx := 715) rfl rfl ?_
  refine v_iconst dL_law_715 (nx := 716) rfl ?_
  refine v_iadd dL_law_716 (nx := 717) rfl ?_
  refine v_sld dL_law_717 (nx := 718) rfl hL ⟨by omega, by omega⟩ ?_
  refine t_callVi (a := 14) (c_X7_cell hI.r ((xs (i + 1).toNat).toInt) ((xs (i + 2).toNat).toInt) (i32R _) (i32R _) b0 b1 b2 b3 (fun b y0 y1 => (hI.b y0 y1).2.2.1) (fun b c y0 y1 z0 z1 => by have := hI.cv y0 y1 z0 z1; omega)) dL_law_718 (nx := 721) rfl kX7_cell ml_L_81 (by decide) (ok_m 14 rfl) rfl rfl rfl rfl (Nat.le_of_ble_eq_true rfl) ⟨by decide, by decide⟩ hcs ?_
  refine v_same dL_law_721 (tgt := 930) (by decide) ?_
  exact kk _ _ _ _ _ _ _ _ (h.step (τ := fd s (s_cell N ((xs (i + 1).toNat).toInt) ((xs (i + 2).toNat).toInt)).2.2) (M := (s_cell N ((xs (i + 1).toNat).toInt) ((xs (i + 2).toNat).toInt)).2.1) (df := (s_cell N ((xs (i + 1).toNat).toInt) ((xs (i + 2).toNat).toInt)).2.2) (by rw [rd_cell.1]; exact CR.f1 hR hH hS h8 h9' rd_cell.2) rd_cell.2 (by rw [rd_cell.1]; exact hJ) (by rw [rd_cell.1]; omega) (by rw [rd_cell.1]; omega) hG kF hn)

set_option maxRecDepth 100000 in
theorem lc_holds {g : GG} {b L : Nat} {xs : Nat → Int32} {kp : Bool} {s : SS} {N K G F : NN} {k f n i : Int} (hL : L ≤ 2048) (hi : 0 ≤ i ∧ i + 4 ≤ L) (hn : 0 ≤ n ∧ n ≤ 1000) (h : LIx kp s N K G F k f n) (kk : ∀ (kp' : Bool) (s' : SS) (N' K' G' F' : NN) (k' f' : Int), LIx kp' s' N' K' G' F' k' f' (n + 1) → V g room_1 mL lw_Z (EL g b L xs) 930 [(0, Value.ref b), (1, rf g (ad 9 0 0)), (2, rf g (ad 14 0 0)), (3, vi i)] [] (vw g kp' s') (sz kp') (caK kp') (slK kp')) : V g room_1 mL lw_Z (EL g b L xs) 726 [(0, Value.ref b), (1, rf g (ad 9 0 0)), (2, rf g (ad 14 0 0)), (3, vi i)] [] (vw g kp s) (sz kp) (caK kp) (slK kp) := by
  obtain ⟨kK, kF, kc⟩ := h.K
  obtain ⟨hs, hR, hH, hS, h8, h9, hf, hJ, h45, hG, hkp⟩ := id h
  have hI := hJ.1
  obtain ⟨b0, b1, b2, b3, b4, b5⟩ := hI.n
  have h9' : 0 ≤ s 9 0 0 0 ∧ s 9 0 0 0 ≤ 1000000 := by rw [h9]; omega
  have hcs := csK kp
  refine v_aload_n 1 dL_law_726 (nx := 727) rfl rfl ?_
  refine v_lref 0 dL_law_727 (nx := 728) rfl rfl ?_
  refine v_iload_n 3 dL_law_728 (nx := 729) rfl rfl ?_
  refine v_iconst dL_law_729 (nx := 730) rfl ?_
  refine v_iadd dL_law_730 (nx := 731) rfl ?_
  refine v_sld dL_law_731 (nx := 732) rfl hL ⟨by omega, by omega⟩ ?_
  refine t_callVi (a := 9) (c_X6_holds hR hI hH ((xs (i + 1).toNat).toInt) (i32R _)) dL_law_732 (nx := 735) rfl kX6_holds ml_L_82 (by decide) (ok_m 9 rfl) rfl rfl rfl rfl (Nat.le_of_ble_eq_true rfl) ⟨by decide, by decide⟩ hcs ?_
  refine V.eq (mk_of hs (fun a t i h1 h2 => fd_o (by omega))) ?_
  refine v_aload_n 2 dL_law_735 (nx := 736) rfl rfl ?_
  refine v_lref 0 dL_law_736 (nx := 737) rfl rfl ?_
  refine v_iload_n 3 dL_law_737 (nx := 738) rfl rfl ?_
  refine v_iconst dL_law_738 (nx := 739) rfl ?_
  refine v_iadd dL_law_739 (nx := 740) rfl ?_
  refine v_sld dL_law_740 (nx := 741) rfl hL ⟨by omega, by omega⟩ ?_
  refine t_callVi (a := 14) (c_X7_holds hI.r ((xs (i + 1).toNat).toInt) (i32R _) b0 b1 b2 b3 (fun p y0 y1 => by have := hI.hv y0 y1; omega)) dL_law_741 (nx := 744) rfl kX7_holds ml_L_85 (by decide) (ok_m 14 rfl) rfl rfl rfl rfl (Nat.le_of_ble_eq_true rfl) ⟨by decide, by decide⟩ hcs ?_
  refine v_same dL_law_744 (tgt := 930) (by decide) ?_
  exact kk _ _ _ _ _ _ _ _ (h.step (τ := fd s (s_holds N ((xs (i + 1).toNat).toInt)).2.2) (M := (s_holds N ((xs (i + 1).toNat).toInt)).2.1) (df := (s_holds N ((xs (i + 1).toNat).toInt)).2.2) (by rw [rd_holds.1]; exact CR.f1 hR hH hS h8 h9' rd_holds.2) rd_holds.2 (by rw [rd_holds.1]; exact hJ) (by rw [rd_holds.1]; omega) (by rw [rd_holds.1]; omega) hG kF hn)

set_option maxRecDepth 100000 in
theorem lc_list {g : GG} {b L : Nat} {xs : Nat → Int32} {kp : Bool} {s : SS} {N K G F : NN} {k f n i : Int} (hL : L ≤ 2048) (hi : 0 ≤ i ∧ i + 4 ≤ L) (hn : 0 ≤ n ∧ n ≤ 1000) (h : LIx kp s N K G F k f n) (kk : ∀ (kp' : Bool) (s' : SS) (N' K' G' F' : NN) (k' f' : Int), LIx kp' s' N' K' G' F' k' f' (n + 1) → V g room_1 mL lw_Z (EL g b L xs) 930 [(0, Value.ref b), (1, rf g (ad 9 0 0)), (2, rf g (ad 14 0 0)), (3, vi i)] [] (vw g kp' s') (sz kp') (caK kp') (slK kp')) : V g room_1 mL lw_Z (EL g b L xs) 749 [(0, Value.ref b), (1, rf g (ad 9 0 0)), (2, rf g (ad 14 0 0)), (3, vi i)] [] (vw g kp s) (sz kp) (caK kp) (slK kp) := by
  obtain ⟨kK, kF, kc⟩ := h.K
  obtain ⟨hs, hR, hH, hS, h8, h9, hf, hJ, h45, hG, hkp⟩ := id h
  have hI := hJ.1
  obtain ⟨b0, b1, b2, b3, b4, b5⟩ := hI.n
  have h9' : 0 ≤ s 9 0 0 0 ∧ s 9 0 0 0 ≤ 1000000 := by rw [h9]; omega
  have hcs := csK kp
  refine v_aload_n 1 dL_law_749 (nx := 750) rfl rfl ?_
  refine v_lref 0 dL_law_750 (nx := 751) rfl rfl ?_
  refine v_iload_n 3 dL_law_751 (nx := 752) rfl rfl ?_
  refine v_iconst dL_law_752 (nx := 753) rfl ?_
  refine v_iadd dL_law_753 (nx := 754) rfl ?_
  refine v_sld dL_law_754 (nx := 755) rfl hL ⟨by omega, by omega⟩ ?_
  refine v_lref 0 dL_law_755 (nx := 756) rfl rfl ?_
  refine v_iload_n 3 dL_law_756 (nx := 757) rfl rfl ?_
  refine v_iconst dL_law_757 (nx := 758) rfl ?_
  refine v_iadd dL_law_758 (nx := 759) rfl ?_
  refine v_sld dL_law_759 (nx := 760) rfl hL ⟨by omega, by omega⟩ ?_
  refine t_callVi (a := 9) (c_X6_list hR hI hH ((xs (i + 1).toNat).toInt) (i32R _) ((xs (i + 2).toNat).toInt) (i32R _)) dL_law_760 (nx := 763) rfl kX6_list ml_L_86 (by decide) (ok_m 9 rfl) rfl rfl rfl rfl (Nat.le_of_ble_eq_true rfl) ⟨by decide, by decide⟩ hcs ?_
  refine V.eq (mk_of hs (fun a t i h1 h2 => fd_o (by omega))) ?_
  refine v_aload_n 2 dL_law_763 (nx := 764) rfl rfl ?_
  refine v_lref 0 dL_law_764 (nx := 765) rfl rfl ?_
  refine v_iload_n 3 dL_law_765 (nx := 766) rfl rfl ?_
  refine v_iconst dL_law_766 (nx := 767) rfl ?_
  refine v_iadd dL_law_767 (nx := 768) rfl ?_
  refine v_sld dL_law_768 (nx := 769) rfl hL ⟨by omega, by omega⟩ ?_
  refine v_lref 0 dL_law_769 (nx := 770) rfl rfl ?_
  refine v_iload_n 3 dL_law_770 (nx := 771) rfl rfl ?_
  refine v_iconst dL_law_771 (nx := 772) rfl ?_
  refine v_iadd dL_law_772 (nx := 773) rfl ?_
  refine v_sld dL_law_773 (nx := 774) rfl hL ⟨by omega, by omega⟩ ?_
  refine t_callVi (a := 14) (c_X7_list hI.r ((xs (i + 1).toNat).toInt) ((xs (i + 2).toNat).toInt) (i32R _) (i32R _) b0 b1 b2 b3) dL_law_774 (nx := 777) rfl kX7_list ml_L_89 (by decide) (ok_m 14 rfl) rfl rfl rfl rfl (Nat.le_of_ble_eq_true rfl) ⟨by decide, by decide⟩ hcs ?_
  refine v_same dL_law_777 (tgt := 930) (by decide) ?_
  exact kk _ _ _ _ _ _ _ _ (h.step (τ := fd s (s_list N ((xs (i + 1).toNat).toInt) ((xs (i + 2).toNat).toInt)).2.2) (M := (s_list N ((xs (i + 1).toNat).toInt) ((xs (i + 2).toNat).toInt)).2.1) (df := (s_list N ((xs (i + 1).toNat).toInt) ((xs (i + 2).toNat).toInt)).2.2) (by rw [rd_list.1]; exact CR.f1 hR hH hS h8 h9' rd_list.2) rd_list.2 (by rw [rd_list.1]; exact hJ) (by rw [rd_list.1]; omega) (by rw [rd_list.1]; omega) hG kF hn)

set_option maxRecDepth 100000 in
theorem lc_far {g : GG} {b L : Nat} {xs : Nat → Int32} {kp : Bool} {s : SS} {N K G F : NN} {k f n i : Int} (hL : L ≤ 2048) (hi : 0 ≤ i ∧ i + 4 ≤ L) (hn : 0 ≤ n ∧ n ≤ 1000) (h : LIx kp s N K G F k f n) (kk : ∀ (kp' : Bool) (s' : SS) (N' K' G' F' : NN) (k' f' : Int), LIx kp' s' N' K' G' F' k' f' (n + 1) → V g room_1 mL lw_Z (EL g b L xs) 930 [(0, Value.ref b), (1, rf g (ad 9 0 0)), (2, rf g (ad 14 0 0)), (3, vi i)] [] (vw g kp' s') (sz kp') (caK kp') (slK kp')) : V g room_1 mL lw_Z (EL g b L xs) 782 [(0, Value.ref b), (1, rf g (ad 9 0 0)), (2, rf g (ad 14 0 0)), (3, vi i)] [] (vw g kp s) (sz kp) (caK kp) (slK kp) := by
  obtain ⟨kK, kF, kc⟩ := h.K
  obtain ⟨hs, hR, hH, hS, h8, h9, hf, hJ, h45, hG, hkp⟩ := id h
  have hI := hJ.1
  obtain ⟨b0, b1, b2, b3, b4, b5⟩ := hI.n
  have h9' : 0 ≤ s 9 0 0 0 ∧ s 9 0 0 0 ≤ 1000000 := by rw [h9]; omega
  have hcs := csK kp
  refine v_aload_n 1 dL_law_782 (nx := 783) rfl rfl ?_
  refine v_lref 0 dL_law_783 (nx := 784) rfl rfl ?_
  refine v_iload_n 3 dL_law_784 (nx := 785) rfl rfl ?_
  refine v_iconst dL_law_785 (nx := 786) rfl ?_
  refine v_iadd dL_law_786 (nx := 787) rfl ?_
  refine v_sld dL_law_787 (nx := 788) rfl hL ⟨by omega, by omega⟩ ?_
  refine v_lref 0 dL_law_788 (nx := 789) rfl rfl ?_
  refine v_iload_n 3 dL_law_789 (nx := 790) rfl rfl ?_
  refine v_iconst dL_law_790 (nx := 791) rfl ?_
  refine v_iadd dL_law_791 (nx := 792) rfl ?_
  refine v_sld dL_law_792 (nx := 793) rfl hL ⟨by omega, by omega⟩ ?_
  refine t_callVi (a := 9) (c_X6_far hR hI hH ((xs (i + 1).toNat).toInt) (i32R _) ((xs (i + 2).toNat).toInt) (i32R _) hS) dL_law_793 (nx := 796) rfl kX6_far ml_L_90 (by decide) (ok_m 9 rfl) rfl rfl rfl rfl (Nat.le_of_ble_eq_true rfl) ⟨by decide, by decide⟩ hcs ?_
  refine V.eq (mk_of hs (fun a t i h1 h2 => fd_o (by omega))) ?_
  refine v_aload_n 2 dL_law_796 (nx := 797) rfl rfl ?_
  refine v_lref 0 dL_law_797 (nx := 798) rfl rfl ?_
  refine v_iload_n 3 dL_law_798 (nx := 799) rfl rfl ?_
  refine v_iconst dL_law_799 (nx := 800) rfl ?_
  refine v_iadd dL_law_800 (nx := 801) rfl ?_
  refine v_sld dL_law_801 (nx := 802) rfl hL ⟨by omega, by omega⟩ ?_
  refine v_lref 0 dL_law_802 (nx := 803) rfl rfl ?_
  refine v_iload_n 3 dL_law_803 (nx := 804) rfl rfl ?_
  refine v_iconst dL_law_804 (nx := 805) rfl ?_
  refine v_iadd dL_law_805 (nx := 806) rfl ?_
  refine v_sld dL_law_806 (nx := 807) rfl hL ⟨by omega, by omega⟩ ?_
  refine t_callViQ (a := 14) (c_X7_far hI ((xs (i + 1).toNat).toInt) ((xs (i + 2).toNat).toInt) (i32R _) (i32R _)) dL_law_807 (nx := 810) rfl kX7_far ml_L_93 (by decide) (ok_m 14 rfl) rfl rfl rfl rfl (Nat.le_of_ble_eq_true rfl) ⟨by decide, by decide⟩ hcs (fun ρ hq => ?_)
  obtain ⟨F', rfl⟩ := hq
  rw [mk_nr]
  have hF' := nr_R (F := F')
  refine v_same dL_law_810 (tgt := 930) (by decide) ?_
  exact kk _ _ _ _ _ _ _ _ (h.step (τ := fd s (s_far N ((xs (i + 1).toNat).toInt) ((xs (i + 2).toNat).toInt)).2.2) (M := (s_far N ((xs (i + 1).toNat).toInt) ((xs (i + 2).toNat).toInt)).2.1) (df := (s_far N ((xs (i + 1).toNat).toInt) ((xs (i + 2).toNat).toInt)).2.2) (by rw [rd_far.1]; exact CR.f1 hR hH hS h8 h9' rd_far.2) rd_far.2 (by rw [rd_far.1]; exact hJ) (by rw [rd_far.1]; omega) (by rw [rd_far.1]; omega) hG hF' hn)

set_option maxRecDepth 100000 in
theorem lc_route {g : GG} {b L : Nat} {xs : Nat → Int32} {kp : Bool} {s : SS} {N K G F : NN} {k f n i : Int} (hL : L ≤ 2048) (hi : 0 ≤ i ∧ i + 4 ≤ L) (hn : 0 ≤ n ∧ n ≤ 1000) (h : LIx kp s N K G F k f n) (kk : ∀ (kp' : Bool) (s' : SS) (N' K' G' F' : NN) (k' f' : Int), LIx kp' s' N' K' G' F' k' f' (n + 1) → V g room_1 mL lw_Z (EL g b L xs) 930 [(0, Value.ref b), (1, rf g (ad 9 0 0)), (2, rf g (ad 14 0 0)), (3, vi i)] [] (vw g kp' s') (sz kp') (caK kp') (slK kp')) : V g room_1 mL lw_Z (EL g b L xs) 815 [(0, Value.ref b), (1, rf g (ad 9 0 0)), (2, rf g (ad 14 0 0)), (3, vi i)] [] (vw g kp s) (sz kp) (caK kp) (slK kp) := by
  obtain ⟨kK, kF, kc⟩ := h.K
  obtain ⟨hs, hR, hH, hS, h8, h9, hf, hJ, h45, hG, hkp⟩ := id h
  have hI := hJ.1
  obtain ⟨b0, b1, b2, b3, b4, b5⟩ := hI.n
  have h9' : 0 ≤ s 9 0 0 0 ∧ s 9 0 0 0 ≤ 1000000 := by rw [h9]; omega
  have hcs := csK kp
  refine v_aload_n 1 dL_law_815 (nx := 816) rfl rfl ?_
  refine v_lref 0 dL_law_816 (nx := 817) rfl rfl ?_
  refine v_iload_n 3 dL_law_817 (nx := 818) rfl rfl ?_
  refine v_iconst dL_law_818 (nx := 819) rfl ?_
  refine v_iadd dL_law_819 (nx := 820) rfl ?_
  refine v_sld dL_law_820 (nx := 821) rfl hL ⟨by omega, by omega⟩ ?_
  refine v_lref 0 dL_law_821 (nx := 822) rfl rfl ?_
  refine v_iload_n 3 dL_law_822 (nx := 823) rfl rfl ?_
  refine v_iconst dL_law_823 (nx := 824) rfl ?_
  refine v_iadd dL_law_824 (nx := 825) rfl ?_
  refine v_sld dL_law_825 (nx := 826) rfl hL ⟨by omega, by omega⟩ ?_
  refine t_callVi (a := 9) (c_X6_route hR hI hH ((xs (i + 1).toNat).toInt) (i32R _) ((xs (i + 2).toNat).toInt) (i32R _) hS) dL_law_826 (nx := 829) rfl kX6_route ml_L_94 (by decide) (ok_m 9 rfl) rfl rfl rfl rfl (Nat.le_of_ble_eq_true rfl) ⟨by decide, by decide⟩ hcs ?_
  refine V.eq (mk_of hs (fun a t i h1 h2 => fd_o (by omega))) ?_
  refine v_aload_n 2 dL_law_829 (nx := 830) rfl rfl ?_
  refine v_lref 0 dL_law_830 (nx := 831) rfl rfl ?_
  refine v_iload_n 3 dL_law_831 (nx := 832) rfl rfl ?_
  refine v_iconst dL_law_832 (nx := 833) rfl ?_
  refine v_iadd dL_law_833 (nx := 834) rfl ?_
  refine v_sld dL_law_834 (nx := 835) rfl hL ⟨by omega, by omega⟩ ?_
  refine v_lref 0 dL_law_835 (nx := 836) rfl rfl ?_
  refine v_iload_n 3 dL_law_836 (nx := 837) rfl rfl ?_
  refine v_iconst dL_law_837 (nx := 838) rfl ?_
  refine v_iadd dL_law_838 (nx := 839) rfl ?_
  refine v_sld dL_law_839 (nx := 840) rfl hL ⟨by omega, by omega⟩ ?_
  refine t_callViQ (a := 14) (c_X7_route hI ((xs (i + 1).toNat).toInt) ((xs (i + 2).toNat).toInt) (i32R _) (i32R _)) dL_law_840 (nx := 843) rfl kX7_route ml_L_97 (by decide) (ok_m 14 rfl) rfl rfl rfl rfl (Nat.le_of_ble_eq_true rfl) ⟨by decide, by decide⟩ hcs (fun ρ hq => ?_)
  obtain ⟨F', rfl⟩ := hq
  rw [mk_nr]
  have hF' := nr_R (F := F')
  refine v_same dL_law_843 (tgt := 930) (by decide) ?_
  exact kk _ _ _ _ _ _ _ _ (h.step (τ := fd s (s_route N ((xs (i + 1).toNat).toInt) ((xs (i + 2).toNat).toInt)).2.2) (M := (s_route N ((xs (i + 1).toNat).toInt) ((xs (i + 2).toNat).toInt)).2.1) (df := (s_route N ((xs (i + 1).toNat).toInt) ((xs (i + 2).toNat).toInt)).2.2) (by rw [rd_route.1]; exact CR.f1 hR hH hS h8 h9' rd_route.2) rd_route.2 (by rw [rd_route.1]; exact hJ) (by rw [rd_route.1]; omega) (by rw [rd_route.1]; omega) hG hF' hn)

set_option maxRecDepth 100000 in
theorem lc_flown {g : GG} {b L : Nat} {xs : Nat → Int32} {kp : Bool} {s : SS} {N K G F : NN} {k f n i : Int} (hL : L ≤ 2048) (hi : 0 ≤ i ∧ i + 4 ≤ L) (hn : 0 ≤ n ∧ n ≤ 1000) (h : LIx kp s N K G F k f n) (kk : ∀ (kp' : Bool) (s' : SS) (N' K' G' F' : NN) (k' f' : Int), LIx kp' s' N' K' G' F' k' f' (n + 1) → V g room_1 mL lw_Z (EL g b L xs) 930 [(0, Value.ref b), (1, rf g (ad 9 0 0)), (2, rf g (ad 14 0 0)), (3, vi i)] [] (vw g kp' s') (sz kp') (caK kp') (slK kp')) : V g room_1 mL lw_Z (EL g b L xs) 848 [(0, Value.ref b), (1, rf g (ad 9 0 0)), (2, rf g (ad 14 0 0)), (3, vi i)] [] (vw g kp s) (sz kp) (caK kp) (slK kp) := by
  obtain ⟨kK, kF, kc⟩ := h.K
  obtain ⟨hs, hR, hH, hS, h8, h9, hf, hJ, h45, hG, hkp⟩ := id h
  have hI := hJ.1
  obtain ⟨b0, b1, b2, b3, b4, b5⟩ := hI.n
  have h9' : 0 ≤ s 9 0 0 0 ∧ s 9 0 0 0 ≤ 1000000 := by rw [h9]; omega
  have hcs := csK kp
  refine v_aload_n 1 dL_law_848 (nx := 849) rfl rfl ?_
  refine v_lref 0 dL_law_849 (nx := 850) rfl rfl ?_
  refine v_iload_n 3 dL_law_850 (nx := 851) rfl rfl ?_
  refine v_iconst dL_law_851 (nx := 852) rfl ?_
  refine v_iadd dL_law_852 (nx := 853) rfl ?_
  refine v_sld dL_law_853 (nx := 854) rfl hL ⟨by omega, by omega⟩ ?_
  refine v_lref 0 dL_law_854 (nx := 855) rfl rfl ?_
  refine v_iload_n 3 dL_law_855 (nx := 856) rfl rfl ?_
  refine v_iconst dL_law_856 (nx := 857) rfl ?_
  refine v_iadd dL_law_857 (nx := 858) rfl ?_
  refine v_sld dL_law_858 (nx := 859) rfl hL ⟨by omega, by omega⟩ ?_
  refine t_callVi (a := 9) (c_X6_flown hR hI hH ((xs (i + 1).toNat).toInt) (i32R _) ((xs (i + 2).toNat).toInt) (i32R _)) dL_law_859 (nx := 862) rfl kX6_flown ml_L_98 (by decide) (ok_m 9 rfl) rfl rfl rfl rfl (Nat.le_of_ble_eq_true rfl) ⟨by decide, by decide⟩ hcs ?_
  refine V.eq (mk_of hs (fun a t i h1 h2 => fd_o (by omega))) ?_
  refine v_aload_n 2 dL_law_862 (nx := 863) rfl rfl ?_
  refine v_lref 0 dL_law_863 (nx := 864) rfl rfl ?_
  refine v_iload_n 3 dL_law_864 (nx := 865) rfl rfl ?_
  refine v_iconst dL_law_865 (nx := 866) rfl ?_
  refine v_iadd dL_law_866 (nx := 867) rfl ?_
  refine v_sld dL_law_867 (nx := 868) rfl hL ⟨by omega, by omega⟩ ?_
  refine v_lref 0 dL_law_868 (nx := 869) rfl rfl ?_
  refine v_iload_n 3 dL_law_869 (nx := 870) rfl rfl ?_
  refine v_iconst dL_law_870 (nx := 871) rfl ?_
  refine v_iadd dL_law_871 (nx := 872) rfl ?_
  refine v_sld dL_law_872 (nx := 873) rfl hL ⟨by omega, by omega⟩ ?_
  refine t_callVi (a := 14) (c_X7_flown hI.r ((xs (i + 1).toNat).toInt) ((xs (i + 2).toNat).toInt) (i32R _) (i32R _) b0 b1 b2 b3) dL_law_873 (nx := 876) rfl kX7_flown ml_L_101 (by decide) (ok_m 14 rfl) rfl rfl rfl rfl (Nat.le_of_ble_eq_true rfl) ⟨by decide, by decide⟩ hcs ?_
  refine v_same dL_law_876 (tgt := 930) (by decide) ?_
  exact kk _ _ _ _ _ _ _ _ (h.step (τ := fd s (s_flown N ((xs (i + 1).toNat).toInt) ((xs (i + 2).toNat).toInt)).2.2) (M := (s_flown N ((xs (i + 1).toNat).toInt) ((xs (i + 2).toNat).toInt)).2.1) (df := (s_flown N ((xs (i + 1).toNat).toInt) ((xs (i + 2).toNat).toInt)).2.2) (by rw [rd_flown.1]; exact CR.f1 hR hH hS h8 h9' rd_flown.2) rd_flown.2 (by rw [rd_flown.1]; exact hJ) (by rw [rd_flown.1]; omega) (by rw [rd_flown.1]; omega) hG kF hn)

set_option maxRecDepth 100000 in
theorem lc_count {g : GG} {b L : Nat} {xs : Nat → Int32} {kp : Bool} {s : SS} {N K G F : NN} {k f n i : Int} (hL : L ≤ 2048) (hi : 0 ≤ i ∧ i + 4 ≤ L) (hn : 0 ≤ n ∧ n ≤ 1000) (h : LIx kp s N K G F k f n) (kk : ∀ (kp' : Bool) (s' : SS) (N' K' G' F' : NN) (k' f' : Int), LIx kp' s' N' K' G' F' k' f' (n + 1) → V g room_1 mL lw_Z (EL g b L xs) 930 [(0, Value.ref b), (1, rf g (ad 9 0 0)), (2, rf g (ad 14 0 0)), (3, vi i)] [] (vw g kp' s') (sz kp') (caK kp') (slK kp')) : V g room_1 mL lw_Z (EL g b L xs) 881 [(0, Value.ref b), (1, rf g (ad 9 0 0)), (2, rf g (ad 14 0 0)), (3, vi i)] [] (vw g kp s) (sz kp) (caK kp) (slK kp) := by
  obtain ⟨kK, kF, kc⟩ := h.K
  obtain ⟨hs, hR, hH, hS, h8, h9, hf, hJ, h45, hG, hkp⟩ := id h
  have hI := hJ.1
  obtain ⟨b0, b1, b2, b3, b4, b5⟩ := hI.n
  have h9' : 0 ≤ s 9 0 0 0 ∧ s 9 0 0 0 ≤ 1000000 := by rw [h9]; omega
  have hcs := csK kp
  refine v_aload_n 1 dL_law_881 (nx := 882) rfl rfl ?_
  refine v_lref 0 dL_law_882 (nx := 883) rfl rfl ?_
  refine v_iload_n 3 dL_law_883 (nx := 884) rfl rfl ?_
  refine v_iconst dL_law_884 (nx := 885) rfl ?_
  refine v_iadd dL_law_885 (nx := 886) rfl ?_
  refine v_sld dL_law_886 (nx := 887) rfl hL ⟨by omega, by omega⟩ ?_
  refine t_callVi (a := 9) (by have q := c_X6_count (g := g) (kp := kp) hR hI hH ((xs (i + 1).toNat).toInt) (i32R _); rw [h9] at q; exact q) dL_law_887 (nx := 890) rfl kX6_count ml_L_102 (by decide) (ok_m 9 rfl) rfl rfl rfl rfl (Nat.le_of_ble_eq_true rfl) ⟨by decide, by decide⟩ hcs ?_
  refine V.eq (mk_of hs (fun a t i h1 h2 => fd_o (by omega))) ?_
  refine v_aload_n 2 dL_law_890 (nx := 891) rfl rfl ?_
  refine v_lref 0 dL_law_891 (nx := 892) rfl rfl ?_
  refine v_iload_n 3 dL_law_892 (nx := 893) rfl rfl ?_
  refine v_iconst dL_law_893 (nx := 894) rfl ?_
  refine v_iadd dL_law_894 (nx := 895) rfl ?_
  refine v_sld dL_law_895 (nx := 896) rfl hL ⟨by omega, by omega⟩ ?_
  refine t_callVi (a := 14) (c_X7_count hI.r ((xs (i + 1).toNat).toInt) (i32R _) b1 b3 (fun b y0 y1 => (hI.b y0 y1).2.2.2.1)) dL_law_896 (nx := 899) rfl kX7_count ml_L_105 (by decide) (ok_m 14 rfl) rfl rfl rfl rfl (Nat.le_of_ble_eq_true rfl) ⟨by decide, by decide⟩ hcs ?_
  refine v_same dL_law_899 (tgt := 930) (by decide) ?_
  exact kk _ _ _ _ _ _ _ _ (h.step (τ := fd s (s_count N f ((xs (i + 1).toNat).toInt)).2.2) (M := (s_count N f ((xs (i + 1).toNat).toInt)).2.1) (df := (s_count N f ((xs (i + 1).toNat).toInt)).2.2) (by rw [rd_count.1]; exact CR.f1 hR hH hS h8 h9' rd_count.2) rd_count.2 (by rw [rd_count.1]; exact hJ) (by rw [rd_count.1]; omega) (by rw [rd_count.1]; omega) hG kF hn)
