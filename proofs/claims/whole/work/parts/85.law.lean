/-! THE LAW: case by case -/
def LH (X : mX) (bs L0 : Nat) (xs : Nat → Int32) : Prop := va_X bs L0 xs X.2.2.2.2.1 X.2.2.2.2.1.heap ∧ bs < X.2.2.2.2.1.heap.size ∧ ¬ X.2.2.2.2.2.2.2.2.2.2.2.2 bs ∧ L0 ≤ 3072
theorem lg_cmp_rf (a : Int64) : lg_cmp a a = 0 := by
  unfold lg_cmp
  rw [if_neg (Int64.lt_irrefl), if_pos rfl]
theorem IVt.next {S : mS} {L : mL} {R : mR} {t : Nat} (h : IVt S L R t) : IVt S L R (t + 1) := by
  obtain ⟨T, c, N, d, n, B, u, UR, SR, sf, un, f, nm, hI, hB⟩ := h
  exact ⟨T, c, N, d, n, B, u, UR, SR, sf, un, f, nm, hI, by omega⟩
set_option maxHeartbeats 4000000 in
set_option maxRecDepth 100000 in
theorem lc_0 {X : mX} {bs L0 t : Nat} {xs : Nat → Int32} {ad : mA} {S : mS} {L : mL} {R : mR} (C : mK X RL cL_law 7 room_1) (hS : LH X bs L0 xs) (ht : 6 * t + 6 ≤ L0) (hlf : X.2.1.stackTraces = false) (hI : IVt S L R t) (kk : ∀ (S' : mS) (L' : mL) (R' : mR), IVt S' L' R' (t + 1) → Z X 7 ad mdm S' L' R' (356 + (t + 1)) (14747 + 6 * (t + 1)) 2211 [(4, .int (nI (6 * t))), (0, .ref bs), (1, .ref (ad 0 0)), (2, .ref (ad 40 0)), (3, .ref (ad 60 0))] []) : Z X 7 ad mdm S L R (356 + t) (14747 + 6 * t) 200 [(4, .int (nI (6 * t))), (0, .ref bs), (1, .ref (ad 0 0)), (2, .ref (ad 40 0)), (3, .ref (ad 60 0))] [] := by
  have h512 : t ≤ 512 := by have := hS.2.2.2; omega
  have hL0 := hS.2.2.2
  obtain ⟨P1, hX, hN⟩ := cs_append (l := X.2.1) (G := X.2.2.2.2.2.2.2.2.2.2.2.1) (ad := ad) hI (xs (6 * t + 1)) (xs (6 * t + 2)) (xs (6 * t + 3)) (xs (6 * t + 4)) (xs (6 * t + 5))
  refine z_aload_n C 200 1 2 dL_law_200 rfl rfl ?_
  refine z_aload_n C 201 0 1 dL_law_201 rfl rfl ?_
  refine z_iload C 202 4 0 dL_law_202 rfl ?_
  refine z_iconst (v := nI 1) C 204 dL_law_204 (by decide) ?_
  refine z_iaddN C 205 dL_law_205 ?_
  refine z_sld C hS.1 hS.2.1 hS.2.2.1 206 dL_law_206 rfl (by omega) (by omega) ?_
  refine z_aload_n C 207 0 1 dL_law_207 rfl rfl ?_
  refine z_iload C 208 4 0 dL_law_208 rfl ?_
  refine z_iconst (v := nI 2) C 210 dL_law_210 (by decide) ?_
  refine z_iaddN C 211 dL_law_211 ?_
  refine z_sld C hS.1 hS.2.1 hS.2.2.1 212 dL_law_212 rfl (by omega) (by omega) ?_
  refine z_aload_n C 213 0 1 dL_law_213 rfl rfl ?_
  refine z_iload C 214 4 0 dL_law_214 rfl ?_
  refine z_iconst (v := nI 3) C 216 dL_law_216 (by decide) ?_
  refine z_iaddN C 217 dL_law_217 ?_
  refine z_sld C hS.1 hS.2.1 hS.2.2.1 218 dL_law_218 rfl (by omega) (by omega) ?_
  refine z_aload_n C 219 0 1 dL_law_219 rfl rfl ?_
  refine z_iload C 220 4 0 dL_law_220 rfl ?_
  refine z_iconst (v := nI 4) C 222 dL_law_222 (by decide) ?_
  refine z_iaddN C 223 dL_law_223 ?_
  refine z_sld C hS.1 hS.2.1 hS.2.2.1 224 dL_law_224 rfl (by omega) (by omega) ?_
  refine z_aload_n C 225 0 1 dL_law_225 rfl rfl ?_
  refine z_iload C 226 4 0 dL_law_226 rfl ?_
  refine z_iconst (v := nI 5) C 228 dL_law_228 (by decide) ?_
  refine z_iaddN C 229 dL_law_229 ?_
  refine z_sld C hS.1 hS.2.1 hS.2.2.1 230 dL_law_230 rfl (by omega) (by omega) ?_
  refine z_cVi0 C 231 dL_law_231 cv_L_118 hX rfl ⟨by decide, rfl⟩ Nat.zero_lt_one rfl rfl (Nat.le_of_ble_eq_true rfl) ⟨by decide, by decide⟩ ⟨rfl, rfl⟩ ⟨by show _ ≤ 601024; omega, by show _ ≤ 7293034; omega⟩ ?_
  intro r S1 L1 R1 p1
  obtain ⟨P2, hM, hN2⟩ := hN r S1 L1 R1 p1
  refine z_aload_n C 234 2 3 dL_law_234 rfl rfl ?_
  refine z_aload_n C 235 0 1 dL_law_235 rfl rfl ?_
  refine z_iload C 236 4 0 dL_law_236 rfl ?_
  refine z_iconst (v := nI 1) C 238 dL_law_238 (by decide) ?_
  refine z_iaddN C 239 dL_law_239 ?_
  refine z_sld C hS.1 hS.2.1 hS.2.2.1 240 dL_law_240 rfl (by omega) (by omega) ?_
  refine z_aload_n C 241 0 1 dL_law_241 rfl rfl ?_
  refine z_iload C 242 4 0 dL_law_242 rfl ?_
  refine z_iconst (v := nI 2) C 244 dL_law_244 (by decide) ?_
  refine z_iaddN C 245 dL_law_245 ?_
  refine z_sld C hS.1 hS.2.1 hS.2.2.1 246 dL_law_246 rfl (by omega) (by omega) ?_
  refine z_aload_n C 247 0 1 dL_law_247 rfl rfl ?_
  refine z_iload C 248 4 0 dL_law_248 rfl ?_
  refine z_iconst (v := nI 3) C 250 dL_law_250 (by decide) ?_
  refine z_iaddN C 251 dL_law_251 ?_
  refine z_sld C hS.1 hS.2.1 hS.2.2.1 252 dL_law_252 rfl (by omega) (by omega) ?_
  refine z_aload_n C 253 0 1 dL_law_253 rfl rfl ?_
  refine z_iload C 254 4 0 dL_law_254 rfl ?_
  refine z_iconst (v := nI 4) C 256 dL_law_256 (by decide) ?_
  refine z_iaddN C 257 dL_law_257 ?_
  refine z_sld C hS.1 hS.2.1 hS.2.2.1 258 dL_law_258 rfl (by omega) (by omega) ?_
  refine z_aload_n C 259 0 1 dL_law_259 rfl rfl ?_
  refine z_iload C 260 4 0 dL_law_260 rfl ?_
  refine z_iconst (v := nI 5) C 262 dL_law_262 (by decide) ?_
  refine z_iaddN C 263 dL_law_263 ?_
  refine z_sld C hS.1 hS.2.1 hS.2.2.1 264 dL_law_264 rfl (by omega) (by omega) ?_
  refine z_cVi0 C 265 dL_law_265 cv_L_122 hM rfl ⟨by decide, rfl⟩ Nat.zero_lt_one rfl rfl (Nat.le_of_ble_eq_true rfl) ⟨by decide, by decide⟩ ⟨rfl, rfl⟩ ⟨by show _ ≤ 601024; omega, by show _ ≤ 7293034; omega⟩ ?_
  intro b S2 L2 R2 p2
  obtain ⟨rfl, S3, hext, hIV⟩ := hN2 b S2 L2 R2 p2
  refine z_ext S3 hext ?_
  refine z_icmp_eq C 268 2211 dL_law_268 (by decide) (fun _ => ?_) (fun h => absurd rfl h)
  exact z_wid (by omega) (by omega) (kk _ _ _ hIV)
set_option maxHeartbeats 4000000 in
set_option maxRecDepth 100000 in
theorem lc_1 {X : mX} {bs L0 t : Nat} {xs : Nat → Int32} {ad : mA} {S : mS} {L : mL} {R : mR} (C : mK X RL cL_law 7 room_1) (hS : LH X bs L0 xs) (ht : 6 * t + 6 ≤ L0) (hlf : X.2.1.stackTraces = false) (hI : IVt S L R t) (kk : ∀ (S' : mS) (L' : mL) (R' : mR), IVt S' L' R' (t + 1) → Z X 7 ad mdm S' L' R' (356 + (t + 1)) (14747 + 6 * (t + 1)) 2211 [(4, .int (nI (6 * t))), (0, .ref bs), (1, .ref (ad 0 0)), (2, .ref (ad 40 0)), (3, .ref (ad 60 0))] []) : Z X 7 ad mdm S L R (356 + t) (14747 + 6 * t) 273 [(4, .int (nI (6 * t))), (0, .ref bs), (1, .ref (ad 0 0)), (2, .ref (ad 40 0)), (3, .ref (ad 60 0))] [] := by
  have h512 : t ≤ 512 := by have := hS.2.2.2; omega
  have hL0 := hS.2.2.2
  obtain ⟨k, rmW, P1, hr, hz, hk, hW, hN⟩ := cs_parse (l := X.2.1) (G := X.2.2.2.2.2.2.2.2.2.2.2.1) (ad := ad) hlf h512 hI (xs (6 * t + 1))
  refine z_aload_n C 273 1 2 dL_law_273 rfl rfl ?_
  refine z_aload_n C 274 0 1 dL_law_274 rfl rfl ?_
  refine z_iload C 275 4 0 dL_law_275 rfl ?_
  refine z_iconst (v := nI 1) C 277 dL_law_277 (by decide) ?_
  refine z_iaddN C 278 dL_law_278 ?_
  refine z_sld C hS.1 hS.2.1 hS.2.2.1 279 dL_law_279 rfl (by omega) (by omega) ?_
  refine z_aload_n C 280 3 4 dL_law_280 rfl rfl ?_
  refine z_cW C 281 dL_law_281 ww_parse hW rfl rfl (Nat.le_of_ble_eq_true rfl) hr ⟨by show _ ≤ 601024; omega, by show _ ≤ 7293034; omega⟩ ?_
  intro r S1 L1 R1 p1
  obtain ⟨rfl, P2, hM, hN2⟩ := hN r S1 L1 R1 p1
  refine z_istore C 284 5 [(5, _), (4, _), (0, _), (1, _), (2, _), (3, _)] dL_law_284 (by decide) rfl ?_
  refine z_aload_n C 286 2 4 dL_law_286 rfl rfl ?_
  refine z_aload_n C 287 0 2 dL_law_287 rfl rfl ?_
  refine z_iload C 288 4 1 dL_law_288 rfl ?_
  refine z_iconst (v := nI 1) C 290 dL_law_290 (by decide) ?_
  refine z_iaddN C 291 dL_law_291 ?_
  refine z_sld C hS.1 hS.2.1 hS.2.2.1 292 dL_law_292 rfl (by omega) (by omega) ?_
  refine z_cVi0 C 293 dL_law_293 cv_L_128 hM rfl ⟨by decide, rfl⟩ Nat.zero_lt_one rfl rfl (Nat.le_of_ble_eq_true rfl) ⟨by decide, by decide⟩ ⟨rfl, rfl⟩ ⟨by show _ ≤ 601024; omega, by show _ ≤ 7293034; omega⟩ ?_
  intro b S2 L2 R2 p2
  obtain ⟨hR2, e0, e60, S3, hext, e3, hIV⟩ := hN2 b S2 L2 R2 p2
  refine z_ext S3 hext ?_
  refine z_istore C 296 6 [(6, _), (5, _), (4, _), (0, _), (1, _), (2, _), (3, _)] dL_law_296 (by decide) rfl ?_
  refine z_aload_n C 298 2 5 dL_law_298 rfl rfl ?_
  refine z_cVi0 C 299 dL_law_299 cv_L_129 (c_X9_thrown hR2) rfl ⟨by decide, rfl⟩ Nat.zero_lt_one rfl rfl (Nat.le_of_ble_eq_true rfl) ⟨by decide, by decide⟩ ⟨rfl, rfl⟩ ⟨by show _ ≤ 601024; omega, by show _ ≤ 7293034; omega⟩ ?_
  intro r9 S9 L9 R9 p9
  obtain ⟨rfl, rfl, rfl, rfl⟩ := p9
  rw [e3]
  refine z_iload C 302 5 1 dL_law_302 rfl ?_
  refine z_icmp_eq C 304 309 dL_law_304 (by decide) (fun _ => ?_) (fun h => absurd rfl h)
  refine z_iload C 309 5 1 dL_law_309 rfl ?_
  have fin : Z X 7 ad mdm S3 L2 R2 (356 + t + rmW.cells) (14747 + 6 * t + rmW.slots) 326 [(6, .int b), (5, .int (nI k)), (4, .int (nI (6 * t))), (0, .ref bs), (1, .ref (ad 0 0)), (2, .ref (ad 40 0)), (3, .ref (ad 60 0))] [] := by
    refine z_goto C 326 2211 dL_law_326 (by decide) ?_
    refine z_sub [(4, _), (0, _), (1, _), (2, _), (3, _)] [2, 3, 4, 5, 6] rfl ?_
    exact z_wid (by omega) (by omega) (kk _ _ _ hIV)
  refine z_if_neN C 311 326 dL_law_311 (by decide) (by omega) (fun _ => fin) (fun hk0 => ?_)
  refine z_aload_n C 314 3 6 dL_law_314 rfl rfl ?_
  refine z_iconst (v := nI 0) C 315 dL_law_315 (by decide) ?_
  refine z_lald C 316 dL_law_316 rfl Nat.zero_lt_one rfl (by decide) (by decide) ?_
  rw [e60 hk0]
  refine z_iload C 317 6 0 dL_law_317 rfl ?_
  refine z_i2l C 319 dL_law_319 (v := i2 b) rfl ?_
  refine z_lcmp C 320 dL_law_320 ?_
  refine z_if_eq C 321 326 dL_law_321 (by decide) (fun _ => fin) (fun h => absurd (lg_cmp_rf _) h)
set_option maxHeartbeats 4000000 in
set_option maxRecDepth 100000 in
theorem lc_2 {X : mX} {bs L0 t : Nat} {xs : Nat → Int32} {ad : mA} {S : mS} {L : mL} {R : mR} (C : mK X RL cL_law 7 room_1) (hS : LH X bs L0 xs) (ht : 6 * t + 6 ≤ L0) (hlf : X.2.1.stackTraces = false) (hI : IVt S L R t) (kk : ∀ (S' : mS) (L' : mL) (R' : mR), IVt S' L' R' (t + 1) → Z X 7 ad mdm S' L' R' (356 + (t + 1)) (14747 + 6 * (t + 1)) 2211 [(4, .int (nI (6 * t))), (0, .ref bs), (1, .ref (ad 0 0)), (2, .ref (ad 40 0)), (3, .ref (ad 60 0))] []) : Z X 7 ad mdm S L R (356 + t) (14747 + 6 * t) 329 [(4, .int (nI (6 * t))), (0, .ref bs), (1, .ref (ad 0 0)), (2, .ref (ad 40 0)), (3, .ref (ad 60 0))] [] := by
  have h512 : t ≤ 512 := by have := hS.2.2.2; omega
  have hL0 := hS.2.2.2
  obtain ⟨P1, hX, hN⟩ := cs_errorPosition (l := X.2.1) (G := X.2.2.2.2.2.2.2.2.2.2.2.1) (ad := ad) hI 
  refine z_aload_n C 329 1 2 dL_law_329 rfl rfl ?_
  refine z_cVi0 C 330 dL_law_330 cv_L_132 hX rfl ⟨by decide, rfl⟩ Nat.zero_lt_one rfl rfl (Nat.le_of_ble_eq_true rfl) ⟨by decide, by decide⟩ ⟨rfl, rfl⟩ ⟨by show _ ≤ 601024; omega, by show _ ≤ 7293034; omega⟩ ?_
  intro r S1 L1 R1 p1
  obtain ⟨P2, hM, hN2⟩ := hN r S1 L1 R1 p1
  refine z_aload_n C 333 2 3 dL_law_333 rfl rfl ?_
  refine z_cVi0 C 334 dL_law_334 cv_L_135 hM rfl ⟨by decide, rfl⟩ Nat.zero_lt_one rfl rfl (Nat.le_of_ble_eq_true rfl) ⟨by decide, by decide⟩ ⟨rfl, rfl⟩ ⟨by show _ ≤ 601024; omega, by show _ ≤ 7293034; omega⟩ ?_
  intro b S2 L2 R2 p2
  obtain ⟨rfl, S3, hext, hIV⟩ := hN2 b S2 L2 R2 p2
  refine z_ext S3 hext ?_
  refine z_icmp_eq C 337 2211 dL_law_337 (by decide) (fun _ => ?_) (fun h => absurd rfl h)
  exact z_wid (by omega) (by omega) (kk _ _ _ hIV)
set_option maxHeartbeats 4000000 in
set_option maxRecDepth 100000 in
theorem lc_3 {X : mX} {bs L0 t : Nat} {xs : Nat → Int32} {ad : mA} {S : mS} {L : mL} {R : mR} (C : mK X RL cL_law 7 room_1) (hS : LH X bs L0 xs) (ht : 6 * t + 6 ≤ L0) (hlf : X.2.1.stackTraces = false) (hI : IVt S L R t) (kk : ∀ (S' : mS) (L' : mL) (R' : mR), IVt S' L' R' (t + 1) → Z X 7 ad mdm S' L' R' (356 + (t + 1)) (14747 + 6 * (t + 1)) 2211 [(4, .int (nI (6 * t))), (0, .ref bs), (1, .ref (ad 0 0)), (2, .ref (ad 40 0)), (3, .ref (ad 60 0))] []) : Z X 7 ad mdm S L R (356 + t) (14747 + 6 * t) 342 [(4, .int (nI (6 * t))), (0, .ref bs), (1, .ref (ad 0 0)), (2, .ref (ad 40 0)), (3, .ref (ad 60 0))] [] := by
  have h512 : t ≤ 512 := by have := hS.2.2.2; omega
  have hL0 := hS.2.2.2
  obtain ⟨k, rmW, P1, hr, hz, hk, hW, hN⟩ := cs_size (l := X.2.1) (G := X.2.2.2.2.2.2.2.2.2.2.2.1) (ad := ad) hlf h512 hI (xs (6 * t + 1))
  refine z_aload_n C 342 1 2 dL_law_342 rfl rfl ?_
  refine z_aload_n C 343 0 1 dL_law_343 rfl rfl ?_
  refine z_iload C 344 4 0 dL_law_344 rfl ?_
  refine z_iconst (v := nI 1) C 346 dL_law_346 (by decide) ?_
  refine z_iaddN C 347 dL_law_347 ?_
  refine z_sld C hS.1 hS.2.1 hS.2.2.1 348 dL_law_348 rfl (by omega) (by omega) ?_
  refine z_aload_n C 349 3 4 dL_law_349 rfl rfl ?_
  refine z_cW C 350 dL_law_350 ww_size hW rfl rfl (Nat.le_of_ble_eq_true rfl) hr ⟨by show _ ≤ 601024; omega, by show _ ≤ 7293034; omega⟩ ?_
  intro r S1 L1 R1 p1
  obtain ⟨rfl, P2, hM, hN2⟩ := hN r S1 L1 R1 p1
  refine z_istore C 353 5 [(5, _), (4, _), (0, _), (1, _), (2, _), (3, _)] dL_law_353 (by decide) rfl ?_
  refine z_aload_n C 355 2 4 dL_law_355 rfl rfl ?_
  refine z_aload_n C 356 0 2 dL_law_356 rfl rfl ?_
  refine z_iload C 357 4 1 dL_law_357 rfl ?_
  refine z_iconst (v := nI 1) C 359 dL_law_359 (by decide) ?_
  refine z_iaddN C 360 dL_law_360 ?_
  refine z_sld C hS.1 hS.2.1 hS.2.2.1 361 dL_law_361 rfl (by omega) (by omega) ?_
  refine z_cVi0 C 362 dL_law_362 cv_L_138 hM rfl ⟨by decide, rfl⟩ Nat.zero_lt_one rfl rfl (Nat.le_of_ble_eq_true rfl) ⟨by decide, by decide⟩ ⟨rfl, rfl⟩ ⟨by show _ ≤ 601024; omega, by show _ ≤ 7293034; omega⟩ ?_
  intro b S2 L2 R2 p2
  obtain ⟨hR2, e0, e60, S3, hext, e3, hIV⟩ := hN2 b S2 L2 R2 p2
  refine z_ext S3 hext ?_
  refine z_istore C 365 6 [(6, _), (5, _), (4, _), (0, _), (1, _), (2, _), (3, _)] dL_law_365 (by decide) rfl ?_
  refine z_aload_n C 367 2 5 dL_law_367 rfl rfl ?_
  refine z_cVi0 C 368 dL_law_368 cv_L_129 (c_X9_thrown hR2) rfl ⟨by decide, rfl⟩ Nat.zero_lt_one rfl rfl (Nat.le_of_ble_eq_true rfl) ⟨by decide, by decide⟩ ⟨rfl, rfl⟩ ⟨by show _ ≤ 601024; omega, by show _ ≤ 7293034; omega⟩ ?_
  intro r9 S9 L9 R9 p9
  obtain ⟨rfl, rfl, rfl, rfl⟩ := p9
  rw [e3]
  refine z_iload C 371 5 1 dL_law_371 rfl ?_
  refine z_icmp_eq C 373 378 dL_law_373 (by decide) (fun _ => ?_) (fun h => absurd rfl h)
  refine z_iload C 378 5 1 dL_law_378 rfl ?_
  have fin : Z X 7 ad mdm S3 L2 R2 (356 + t + rmW.cells) (14747 + 6 * t + rmW.slots) 395 [(6, .int b), (5, .int (nI k)), (4, .int (nI (6 * t))), (0, .ref bs), (1, .ref (ad 0 0)), (2, .ref (ad 40 0)), (3, .ref (ad 60 0))] [] := by
    refine z_goto C 395 2211 dL_law_395 (by decide) ?_
    refine z_sub [(4, _), (0, _), (1, _), (2, _), (3, _)] [2, 3, 4, 5, 6] rfl ?_
    exact z_wid (by omega) (by omega) (kk _ _ _ hIV)
  refine z_if_neN C 380 395 dL_law_380 (by decide) (by omega) (fun _ => fin) (fun hk0 => ?_)
  refine z_aload_n C 383 3 6 dL_law_383 rfl rfl ?_
  refine z_iconst (v := nI 0) C 384 dL_law_384 (by decide) ?_
  refine z_lald C 385 dL_law_385 rfl Nat.zero_lt_one rfl (by decide) (by decide) ?_
  rw [e60 hk0]
  refine z_iload C 386 6 0 dL_law_386 rfl ?_
  refine z_i2l C 388 dL_law_388 (v := i2 b) rfl ?_
  refine z_lcmp C 389 dL_law_389 ?_
  refine z_if_eq C 390 395 dL_law_390 (by decide) (fun _ => fin) (fun h => absurd (lg_cmp_rf _) h)
set_option maxHeartbeats 4000000 in
set_option maxRecDepth 100000 in
theorem lc_4 {X : mX} {bs L0 t : Nat} {xs : Nat → Int32} {ad : mA} {S : mS} {L : mL} {R : mR} (C : mK X RL cL_law 7 room_1) (hS : LH X bs L0 xs) (ht : 6 * t + 6 ≤ L0) (hlf : X.2.1.stackTraces = false) (hI : IVt S L R t) (kk : ∀ (S' : mS) (L' : mL) (R' : mR), IVt S' L' R' (t + 1) → Z X 7 ad mdm S' L' R' (356 + (t + 1)) (14747 + 6 * (t + 1)) 2211 [(4, .int (nI (6 * t))), (0, .ref bs), (1, .ref (ad 0 0)), (2, .ref (ad 40 0)), (3, .ref (ad 60 0))] []) : Z X 7 ad mdm S L R (356 + t) (14747 + 6 * t) 398 [(4, .int (nI (6 * t))), (0, .ref bs), (1, .ref (ad 0 0)), (2, .ref (ad 40 0)), (3, .ref (ad 60 0))] [] := by
  have h512 : t ≤ 512 := by have := hS.2.2.2; omega
  have hL0 := hS.2.2.2
  obtain ⟨P1, hX, hN⟩ := cs_find (l := X.2.1) (G := X.2.2.2.2.2.2.2.2.2.2.2.1) (ad := ad) hI 
  refine z_aload_n C 398 1 2 dL_law_398 rfl rfl ?_
  refine z_cVi0 C 399 dL_law_399 cv_L_139 hX rfl ⟨by decide, rfl⟩ Nat.zero_lt_one rfl rfl (Nat.le_of_ble_eq_true rfl) ⟨by decide, by decide⟩ ⟨rfl, rfl⟩ ⟨by show _ ≤ 601024; omega, by show _ ≤ 7293034; omega⟩ ?_
  intro r S1 L1 R1 p1
  obtain ⟨P2, hM, hN2⟩ := hN r S1 L1 R1 p1
  refine z_aload_n C 402 2 3 dL_law_402 rfl rfl ?_
  refine z_cVi0 C 403 dL_law_403 cv_L_142 hM rfl ⟨by decide, rfl⟩ Nat.zero_lt_one rfl rfl (Nat.le_of_ble_eq_true rfl) ⟨by decide, by decide⟩ ⟨rfl, rfl⟩ ⟨by show _ ≤ 601024; omega, by show _ ≤ 7293034; omega⟩ ?_
  intro b S2 L2 R2 p2
  obtain ⟨rfl, S3, hext, hIV⟩ := hN2 b S2 L2 R2 p2
  refine z_ext S3 hext ?_
  refine z_icmp_eq C 406 2211 dL_law_406 (by decide) (fun _ => ?_) (fun h => absurd rfl h)
  exact z_wid (by omega) (by omega) (kk _ _ _ hIV)
set_option maxHeartbeats 4000000 in
set_option maxRecDepth 100000 in
theorem lc_5 {X : mX} {bs L0 t : Nat} {xs : Nat → Int32} {ad : mA} {S : mS} {L : mL} {R : mR} (C : mK X RL cL_law 7 room_1) (hS : LH X bs L0 xs) (ht : 6 * t + 6 ≤ L0) (hlf : X.2.1.stackTraces = false) (hI : IVt S L R t) (kk : ∀ (S' : mS) (L' : mL) (R' : mR), IVt S' L' R' (t + 1) → Z X 7 ad mdm S' L' R' (356 + (t + 1)) (14747 + 6 * (t + 1)) 2211 [(4, .int (nI (6 * t))), (0, .ref bs), (1, .ref (ad 0 0)), (2, .ref (ad 40 0)), (3, .ref (ad 60 0))] []) : Z X 7 ad mdm S L R (356 + t) (14747 + 6 * t) 411 [(4, .int (nI (6 * t))), (0, .ref bs), (1, .ref (ad 0 0)), (2, .ref (ad 40 0)), (3, .ref (ad 60 0))] [] := by
  have h512 : t ≤ 512 := by have := hS.2.2.2; omega
  have hL0 := hS.2.2.2
  obtain ⟨k, rmW, P1, hr, hz, hk, hW, hN⟩ := cs_program (l := X.2.1) (G := X.2.2.2.2.2.2.2.2.2.2.2.1) (ad := ad) hlf h512 hI (xs (6 * t + 1)) (xs (6 * t + 2))
  refine z_aload_n C 411 1 2 dL_law_411 rfl rfl ?_
  refine z_aload_n C 412 0 1 dL_law_412 rfl rfl ?_
  refine z_iload C 413 4 0 dL_law_413 rfl ?_
  refine z_iconst (v := nI 1) C 415 dL_law_415 (by decide) ?_
  refine z_iaddN C 416 dL_law_416 ?_
  refine z_sld C hS.1 hS.2.1 hS.2.2.1 417 dL_law_417 rfl (by omega) (by omega) ?_
  refine z_aload_n C 418 0 1 dL_law_418 rfl rfl ?_
  refine z_iload C 419 4 0 dL_law_419 rfl ?_
  refine z_iconst (v := nI 2) C 421 dL_law_421 (by decide) ?_
  refine z_iaddN C 422 dL_law_422 ?_
  refine z_sld C hS.1 hS.2.1 hS.2.2.1 423 dL_law_423 rfl (by omega) (by omega) ?_
  refine z_aload_n C 424 3 4 dL_law_424 rfl rfl ?_
  refine z_cW C 425 dL_law_425 ww_program hW rfl rfl (Nat.le_of_ble_eq_true rfl) hr ⟨by show _ ≤ 601024; omega, by show _ ≤ 7293034; omega⟩ ?_
  intro r S1 L1 R1 p1
  obtain ⟨rfl, P2, hM, hN2⟩ := hN r S1 L1 R1 p1
  refine z_istore C 428 5 [(5, _), (4, _), (0, _), (1, _), (2, _), (3, _)] dL_law_428 (by decide) rfl ?_
  refine z_aload_n C 430 2 4 dL_law_430 rfl rfl ?_
  refine z_aload_n C 431 0 2 dL_law_431 rfl rfl ?_
  refine z_iload C 432 4 1 dL_law_432 rfl ?_
  refine z_iconst (v := nI 1) C 434 dL_law_434 (by decide) ?_
  refine z_iaddN C 435 dL_law_435 ?_
  refine z_sld C hS.1 hS.2.1 hS.2.2.1 436 dL_law_436 rfl (by omega) (by omega) ?_
  refine z_aload_n C 437 0 2 dL_law_437 rfl rfl ?_
  refine z_iload C 438 4 1 dL_law_438 rfl ?_
  refine z_iconst (v := nI 2) C 440 dL_law_440 (by decide) ?_
  refine z_iaddN C 441 dL_law_441 ?_
  refine z_sld C hS.1 hS.2.1 hS.2.2.1 442 dL_law_442 rfl (by omega) (by omega) ?_
  refine z_cVi0 C 443 dL_law_443 cv_L_146 hM rfl ⟨by decide, rfl⟩ Nat.zero_lt_one rfl rfl (Nat.le_of_ble_eq_true rfl) ⟨by decide, by decide⟩ ⟨rfl, rfl⟩ ⟨by show _ ≤ 601024; omega, by show _ ≤ 7293034; omega⟩ ?_
  intro b S2 L2 R2 p2
  obtain ⟨hR2, e0, e60, S3, hext, e3, hIV⟩ := hN2 b S2 L2 R2 p2
  refine z_ext S3 hext ?_
  refine z_istore C 446 6 [(6, _), (5, _), (4, _), (0, _), (1, _), (2, _), (3, _)] dL_law_446 (by decide) rfl ?_
  refine z_aload_n C 448 2 5 dL_law_448 rfl rfl ?_
  refine z_cVi0 C 449 dL_law_449 cv_L_129 (c_X9_thrown hR2) rfl ⟨by decide, rfl⟩ Nat.zero_lt_one rfl rfl (Nat.le_of_ble_eq_true rfl) ⟨by decide, by decide⟩ ⟨rfl, rfl⟩ ⟨by show _ ≤ 601024; omega, by show _ ≤ 7293034; omega⟩ ?_
  intro r9 S9 L9 R9 p9
  obtain ⟨rfl, rfl, rfl, rfl⟩ := p9
  rw [e3]
  refine z_iload C 452 5 1 dL_law_452 rfl ?_
  refine z_icmp_eq C 454 459 dL_law_454 (by decide) (fun _ => ?_) (fun h => absurd rfl h)
  refine z_iload C 459 5 1 dL_law_459 rfl ?_
  have fin : Z X 7 ad mdm S3 L2 R2 (356 + t + rmW.cells) (14747 + 6 * t + rmW.slots) 476 [(6, .int b), (5, .int (nI k)), (4, .int (nI (6 * t))), (0, .ref bs), (1, .ref (ad 0 0)), (2, .ref (ad 40 0)), (3, .ref (ad 60 0))] [] := by
    refine z_goto C 476 2211 dL_law_476 (by decide) ?_
    refine z_sub [(4, _), (0, _), (1, _), (2, _), (3, _)] [2, 3, 4, 5, 6] rfl ?_
    exact z_wid (by omega) (by omega) (kk _ _ _ hIV)
  refine z_if_neN C 461 476 dL_law_461 (by decide) (by omega) (fun _ => fin) (fun hk0 => ?_)
  refine z_aload_n C 464 3 6 dL_law_464 rfl rfl ?_
  refine z_iconst (v := nI 0) C 465 dL_law_465 (by decide) ?_
  refine z_lald C 466 dL_law_466 rfl Nat.zero_lt_one rfl (by decide) (by decide) ?_
  rw [e60 hk0]
  refine z_iload C 467 6 0 dL_law_467 rfl ?_
  refine z_i2l C 469 dL_law_469 (v := i2 b) rfl ?_
  refine z_lcmp C 470 dL_law_470 ?_
  refine z_if_eq C 471 476 dL_law_471 (by decide) (fun _ => fin) (fun h => absurd (lg_cmp_rf _) h)
set_option maxHeartbeats 4000000 in
set_option maxRecDepth 100000 in
theorem lc_6 {X : mX} {bs L0 t : Nat} {xs : Nat → Int32} {ad : mA} {S : mS} {L : mL} {R : mR} (C : mK X RL cL_law 7 room_1) (hS : LH X bs L0 xs) (ht : 6 * t + 6 ≤ L0) (hlf : X.2.1.stackTraces = false) (hI : IVt S L R t) (kk : ∀ (S' : mS) (L' : mL) (R' : mR), IVt S' L' R' (t + 1) → Z X 7 ad mdm S' L' R' (356 + (t + 1)) (14747 + 6 * (t + 1)) 2211 [(4, .int (nI (6 * t))), (0, .ref bs), (1, .ref (ad 0 0)), (2, .ref (ad 40 0)), (3, .ref (ad 60 0))] []) : Z X 7 ad mdm S L R (356 + t) (14747 + 6 * t) 479 [(4, .int (nI (6 * t))), (0, .ref bs), (1, .ref (ad 0 0)), (2, .ref (ad 40 0)), (3, .ref (ad 60 0))] [] := by
  have h512 : t ≤ 512 := by have := hS.2.2.2; omega
  have hL0 := hS.2.2.2
  obtain ⟨k, rmW, P1, hr, hz, hk, hW, hN⟩ := cs_told (l := X.2.1) (G := X.2.2.2.2.2.2.2.2.2.2.2.1) (ad := ad) hlf h512 hI (xs (6 * t + 1)) (xs (6 * t + 2))
  refine z_aload_n C 479 1 2 dL_law_479 rfl rfl ?_
  refine z_aload_n C 480 0 1 dL_law_480 rfl rfl ?_
  refine z_iload C 481 4 0 dL_law_481 rfl ?_
  refine z_iconst (v := nI 1) C 483 dL_law_483 (by decide) ?_
  refine z_iaddN C 484 dL_law_484 ?_
  refine z_sld C hS.1 hS.2.1 hS.2.2.1 485 dL_law_485 rfl (by omega) (by omega) ?_
  refine z_aload_n C 486 0 1 dL_law_486 rfl rfl ?_
  refine z_iload C 487 4 0 dL_law_487 rfl ?_
  refine z_iconst (v := nI 2) C 489 dL_law_489 (by decide) ?_
  refine z_iaddN C 490 dL_law_490 ?_
  refine z_sld C hS.1 hS.2.1 hS.2.2.1 491 dL_law_491 rfl (by omega) (by omega) ?_
  refine z_aload_n C 492 3 4 dL_law_492 rfl rfl ?_
  refine z_cW C 493 dL_law_493 ww_told hW rfl rfl (Nat.le_of_ble_eq_true rfl) hr ⟨by show _ ≤ 601024; omega, by show _ ≤ 7293034; omega⟩ ?_
  intro r S1 L1 R1 p1
  obtain ⟨rfl, P2, hM, hN2⟩ := hN r S1 L1 R1 p1
  refine z_istore C 496 5 [(5, _), (4, _), (0, _), (1, _), (2, _), (3, _)] dL_law_496 (by decide) rfl ?_
  refine z_aload_n C 498 2 4 dL_law_498 rfl rfl ?_
  refine z_aload_n C 499 0 2 dL_law_499 rfl rfl ?_
  refine z_iload C 500 4 1 dL_law_500 rfl ?_
  refine z_iconst (v := nI 1) C 502 dL_law_502 (by decide) ?_
  refine z_iaddN C 503 dL_law_503 ?_
  refine z_sld C hS.1 hS.2.1 hS.2.2.1 504 dL_law_504 rfl (by omega) (by omega) ?_
  refine z_aload_n C 505 0 2 dL_law_505 rfl rfl ?_
  refine z_iload C 506 4 1 dL_law_506 rfl ?_
  refine z_iconst (v := nI 2) C 508 dL_law_508 (by decide) ?_
  refine z_iaddN C 509 dL_law_509 ?_
  refine z_sld C hS.1 hS.2.1 hS.2.2.1 510 dL_law_510 rfl (by omega) (by omega) ?_
  refine z_cVi0 C 511 dL_law_511 cv_L_149 hM rfl ⟨by decide, rfl⟩ Nat.zero_lt_one rfl rfl (Nat.le_of_ble_eq_true rfl) ⟨by decide, by decide⟩ ⟨rfl, rfl⟩ ⟨by show _ ≤ 601024; omega, by show _ ≤ 7293034; omega⟩ ?_
  intro b S2 L2 R2 p2
  obtain ⟨hR2, e0, e60, S3, hext, e3, hIV⟩ := hN2 b S2 L2 R2 p2
  refine z_ext S3 hext ?_
  refine z_istore C 514 6 [(6, _), (5, _), (4, _), (0, _), (1, _), (2, _), (3, _)] dL_law_514 (by decide) rfl ?_
  refine z_aload_n C 516 2 5 dL_law_516 rfl rfl ?_
  refine z_cVi0 C 517 dL_law_517 cv_L_129 (c_X9_thrown hR2) rfl ⟨by decide, rfl⟩ Nat.zero_lt_one rfl rfl (Nat.le_of_ble_eq_true rfl) ⟨by decide, by decide⟩ ⟨rfl, rfl⟩ ⟨by show _ ≤ 601024; omega, by show _ ≤ 7293034; omega⟩ ?_
  intro r9 S9 L9 R9 p9
  obtain ⟨rfl, rfl, rfl, rfl⟩ := p9
  rw [e3]
  refine z_iload C 520 5 1 dL_law_520 rfl ?_
  refine z_icmp_eq C 522 527 dL_law_522 (by decide) (fun _ => ?_) (fun h => absurd rfl h)
  refine z_iload C 527 5 1 dL_law_527 rfl ?_
  have fin : Z X 7 ad mdm S3 L2 R2 (356 + t + rmW.cells) (14747 + 6 * t + rmW.slots) 544 [(6, .int b), (5, .int (nI k)), (4, .int (nI (6 * t))), (0, .ref bs), (1, .ref (ad 0 0)), (2, .ref (ad 40 0)), (3, .ref (ad 60 0))] [] := by
    refine z_goto C 544 2211 dL_law_544 (by decide) ?_
    refine z_sub [(4, _), (0, _), (1, _), (2, _), (3, _)] [2, 3, 4, 5, 6] rfl ?_
    exact z_wid (by omega) (by omega) (kk _ _ _ hIV)
  refine z_if_neN C 529 544 dL_law_529 (by decide) (by omega) (fun _ => fin) (fun hk0 => ?_)
  refine z_aload_n C 532 3 6 dL_law_532 rfl rfl ?_
  refine z_iconst (v := nI 0) C 533 dL_law_533 (by decide) ?_
  refine z_lald C 534 dL_law_534 rfl Nat.zero_lt_one rfl (by decide) (by decide) ?_
  rw [e60 hk0]
  refine z_iload C 535 6 0 dL_law_535 rfl ?_
  refine z_i2l C 537 dL_law_537 (v := i2 b) rfl ?_
  refine z_lcmp C 538 dL_law_538 ?_
  refine z_if_eq C 539 544 dL_law_539 (by decide) (fun _ => fin) (fun h => absurd (lg_cmp_rf _) h)
set_option maxHeartbeats 4000000 in
set_option maxRecDepth 100000 in
theorem lc_7 {X : mX} {bs L0 t : Nat} {xs : Nat → Int32} {ad : mA} {S : mS} {L : mL} {R : mR} (C : mK X RL cL_law 7 room_1) (hS : LH X bs L0 xs) (ht : 6 * t + 6 ≤ L0) (hlf : X.2.1.stackTraces = false) (hI : IVt S L R t) (kk : ∀ (S' : mS) (L' : mL) (R' : mR), IVt S' L' R' (t + 1) → Z X 7 ad mdm S' L' R' (356 + (t + 1)) (14747 + 6 * (t + 1)) 2211 [(4, .int (nI (6 * t))), (0, .ref bs), (1, .ref (ad 0 0)), (2, .ref (ad 40 0)), (3, .ref (ad 60 0))] []) : Z X 7 ad mdm S L R (356 + t) (14747 + 6 * t) 547 [(4, .int (nI (6 * t))), (0, .ref bs), (1, .ref (ad 0 0)), (2, .ref (ad 40 0)), (3, .ref (ad 60 0))] [] := by
  have h512 : t ≤ 512 := by have := hS.2.2.2; omega
  have hL0 := hS.2.2.2
  obtain ⟨k, rmW, P1, hr, hz, hk, hW, hN⟩ := cs_picture (l := X.2.1) (G := X.2.2.2.2.2.2.2.2.2.2.2.1) (ad := ad) hlf h512 hI (xs (6 * t + 1))
  refine z_aload_n C 547 1 2 dL_law_547 rfl rfl ?_
  refine z_aload_n C 548 0 1 dL_law_548 rfl rfl ?_
  refine z_iload C 549 4 0 dL_law_549 rfl ?_
  refine z_iconst (v := nI 1) C 551 dL_law_551 (by decide) ?_
  refine z_iaddN C 552 dL_law_552 ?_
  refine z_sld C hS.1 hS.2.1 hS.2.2.1 553 dL_law_553 rfl (by omega) (by omega) ?_
  refine z_aload_n C 554 3 4 dL_law_554 rfl rfl ?_
  refine z_cW C 555 dL_law_555 ww_picture hW rfl rfl (Nat.le_of_ble_eq_true rfl) hr ⟨by show _ ≤ 601024; omega, by show _ ≤ 7293034; omega⟩ ?_
  intro r S1 L1 R1 p1
  obtain ⟨rfl, P2, hM, hN2⟩ := hN r S1 L1 R1 p1
  refine z_istore C 558 5 [(5, _), (4, _), (0, _), (1, _), (2, _), (3, _)] dL_law_558 (by decide) rfl ?_
  refine z_aload_n C 560 2 4 dL_law_560 rfl rfl ?_
  refine z_aload_n C 561 0 2 dL_law_561 rfl rfl ?_
  refine z_iload C 562 4 1 dL_law_562 rfl ?_
  refine z_iconst (v := nI 1) C 564 dL_law_564 (by decide) ?_
  refine z_iaddN C 565 dL_law_565 ?_
  refine z_sld C hS.1 hS.2.1 hS.2.2.1 566 dL_law_566 rfl (by omega) (by omega) ?_
  refine z_cVi0 C 567 dL_law_567 cv_L_152 hM rfl ⟨by decide, rfl⟩ Nat.zero_lt_one rfl rfl (Nat.le_of_ble_eq_true rfl) ⟨by decide, by decide⟩ ⟨rfl, rfl⟩ ⟨by show _ ≤ 601024; omega, by show _ ≤ 7293034; omega⟩ ?_
  intro b S2 L2 R2 p2
  obtain ⟨hR2, e0, e60, S3, hext, e3, hIV⟩ := hN2 b S2 L2 R2 p2
  refine z_ext S3 hext ?_
  refine z_istore C 570 6 [(6, _), (5, _), (4, _), (0, _), (1, _), (2, _), (3, _)] dL_law_570 (by decide) rfl ?_
  refine z_aload_n C 572 2 5 dL_law_572 rfl rfl ?_
  refine z_cVi0 C 573 dL_law_573 cv_L_129 (c_X9_thrown hR2) rfl ⟨by decide, rfl⟩ Nat.zero_lt_one rfl rfl (Nat.le_of_ble_eq_true rfl) ⟨by decide, by decide⟩ ⟨rfl, rfl⟩ ⟨by show _ ≤ 601024; omega, by show _ ≤ 7293034; omega⟩ ?_
  intro r9 S9 L9 R9 p9
  obtain ⟨rfl, rfl, rfl, rfl⟩ := p9
  rw [e3]
  refine z_iload C 576 5 1 dL_law_576 rfl ?_
  refine z_icmp_eq C 578 583 dL_law_578 (by decide) (fun _ => ?_) (fun h => absurd rfl h)
  refine z_iload C 583 5 1 dL_law_583 rfl ?_
  have fin : Z X 7 ad mdm S3 L2 R2 (356 + t + rmW.cells) (14747 + 6 * t + rmW.slots) 600 [(6, .int b), (5, .int (nI k)), (4, .int (nI (6 * t))), (0, .ref bs), (1, .ref (ad 0 0)), (2, .ref (ad 40 0)), (3, .ref (ad 60 0))] [] := by
    refine z_goto C 600 2211 dL_law_600 (by decide) ?_
    refine z_sub [(4, _), (0, _), (1, _), (2, _), (3, _)] [2, 3, 4, 5, 6] rfl ?_
    exact z_wid (by omega) (by omega) (kk _ _ _ hIV)
  refine z_if_neN C 585 600 dL_law_585 (by decide) (by omega) (fun _ => fin) (fun hk0 => ?_)
  refine z_aload_n C 588 3 6 dL_law_588 rfl rfl ?_
  refine z_iconst (v := nI 0) C 589 dL_law_589 (by decide) ?_
  refine z_lald C 590 dL_law_590 rfl Nat.zero_lt_one rfl (by decide) (by decide) ?_
  rw [e60 hk0]
  refine z_iload C 591 6 0 dL_law_591 rfl ?_
  refine z_i2l C 593 dL_law_593 (v := i2 b) rfl ?_
  refine z_lcmp C 594 dL_law_594 ?_
  refine z_if_eq C 595 600 dL_law_595 (by decide) (fun _ => fin) (fun h => absurd (lg_cmp_rf _) h)
set_option maxHeartbeats 4000000 in
set_option maxRecDepth 100000 in
theorem lc_8 {X : mX} {bs L0 t : Nat} {xs : Nat → Int32} {ad : mA} {S : mS} {L : mL} {R : mR} (C : mK X RL cL_law 7 room_1) (hS : LH X bs L0 xs) (ht : 6 * t + 6 ≤ L0) (hlf : X.2.1.stackTraces = false) (hI : IVt S L R t) (kk : ∀ (S' : mS) (L' : mL) (R' : mR), IVt S' L' R' (t + 1) → Z X 7 ad mdm S' L' R' (356 + (t + 1)) (14747 + 6 * (t + 1)) 2211 [(4, .int (nI (6 * t))), (0, .ref bs), (1, .ref (ad 0 0)), (2, .ref (ad 40 0)), (3, .ref (ad 60 0))] []) : Z X 7 ad mdm S L R (356 + t) (14747 + 6 * t) 603 [(4, .int (nI (6 * t))), (0, .ref bs), (1, .ref (ad 0 0)), (2, .ref (ad 40 0)), (3, .ref (ad 60 0))] [] := by
  have h512 : t ≤ 512 := by have := hS.2.2.2; omega
  have hL0 := hS.2.2.2
  obtain ⟨k, rmW, P1, hr, hz, hk, hW, hN⟩ := cs_notice (l := X.2.1) (G := X.2.2.2.2.2.2.2.2.2.2.2.1) (ad := ad) hlf h512 hI (xs (6 * t + 1)) (xs (6 * t + 2))
  refine z_aload_n C 603 1 2 dL_law_603 rfl rfl ?_
  refine z_aload_n C 604 0 1 dL_law_604 rfl rfl ?_
  refine z_iload C 605 4 0 dL_law_605 rfl ?_
  refine z_iconst (v := nI 1) C 607 dL_law_607 (by decide) ?_
  refine z_iaddN C 608 dL_law_608 ?_
  refine z_sld C hS.1 hS.2.1 hS.2.2.1 609 dL_law_609 rfl (by omega) (by omega) ?_
  refine z_aload_n C 610 0 1 dL_law_610 rfl rfl ?_
  refine z_iload C 611 4 0 dL_law_611 rfl ?_
  refine z_iconst (v := nI 2) C 613 dL_law_613 (by decide) ?_
  refine z_iaddN C 614 dL_law_614 ?_
  refine z_sld C hS.1 hS.2.1 hS.2.2.1 615 dL_law_615 rfl (by omega) (by omega) ?_
  refine z_aload_n C 616 3 4 dL_law_616 rfl rfl ?_
  refine z_cW C 617 dL_law_617 ww_notice hW rfl rfl (Nat.le_of_ble_eq_true rfl) hr ⟨by show _ ≤ 601024; omega, by show _ ≤ 7293034; omega⟩ ?_
  intro r S1 L1 R1 p1
  obtain ⟨rfl, P2, hM, hN2⟩ := hN r S1 L1 R1 p1
  refine z_istore C 620 5 [(5, _), (4, _), (0, _), (1, _), (2, _), (3, _)] dL_law_620 (by decide) rfl ?_
  refine z_aload_n C 622 2 4 dL_law_622 rfl rfl ?_
  refine z_aload_n C 623 0 2 dL_law_623 rfl rfl ?_
  refine z_iload C 624 4 1 dL_law_624 rfl ?_
  refine z_iconst (v := nI 1) C 626 dL_law_626 (by decide) ?_
  refine z_iaddN C 627 dL_law_627 ?_
  refine z_sld C hS.1 hS.2.1 hS.2.2.1 628 dL_law_628 rfl (by omega) (by omega) ?_
  refine z_aload_n C 629 0 2 dL_law_629 rfl rfl ?_
  refine z_iload C 630 4 1 dL_law_630 rfl ?_
  refine z_iconst (v := nI 2) C 632 dL_law_632 (by decide) ?_
  refine z_iaddN C 633 dL_law_633 ?_
  refine z_sld C hS.1 hS.2.1 hS.2.2.1 634 dL_law_634 rfl (by omega) (by omega) ?_
  refine z_cVi0 C 635 dL_law_635 cv_L_155 hM rfl ⟨by decide, rfl⟩ Nat.zero_lt_one rfl rfl (Nat.le_of_ble_eq_true rfl) ⟨by decide, by decide⟩ ⟨rfl, rfl⟩ ⟨by show _ ≤ 601024; omega, by show _ ≤ 7293034; omega⟩ ?_
  intro b S2 L2 R2 p2
  obtain ⟨hR2, e0, e60, S3, hext, e3, hIV⟩ := hN2 b S2 L2 R2 p2
  refine z_ext S3 hext ?_
  refine z_istore C 638 6 [(6, _), (5, _), (4, _), (0, _), (1, _), (2, _), (3, _)] dL_law_638 (by decide) rfl ?_
  refine z_aload_n C 640 2 5 dL_law_640 rfl rfl ?_
  refine z_cVi0 C 641 dL_law_641 cv_L_129 (c_X9_thrown hR2) rfl ⟨by decide, rfl⟩ Nat.zero_lt_one rfl rfl (Nat.le_of_ble_eq_true rfl) ⟨by decide, by decide⟩ ⟨rfl, rfl⟩ ⟨by show _ ≤ 601024; omega, by show _ ≤ 7293034; omega⟩ ?_
  intro r9 S9 L9 R9 p9
  obtain ⟨rfl, rfl, rfl, rfl⟩ := p9
  rw [e3]
  refine z_iload C 644 5 1 dL_law_644 rfl ?_
  refine z_icmp_eq C 646 651 dL_law_646 (by decide) (fun _ => ?_) (fun h => absurd rfl h)
  refine z_iload C 651 5 1 dL_law_651 rfl ?_
  have fin : Z X 7 ad mdm S3 L2 R2 (356 + t + rmW.cells) (14747 + 6 * t + rmW.slots) 668 [(6, .int b), (5, .int (nI k)), (4, .int (nI (6 * t))), (0, .ref bs), (1, .ref (ad 0 0)), (2, .ref (ad 40 0)), (3, .ref (ad 60 0))] [] := by
    refine z_goto C 668 2211 dL_law_668 (by decide) ?_
    refine z_sub [(4, _), (0, _), (1, _), (2, _), (3, _)] [2, 3, 4, 5, 6] rfl ?_
    exact z_wid (by omega) (by omega) (kk _ _ _ hIV)
  refine z_if_neN C 653 668 dL_law_653 (by decide) (by omega) (fun _ => fin) (fun hk0 => ?_)
  refine z_aload_n C 656 3 6 dL_law_656 rfl rfl ?_
  refine z_iconst (v := nI 0) C 657 dL_law_657 (by decide) ?_
  refine z_lald C 658 dL_law_658 rfl Nat.zero_lt_one rfl (by decide) (by decide) ?_
  rw [e60 hk0]
  refine z_iload C 659 6 0 dL_law_659 rfl ?_
  refine z_i2l C 661 dL_law_661 (v := i2 b) rfl ?_
  refine z_lcmp C 662 dL_law_662 ?_
  refine z_if_eq C 663 668 dL_law_663 (by decide) (fun _ => fin) (fun h => absurd (lg_cmp_rf _) h)
set_option maxHeartbeats 4000000 in
set_option maxRecDepth 100000 in
theorem lc_9 {X : mX} {bs L0 t : Nat} {xs : Nat → Int32} {ad : mA} {S : mS} {L : mL} {R : mR} (C : mK X RL cL_law 7 room_1) (hS : LH X bs L0 xs) (ht : 6 * t + 6 ≤ L0) (hlf : X.2.1.stackTraces = false) (hI : IVt S L R t) (kk : ∀ (S' : mS) (L' : mL) (R' : mR), IVt S' L' R' (t + 1) → Z X 7 ad mdm S' L' R' (356 + (t + 1)) (14747 + 6 * (t + 1)) 2211 [(4, .int (nI (6 * t))), (0, .ref bs), (1, .ref (ad 0 0)), (2, .ref (ad 40 0)), (3, .ref (ad 60 0))] []) : Z X 7 ad mdm S L R (356 + t) (14747 + 6 * t) 671 [(4, .int (nI (6 * t))), (0, .ref bs), (1, .ref (ad 0 0)), (2, .ref (ad 40 0)), (3, .ref (ad 60 0))] [] := by
  have h512 : t ≤ 512 := by have := hS.2.2.2; omega
  have hL0 := hS.2.2.2
  obtain ⟨k, rmW, P1, hr, hz, hk, hW, hN⟩ := cs_habit (l := X.2.1) (G := X.2.2.2.2.2.2.2.2.2.2.2.1) (ad := ad) hlf h512 hI (xs (6 * t + 1))
  refine z_aload_n C 671 1 2 dL_law_671 rfl rfl ?_
  refine z_aload_n C 672 0 1 dL_law_672 rfl rfl ?_
  refine z_iload C 673 4 0 dL_law_673 rfl ?_
  refine z_iconst (v := nI 1) C 675 dL_law_675 (by decide) ?_
  refine z_iaddN C 676 dL_law_676 ?_
  refine z_sld C hS.1 hS.2.1 hS.2.2.1 677 dL_law_677 rfl (by omega) (by omega) ?_
  refine z_aload_n C 678 3 4 dL_law_678 rfl rfl ?_
  refine z_cW C 679 dL_law_679 ww_habit hW rfl rfl (Nat.le_of_ble_eq_true rfl) hr ⟨by show _ ≤ 601024; omega, by show _ ≤ 7293034; omega⟩ ?_
  intro r S1 L1 R1 p1
  obtain ⟨rfl, P2, hM, hN2⟩ := hN r S1 L1 R1 p1
  refine z_istore C 682 5 [(5, _), (4, _), (0, _), (1, _), (2, _), (3, _)] dL_law_682 (by decide) rfl ?_
  refine z_aload_n C 684 2 4 dL_law_684 rfl rfl ?_
  refine z_aload_n C 685 0 2 dL_law_685 rfl rfl ?_
  refine z_iload C 686 4 1 dL_law_686 rfl ?_
  refine z_iconst (v := nI 1) C 688 dL_law_688 (by decide) ?_
  refine z_iaddN C 689 dL_law_689 ?_
  refine z_sld C hS.1 hS.2.1 hS.2.2.1 690 dL_law_690 rfl (by omega) (by omega) ?_
  refine z_cVi0 C 691 dL_law_691 cv_L_158 hM rfl ⟨by decide, rfl⟩ Nat.zero_lt_one rfl rfl (Nat.le_of_ble_eq_true rfl) ⟨by decide, by decide⟩ ⟨rfl, rfl⟩ ⟨by show _ ≤ 601024; omega, by show _ ≤ 7293034; omega⟩ ?_
  intro b S2 L2 R2 p2
  obtain ⟨hR2, e0, e60, S3, hext, e3, hIV⟩ := hN2 b S2 L2 R2 p2
  refine z_ext S3 hext ?_
  refine z_istore C 694 6 [(6, _), (5, _), (4, _), (0, _), (1, _), (2, _), (3, _)] dL_law_694 (by decide) rfl ?_
  refine z_aload_n C 696 2 5 dL_law_696 rfl rfl ?_
  refine z_cVi0 C 697 dL_law_697 cv_L_129 (c_X9_thrown hR2) rfl ⟨by decide, rfl⟩ Nat.zero_lt_one rfl rfl (Nat.le_of_ble_eq_true rfl) ⟨by decide, by decide⟩ ⟨rfl, rfl⟩ ⟨by show _ ≤ 601024; omega, by show _ ≤ 7293034; omega⟩ ?_
  intro r9 S9 L9 R9 p9
  obtain ⟨rfl, rfl, rfl, rfl⟩ := p9
  rw [e3]
  refine z_iload C 700 5 1 dL_law_700 rfl ?_
  refine z_icmp_eq C 702 707 dL_law_702 (by decide) (fun _ => ?_) (fun h => absurd rfl h)
  refine z_iload C 707 5 1 dL_law_707 rfl ?_
  have fin : Z X 7 ad mdm S3 L2 R2 (356 + t + rmW.cells) (14747 + 6 * t + rmW.slots) 724 [(6, .int b), (5, .int (nI k)), (4, .int (nI (6 * t))), (0, .ref bs), (1, .ref (ad 0 0)), (2, .ref (ad 40 0)), (3, .ref (ad 60 0))] [] := by
    refine z_goto C 724 2211 dL_law_724 (by decide) ?_
    refine z_sub [(4, _), (0, _), (1, _), (2, _), (3, _)] [2, 3, 4, 5, 6] rfl ?_
    exact z_wid (by omega) (by omega) (kk _ _ _ hIV)
  refine z_if_neN C 709 724 dL_law_709 (by decide) (by omega) (fun _ => fin) (fun hk0 => ?_)
  refine z_aload_n C 712 3 6 dL_law_712 rfl rfl ?_
  refine z_iconst (v := nI 0) C 713 dL_law_713 (by decide) ?_
  refine z_lald C 714 dL_law_714 rfl Nat.zero_lt_one rfl (by decide) (by decide) ?_
  rw [e60 hk0]
  refine z_iload C 715 6 0 dL_law_715 rfl ?_
  refine z_i2l C 717 dL_law_717 (v := i2 b) rfl ?_
  refine z_lcmp C 718 dL_law_718 ?_
  refine z_if_eq C 719 724 dL_law_719 (by decide) (fun _ => fin) (fun h => absurd (lg_cmp_rf _) h)
set_option maxHeartbeats 4000000 in
set_option maxRecDepth 100000 in
theorem lc_10 {X : mX} {bs L0 t : Nat} {xs : Nat → Int32} {ad : mA} {S : mS} {L : mL} {R : mR} (C : mK X RL cL_law 7 room_1) (hS : LH X bs L0 xs) (ht : 6 * t + 6 ≤ L0) (hlf : X.2.1.stackTraces = false) (hI : IVt S L R t) (kk : ∀ (S' : mS) (L' : mL) (R' : mR), IVt S' L' R' (t + 1) → Z X 7 ad mdm S' L' R' (356 + (t + 1)) (14747 + 6 * (t + 1)) 2211 [(4, .int (nI (6 * t))), (0, .ref bs), (1, .ref (ad 0 0)), (2, .ref (ad 40 0)), (3, .ref (ad 60 0))] []) : Z X 7 ad mdm S L R (356 + t) (14747 + 6 * t) 727 [(4, .int (nI (6 * t))), (0, .ref bs), (1, .ref (ad 0 0)), (2, .ref (ad 40 0)), (3, .ref (ad 60 0))] [] := by
  have h512 : t ≤ 512 := by have := hS.2.2.2; omega
  have hL0 := hS.2.2.2
  obtain ⟨k, rmW, P1, hr, hz, hk, hW, hN⟩ := cs_promise (l := X.2.1) (G := X.2.2.2.2.2.2.2.2.2.2.2.1) (ad := ad) hlf h512 hI (xs (6 * t + 1))
  refine z_aload_n C 727 1 2 dL_law_727 rfl rfl ?_
  refine z_aload_n C 728 0 1 dL_law_728 rfl rfl ?_
  refine z_iload C 729 4 0 dL_law_729 rfl ?_
  refine z_iconst (v := nI 1) C 731 dL_law_731 (by decide) ?_
  refine z_iaddN C 732 dL_law_732 ?_
  refine z_sld C hS.1 hS.2.1 hS.2.2.1 733 dL_law_733 rfl (by omega) (by omega) ?_
  refine z_aload_n C 734 3 4 dL_law_734 rfl rfl ?_
  refine z_cW C 735 dL_law_735 ww_promise hW rfl rfl (Nat.le_of_ble_eq_true rfl) hr ⟨by show _ ≤ 601024; omega, by show _ ≤ 7293034; omega⟩ ?_
  intro r S1 L1 R1 p1
  obtain ⟨rfl, P2, hM, hN2⟩ := hN r S1 L1 R1 p1
  refine z_istore C 738 5 [(5, _), (4, _), (0, _), (1, _), (2, _), (3, _)] dL_law_738 (by decide) rfl ?_
  refine z_aload_n C 740 2 4 dL_law_740 rfl rfl ?_
  refine z_aload_n C 741 0 2 dL_law_741 rfl rfl ?_
  refine z_iload C 742 4 1 dL_law_742 rfl ?_
  refine z_iconst (v := nI 1) C 744 dL_law_744 (by decide) ?_
  refine z_iaddN C 745 dL_law_745 ?_
  refine z_sld C hS.1 hS.2.1 hS.2.2.1 746 dL_law_746 rfl (by omega) (by omega) ?_
  refine z_cVi0 C 747 dL_law_747 cv_L_161 hM rfl ⟨by decide, rfl⟩ Nat.zero_lt_one rfl rfl (Nat.le_of_ble_eq_true rfl) ⟨by decide, by decide⟩ ⟨rfl, rfl⟩ ⟨by show _ ≤ 601024; omega, by show _ ≤ 7293034; omega⟩ ?_
  intro b S2 L2 R2 p2
  obtain ⟨hR2, e0, e60, S3, hext, e3, hIV⟩ := hN2 b S2 L2 R2 p2
  refine z_ext S3 hext ?_
  refine z_istore C 750 6 [(6, _), (5, _), (4, _), (0, _), (1, _), (2, _), (3, _)] dL_law_750 (by decide) rfl ?_
  refine z_aload_n C 752 2 5 dL_law_752 rfl rfl ?_
  refine z_cVi0 C 753 dL_law_753 cv_L_129 (c_X9_thrown hR2) rfl ⟨by decide, rfl⟩ Nat.zero_lt_one rfl rfl (Nat.le_of_ble_eq_true rfl) ⟨by decide, by decide⟩ ⟨rfl, rfl⟩ ⟨by show _ ≤ 601024; omega, by show _ ≤ 7293034; omega⟩ ?_
  intro r9 S9 L9 R9 p9
  obtain ⟨rfl, rfl, rfl, rfl⟩ := p9
  rw [e3]
  refine z_iload C 756 5 1 dL_law_756 rfl ?_
  refine z_icmp_eq C 758 763 dL_law_758 (by decide) (fun _ => ?_) (fun h => absurd rfl h)
  refine z_iload C 763 5 1 dL_law_763 rfl ?_
  have fin : Z X 7 ad mdm S3 L2 R2 (356 + t + rmW.cells) (14747 + 6 * t + rmW.slots) 780 [(6, .int b), (5, .int (nI k)), (4, .int (nI (6 * t))), (0, .ref bs), (1, .ref (ad 0 0)), (2, .ref (ad 40 0)), (3, .ref (ad 60 0))] [] := by
    refine z_goto C 780 2211 dL_law_780 (by decide) ?_
    refine z_sub [(4, _), (0, _), (1, _), (2, _), (3, _)] [2, 3, 4, 5, 6] rfl ?_
    exact z_wid (by omega) (by omega) (kk _ _ _ hIV)
  refine z_if_neN C 765 780 dL_law_765 (by decide) (by omega) (fun _ => fin) (fun hk0 => ?_)
  refine z_aload_n C 768 3 6 dL_law_768 rfl rfl ?_
  refine z_iconst (v := nI 0) C 769 dL_law_769 (by decide) ?_
  refine z_lald C 770 dL_law_770 rfl Nat.zero_lt_one rfl (by decide) (by decide) ?_
  rw [e60 hk0]
  refine z_iload C 771 6 0 dL_law_771 rfl ?_
  refine z_i2l C 773 dL_law_773 (v := i2 b) rfl ?_
  refine z_lcmp C 774 dL_law_774 ?_
  refine z_if_eq C 775 780 dL_law_775 (by decide) (fun _ => fin) (fun h => absurd (lg_cmp_rf _) h)
set_option maxHeartbeats 4000000 in
set_option maxRecDepth 100000 in
theorem lc_11 {X : mX} {bs L0 t : Nat} {xs : Nat → Int32} {ad : mA} {S : mS} {L : mL} {R : mR} (C : mK X RL cL_law 7 room_1) (hS : LH X bs L0 xs) (ht : 6 * t + 6 ≤ L0) (hlf : X.2.1.stackTraces = false) (hI : IVt S L R t) (kk : ∀ (S' : mS) (L' : mL) (R' : mR), IVt S' L' R' (t + 1) → Z X 7 ad mdm S' L' R' (356 + (t + 1)) (14747 + 6 * (t + 1)) 2211 [(4, .int (nI (6 * t))), (0, .ref bs), (1, .ref (ad 0 0)), (2, .ref (ad 40 0)), (3, .ref (ad 60 0))] []) : Z X 7 ad mdm S L R (356 + t) (14747 + 6 * t) 783 [(4, .int (nI (6 * t))), (0, .ref bs), (1, .ref (ad 0 0)), (2, .ref (ad 40 0)), (3, .ref (ad 60 0))] [] := by
  have h512 : t ≤ 512 := by have := hS.2.2.2; omega
  have hL0 := hS.2.2.2
  obtain ⟨k, rmW, P1, hr, hz, hk, hW, hN⟩ := cs_followed (l := X.2.1) (G := X.2.2.2.2.2.2.2.2.2.2.2.1) (ad := ad) hlf h512 hI (xs (6 * t + 1)) (xs (6 * t + 2))
  refine z_aload_n C 783 1 2 dL_law_783 rfl rfl ?_
  refine z_aload_n C 784 0 1 dL_law_784 rfl rfl ?_
  refine z_iload C 785 4 0 dL_law_785 rfl ?_
  refine z_iconst (v := nI 1) C 787 dL_law_787 (by decide) ?_
  refine z_iaddN C 788 dL_law_788 ?_
  refine z_sld C hS.1 hS.2.1 hS.2.2.1 789 dL_law_789 rfl (by omega) (by omega) ?_
  refine z_aload_n C 790 0 1 dL_law_790 rfl rfl ?_
  refine z_iload C 791 4 0 dL_law_791 rfl ?_
  refine z_iconst (v := nI 2) C 793 dL_law_793 (by decide) ?_
  refine z_iaddN C 794 dL_law_794 ?_
  refine z_sld C hS.1 hS.2.1 hS.2.2.1 795 dL_law_795 rfl (by omega) (by omega) ?_
  refine z_aload_n C 796 3 4 dL_law_796 rfl rfl ?_
  refine z_cW C 797 dL_law_797 ww_followed hW rfl rfl (Nat.le_of_ble_eq_true rfl) hr ⟨by show _ ≤ 601024; omega, by show _ ≤ 7293034; omega⟩ ?_
  intro r S1 L1 R1 p1
  obtain ⟨rfl, P2, hM, hN2⟩ := hN r S1 L1 R1 p1
  refine z_istore C 800 5 [(5, _), (4, _), (0, _), (1, _), (2, _), (3, _)] dL_law_800 (by decide) rfl ?_
  refine z_aload_n C 802 2 4 dL_law_802 rfl rfl ?_
  refine z_aload_n C 803 0 2 dL_law_803 rfl rfl ?_
  refine z_iload C 804 4 1 dL_law_804 rfl ?_
  refine z_iconst (v := nI 1) C 806 dL_law_806 (by decide) ?_
  refine z_iaddN C 807 dL_law_807 ?_
  refine z_sld C hS.1 hS.2.1 hS.2.2.1 808 dL_law_808 rfl (by omega) (by omega) ?_
  refine z_aload_n C 809 0 2 dL_law_809 rfl rfl ?_
  refine z_iload C 810 4 1 dL_law_810 rfl ?_
  refine z_iconst (v := nI 2) C 812 dL_law_812 (by decide) ?_
  refine z_iaddN C 813 dL_law_813 ?_
  refine z_sld C hS.1 hS.2.1 hS.2.2.1 814 dL_law_814 rfl (by omega) (by omega) ?_
  refine z_cVi0 C 815 dL_law_815 cv_L_164 hM rfl ⟨by decide, rfl⟩ Nat.zero_lt_one rfl rfl (Nat.le_of_ble_eq_true rfl) ⟨by decide, by decide⟩ ⟨rfl, rfl⟩ ⟨by show _ ≤ 601024; omega, by show _ ≤ 7293034; omega⟩ ?_
  intro b S2 L2 R2 p2
  obtain ⟨hR2, e0, e60, S3, hext, e3, hIV⟩ := hN2 b S2 L2 R2 p2
  refine z_ext S3 hext ?_
  refine z_istore C 818 6 [(6, _), (5, _), (4, _), (0, _), (1, _), (2, _), (3, _)] dL_law_818 (by decide) rfl ?_
  refine z_aload_n C 820 2 5 dL_law_820 rfl rfl ?_
  refine z_cVi0 C 821 dL_law_821 cv_L_129 (c_X9_thrown hR2) rfl ⟨by decide, rfl⟩ Nat.zero_lt_one rfl rfl (Nat.le_of_ble_eq_true rfl) ⟨by decide, by decide⟩ ⟨rfl, rfl⟩ ⟨by show _ ≤ 601024; omega, by show _ ≤ 7293034; omega⟩ ?_
  intro r9 S9 L9 R9 p9
  obtain ⟨rfl, rfl, rfl, rfl⟩ := p9
  rw [e3]
  refine z_iload C 824 5 1 dL_law_824 rfl ?_
  refine z_icmp_eq C 826 831 dL_law_826 (by decide) (fun _ => ?_) (fun h => absurd rfl h)
  refine z_iload C 831 5 1 dL_law_831 rfl ?_
  have fin : Z X 7 ad mdm S3 L2 R2 (356 + t + rmW.cells) (14747 + 6 * t + rmW.slots) 848 [(6, .int b), (5, .int (nI k)), (4, .int (nI (6 * t))), (0, .ref bs), (1, .ref (ad 0 0)), (2, .ref (ad 40 0)), (3, .ref (ad 60 0))] [] := by
    refine z_goto C 848 2211 dL_law_848 (by decide) ?_
    refine z_sub [(4, _), (0, _), (1, _), (2, _), (3, _)] [2, 3, 4, 5, 6] rfl ?_
    exact z_wid (by omega) (by omega) (kk _ _ _ hIV)
  refine z_if_neN C 833 848 dL_law_833 (by decide) (by omega) (fun _ => fin) (fun hk0 => ?_)
  refine z_aload_n C 836 3 6 dL_law_836 rfl rfl ?_
  refine z_iconst (v := nI 0) C 837 dL_law_837 (by decide) ?_
  refine z_lald C 838 dL_law_838 rfl Nat.zero_lt_one rfl (by decide) (by decide) ?_
  rw [e60 hk0]
  refine z_iload C 839 6 0 dL_law_839 rfl ?_
  refine z_i2l C 841 dL_law_841 (v := i2 b) rfl ?_
  refine z_lcmp C 842 dL_law_842 ?_
  refine z_if_eq C 843 848 dL_law_843 (by decide) (fun _ => fin) (fun h => absurd (lg_cmp_rf _) h)
set_option maxHeartbeats 4000000 in
set_option maxRecDepth 100000 in
theorem lc_12 {X : mX} {bs L0 t : Nat} {xs : Nat → Int32} {ad : mA} {S : mS} {L : mL} {R : mR} (C : mK X RL cL_law 7 room_1) (hS : LH X bs L0 xs) (ht : 6 * t + 6 ≤ L0) (hlf : X.2.1.stackTraces = false) (hI : IVt S L R t) (kk : ∀ (S' : mS) (L' : mL) (R' : mR), IVt S' L' R' (t + 1) → Z X 7 ad mdm S' L' R' (356 + (t + 1)) (14747 + 6 * (t + 1)) 2211 [(4, .int (nI (6 * t))), (0, .ref bs), (1, .ref (ad 0 0)), (2, .ref (ad 40 0)), (3, .ref (ad 60 0))] []) : Z X 7 ad mdm S L R (356 + t) (14747 + 6 * t) 851 [(4, .int (nI (6 * t))), (0, .ref bs), (1, .ref (ad 0 0)), (2, .ref (ad 40 0)), (3, .ref (ad 60 0))] [] := by
  have h512 : t ≤ 512 := by have := hS.2.2.2; omega
  have hL0 := hS.2.2.2
  obtain ⟨k, rmW, P1, hr, hz, hk, hW, hN⟩ := cs_likeliest (l := X.2.1) (G := X.2.2.2.2.2.2.2.2.2.2.2.1) (ad := ad) hlf h512 hI (xs (6 * t + 1))
  refine z_aload_n C 851 1 2 dL_law_851 rfl rfl ?_
  refine z_aload_n C 852 0 1 dL_law_852 rfl rfl ?_
  refine z_iload C 853 4 0 dL_law_853 rfl ?_
  refine z_iconst (v := nI 1) C 855 dL_law_855 (by decide) ?_
  refine z_iaddN C 856 dL_law_856 ?_
  refine z_sld C hS.1 hS.2.1 hS.2.2.1 857 dL_law_857 rfl (by omega) (by omega) ?_
  refine z_aload_n C 858 3 4 dL_law_858 rfl rfl ?_
  refine z_cW C 859 dL_law_859 ww_likeliest hW rfl rfl (Nat.le_of_ble_eq_true rfl) hr ⟨by show _ ≤ 601024; omega, by show _ ≤ 7293034; omega⟩ ?_
  intro r S1 L1 R1 p1
  obtain ⟨rfl, P2, hM, hN2⟩ := hN r S1 L1 R1 p1
  refine z_istore C 862 5 [(5, _), (4, _), (0, _), (1, _), (2, _), (3, _)] dL_law_862 (by decide) rfl ?_
  refine z_aload_n C 864 2 4 dL_law_864 rfl rfl ?_
  refine z_aload_n C 865 0 2 dL_law_865 rfl rfl ?_
  refine z_iload C 866 4 1 dL_law_866 rfl ?_
  refine z_iconst (v := nI 1) C 868 dL_law_868 (by decide) ?_
  refine z_iaddN C 869 dL_law_869 ?_
  refine z_sld C hS.1 hS.2.1 hS.2.2.1 870 dL_law_870 rfl (by omega) (by omega) ?_
  refine z_cVi0 C 871 dL_law_871 cv_L_167 hM rfl ⟨by decide, rfl⟩ Nat.zero_lt_one rfl rfl (Nat.le_of_ble_eq_true rfl) ⟨by decide, by decide⟩ ⟨rfl, rfl⟩ ⟨by show _ ≤ 601024; omega, by show _ ≤ 7293034; omega⟩ ?_
  intro b S2 L2 R2 p2
  obtain ⟨hR2, e0, e60, S3, hext, e3, hIV⟩ := hN2 b S2 L2 R2 p2
  refine z_ext S3 hext ?_
  refine z_istore C 874 6 [(6, _), (5, _), (4, _), (0, _), (1, _), (2, _), (3, _)] dL_law_874 (by decide) rfl ?_
  refine z_aload_n C 876 2 5 dL_law_876 rfl rfl ?_
  refine z_cVi0 C 877 dL_law_877 cv_L_129 (c_X9_thrown hR2) rfl ⟨by decide, rfl⟩ Nat.zero_lt_one rfl rfl (Nat.le_of_ble_eq_true rfl) ⟨by decide, by decide⟩ ⟨rfl, rfl⟩ ⟨by show _ ≤ 601024; omega, by show _ ≤ 7293034; omega⟩ ?_
  intro r9 S9 L9 R9 p9
  obtain ⟨rfl, rfl, rfl, rfl⟩ := p9
  rw [e3]
  refine z_iload C 880 5 1 dL_law_880 rfl ?_
  refine z_icmp_eq C 882 887 dL_law_882 (by decide) (fun _ => ?_) (fun h => absurd rfl h)
  refine z_iload C 887 5 1 dL_law_887 rfl ?_
  have fin : Z X 7 ad mdm S3 L2 R2 (356 + t + rmW.cells) (14747 + 6 * t + rmW.slots) 904 [(6, .int b), (5, .int (nI k)), (4, .int (nI (6 * t))), (0, .ref bs), (1, .ref (ad 0 0)), (2, .ref (ad 40 0)), (3, .ref (ad 60 0))] [] := by
    refine z_goto C 904 2211 dL_law_904 (by decide) ?_
    refine z_sub [(4, _), (0, _), (1, _), (2, _), (3, _)] [2, 3, 4, 5, 6] rfl ?_
    exact z_wid (by omega) (by omega) (kk _ _ _ hIV)
  refine z_if_neN C 889 904 dL_law_889 (by decide) (by omega) (fun _ => fin) (fun hk0 => ?_)
  refine z_aload_n C 892 3 6 dL_law_892 rfl rfl ?_
  refine z_iconst (v := nI 0) C 893 dL_law_893 (by decide) ?_
  refine z_lald C 894 dL_law_894 rfl Nat.zero_lt_one rfl (by decide) (by decide) ?_
  rw [e60 hk0]
  refine z_iload C 895 6 0 dL_law_895 rfl ?_
  refine z_i2l C 897 dL_law_897 (v := i2 b) rfl ?_
  refine z_lcmp C 898 dL_law_898 ?_
  refine z_if_eq C 899 904 dL_law_899 (by decide) (fun _ => fin) (fun h => absurd (lg_cmp_rf _) h)
set_option maxHeartbeats 4000000 in
set_option maxRecDepth 100000 in
theorem lc_13 {X : mX} {bs L0 t : Nat} {xs : Nat → Int32} {ad : mA} {S : mS} {L : mL} {R : mR} (C : mK X RL cL_law 7 room_1) (hS : LH X bs L0 xs) (ht : 6 * t + 6 ≤ L0) (hlf : X.2.1.stackTraces = false) (hI : IVt S L R t) (kk : ∀ (S' : mS) (L' : mL) (R' : mR), IVt S' L' R' (t + 1) → Z X 7 ad mdm S' L' R' (356 + (t + 1)) (14747 + 6 * (t + 1)) 2211 [(4, .int (nI (6 * t))), (0, .ref bs), (1, .ref (ad 0 0)), (2, .ref (ad 40 0)), (3, .ref (ad 60 0))] []) : Z X 7 ad mdm S L R (356 + t) (14747 + 6 * t) 907 [(4, .int (nI (6 * t))), (0, .ref bs), (1, .ref (ad 0 0)), (2, .ref (ad 40 0)), (3, .ref (ad 60 0))] [] := by
  have h512 : t ≤ 512 := by have := hS.2.2.2; omega
  have hL0 := hS.2.2.2
  obtain ⟨k, rmW, P1, hr, hz, hk, hW, hN⟩ := cs_victim (l := X.2.1) (G := X.2.2.2.2.2.2.2.2.2.2.2.1) (ad := ad) hlf h512 hI (xs (6 * t + 1))
  refine z_aload_n C 907 1 2 dL_law_907 rfl rfl ?_
  refine z_aload_n C 908 0 1 dL_law_908 rfl rfl ?_
  refine z_iload C 909 4 0 dL_law_909 rfl ?_
  refine z_iconst (v := nI 1) C 911 dL_law_911 (by decide) ?_
  refine z_iaddN C 912 dL_law_912 ?_
  refine z_sld C hS.1 hS.2.1 hS.2.2.1 913 dL_law_913 rfl (by omega) (by omega) ?_
  refine z_aload_n C 914 3 4 dL_law_914 rfl rfl ?_
  refine z_cW C 915 dL_law_915 ww_victim hW rfl rfl (Nat.le_of_ble_eq_true rfl) hr ⟨by show _ ≤ 601024; omega, by show _ ≤ 7293034; omega⟩ ?_
  intro r S1 L1 R1 p1
  obtain ⟨rfl, P2, hM, hN2⟩ := hN r S1 L1 R1 p1
  refine z_istore C 918 5 [(5, _), (4, _), (0, _), (1, _), (2, _), (3, _)] dL_law_918 (by decide) rfl ?_
  refine z_aload_n C 920 2 4 dL_law_920 rfl rfl ?_
  refine z_aload_n C 921 0 2 dL_law_921 rfl rfl ?_
  refine z_iload C 922 4 1 dL_law_922 rfl ?_
  refine z_iconst (v := nI 1) C 924 dL_law_924 (by decide) ?_
  refine z_iaddN C 925 dL_law_925 ?_
  refine z_sld C hS.1 hS.2.1 hS.2.2.1 926 dL_law_926 rfl (by omega) (by omega) ?_
  refine z_cVi0 C 927 dL_law_927 cv_L_170 hM rfl ⟨by decide, rfl⟩ Nat.zero_lt_one rfl rfl (Nat.le_of_ble_eq_true rfl) ⟨by decide, by decide⟩ ⟨rfl, rfl⟩ ⟨by show _ ≤ 601024; omega, by show _ ≤ 7293034; omega⟩ ?_
  intro b S2 L2 R2 p2
  obtain ⟨hR2, e0, e60, S3, hext, e3, hIV⟩ := hN2 b S2 L2 R2 p2
  refine z_ext S3 hext ?_
  refine z_istore C 930 6 [(6, _), (5, _), (4, _), (0, _), (1, _), (2, _), (3, _)] dL_law_930 (by decide) rfl ?_
  refine z_aload_n C 932 2 5 dL_law_932 rfl rfl ?_
  refine z_cVi0 C 933 dL_law_933 cv_L_129 (c_X9_thrown hR2) rfl ⟨by decide, rfl⟩ Nat.zero_lt_one rfl rfl (Nat.le_of_ble_eq_true rfl) ⟨by decide, by decide⟩ ⟨rfl, rfl⟩ ⟨by show _ ≤ 601024; omega, by show _ ≤ 7293034; omega⟩ ?_
  intro r9 S9 L9 R9 p9
  obtain ⟨rfl, rfl, rfl, rfl⟩ := p9
  rw [e3]
  refine z_iload C 936 5 1 dL_law_936 rfl ?_
  refine z_icmp_eq C 938 943 dL_law_938 (by decide) (fun _ => ?_) (fun h => absurd rfl h)
  refine z_iload C 943 5 1 dL_law_943 rfl ?_
  have fin : Z X 7 ad mdm S3 L2 R2 (356 + t + rmW.cells) (14747 + 6 * t + rmW.slots) 960 [(6, .int b), (5, .int (nI k)), (4, .int (nI (6 * t))), (0, .ref bs), (1, .ref (ad 0 0)), (2, .ref (ad 40 0)), (3, .ref (ad 60 0))] [] := by
    refine z_goto C 960 2211 dL_law_960 (by decide) ?_
    refine z_sub [(4, _), (0, _), (1, _), (2, _), (3, _)] [2, 3, 4, 5, 6] rfl ?_
    exact z_wid (by omega) (by omega) (kk _ _ _ hIV)
  refine z_if_neN C 945 960 dL_law_945 (by decide) (by omega) (fun _ => fin) (fun hk0 => ?_)
  refine z_aload_n C 948 3 6 dL_law_948 rfl rfl ?_
  refine z_iconst (v := nI 0) C 949 dL_law_949 (by decide) ?_
  refine z_lald C 950 dL_law_950 rfl Nat.zero_lt_one rfl (by decide) (by decide) ?_
  rw [e60 hk0]
  refine z_iload C 951 6 0 dL_law_951 rfl ?_
  refine z_i2l C 953 dL_law_953 (v := i2 b) rfl ?_
  refine z_lcmp C 954 dL_law_954 ?_
  refine z_if_eq C 955 960 dL_law_955 (by decide) (fun _ => fin) (fun h => absurd (lg_cmp_rf _) h)
set_option maxHeartbeats 4000000 in
set_option maxRecDepth 100000 in
theorem lc_14 {X : mX} {bs L0 t : Nat} {xs : Nat → Int32} {ad : mA} {S : mS} {L : mL} {R : mR} (C : mK X RL cL_law 7 room_1) (hS : LH X bs L0 xs) (ht : 6 * t + 6 ≤ L0) (hlf : X.2.1.stackTraces = false) (hI : IVt S L R t) (kk : ∀ (S' : mS) (L' : mL) (R' : mR), IVt S' L' R' (t + 1) → Z X 7 ad mdm S' L' R' (356 + (t + 1)) (14747 + 6 * (t + 1)) 2211 [(4, .int (nI (6 * t))), (0, .ref bs), (1, .ref (ad 0 0)), (2, .ref (ad 40 0)), (3, .ref (ad 60 0))] []) : Z X 7 ad mdm S L R (356 + t) (14747 + 6 * t) 963 [(4, .int (nI (6 * t))), (0, .ref bs), (1, .ref (ad 0 0)), (2, .ref (ad 40 0)), (3, .ref (ad 60 0))] [] := by
  have h512 : t ≤ 512 := by have := hS.2.2.2; omega
  have hL0 := hS.2.2.2
  obtain ⟨k, rmW, P1, hr, hz, hk, hW, hN⟩ := cs_freed (l := X.2.1) (G := X.2.2.2.2.2.2.2.2.2.2.2.1) (ad := ad) hlf h512 hI (xs (6 * t + 1))
  refine z_aload_n C 963 1 2 dL_law_963 rfl rfl ?_
  refine z_aload_n C 964 0 1 dL_law_964 rfl rfl ?_
  refine z_iload C 965 4 0 dL_law_965 rfl ?_
  refine z_iconst (v := nI 1) C 967 dL_law_967 (by decide) ?_
  refine z_iaddN C 968 dL_law_968 ?_
  refine z_sld C hS.1 hS.2.1 hS.2.2.1 969 dL_law_969 rfl (by omega) (by omega) ?_
  refine z_aload_n C 970 3 4 dL_law_970 rfl rfl ?_
  refine z_cW C 971 dL_law_971 ww_freed hW rfl rfl (Nat.le_of_ble_eq_true rfl) hr ⟨by show _ ≤ 601024; omega, by show _ ≤ 7293034; omega⟩ ?_
  intro r S1 L1 R1 p1
  obtain ⟨rfl, P2, hM, hN2⟩ := hN r S1 L1 R1 p1
  refine z_istore C 974 5 [(5, _), (4, _), (0, _), (1, _), (2, _), (3, _)] dL_law_974 (by decide) rfl ?_
  refine z_aload_n C 976 2 4 dL_law_976 rfl rfl ?_
  refine z_aload_n C 977 0 2 dL_law_977 rfl rfl ?_
  refine z_iload C 978 4 1 dL_law_978 rfl ?_
  refine z_iconst (v := nI 1) C 980 dL_law_980 (by decide) ?_
  refine z_iaddN C 981 dL_law_981 ?_
  refine z_sld C hS.1 hS.2.1 hS.2.2.1 982 dL_law_982 rfl (by omega) (by omega) ?_
  refine z_cVi0 C 983 dL_law_983 cv_L_173 hM rfl ⟨by decide, rfl⟩ Nat.zero_lt_one rfl rfl (Nat.le_of_ble_eq_true rfl) ⟨by decide, by decide⟩ ⟨rfl, rfl⟩ ⟨by show _ ≤ 601024; omega, by show _ ≤ 7293034; omega⟩ ?_
  intro b S2 L2 R2 p2
  obtain ⟨hR2, e0, e60, S3, hext, e3, hIV⟩ := hN2 b S2 L2 R2 p2
  refine z_ext S3 hext ?_
  refine z_istore C 986 6 [(6, _), (5, _), (4, _), (0, _), (1, _), (2, _), (3, _)] dL_law_986 (by decide) rfl ?_
  refine z_aload_n C 988 2 5 dL_law_988 rfl rfl ?_
  refine z_cVi0 C 989 dL_law_989 cv_L_129 (c_X9_thrown hR2) rfl ⟨by decide, rfl⟩ Nat.zero_lt_one rfl rfl (Nat.le_of_ble_eq_true rfl) ⟨by decide, by decide⟩ ⟨rfl, rfl⟩ ⟨by show _ ≤ 601024; omega, by show _ ≤ 7293034; omega⟩ ?_
  intro r9 S9 L9 R9 p9
  obtain ⟨rfl, rfl, rfl, rfl⟩ := p9
  rw [e3]
  refine z_iload C 992 5 1 dL_law_992 rfl ?_
  refine z_icmp_eq C 994 999 dL_law_994 (by decide) (fun _ => ?_) (fun h => absurd rfl h)
  refine z_iload C 999 5 1 dL_law_999 rfl ?_
  have fin : Z X 7 ad mdm S3 L2 R2 (356 + t + rmW.cells) (14747 + 6 * t + rmW.slots) 1016 [(6, .int b), (5, .int (nI k)), (4, .int (nI (6 * t))), (0, .ref bs), (1, .ref (ad 0 0)), (2, .ref (ad 40 0)), (3, .ref (ad 60 0))] [] := by
    refine z_goto C 1016 2211 dL_law_1016 (by decide) ?_
    refine z_sub [(4, _), (0, _), (1, _), (2, _), (3, _)] [2, 3, 4, 5, 6] rfl ?_
    exact z_wid (by omega) (by omega) (kk _ _ _ hIV)
  refine z_if_neN C 1001 1016 dL_law_1001 (by decide) (by omega) (fun _ => fin) (fun hk0 => ?_)
  refine z_aload_n C 1004 3 6 dL_law_1004 rfl rfl ?_
  refine z_iconst (v := nI 0) C 1005 dL_law_1005 (by decide) ?_
  refine z_lald C 1006 dL_law_1006 rfl Nat.zero_lt_one rfl (by decide) (by decide) ?_
  rw [e60 hk0]
  refine z_iload C 1007 6 0 dL_law_1007 rfl ?_
  refine z_i2l C 1009 dL_law_1009 (v := i2 b) rfl ?_
  refine z_lcmp C 1010 dL_law_1010 ?_
  refine z_if_eq C 1011 1016 dL_law_1011 (by decide) (fun _ => fin) (fun h => absurd (lg_cmp_rf _) h)
set_option maxHeartbeats 4000000 in
set_option maxRecDepth 100000 in
theorem lc_15 {X : mX} {bs L0 t : Nat} {xs : Nat → Int32} {ad : mA} {S : mS} {L : mL} {R : mR} (C : mK X RL cL_law 7 room_1) (hS : LH X bs L0 xs) (ht : 6 * t + 6 ≤ L0) (hlf : X.2.1.stackTraces = false) (hI : IVt S L R t) (kk : ∀ (S' : mS) (L' : mL) (R' : mR), IVt S' L' R' (t + 1) → Z X 7 ad mdm S' L' R' (356 + (t + 1)) (14747 + 6 * (t + 1)) 2211 [(4, .int (nI (6 * t))), (0, .ref bs), (1, .ref (ad 0 0)), (2, .ref (ad 40 0)), (3, .ref (ad 60 0))] []) : Z X 7 ad mdm S L R (356 + t) (14747 + 6 * t) 1019 [(4, .int (nI (6 * t))), (0, .ref bs), (1, .ref (ad 0 0)), (2, .ref (ad 40 0)), (3, .ref (ad 60 0))] [] := by
  have h512 : t ≤ 512 := by have := hS.2.2.2; omega
  have hL0 := hS.2.2.2
  obtain ⟨k, rmW, P1, hr, hz, hk, hW, hN⟩ := cs_waitOf (l := X.2.1) (G := X.2.2.2.2.2.2.2.2.2.2.2.1) (ad := ad) hlf h512 hI (xs (6 * t + 1))
  refine z_aload_n C 1019 1 2 dL_law_1019 rfl rfl ?_
  refine z_aload_n C 1020 0 1 dL_law_1020 rfl rfl ?_
  refine z_iload C 1021 4 0 dL_law_1021 rfl ?_
  refine z_iconst (v := nI 1) C 1023 dL_law_1023 (by decide) ?_
  refine z_iaddN C 1024 dL_law_1024 ?_
  refine z_sld C hS.1 hS.2.1 hS.2.2.1 1025 dL_law_1025 rfl (by omega) (by omega) ?_
  refine z_aload_n C 1026 3 4 dL_law_1026 rfl rfl ?_
  refine z_cW C 1027 dL_law_1027 ww_waitOf hW rfl rfl (Nat.le_of_ble_eq_true rfl) hr ⟨by show _ ≤ 601024; omega, by show _ ≤ 7293034; omega⟩ ?_
  intro r S1 L1 R1 p1
  obtain ⟨rfl, P2, hM, hN2⟩ := hN r S1 L1 R1 p1
  refine z_istore C 1030 5 [(5, _), (4, _), (0, _), (1, _), (2, _), (3, _)] dL_law_1030 (by decide) rfl ?_
  refine z_aload_n C 1032 2 4 dL_law_1032 rfl rfl ?_
  refine z_aload_n C 1033 0 2 dL_law_1033 rfl rfl ?_
  refine z_iload C 1034 4 1 dL_law_1034 rfl ?_
  refine z_iconst (v := nI 1) C 1036 dL_law_1036 (by decide) ?_
  refine z_iaddN C 1037 dL_law_1037 ?_
  refine z_sld C hS.1 hS.2.1 hS.2.2.1 1038 dL_law_1038 rfl (by omega) (by omega) ?_
  refine z_cVi0 C 1039 dL_law_1039 cv_L_176 hM rfl ⟨by decide, rfl⟩ Nat.zero_lt_one rfl rfl (Nat.le_of_ble_eq_true rfl) ⟨by decide, by decide⟩ ⟨rfl, rfl⟩ ⟨by show _ ≤ 601024; omega, by show _ ≤ 7293034; omega⟩ ?_
  intro b S2 L2 R2 p2
  obtain ⟨hR2, e0, e60, S3, hext, e3, hIV⟩ := hN2 b S2 L2 R2 p2
  refine z_ext S3 hext ?_
  refine z_istore C 1042 6 [(6, _), (5, _), (4, _), (0, _), (1, _), (2, _), (3, _)] dL_law_1042 (by decide) rfl ?_
  refine z_aload_n C 1044 2 5 dL_law_1044 rfl rfl ?_
  refine z_cVi0 C 1045 dL_law_1045 cv_L_129 (c_X9_thrown hR2) rfl ⟨by decide, rfl⟩ Nat.zero_lt_one rfl rfl (Nat.le_of_ble_eq_true rfl) ⟨by decide, by decide⟩ ⟨rfl, rfl⟩ ⟨by show _ ≤ 601024; omega, by show _ ≤ 7293034; omega⟩ ?_
  intro r9 S9 L9 R9 p9
  obtain ⟨rfl, rfl, rfl, rfl⟩ := p9
  rw [e3]
  refine z_iload C 1048 5 1 dL_law_1048 rfl ?_
  refine z_icmp_eq C 1050 1055 dL_law_1050 (by decide) (fun _ => ?_) (fun h => absurd rfl h)
  refine z_iload C 1055 5 1 dL_law_1055 rfl ?_
  have fin : Z X 7 ad mdm S3 L2 R2 (356 + t + rmW.cells) (14747 + 6 * t + rmW.slots) 1072 [(6, .int b), (5, .int (nI k)), (4, .int (nI (6 * t))), (0, .ref bs), (1, .ref (ad 0 0)), (2, .ref (ad 40 0)), (3, .ref (ad 60 0))] [] := by
    refine z_goto C 1072 2211 dL_law_1072 (by decide) ?_
    refine z_sub [(4, _), (0, _), (1, _), (2, _), (3, _)] [2, 3, 4, 5, 6] rfl ?_
    exact z_wid (by omega) (by omega) (kk _ _ _ hIV)
  refine z_if_neN C 1057 1072 dL_law_1057 (by decide) (by omega) (fun _ => fin) (fun hk0 => ?_)
  refine z_aload_n C 1060 3 6 dL_law_1060 rfl rfl ?_
  refine z_iconst (v := nI 0) C 1061 dL_law_1061 (by decide) ?_
  refine z_lald C 1062 dL_law_1062 rfl Nat.zero_lt_one rfl (by decide) (by decide) ?_
  rw [e60 hk0]
  refine z_iload C 1063 6 0 dL_law_1063 rfl ?_
  refine z_i2l C 1065 dL_law_1065 (v := i2 b) rfl ?_
  refine z_lcmp C 1066 dL_law_1066 ?_
  refine z_if_eq C 1067 1072 dL_law_1067 (by decide) (fun _ => fin) (fun h => absurd (lg_cmp_rf _) h)
set_option maxHeartbeats 4000000 in
set_option maxRecDepth 100000 in
theorem lc_16 {X : mX} {bs L0 t : Nat} {xs : Nat → Int32} {ad : mA} {S : mS} {L : mL} {R : mR} (C : mK X RL cL_law 7 room_1) (hS : LH X bs L0 xs) (ht : 6 * t + 6 ≤ L0) (hlf : X.2.1.stackTraces = false) (hI : IVt S L R t) (kk : ∀ (S' : mS) (L' : mL) (R' : mR), IVt S' L' R' (t + 1) → Z X 7 ad mdm S' L' R' (356 + (t + 1)) (14747 + 6 * (t + 1)) 2211 [(4, .int (nI (6 * t))), (0, .ref bs), (1, .ref (ad 0 0)), (2, .ref (ad 40 0)), (3, .ref (ad 60 0))] []) : Z X 7 ad mdm S L R (356 + t) (14747 + 6 * t) 1075 [(4, .int (nI (6 * t))), (0, .ref bs), (1, .ref (ad 0 0)), (2, .ref (ad 40 0)), (3, .ref (ad 60 0))] [] := by
  have h512 : t ≤ 512 := by have := hS.2.2.2; omega
  have hL0 := hS.2.2.2
  obtain ⟨k, rmW, P1, hr, hz, hk, hW, hN⟩ := cs_whyNotShow (l := X.2.1) (G := X.2.2.2.2.2.2.2.2.2.2.2.1) (ad := ad) hlf h512 hI (xs (6 * t + 1))
  refine z_aload_n C 1075 1 2 dL_law_1075 rfl rfl ?_
  refine z_aload_n C 1076 0 1 dL_law_1076 rfl rfl ?_
  refine z_iload C 1077 4 0 dL_law_1077 rfl ?_
  refine z_iconst (v := nI 1) C 1079 dL_law_1079 (by decide) ?_
  refine z_iaddN C 1080 dL_law_1080 ?_
  refine z_sld C hS.1 hS.2.1 hS.2.2.1 1081 dL_law_1081 rfl (by omega) (by omega) ?_
  refine z_aload_n C 1082 3 4 dL_law_1082 rfl rfl ?_
  refine z_cW C 1083 dL_law_1083 ww_whyNotShow hW rfl rfl (Nat.le_of_ble_eq_true rfl) hr ⟨by show _ ≤ 601024; omega, by show _ ≤ 7293034; omega⟩ ?_
  intro r S1 L1 R1 p1
  obtain ⟨rfl, P2, hM, hN2⟩ := hN r S1 L1 R1 p1
  refine z_istore C 1086 5 [(5, _), (4, _), (0, _), (1, _), (2, _), (3, _)] dL_law_1086 (by decide) rfl ?_
  refine z_aload_n C 1088 2 4 dL_law_1088 rfl rfl ?_
  refine z_aload_n C 1089 0 2 dL_law_1089 rfl rfl ?_
  refine z_iload C 1090 4 1 dL_law_1090 rfl ?_
  refine z_iconst (v := nI 1) C 1092 dL_law_1092 (by decide) ?_
  refine z_iaddN C 1093 dL_law_1093 ?_
  refine z_sld C hS.1 hS.2.1 hS.2.2.1 1094 dL_law_1094 rfl (by omega) (by omega) ?_
  refine z_cVi0 C 1095 dL_law_1095 cv_L_179 hM rfl ⟨by decide, rfl⟩ Nat.zero_lt_one rfl rfl (Nat.le_of_ble_eq_true rfl) ⟨by decide, by decide⟩ ⟨rfl, rfl⟩ ⟨by show _ ≤ 601024; omega, by show _ ≤ 7293034; omega⟩ ?_
  intro b S2 L2 R2 p2
  obtain ⟨hR2, e0, e60, S3, hext, e3, hIV⟩ := hN2 b S2 L2 R2 p2
  refine z_ext S3 hext ?_
  refine z_istore C 1098 6 [(6, _), (5, _), (4, _), (0, _), (1, _), (2, _), (3, _)] dL_law_1098 (by decide) rfl ?_
  refine z_aload_n C 1100 2 5 dL_law_1100 rfl rfl ?_
  refine z_cVi0 C 1101 dL_law_1101 cv_L_129 (c_X9_thrown hR2) rfl ⟨by decide, rfl⟩ Nat.zero_lt_one rfl rfl (Nat.le_of_ble_eq_true rfl) ⟨by decide, by decide⟩ ⟨rfl, rfl⟩ ⟨by show _ ≤ 601024; omega, by show _ ≤ 7293034; omega⟩ ?_
  intro r9 S9 L9 R9 p9
  obtain ⟨rfl, rfl, rfl, rfl⟩ := p9
  rw [e3]
  refine z_iload C 1104 5 1 dL_law_1104 rfl ?_
  refine z_icmp_eq C 1106 1111 dL_law_1106 (by decide) (fun _ => ?_) (fun h => absurd rfl h)
  refine z_iload C 1111 5 1 dL_law_1111 rfl ?_
  have fin : Z X 7 ad mdm S3 L2 R2 (356 + t + rmW.cells) (14747 + 6 * t + rmW.slots) 1128 [(6, .int b), (5, .int (nI k)), (4, .int (nI (6 * t))), (0, .ref bs), (1, .ref (ad 0 0)), (2, .ref (ad 40 0)), (3, .ref (ad 60 0))] [] := by
    refine z_goto C 1128 2211 dL_law_1128 (by decide) ?_
    refine z_sub [(4, _), (0, _), (1, _), (2, _), (3, _)] [2, 3, 4, 5, 6] rfl ?_
    exact z_wid (by omega) (by omega) (kk _ _ _ hIV)
  refine z_if_neN C 1113 1128 dL_law_1113 (by decide) (by omega) (fun _ => fin) (fun hk0 => ?_)
  refine z_aload_n C 1116 3 6 dL_law_1116 rfl rfl ?_
  refine z_iconst (v := nI 0) C 1117 dL_law_1117 (by decide) ?_
  refine z_lald C 1118 dL_law_1118 rfl Nat.zero_lt_one rfl (by decide) (by decide) ?_
  rw [e60 hk0]
  refine z_iload C 1119 6 0 dL_law_1119 rfl ?_
  refine z_i2l C 1121 dL_law_1121 (v := i2 b) rfl ?_
  refine z_lcmp C 1122 dL_law_1122 ?_
  refine z_if_eq C 1123 1128 dL_law_1123 (by decide) (fun _ => fin) (fun h => absurd (lg_cmp_rf _) h)
set_option maxHeartbeats 4000000 in
set_option maxRecDepth 100000 in
theorem lc_17 {X : mX} {bs L0 t : Nat} {xs : Nat → Int32} {ad : mA} {S : mS} {L : mL} {R : mR} (C : mK X RL cL_law 7 room_1) (hS : LH X bs L0 xs) (ht : 6 * t + 6 ≤ L0) (hlf : X.2.1.stackTraces = false) (hI : IVt S L R t) (kk : ∀ (S' : mS) (L' : mL) (R' : mR), IVt S' L' R' (t + 1) → Z X 7 ad mdm S' L' R' (356 + (t + 1)) (14747 + 6 * (t + 1)) 2211 [(4, .int (nI (6 * t))), (0, .ref bs), (1, .ref (ad 0 0)), (2, .ref (ad 40 0)), (3, .ref (ad 60 0))] []) : Z X 7 ad mdm S L R (356 + t) (14747 + 6 * t) 1131 [(4, .int (nI (6 * t))), (0, .ref bs), (1, .ref (ad 0 0)), (2, .ref (ad 40 0)), (3, .ref (ad 60 0))] [] := by
  have h512 : t ≤ 512 := by have := hS.2.2.2; omega
  have hL0 := hS.2.2.2
  obtain ⟨k, rmW, P1, hr, hz, hk, hW, hN⟩ := cs_trimsFor (l := X.2.1) (G := X.2.2.2.2.2.2.2.2.2.2.2.1) (ad := ad) hlf h512 hI (xs (6 * t + 1))
  refine z_aload_n C 1131 1 2 dL_law_1131 rfl rfl ?_
  refine z_aload_n C 1132 0 1 dL_law_1132 rfl rfl ?_
  refine z_iload C 1133 4 0 dL_law_1133 rfl ?_
  refine z_iconst (v := nI 1) C 1135 dL_law_1135 (by decide) ?_
  refine z_iaddN C 1136 dL_law_1136 ?_
  refine z_sld C hS.1 hS.2.1 hS.2.2.1 1137 dL_law_1137 rfl (by omega) (by omega) ?_
  refine z_aload_n C 1138 3 4 dL_law_1138 rfl rfl ?_
  refine z_cW C 1139 dL_law_1139 ww_trimsFor hW rfl rfl (Nat.le_of_ble_eq_true rfl) hr ⟨by show _ ≤ 601024; omega, by show _ ≤ 7293034; omega⟩ ?_
  intro r S1 L1 R1 p1
  obtain ⟨rfl, P2, hM, hN2⟩ := hN r S1 L1 R1 p1
  refine z_istore C 1142 5 [(5, _), (4, _), (0, _), (1, _), (2, _), (3, _)] dL_law_1142 (by decide) rfl ?_
  refine z_aload_n C 1144 2 4 dL_law_1144 rfl rfl ?_
  refine z_aload_n C 1145 0 2 dL_law_1145 rfl rfl ?_
  refine z_iload C 1146 4 1 dL_law_1146 rfl ?_
  refine z_iconst (v := nI 1) C 1148 dL_law_1148 (by decide) ?_
  refine z_iaddN C 1149 dL_law_1149 ?_
  refine z_sld C hS.1 hS.2.1 hS.2.2.1 1150 dL_law_1150 rfl (by omega) (by omega) ?_
  refine z_cVi0 C 1151 dL_law_1151 cv_L_182 hM rfl ⟨by decide, rfl⟩ Nat.zero_lt_one rfl rfl (Nat.le_of_ble_eq_true rfl) ⟨by decide, by decide⟩ ⟨rfl, rfl⟩ ⟨by show _ ≤ 601024; omega, by show _ ≤ 7293034; omega⟩ ?_
  intro b S2 L2 R2 p2
  obtain ⟨hR2, e0, e60, S3, hext, e3, hIV⟩ := hN2 b S2 L2 R2 p2
  refine z_ext S3 hext ?_
  refine z_istore C 1154 6 [(6, _), (5, _), (4, _), (0, _), (1, _), (2, _), (3, _)] dL_law_1154 (by decide) rfl ?_
  refine z_aload_n C 1156 2 5 dL_law_1156 rfl rfl ?_
  refine z_cVi0 C 1157 dL_law_1157 cv_L_129 (c_X9_thrown hR2) rfl ⟨by decide, rfl⟩ Nat.zero_lt_one rfl rfl (Nat.le_of_ble_eq_true rfl) ⟨by decide, by decide⟩ ⟨rfl, rfl⟩ ⟨by show _ ≤ 601024; omega, by show _ ≤ 7293034; omega⟩ ?_
  intro r9 S9 L9 R9 p9
  obtain ⟨rfl, rfl, rfl, rfl⟩ := p9
  rw [e3]
  refine z_iload C 1160 5 1 dL_law_1160 rfl ?_
  refine z_icmp_eq C 1162 1167 dL_law_1162 (by decide) (fun _ => ?_) (fun h => absurd rfl h)
  refine z_iload C 1167 5 1 dL_law_1167 rfl ?_
  have fin : Z X 7 ad mdm S3 L2 R2 (356 + t + rmW.cells) (14747 + 6 * t + rmW.slots) 1184 [(6, .int b), (5, .int (nI k)), (4, .int (nI (6 * t))), (0, .ref bs), (1, .ref (ad 0 0)), (2, .ref (ad 40 0)), (3, .ref (ad 60 0))] [] := by
    refine z_goto C 1184 2211 dL_law_1184 (by decide) ?_
    refine z_sub [(4, _), (0, _), (1, _), (2, _), (3, _)] [2, 3, 4, 5, 6] rfl ?_
    exact z_wid (by omega) (by omega) (kk _ _ _ hIV)
  refine z_if_neN C 1169 1184 dL_law_1169 (by decide) (by omega) (fun _ => fin) (fun hk0 => ?_)
  refine z_aload_n C 1172 3 6 dL_law_1172 rfl rfl ?_
  refine z_iconst (v := nI 0) C 1173 dL_law_1173 (by decide) ?_
  refine z_lald C 1174 dL_law_1174 rfl Nat.zero_lt_one rfl (by decide) (by decide) ?_
  rw [e60 hk0]
  refine z_iload C 1175 6 0 dL_law_1175 rfl ?_
  refine z_i2l C 1177 dL_law_1177 (v := i2 b) rfl ?_
  refine z_lcmp C 1178 dL_law_1178 ?_
  refine z_if_eq C 1179 1184 dL_law_1179 (by decide) (fun _ => fin) (fun h => absurd (lg_cmp_rf _) h)
set_option maxHeartbeats 4000000 in
set_option maxRecDepth 100000 in
theorem lc_18 {X : mX} {bs L0 t : Nat} {xs : Nat → Int32} {ad : mA} {S : mS} {L : mL} {R : mR} (C : mK X RL cL_law 7 room_1) (hS : LH X bs L0 xs) (ht : 6 * t + 6 ≤ L0) (hlf : X.2.1.stackTraces = false) (hI : IVt S L R t) (kk : ∀ (S' : mS) (L' : mL) (R' : mR), IVt S' L' R' (t + 1) → Z X 7 ad mdm S' L' R' (356 + (t + 1)) (14747 + 6 * (t + 1)) 2211 [(4, .int (nI (6 * t))), (0, .ref bs), (1, .ref (ad 0 0)), (2, .ref (ad 40 0)), (3, .ref (ad 60 0))] []) : Z X 7 ad mdm S L R (356 + t) (14747 + 6 * t) 1187 [(4, .int (nI (6 * t))), (0, .ref bs), (1, .ref (ad 0 0)), (2, .ref (ad 40 0)), (3, .ref (ad 60 0))] [] := by
  have h512 : t ≤ 512 := by have := hS.2.2.2; omega
  have hL0 := hS.2.2.2
  obtain ⟨k, rmW, P1, hr, hz, hk, hW, hN⟩ := cs_stateAfter (l := X.2.1) (G := X.2.2.2.2.2.2.2.2.2.2.2.1) (ad := ad) hlf h512 hI (xs (6 * t + 1)) (xs (6 * t + 2))
  refine z_aload_n C 1187 1 2 dL_law_1187 rfl rfl ?_
  refine z_aload_n C 1188 0 1 dL_law_1188 rfl rfl ?_
  refine z_iload C 1189 4 0 dL_law_1189 rfl ?_
  refine z_iconst (v := nI 1) C 1191 dL_law_1191 (by decide) ?_
  refine z_iaddN C 1192 dL_law_1192 ?_
  refine z_sld C hS.1 hS.2.1 hS.2.2.1 1193 dL_law_1193 rfl (by omega) (by omega) ?_
  refine z_aload_n C 1194 0 1 dL_law_1194 rfl rfl ?_
  refine z_iload C 1195 4 0 dL_law_1195 rfl ?_
  refine z_iconst (v := nI 2) C 1197 dL_law_1197 (by decide) ?_
  refine z_iaddN C 1198 dL_law_1198 ?_
  refine z_sld C hS.1 hS.2.1 hS.2.2.1 1199 dL_law_1199 rfl (by omega) (by omega) ?_
  refine z_aload_n C 1200 3 4 dL_law_1200 rfl rfl ?_
  refine z_cW C 1201 dL_law_1201 ww_stateAfter hW rfl rfl (Nat.le_of_ble_eq_true rfl) hr ⟨by show _ ≤ 601024; omega, by show _ ≤ 7293034; omega⟩ ?_
  intro r S1 L1 R1 p1
  obtain ⟨rfl, P2, hM, hN2⟩ := hN r S1 L1 R1 p1
  refine z_istore C 1204 5 [(5, _), (4, _), (0, _), (1, _), (2, _), (3, _)] dL_law_1204 (by decide) rfl ?_
  refine z_aload_n C 1206 2 4 dL_law_1206 rfl rfl ?_
  refine z_aload_n C 1207 0 2 dL_law_1207 rfl rfl ?_
  refine z_iload C 1208 4 1 dL_law_1208 rfl ?_
  refine z_iconst (v := nI 1) C 1210 dL_law_1210 (by decide) ?_
  refine z_iaddN C 1211 dL_law_1211 ?_
  refine z_sld C hS.1 hS.2.1 hS.2.2.1 1212 dL_law_1212 rfl (by omega) (by omega) ?_
  refine z_aload_n C 1213 0 2 dL_law_1213 rfl rfl ?_
  refine z_iload C 1214 4 1 dL_law_1214 rfl ?_
  refine z_iconst (v := nI 2) C 1216 dL_law_1216 (by decide) ?_
  refine z_iaddN C 1217 dL_law_1217 ?_
  refine z_sld C hS.1 hS.2.1 hS.2.2.1 1218 dL_law_1218 rfl (by omega) (by omega) ?_
  refine z_cVi0 C 1219 dL_law_1219 cv_L_185 hM rfl ⟨by decide, rfl⟩ Nat.zero_lt_one rfl rfl (Nat.le_of_ble_eq_true rfl) ⟨by decide, by decide⟩ ⟨rfl, rfl⟩ ⟨by show _ ≤ 601024; omega, by show _ ≤ 7293034; omega⟩ ?_
  intro b S2 L2 R2 p2
  obtain ⟨hR2, e0, e60, S3, hext, e3, hIV⟩ := hN2 b S2 L2 R2 p2
  refine z_ext S3 hext ?_
  refine z_istore C 1222 6 [(6, _), (5, _), (4, _), (0, _), (1, _), (2, _), (3, _)] dL_law_1222 (by decide) rfl ?_
  refine z_aload_n C 1224 2 5 dL_law_1224 rfl rfl ?_
  refine z_cVi0 C 1225 dL_law_1225 cv_L_129 (c_X9_thrown hR2) rfl ⟨by decide, rfl⟩ Nat.zero_lt_one rfl rfl (Nat.le_of_ble_eq_true rfl) ⟨by decide, by decide⟩ ⟨rfl, rfl⟩ ⟨by show _ ≤ 601024; omega, by show _ ≤ 7293034; omega⟩ ?_
  intro r9 S9 L9 R9 p9
  obtain ⟨rfl, rfl, rfl, rfl⟩ := p9
  rw [e3]
  refine z_iload C 1228 5 1 dL_law_1228 rfl ?_
  refine z_icmp_eq C 1230 1235 dL_law_1230 (by decide) (fun _ => ?_) (fun h => absurd rfl h)
  refine z_iload C 1235 5 1 dL_law_1235 rfl ?_
  have fin : Z X 7 ad mdm S3 L2 R2 (356 + t + rmW.cells) (14747 + 6 * t + rmW.slots) 1252 [(6, .int b), (5, .int (nI k)), (4, .int (nI (6 * t))), (0, .ref bs), (1, .ref (ad 0 0)), (2, .ref (ad 40 0)), (3, .ref (ad 60 0))] [] := by
    refine z_goto C 1252 2211 dL_law_1252 (by decide) ?_
    refine z_sub [(4, _), (0, _), (1, _), (2, _), (3, _)] [2, 3, 4, 5, 6] rfl ?_
    exact z_wid (by omega) (by omega) (kk _ _ _ hIV)
  refine z_if_neN C 1237 1252 dL_law_1237 (by decide) (by omega) (fun _ => fin) (fun hk0 => ?_)
  refine z_aload_n C 1240 3 6 dL_law_1240 rfl rfl ?_
  refine z_iconst (v := nI 0) C 1241 dL_law_1241 (by decide) ?_
  refine z_lald C 1242 dL_law_1242 rfl Nat.zero_lt_one rfl (by decide) (by decide) ?_
  rw [e60 hk0]
  refine z_iload C 1243 6 0 dL_law_1243 rfl ?_
  refine z_i2l C 1245 dL_law_1245 (v := i2 b) rfl ?_
  refine z_lcmp C 1246 dL_law_1246 ?_
  refine z_if_eq C 1247 1252 dL_law_1247 (by decide) (fun _ => fin) (fun h => absurd (lg_cmp_rf _) h)
set_option maxHeartbeats 4000000 in
set_option maxRecDepth 100000 in
theorem lc_19 {X : mX} {bs L0 t : Nat} {xs : Nat → Int32} {ad : mA} {S : mS} {L : mL} {R : mR} (C : mK X RL cL_law 7 room_1) (hS : LH X bs L0 xs) (ht : 6 * t + 6 ≤ L0) (hlf : X.2.1.stackTraces = false) (hI : IVt S L R t) (kk : ∀ (S' : mS) (L' : mL) (R' : mR), IVt S' L' R' (t + 1) → Z X 7 ad mdm S' L' R' (356 + (t + 1)) (14747 + 6 * (t + 1)) 2211 [(4, .int (nI (6 * t))), (0, .ref bs), (1, .ref (ad 0 0)), (2, .ref (ad 40 0)), (3, .ref (ad 60 0))] []) : Z X 7 ad mdm S L R (356 + t) (14747 + 6 * t) 1255 [(4, .int (nI (6 * t))), (0, .ref bs), (1, .ref (ad 0 0)), (2, .ref (ad 40 0)), (3, .ref (ad 60 0))] [] := by
  have h512 : t ≤ 512 := by have := hS.2.2.2; omega
  have hL0 := hS.2.2.2
  obtain ⟨k, rmW, P1, hr, hz, hk, hW, hN⟩ := cs_waitsFor (l := X.2.1) (G := X.2.2.2.2.2.2.2.2.2.2.2.1) (ad := ad) hlf h512 hI (xs (6 * t + 1)) (xs (6 * t + 2)) (xs (6 * t + 3)) (xs (6 * t + 4))
  refine z_aload_n C 1255 1 2 dL_law_1255 rfl rfl ?_
  refine z_aload_n C 1256 0 1 dL_law_1256 rfl rfl ?_
  refine z_iload C 1257 4 0 dL_law_1257 rfl ?_
  refine z_iconst (v := nI 1) C 1259 dL_law_1259 (by decide) ?_
  refine z_iaddN C 1260 dL_law_1260 ?_
  refine z_sld C hS.1 hS.2.1 hS.2.2.1 1261 dL_law_1261 rfl (by omega) (by omega) ?_
  refine z_aload_n C 1262 0 1 dL_law_1262 rfl rfl ?_
  refine z_iload C 1263 4 0 dL_law_1263 rfl ?_
  refine z_iconst (v := nI 2) C 1265 dL_law_1265 (by decide) ?_
  refine z_iaddN C 1266 dL_law_1266 ?_
  refine z_sld C hS.1 hS.2.1 hS.2.2.1 1267 dL_law_1267 rfl (by omega) (by omega) ?_
  refine z_aload_n C 1268 0 1 dL_law_1268 rfl rfl ?_
  refine z_iload C 1269 4 0 dL_law_1269 rfl ?_
  refine z_iconst (v := nI 3) C 1271 dL_law_1271 (by decide) ?_
  refine z_iaddN C 1272 dL_law_1272 ?_
  refine z_sld C hS.1 hS.2.1 hS.2.2.1 1273 dL_law_1273 rfl (by omega) (by omega) ?_
  refine z_aload_n C 1274 0 1 dL_law_1274 rfl rfl ?_
  refine z_iload C 1275 4 0 dL_law_1275 rfl ?_
  refine z_iconst (v := nI 4) C 1277 dL_law_1277 (by decide) ?_
  refine z_iaddN C 1278 dL_law_1278 ?_
  refine z_sld C hS.1 hS.2.1 hS.2.2.1 1279 dL_law_1279 rfl (by omega) (by omega) ?_
  refine z_aload_n C 1280 3 4 dL_law_1280 rfl rfl ?_
  refine z_cW C 1281 dL_law_1281 ww_waitsFor hW rfl rfl (Nat.le_of_ble_eq_true rfl) hr ⟨by show _ ≤ 601024; omega, by show _ ≤ 7293034; omega⟩ ?_
  intro r S1 L1 R1 p1
  obtain ⟨rfl, P2, hM, hN2⟩ := hN r S1 L1 R1 p1
  refine z_istore C 1284 5 [(5, _), (4, _), (0, _), (1, _), (2, _), (3, _)] dL_law_1284 (by decide) rfl ?_
  refine z_aload_n C 1286 2 4 dL_law_1286 rfl rfl ?_
  refine z_aload_n C 1287 0 2 dL_law_1287 rfl rfl ?_
  refine z_iload C 1288 4 1 dL_law_1288 rfl ?_
  refine z_iconst (v := nI 1) C 1290 dL_law_1290 (by decide) ?_
  refine z_iaddN C 1291 dL_law_1291 ?_
  refine z_sld C hS.1 hS.2.1 hS.2.2.1 1292 dL_law_1292 rfl (by omega) (by omega) ?_
  refine z_aload_n C 1293 0 2 dL_law_1293 rfl rfl ?_
  refine z_iload C 1294 4 1 dL_law_1294 rfl ?_
  refine z_iconst (v := nI 2) C 1296 dL_law_1296 (by decide) ?_
  refine z_iaddN C 1297 dL_law_1297 ?_
  refine z_sld C hS.1 hS.2.1 hS.2.2.1 1298 dL_law_1298 rfl (by omega) (by omega) ?_
  refine z_aload_n C 1299 0 2 dL_law_1299 rfl rfl ?_
  refine z_iload C 1300 4 1 dL_law_1300 rfl ?_
  refine z_iconst (v := nI 3) C 1302 dL_law_1302 (by decide) ?_
  refine z_iaddN C 1303 dL_law_1303 ?_
  refine z_sld C hS.1 hS.2.1 hS.2.2.1 1304 dL_law_1304 rfl (by omega) (by omega) ?_
  refine z_aload_n C 1305 0 2 dL_law_1305 rfl rfl ?_
  refine z_iload C 1306 4 1 dL_law_1306 rfl ?_
  refine z_iconst (v := nI 4) C 1308 dL_law_1308 (by decide) ?_
  refine z_iaddN C 1309 dL_law_1309 ?_
  refine z_sld C hS.1 hS.2.1 hS.2.2.1 1310 dL_law_1310 rfl (by omega) (by omega) ?_
  refine z_cVi0 C 1311 dL_law_1311 cv_L_189 hM rfl ⟨by decide, rfl⟩ Nat.zero_lt_one rfl rfl (Nat.le_of_ble_eq_true rfl) ⟨by decide, by decide⟩ ⟨rfl, rfl⟩ ⟨by show _ ≤ 601024; omega, by show _ ≤ 7293034; omega⟩ ?_
  intro b S2 L2 R2 p2
  obtain ⟨hR2, e0, e60, S3, hext, e3, hIV⟩ := hN2 b S2 L2 R2 p2
  refine z_ext S3 hext ?_
  refine z_istore C 1314 6 [(6, _), (5, _), (4, _), (0, _), (1, _), (2, _), (3, _)] dL_law_1314 (by decide) rfl ?_
  refine z_aload_n C 1316 2 5 dL_law_1316 rfl rfl ?_
  refine z_cVi0 C 1317 dL_law_1317 cv_L_129 (c_X9_thrown hR2) rfl ⟨by decide, rfl⟩ Nat.zero_lt_one rfl rfl (Nat.le_of_ble_eq_true rfl) ⟨by decide, by decide⟩ ⟨rfl, rfl⟩ ⟨by show _ ≤ 601024; omega, by show _ ≤ 7293034; omega⟩ ?_
  intro r9 S9 L9 R9 p9
  obtain ⟨rfl, rfl, rfl, rfl⟩ := p9
  rw [e3]
  refine z_iload C 1320 5 1 dL_law_1320 rfl ?_
  refine z_icmp_eq C 1322 1327 dL_law_1322 (by decide) (fun _ => ?_) (fun h => absurd rfl h)
  refine z_iload C 1327 5 1 dL_law_1327 rfl ?_
  have fin : Z X 7 ad mdm S3 L2 R2 (356 + t + rmW.cells) (14747 + 6 * t + rmW.slots) 1344 [(6, .int b), (5, .int (nI k)), (4, .int (nI (6 * t))), (0, .ref bs), (1, .ref (ad 0 0)), (2, .ref (ad 40 0)), (3, .ref (ad 60 0))] [] := by
    refine z_goto C 1344 2211 dL_law_1344 (by decide) ?_
    refine z_sub [(4, _), (0, _), (1, _), (2, _), (3, _)] [2, 3, 4, 5, 6] rfl ?_
    exact z_wid (by omega) (by omega) (kk _ _ _ hIV)
  refine z_if_neN C 1329 1344 dL_law_1329 (by decide) (by omega) (fun _ => fin) (fun hk0 => ?_)
  refine z_aload_n C 1332 3 6 dL_law_1332 rfl rfl ?_
  refine z_iconst (v := nI 0) C 1333 dL_law_1333 (by decide) ?_
  refine z_lald C 1334 dL_law_1334 rfl Nat.zero_lt_one rfl (by decide) (by decide) ?_
  rw [e60 hk0]
  refine z_iload C 1335 6 0 dL_law_1335 rfl ?_
  refine z_i2l C 1337 dL_law_1337 (v := i2 b) rfl ?_
  refine z_lcmp C 1338 dL_law_1338 ?_
  refine z_if_eq C 1339 1344 dL_law_1339 (by decide) (fun _ => fin) (fun h => absurd (lg_cmp_rf _) h)
set_option maxHeartbeats 4000000 in
set_option maxRecDepth 100000 in
theorem lc_20 {X : mX} {bs L0 t : Nat} {xs : Nat → Int32} {ad : mA} {S : mS} {L : mL} {R : mR} (C : mK X RL cL_law 7 room_1) (hS : LH X bs L0 xs) (ht : 6 * t + 6 ≤ L0) (hlf : X.2.1.stackTraces = false) (hI : IVt S L R t) (kk : ∀ (S' : mS) (L' : mL) (R' : mR), IVt S' L' R' (t + 1) → Z X 7 ad mdm S' L' R' (356 + (t + 1)) (14747 + 6 * (t + 1)) 2211 [(4, .int (nI (6 * t))), (0, .ref bs), (1, .ref (ad 0 0)), (2, .ref (ad 40 0)), (3, .ref (ad 60 0))] []) : Z X 7 ad mdm S L R (356 + t) (14747 + 6 * t) 1347 [(4, .int (nI (6 * t))), (0, .ref bs), (1, .ref (ad 0 0)), (2, .ref (ad 40 0)), (3, .ref (ad 60 0))] [] := by
  have h512 : t ≤ 512 := by have := hS.2.2.2; omega
  have hL0 := hS.2.2.2
  obtain ⟨k, rmW, P1, hr, hz, hk, hW, hN⟩ := cs_log (l := X.2.1) (G := X.2.2.2.2.2.2.2.2.2.2.2.1) (ad := ad) hlf h512 hI (xs (6 * t + 1)) (xs (6 * t + 2))
  refine z_aload_n C 1347 1 2 dL_law_1347 rfl rfl ?_
  refine z_aload_n C 1348 0 1 dL_law_1348 rfl rfl ?_
  refine z_iload C 1349 4 0 dL_law_1349 rfl ?_
  refine z_iconst (v := nI 1) C 1351 dL_law_1351 (by decide) ?_
  refine z_iaddN C 1352 dL_law_1352 ?_
  refine z_sld C hS.1 hS.2.1 hS.2.2.1 1353 dL_law_1353 rfl (by omega) (by omega) ?_
  refine z_aload_n C 1354 0 1 dL_law_1354 rfl rfl ?_
  refine z_iload C 1355 4 0 dL_law_1355 rfl ?_
  refine z_iconst (v := nI 2) C 1357 dL_law_1357 (by decide) ?_
  refine z_iaddN C 1358 dL_law_1358 ?_
  refine z_sld C hS.1 hS.2.1 hS.2.2.1 1359 dL_law_1359 rfl (by omega) (by omega) ?_
  refine z_aload_n C 1360 3 4 dL_law_1360 rfl rfl ?_
  refine z_cW C 1361 dL_law_1361 ww_log hW rfl rfl (Nat.le_of_ble_eq_true rfl) hr ⟨by show _ ≤ 601024; omega, by show _ ≤ 7293034; omega⟩ ?_
  intro r S1 L1 R1 p1
  obtain ⟨rfl, P2, hM, hN2⟩ := hN r S1 L1 R1 p1
  refine z_istore C 1364 5 [(5, _), (4, _), (0, _), (1, _), (2, _), (3, _)] dL_law_1364 (by decide) rfl ?_
  refine z_aload_n C 1366 2 4 dL_law_1366 rfl rfl ?_
  refine z_aload_n C 1367 0 2 dL_law_1367 rfl rfl ?_
  refine z_iload C 1368 4 1 dL_law_1368 rfl ?_
  refine z_iconst (v := nI 1) C 1370 dL_law_1370 (by decide) ?_
  refine z_iaddN C 1371 dL_law_1371 ?_
  refine z_sld C hS.1 hS.2.1 hS.2.2.1 1372 dL_law_1372 rfl (by omega) (by omega) ?_
  refine z_aload_n C 1373 0 2 dL_law_1373 rfl rfl ?_
  refine z_iload C 1374 4 1 dL_law_1374 rfl ?_
  refine z_iconst (v := nI 2) C 1376 dL_law_1376 (by decide) ?_
  refine z_iaddN C 1377 dL_law_1377 ?_
  refine z_sld C hS.1 hS.2.1 hS.2.2.1 1378 dL_law_1378 rfl (by omega) (by omega) ?_
  refine z_cVi0 C 1379 dL_law_1379 cv_L_192 hM rfl ⟨by decide, rfl⟩ Nat.zero_lt_one rfl rfl (Nat.le_of_ble_eq_true rfl) ⟨by decide, by decide⟩ ⟨rfl, rfl⟩ ⟨by show _ ≤ 601024; omega, by show _ ≤ 7293034; omega⟩ ?_
  intro b S2 L2 R2 p2
  obtain ⟨hR2, e0, e60, S3, hext, e3, hIV⟩ := hN2 b S2 L2 R2 p2
  refine z_ext S3 hext ?_
  refine z_istore C 1382 6 [(6, _), (5, _), (4, _), (0, _), (1, _), (2, _), (3, _)] dL_law_1382 (by decide) rfl ?_
  refine z_aload_n C 1384 2 5 dL_law_1384 rfl rfl ?_
  refine z_cVi0 C 1385 dL_law_1385 cv_L_129 (c_X9_thrown hR2) rfl ⟨by decide, rfl⟩ Nat.zero_lt_one rfl rfl (Nat.le_of_ble_eq_true rfl) ⟨by decide, by decide⟩ ⟨rfl, rfl⟩ ⟨by show _ ≤ 601024; omega, by show _ ≤ 7293034; omega⟩ ?_
  intro r9 S9 L9 R9 p9
  obtain ⟨rfl, rfl, rfl, rfl⟩ := p9
  rw [e3]
  refine z_iload C 1388 5 1 dL_law_1388 rfl ?_
  refine z_icmp_eq C 1390 1395 dL_law_1390 (by decide) (fun _ => ?_) (fun h => absurd rfl h)
  refine z_iload C 1395 5 1 dL_law_1395 rfl ?_
  have fin : Z X 7 ad mdm S3 L2 R2 (356 + t + rmW.cells) (14747 + 6 * t + rmW.slots) 1412 [(6, .int b), (5, .int (nI k)), (4, .int (nI (6 * t))), (0, .ref bs), (1, .ref (ad 0 0)), (2, .ref (ad 40 0)), (3, .ref (ad 60 0))] [] := by
    refine z_goto C 1412 2211 dL_law_1412 (by decide) ?_
    refine z_sub [(4, _), (0, _), (1, _), (2, _), (3, _)] [2, 3, 4, 5, 6] rfl ?_
    exact z_wid (by omega) (by omega) (kk _ _ _ hIV)
  refine z_if_neN C 1397 1412 dL_law_1397 (by decide) (by omega) (fun _ => fin) (fun hk0 => ?_)
  refine z_aload_n C 1400 3 6 dL_law_1400 rfl rfl ?_
  refine z_iconst (v := nI 0) C 1401 dL_law_1401 (by decide) ?_
  refine z_lald C 1402 dL_law_1402 rfl Nat.zero_lt_one rfl (by decide) (by decide) ?_
  rw [e60 hk0]
  refine z_iload C 1403 6 0 dL_law_1403 rfl ?_
  refine z_i2l C 1405 dL_law_1405 (v := i2 b) rfl ?_
  refine z_lcmp C 1406 dL_law_1406 ?_
  refine z_if_eq C 1407 1412 dL_law_1407 (by decide) (fun _ => fin) (fun h => absurd (lg_cmp_rf _) h)
set_option maxHeartbeats 4000000 in
set_option maxRecDepth 100000 in
theorem lc_21 {X : mX} {bs L0 t : Nat} {xs : Nat → Int32} {ad : mA} {S : mS} {L : mL} {R : mR} (C : mK X RL cL_law 7 room_1) (hS : LH X bs L0 xs) (ht : 6 * t + 6 ≤ L0) (hlf : X.2.1.stackTraces = false) (hI : IVt S L R t) (kk : ∀ (S' : mS) (L' : mL) (R' : mR), IVt S' L' R' (t + 1) → Z X 7 ad mdm S' L' R' (356 + (t + 1)) (14747 + 6 * (t + 1)) 2211 [(4, .int (nI (6 * t))), (0, .ref bs), (1, .ref (ad 0 0)), (2, .ref (ad 40 0)), (3, .ref (ad 60 0))] []) : Z X 7 ad mdm S L R (356 + t) (14747 + 6 * t) 1415 [(4, .int (nI (6 * t))), (0, .ref bs), (1, .ref (ad 0 0)), (2, .ref (ad 40 0)), (3, .ref (ad 60 0))] [] := by
  have h512 : t ≤ 512 := by have := hS.2.2.2; omega
  have hL0 := hS.2.2.2
  obtain ⟨k, rmW, P1, hr, hz, hk, hW, hN⟩ := cs_account (l := X.2.1) (G := X.2.2.2.2.2.2.2.2.2.2.2.1) (ad := ad) hlf h512 hI (xs (6 * t + 1))
  refine z_aload_n C 1415 1 2 dL_law_1415 rfl rfl ?_
  refine z_aload_n C 1416 0 1 dL_law_1416 rfl rfl ?_
  refine z_iload C 1417 4 0 dL_law_1417 rfl ?_
  refine z_iconst (v := nI 1) C 1419 dL_law_1419 (by decide) ?_
  refine z_iaddN C 1420 dL_law_1420 ?_
  refine z_sld C hS.1 hS.2.1 hS.2.2.1 1421 dL_law_1421 rfl (by omega) (by omega) ?_
  refine z_aload_n C 1422 3 4 dL_law_1422 rfl rfl ?_
  refine z_cW C 1423 dL_law_1423 ww_account hW rfl rfl (Nat.le_of_ble_eq_true rfl) hr ⟨by show _ ≤ 601024; omega, by show _ ≤ 7293034; omega⟩ ?_
  intro r S1 L1 R1 p1
  obtain ⟨rfl, P2, hM, hN2⟩ := hN r S1 L1 R1 p1
  refine z_istore C 1426 5 [(5, _), (4, _), (0, _), (1, _), (2, _), (3, _)] dL_law_1426 (by decide) rfl ?_
  refine z_aload_n C 1428 2 4 dL_law_1428 rfl rfl ?_
  refine z_aload_n C 1429 0 2 dL_law_1429 rfl rfl ?_
  refine z_iload C 1430 4 1 dL_law_1430 rfl ?_
  refine z_iconst (v := nI 1) C 1432 dL_law_1432 (by decide) ?_
  refine z_iaddN C 1433 dL_law_1433 ?_
  refine z_sld C hS.1 hS.2.1 hS.2.2.1 1434 dL_law_1434 rfl (by omega) (by omega) ?_
  refine z_cVi0 C 1435 dL_law_1435 cv_L_195 hM rfl ⟨by decide, rfl⟩ Nat.zero_lt_one rfl rfl (Nat.le_of_ble_eq_true rfl) ⟨by decide, by decide⟩ ⟨rfl, rfl⟩ ⟨by show _ ≤ 601024; omega, by show _ ≤ 7293034; omega⟩ ?_
  intro b S2 L2 R2 p2
  obtain ⟨hR2, e0, e60, S3, hext, e3, hIV⟩ := hN2 b S2 L2 R2 p2
  refine z_ext S3 hext ?_
  refine z_istore C 1438 6 [(6, _), (5, _), (4, _), (0, _), (1, _), (2, _), (3, _)] dL_law_1438 (by decide) rfl ?_
  refine z_aload_n C 1440 2 5 dL_law_1440 rfl rfl ?_
  refine z_cVi0 C 1441 dL_law_1441 cv_L_129 (c_X9_thrown hR2) rfl ⟨by decide, rfl⟩ Nat.zero_lt_one rfl rfl (Nat.le_of_ble_eq_true rfl) ⟨by decide, by decide⟩ ⟨rfl, rfl⟩ ⟨by show _ ≤ 601024; omega, by show _ ≤ 7293034; omega⟩ ?_
  intro r9 S9 L9 R9 p9
  obtain ⟨rfl, rfl, rfl, rfl⟩ := p9
  rw [e3]
  refine z_iload C 1444 5 1 dL_law_1444 rfl ?_
  refine z_icmp_eq C 1446 1451 dL_law_1446 (by decide) (fun _ => ?_) (fun h => absurd rfl h)
  refine z_iload C 1451 5 1 dL_law_1451 rfl ?_
  have fin : Z X 7 ad mdm S3 L2 R2 (356 + t + rmW.cells) (14747 + 6 * t + rmW.slots) 1468 [(6, .int b), (5, .int (nI k)), (4, .int (nI (6 * t))), (0, .ref bs), (1, .ref (ad 0 0)), (2, .ref (ad 40 0)), (3, .ref (ad 60 0))] [] := by
    refine z_goto C 1468 2211 dL_law_1468 (by decide) ?_
    refine z_sub [(4, _), (0, _), (1, _), (2, _), (3, _)] [2, 3, 4, 5, 6] rfl ?_
    exact z_wid (by omega) (by omega) (kk _ _ _ hIV)
  refine z_if_neN C 1453 1468 dL_law_1453 (by decide) (by omega) (fun _ => fin) (fun hk0 => ?_)
  refine z_aload_n C 1456 3 6 dL_law_1456 rfl rfl ?_
  refine z_iconst (v := nI 0) C 1457 dL_law_1457 (by decide) ?_
  refine z_lald C 1458 dL_law_1458 rfl Nat.zero_lt_one rfl (by decide) (by decide) ?_
  rw [e60 hk0]
  refine z_iload C 1459 6 0 dL_law_1459 rfl ?_
  refine z_i2l C 1461 dL_law_1461 (v := i2 b) rfl ?_
  refine z_lcmp C 1462 dL_law_1462 ?_
  refine z_if_eq C 1463 1468 dL_law_1463 (by decide) (fun _ => fin) (fun h => absurd (lg_cmp_rf _) h)
set_option maxHeartbeats 4000000 in
set_option maxRecDepth 100000 in
theorem lc_22 {X : mX} {bs L0 t : Nat} {xs : Nat → Int32} {ad : mA} {S : mS} {L : mL} {R : mR} (C : mK X RL cL_law 7 room_1) (hS : LH X bs L0 xs) (ht : 6 * t + 6 ≤ L0) (hlf : X.2.1.stackTraces = false) (hI : IVt S L R t) (kk : ∀ (S' : mS) (L' : mL) (R' : mR), IVt S' L' R' (t + 1) → Z X 7 ad mdm S' L' R' (356 + (t + 1)) (14747 + 6 * (t + 1)) 2211 [(4, .int (nI (6 * t))), (0, .ref bs), (1, .ref (ad 0 0)), (2, .ref (ad 40 0)), (3, .ref (ad 60 0))] []) : Z X 7 ad mdm S L R (356 + t) (14747 + 6 * t) 1471 [(4, .int (nI (6 * t))), (0, .ref bs), (1, .ref (ad 0 0)), (2, .ref (ad 40 0)), (3, .ref (ad 60 0))] [] := by
  have h512 : t ≤ 512 := by have := hS.2.2.2; omega
  have hL0 := hS.2.2.2
  obtain ⟨k, rmW, P1, hr, hz, hk, hW, hN⟩ := cs_show (l := X.2.1) (G := X.2.2.2.2.2.2.2.2.2.2.2.1) (ad := ad) hlf h512 hI (xs (6 * t + 1))
  refine z_aload_n C 1471 1 2 dL_law_1471 rfl rfl ?_
  refine z_aload_n C 1472 0 1 dL_law_1472 rfl rfl ?_
  refine z_iload C 1473 4 0 dL_law_1473 rfl ?_
  refine z_iconst (v := nI 1) C 1475 dL_law_1475 (by decide) ?_
  refine z_iaddN C 1476 dL_law_1476 ?_
  refine z_sld C hS.1 hS.2.1 hS.2.2.1 1477 dL_law_1477 rfl (by omega) (by omega) ?_
  refine z_aload_n C 1478 3 4 dL_law_1478 rfl rfl ?_
  refine z_cW C 1479 dL_law_1479 ww_show hW rfl rfl (Nat.le_of_ble_eq_true rfl) hr ⟨by show _ ≤ 601024; omega, by show _ ≤ 7293034; omega⟩ ?_
  intro r S1 L1 R1 p1
  obtain ⟨rfl, P2, hM, hN2⟩ := hN r S1 L1 R1 p1
  refine z_istore C 1482 5 [(5, _), (4, _), (0, _), (1, _), (2, _), (3, _)] dL_law_1482 (by decide) rfl ?_
  refine z_aload_n C 1484 2 4 dL_law_1484 rfl rfl ?_
  refine z_aload_n C 1485 0 2 dL_law_1485 rfl rfl ?_
  refine z_iload C 1486 4 1 dL_law_1486 rfl ?_
  refine z_iconst (v := nI 1) C 1488 dL_law_1488 (by decide) ?_
  refine z_iaddN C 1489 dL_law_1489 ?_
  refine z_sld C hS.1 hS.2.1 hS.2.2.1 1490 dL_law_1490 rfl (by omega) (by omega) ?_
  refine z_cVi0 C 1491 dL_law_1491 cv_L_198 hM rfl ⟨by decide, rfl⟩ Nat.zero_lt_one rfl rfl (Nat.le_of_ble_eq_true rfl) ⟨by decide, by decide⟩ ⟨rfl, rfl⟩ ⟨by show _ ≤ 601024; omega, by show _ ≤ 7293034; omega⟩ ?_
  intro b S2 L2 R2 p2
  obtain ⟨hR2, e0, e60, S3, hext, e3, hIV⟩ := hN2 b S2 L2 R2 p2
  refine z_ext S3 hext ?_
  refine z_istore C 1494 6 [(6, _), (5, _), (4, _), (0, _), (1, _), (2, _), (3, _)] dL_law_1494 (by decide) rfl ?_
  refine z_aload_n C 1496 2 5 dL_law_1496 rfl rfl ?_
  refine z_cVi0 C 1497 dL_law_1497 cv_L_129 (c_X9_thrown hR2) rfl ⟨by decide, rfl⟩ Nat.zero_lt_one rfl rfl (Nat.le_of_ble_eq_true rfl) ⟨by decide, by decide⟩ ⟨rfl, rfl⟩ ⟨by show _ ≤ 601024; omega, by show _ ≤ 7293034; omega⟩ ?_
  intro r9 S9 L9 R9 p9
  obtain ⟨rfl, rfl, rfl, rfl⟩ := p9
  rw [e3]
  refine z_iload C 1500 5 1 dL_law_1500 rfl ?_
  refine z_icmp_eq C 1502 1507 dL_law_1502 (by decide) (fun _ => ?_) (fun h => absurd rfl h)
  refine z_iload C 1507 5 1 dL_law_1507 rfl ?_
  have fin : Z X 7 ad mdm S3 L2 R2 (356 + t + rmW.cells) (14747 + 6 * t + rmW.slots) 1524 [(6, .int b), (5, .int (nI k)), (4, .int (nI (6 * t))), (0, .ref bs), (1, .ref (ad 0 0)), (2, .ref (ad 40 0)), (3, .ref (ad 60 0))] [] := by
    refine z_goto C 1524 2211 dL_law_1524 (by decide) ?_
    refine z_sub [(4, _), (0, _), (1, _), (2, _), (3, _)] [2, 3, 4, 5, 6] rfl ?_
    exact z_wid (by omega) (by omega) (kk _ _ _ hIV)
  refine z_if_neN C 1509 1524 dL_law_1509 (by decide) (by omega) (fun _ => fin) (fun hk0 => ?_)
  refine z_aload_n C 1512 3 6 dL_law_1512 rfl rfl ?_
  refine z_iconst (v := nI 0) C 1513 dL_law_1513 (by decide) ?_
  refine z_lald C 1514 dL_law_1514 rfl Nat.zero_lt_one rfl (by decide) (by decide) ?_
  rw [e60 hk0]
  refine z_iload C 1515 6 0 dL_law_1515 rfl ?_
  refine z_i2l C 1517 dL_law_1517 (v := i2 b) rfl ?_
  refine z_lcmp C 1518 dL_law_1518 ?_
  refine z_if_eq C 1519 1524 dL_law_1519 (by decide) (fun _ => fin) (fun h => absurd (lg_cmp_rf _) h)
set_option maxHeartbeats 4000000 in
set_option maxRecDepth 100000 in
theorem lc_23 {X : mX} {bs L0 t : Nat} {xs : Nat → Int32} {ad : mA} {S : mS} {L : mL} {R : mR} (C : mK X RL cL_law 7 room_1) (hS : LH X bs L0 xs) (ht : 6 * t + 6 ≤ L0) (hlf : X.2.1.stackTraces = false) (hI : IVt S L R t) (kk : ∀ (S' : mS) (L' : mL) (R' : mR), IVt S' L' R' (t + 1) → Z X 7 ad mdm S' L' R' (356 + (t + 1)) (14747 + 6 * (t + 1)) 2211 [(4, .int (nI (6 * t))), (0, .ref bs), (1, .ref (ad 0 0)), (2, .ref (ad 40 0)), (3, .ref (ad 60 0))] []) : Z X 7 ad mdm S L R (356 + t) (14747 + 6 * t) 1527 [(4, .int (nI (6 * t))), (0, .ref bs), (1, .ref (ad 0 0)), (2, .ref (ad 40 0)), (3, .ref (ad 60 0))] [] := by
  have h512 : t ≤ 512 := by have := hS.2.2.2; omega
  have hL0 := hS.2.2.2
  obtain ⟨P1, hX, hN⟩ := cs_home (l := X.2.1) (G := X.2.2.2.2.2.2.2.2.2.2.2.1) (ad := ad) hI 
  refine z_aload_n C 1527 1 2 dL_law_1527 rfl rfl ?_
  refine z_cVi0 C 1528 dL_law_1528 cv_L_199 hX rfl ⟨by decide, rfl⟩ Nat.zero_lt_one rfl rfl (Nat.le_of_ble_eq_true rfl) ⟨by decide, by decide⟩ ⟨rfl, rfl⟩ ⟨by show _ ≤ 601024; omega, by show _ ≤ 7293034; omega⟩ ?_
  intro r S1 L1 R1 p1
  obtain ⟨P2, hM, hN2⟩ := hN r S1 L1 R1 p1
  refine z_aload_n C 1531 2 3 dL_law_1531 rfl rfl ?_
  refine z_cVi0 C 1532 dL_law_1532 cv_L_202 hM rfl ⟨by decide, rfl⟩ Nat.zero_lt_one rfl rfl (Nat.le_of_ble_eq_true rfl) ⟨by decide, by decide⟩ ⟨rfl, rfl⟩ ⟨by show _ ≤ 601024; omega, by show _ ≤ 7293034; omega⟩ ?_
  intro b S2 L2 R2 p2
  obtain ⟨rfl, S3, hext, hIV⟩ := hN2 b S2 L2 R2 p2
  refine z_ext S3 hext ?_
  refine z_icmp_eq C 1535 2211 dL_law_1535 (by decide) (fun _ => ?_) (fun h => absurd rfl h)
  exact z_wid (by omega) (by omega) (kk _ _ _ hIV)
set_option maxHeartbeats 4000000 in
set_option maxRecDepth 100000 in
theorem lc_24 {X : mX} {bs L0 t : Nat} {xs : Nat → Int32} {ad : mA} {S : mS} {L : mL} {R : mR} (C : mK X RL cL_law 7 room_1) (hS : LH X bs L0 xs) (ht : 6 * t + 6 ≤ L0) (hlf : X.2.1.stackTraces = false) (hI : IVt S L R t) (kk : ∀ (S' : mS) (L' : mL) (R' : mR), IVt S' L' R' (t + 1) → Z X 7 ad mdm S' L' R' (356 + (t + 1)) (14747 + 6 * (t + 1)) 2211 [(4, .int (nI (6 * t))), (0, .ref bs), (1, .ref (ad 0 0)), (2, .ref (ad 40 0)), (3, .ref (ad 60 0))] []) : Z X 7 ad mdm S L R (356 + t) (14747 + 6 * t) 1540 [(4, .int (nI (6 * t))), (0, .ref bs), (1, .ref (ad 0 0)), (2, .ref (ad 40 0)), (3, .ref (ad 60 0))] [] := by
  have h512 : t ≤ 512 := by have := hS.2.2.2; omega
  have hL0 := hS.2.2.2
  obtain ⟨k, rmW, P1, hr, hz, hk, hW, hN⟩ := cs_pass (l := X.2.1) (G := X.2.2.2.2.2.2.2.2.2.2.2.1) (ad := ad) hlf h512 hI (xs (6 * t + 1))
  refine z_aload_n C 1540 1 2 dL_law_1540 rfl rfl ?_
  refine z_aload_n C 1541 0 1 dL_law_1541 rfl rfl ?_
  refine z_iload C 1542 4 0 dL_law_1542 rfl ?_
  refine z_iconst (v := nI 1) C 1544 dL_law_1544 (by decide) ?_
  refine z_iaddN C 1545 dL_law_1545 ?_
  refine z_sld C hS.1 hS.2.1 hS.2.2.1 1546 dL_law_1546 rfl (by omega) (by omega) ?_
  refine z_aload_n C 1547 3 4 dL_law_1547 rfl rfl ?_
  refine z_cW C 1548 dL_law_1548 ww_pass hW rfl rfl (Nat.le_of_ble_eq_true rfl) hr ⟨by show _ ≤ 601024; omega, by show _ ≤ 7293034; omega⟩ ?_
  intro r S1 L1 R1 p1
  obtain ⟨rfl, P2, hM, hN2⟩ := hN r S1 L1 R1 p1
  refine z_istore C 1551 5 [(5, _), (4, _), (0, _), (1, _), (2, _), (3, _)] dL_law_1551 (by decide) rfl ?_
  refine z_aload_n C 1553 2 4 dL_law_1553 rfl rfl ?_
  refine z_aload_n C 1554 0 2 dL_law_1554 rfl rfl ?_
  refine z_iload C 1555 4 1 dL_law_1555 rfl ?_
  refine z_iconst (v := nI 1) C 1557 dL_law_1557 (by decide) ?_
  refine z_iaddN C 1558 dL_law_1558 ?_
  refine z_sld C hS.1 hS.2.1 hS.2.2.1 1559 dL_law_1559 rfl (by omega) (by omega) ?_
  refine z_cVi0 C 1560 dL_law_1560 cv_L_205 hM rfl ⟨by decide, rfl⟩ Nat.zero_lt_one rfl rfl (Nat.le_of_ble_eq_true rfl) ⟨by decide, by decide⟩ ⟨rfl, rfl⟩ ⟨by show _ ≤ 601024; omega, by show _ ≤ 7293034; omega⟩ ?_
  intro b S2 L2 R2 p2
  obtain ⟨hR2, e0, e60, S3, hext, e3, hIV⟩ := hN2 b S2 L2 R2 p2
  refine z_ext S3 hext ?_
  refine z_istore C 1563 6 [(6, _), (5, _), (4, _), (0, _), (1, _), (2, _), (3, _)] dL_law_1563 (by decide) rfl ?_
  refine z_aload_n C 1565 2 5 dL_law_1565 rfl rfl ?_
  refine z_cVi0 C 1566 dL_law_1566 cv_L_129 (c_X9_thrown hR2) rfl ⟨by decide, rfl⟩ Nat.zero_lt_one rfl rfl (Nat.le_of_ble_eq_true rfl) ⟨by decide, by decide⟩ ⟨rfl, rfl⟩ ⟨by show _ ≤ 601024; omega, by show _ ≤ 7293034; omega⟩ ?_
  intro r9 S9 L9 R9 p9
  obtain ⟨rfl, rfl, rfl, rfl⟩ := p9
  rw [e3]
  refine z_iload C 1569 5 1 dL_law_1569 rfl ?_
  refine z_icmp_eq C 1571 1576 dL_law_1571 (by decide) (fun _ => ?_) (fun h => absurd rfl h)
  refine z_iload C 1576 5 1 dL_law_1576 rfl ?_
  have fin : Z X 7 ad mdm S3 L2 R2 (356 + t + rmW.cells) (14747 + 6 * t + rmW.slots) 1593 [(6, .int b), (5, .int (nI k)), (4, .int (nI (6 * t))), (0, .ref bs), (1, .ref (ad 0 0)), (2, .ref (ad 40 0)), (3, .ref (ad 60 0))] [] := by
    refine z_goto C 1593 2211 dL_law_1593 (by decide) ?_
    refine z_sub [(4, _), (0, _), (1, _), (2, _), (3, _)] [2, 3, 4, 5, 6] rfl ?_
    exact z_wid (by omega) (by omega) (kk _ _ _ hIV)
  refine z_if_neN C 1578 1593 dL_law_1578 (by decide) (by omega) (fun _ => fin) (fun hk0 => ?_)
  refine z_aload_n C 1581 3 6 dL_law_1581 rfl rfl ?_
  refine z_iconst (v := nI 0) C 1582 dL_law_1582 (by decide) ?_
  refine z_lald C 1583 dL_law_1583 rfl Nat.zero_lt_one rfl (by decide) (by decide) ?_
  rw [e60 hk0]
  refine z_iload C 1584 6 0 dL_law_1584 rfl ?_
  refine z_i2l C 1586 dL_law_1586 (v := i2 b) rfl ?_
  refine z_lcmp C 1587 dL_law_1587 ?_
  refine z_if_eq C 1588 1593 dL_law_1588 (by decide) (fun _ => fin) (fun h => absurd (lg_cmp_rf _) h)
set_option maxHeartbeats 4000000 in
set_option maxRecDepth 100000 in
theorem lc_25 {X : mX} {bs L0 t : Nat} {xs : Nat → Int32} {ad : mA} {S : mS} {L : mL} {R : mR} (C : mK X RL cL_law 7 room_1) (hS : LH X bs L0 xs) (ht : 6 * t + 6 ≤ L0) (hlf : X.2.1.stackTraces = false) (hI : IVt S L R t) (kk : ∀ (S' : mS) (L' : mL) (R' : mR), IVt S' L' R' (t + 1) → Z X 7 ad mdm S' L' R' (356 + (t + 1)) (14747 + 6 * (t + 1)) 2211 [(4, .int (nI (6 * t))), (0, .ref bs), (1, .ref (ad 0 0)), (2, .ref (ad 40 0)), (3, .ref (ad 60 0))] []) : Z X 7 ad mdm S L R (356 + t) (14747 + 6 * t) 1596 [(4, .int (nI (6 * t))), (0, .ref bs), (1, .ref (ad 0 0)), (2, .ref (ad 40 0)), (3, .ref (ad 60 0))] [] := by
  have h512 : t ≤ 512 := by have := hS.2.2.2; omega
  have hL0 := hS.2.2.2
  obtain ⟨k, rmW, P1, hr, hz, hk, hW, hN⟩ := cs_touch (l := X.2.1) (G := X.2.2.2.2.2.2.2.2.2.2.2.1) (ad := ad) hlf h512 hI (xs (6 * t + 1))
  refine z_aload_n C 1596 1 2 dL_law_1596 rfl rfl ?_
  refine z_aload_n C 1597 0 1 dL_law_1597 rfl rfl ?_
  refine z_iload C 1598 4 0 dL_law_1598 rfl ?_
  refine z_iconst (v := nI 1) C 1600 dL_law_1600 (by decide) ?_
  refine z_iaddN C 1601 dL_law_1601 ?_
  refine z_sld C hS.1 hS.2.1 hS.2.2.1 1602 dL_law_1602 rfl (by omega) (by omega) ?_
  refine z_aload_n C 1603 3 4 dL_law_1603 rfl rfl ?_
  refine z_cW C 1604 dL_law_1604 ww_touch hW rfl rfl (Nat.le_of_ble_eq_true rfl) hr ⟨by show _ ≤ 601024; omega, by show _ ≤ 7293034; omega⟩ ?_
  intro r S1 L1 R1 p1
  obtain ⟨rfl, P2, hM, hN2⟩ := hN r S1 L1 R1 p1
  refine z_istore C 1607 5 [(5, _), (4, _), (0, _), (1, _), (2, _), (3, _)] dL_law_1607 (by decide) rfl ?_
  refine z_aload_n C 1609 2 4 dL_law_1609 rfl rfl ?_
  refine z_aload_n C 1610 0 2 dL_law_1610 rfl rfl ?_
  refine z_iload C 1611 4 1 dL_law_1611 rfl ?_
  refine z_iconst (v := nI 1) C 1613 dL_law_1613 (by decide) ?_
  refine z_iaddN C 1614 dL_law_1614 ?_
  refine z_sld C hS.1 hS.2.1 hS.2.2.1 1615 dL_law_1615 rfl (by omega) (by omega) ?_
  refine z_cVi0 C 1616 dL_law_1616 cv_L_208 hM rfl ⟨by decide, rfl⟩ Nat.zero_lt_one rfl rfl (Nat.le_of_ble_eq_true rfl) ⟨by decide, by decide⟩ ⟨rfl, rfl⟩ ⟨by show _ ≤ 601024; omega, by show _ ≤ 7293034; omega⟩ ?_
  intro b S2 L2 R2 p2
  obtain ⟨hR2, e0, e60, S3, hext, e3, hIV⟩ := hN2 b S2 L2 R2 p2
  refine z_ext S3 hext ?_
  refine z_istore C 1619 6 [(6, _), (5, _), (4, _), (0, _), (1, _), (2, _), (3, _)] dL_law_1619 (by decide) rfl ?_
  refine z_aload_n C 1621 2 5 dL_law_1621 rfl rfl ?_
  refine z_cVi0 C 1622 dL_law_1622 cv_L_129 (c_X9_thrown hR2) rfl ⟨by decide, rfl⟩ Nat.zero_lt_one rfl rfl (Nat.le_of_ble_eq_true rfl) ⟨by decide, by decide⟩ ⟨rfl, rfl⟩ ⟨by show _ ≤ 601024; omega, by show _ ≤ 7293034; omega⟩ ?_
  intro r9 S9 L9 R9 p9
  obtain ⟨rfl, rfl, rfl, rfl⟩ := p9
  rw [e3]
  refine z_iload C 1625 5 1 dL_law_1625 rfl ?_
  refine z_icmp_eq C 1627 1632 dL_law_1627 (by decide) (fun _ => ?_) (fun h => absurd rfl h)
  refine z_iload C 1632 5 1 dL_law_1632 rfl ?_
  have fin : Z X 7 ad mdm S3 L2 R2 (356 + t + rmW.cells) (14747 + 6 * t + rmW.slots) 1649 [(6, .int b), (5, .int (nI k)), (4, .int (nI (6 * t))), (0, .ref bs), (1, .ref (ad 0 0)), (2, .ref (ad 40 0)), (3, .ref (ad 60 0))] [] := by
    refine z_goto C 1649 2211 dL_law_1649 (by decide) ?_
    refine z_sub [(4, _), (0, _), (1, _), (2, _), (3, _)] [2, 3, 4, 5, 6] rfl ?_
    exact z_wid (by omega) (by omega) (kk _ _ _ hIV)
  refine z_if_neN C 1634 1649 dL_law_1634 (by decide) (by omega) (fun _ => fin) (fun hk0 => ?_)
  refine z_aload_n C 1637 3 6 dL_law_1637 rfl rfl ?_
  refine z_iconst (v := nI 0) C 1638 dL_law_1638 (by decide) ?_
  refine z_lald C 1639 dL_law_1639 rfl Nat.zero_lt_one rfl (by decide) (by decide) ?_
  rw [e60 hk0]
  refine z_iload C 1640 6 0 dL_law_1640 rfl ?_
  refine z_i2l C 1642 dL_law_1642 (v := i2 b) rfl ?_
  refine z_lcmp C 1643 dL_law_1643 ?_
  refine z_if_eq C 1644 1649 dL_law_1644 (by decide) (fun _ => fin) (fun h => absurd (lg_cmp_rf _) h)
set_option maxHeartbeats 4000000 in
set_option maxRecDepth 100000 in
theorem lc_26 {X : mX} {bs L0 t : Nat} {xs : Nat → Int32} {ad : mA} {S : mS} {L : mL} {R : mR} (C : mK X RL cL_law 7 room_1) (hS : LH X bs L0 xs) (ht : 6 * t + 6 ≤ L0) (hlf : X.2.1.stackTraces = false) (hI : IVt S L R t) (kk : ∀ (S' : mS) (L' : mL) (R' : mR), IVt S' L' R' (t + 1) → Z X 7 ad mdm S' L' R' (356 + (t + 1)) (14747 + 6 * (t + 1)) 2211 [(4, .int (nI (6 * t))), (0, .ref bs), (1, .ref (ad 0 0)), (2, .ref (ad 40 0)), (3, .ref (ad 60 0))] []) : Z X 7 ad mdm S L R (356 + t) (14747 + 6 * t) 1652 [(4, .int (nI (6 * t))), (0, .ref bs), (1, .ref (ad 0 0)), (2, .ref (ad 40 0)), (3, .ref (ad 60 0))] [] := by
  have h512 : t ≤ 512 := by have := hS.2.2.2; omega
  have hL0 := hS.2.2.2
  obtain ⟨k, rmW, P1, hr, hz, hk, hW, hN⟩ := cs_send (l := X.2.1) (G := X.2.2.2.2.2.2.2.2.2.2.2.1) (ad := ad) hlf h512 hI (xs (6 * t + 1)) (xs (6 * t + 2))
  refine z_aload_n C 1652 1 2 dL_law_1652 rfl rfl ?_
  refine z_aload_n C 1653 0 1 dL_law_1653 rfl rfl ?_
  refine z_iload C 1654 4 0 dL_law_1654 rfl ?_
  refine z_iconst (v := nI 1) C 1656 dL_law_1656 (by decide) ?_
  refine z_iaddN C 1657 dL_law_1657 ?_
  refine z_sld C hS.1 hS.2.1 hS.2.2.1 1658 dL_law_1658 rfl (by omega) (by omega) ?_
  refine z_aload_n C 1659 0 1 dL_law_1659 rfl rfl ?_
  refine z_iload C 1660 4 0 dL_law_1660 rfl ?_
  refine z_iconst (v := nI 2) C 1662 dL_law_1662 (by decide) ?_
  refine z_iaddN C 1663 dL_law_1663 ?_
  refine z_sld C hS.1 hS.2.1 hS.2.2.1 1664 dL_law_1664 rfl (by omega) (by omega) ?_
  refine z_aload_n C 1665 3 4 dL_law_1665 rfl rfl ?_
  refine z_cW C 1666 dL_law_1666 ww_send hW rfl rfl (Nat.le_of_ble_eq_true rfl) hr ⟨by show _ ≤ 601024; omega, by show _ ≤ 7293034; omega⟩ ?_
  intro r S1 L1 R1 p1
  obtain ⟨rfl, P2, hM, hN2⟩ := hN r S1 L1 R1 p1
  refine z_istore C 1669 5 [(5, _), (4, _), (0, _), (1, _), (2, _), (3, _)] dL_law_1669 (by decide) rfl ?_
  refine z_aload_n C 1671 2 4 dL_law_1671 rfl rfl ?_
  refine z_aload_n C 1672 0 2 dL_law_1672 rfl rfl ?_
  refine z_iload C 1673 4 1 dL_law_1673 rfl ?_
  refine z_iconst (v := nI 1) C 1675 dL_law_1675 (by decide) ?_
  refine z_iaddN C 1676 dL_law_1676 ?_
  refine z_sld C hS.1 hS.2.1 hS.2.2.1 1677 dL_law_1677 rfl (by omega) (by omega) ?_
  refine z_aload_n C 1678 0 2 dL_law_1678 rfl rfl ?_
  refine z_iload C 1679 4 1 dL_law_1679 rfl ?_
  refine z_iconst (v := nI 2) C 1681 dL_law_1681 (by decide) ?_
  refine z_iaddN C 1682 dL_law_1682 ?_
  refine z_sld C hS.1 hS.2.1 hS.2.2.1 1683 dL_law_1683 rfl (by omega) (by omega) ?_
  refine z_cVi0 C 1684 dL_law_1684 cv_L_211 hM rfl ⟨by decide, rfl⟩ Nat.zero_lt_one rfl rfl (Nat.le_of_ble_eq_true rfl) ⟨by decide, by decide⟩ ⟨rfl, rfl⟩ ⟨by show _ ≤ 601024; omega, by show _ ≤ 7293034; omega⟩ ?_
  intro b S2 L2 R2 p2
  obtain ⟨hR2, e0, e60, S3, hext, e3, hIV⟩ := hN2 b S2 L2 R2 p2
  refine z_ext S3 hext ?_
  refine z_istore C 1687 6 [(6, _), (5, _), (4, _), (0, _), (1, _), (2, _), (3, _)] dL_law_1687 (by decide) rfl ?_
  refine z_aload_n C 1689 2 5 dL_law_1689 rfl rfl ?_
  refine z_cVi0 C 1690 dL_law_1690 cv_L_129 (c_X9_thrown hR2) rfl ⟨by decide, rfl⟩ Nat.zero_lt_one rfl rfl (Nat.le_of_ble_eq_true rfl) ⟨by decide, by decide⟩ ⟨rfl, rfl⟩ ⟨by show _ ≤ 601024; omega, by show _ ≤ 7293034; omega⟩ ?_
  intro r9 S9 L9 R9 p9
  obtain ⟨rfl, rfl, rfl, rfl⟩ := p9
  rw [e3]
  refine z_iload C 1693 5 1 dL_law_1693 rfl ?_
  refine z_icmp_eq C 1695 1700 dL_law_1695 (by decide) (fun _ => ?_) (fun h => absurd rfl h)
  refine z_iload C 1700 5 1 dL_law_1700 rfl ?_
  have fin : Z X 7 ad mdm S3 L2 R2 (356 + t + rmW.cells) (14747 + 6 * t + rmW.slots) 1717 [(6, .int b), (5, .int (nI k)), (4, .int (nI (6 * t))), (0, .ref bs), (1, .ref (ad 0 0)), (2, .ref (ad 40 0)), (3, .ref (ad 60 0))] [] := by
    refine z_goto C 1717 2211 dL_law_1717 (by decide) ?_
    refine z_sub [(4, _), (0, _), (1, _), (2, _), (3, _)] [2, 3, 4, 5, 6] rfl ?_
    exact z_wid (by omega) (by omega) (kk _ _ _ hIV)
  refine z_if_neN C 1702 1717 dL_law_1702 (by decide) (by omega) (fun _ => fin) (fun hk0 => ?_)
  refine z_aload_n C 1705 3 6 dL_law_1705 rfl rfl ?_
  refine z_iconst (v := nI 0) C 1706 dL_law_1706 (by decide) ?_
  refine z_lald C 1707 dL_law_1707 rfl Nat.zero_lt_one rfl (by decide) (by decide) ?_
  rw [e60 hk0]
  refine z_iload C 1708 6 0 dL_law_1708 rfl ?_
  refine z_i2l C 1710 dL_law_1710 (v := i2 b) rfl ?_
  refine z_lcmp C 1711 dL_law_1711 ?_
  refine z_if_eq C 1712 1717 dL_law_1712 (by decide) (fun _ => fin) (fun h => absurd (lg_cmp_rf _) h)
set_option maxHeartbeats 4000000 in
set_option maxRecDepth 100000 in
theorem lc_27 {X : mX} {bs L0 t : Nat} {xs : Nat → Int32} {ad : mA} {S : mS} {L : mL} {R : mR} (C : mK X RL cL_law 7 room_1) (hS : LH X bs L0 xs) (ht : 6 * t + 6 ≤ L0) (hlf : X.2.1.stackTraces = false) (hI : IVt S L R t) (kk : ∀ (S' : mS) (L' : mL) (R' : mR), IVt S' L' R' (t + 1) → Z X 7 ad mdm S' L' R' (356 + (t + 1)) (14747 + 6 * (t + 1)) 2211 [(4, .int (nI (6 * t))), (0, .ref bs), (1, .ref (ad 0 0)), (2, .ref (ad 40 0)), (3, .ref (ad 60 0))] []) : Z X 7 ad mdm S L R (356 + t) (14747 + 6 * t) 1720 [(4, .int (nI (6 * t))), (0, .ref bs), (1, .ref (ad 0 0)), (2, .ref (ad 40 0)), (3, .ref (ad 60 0))] [] := by
  have h512 : t ≤ 512 := by have := hS.2.2.2; omega
  have hL0 := hS.2.2.2
  obtain ⟨k, rmW, P1, hr, hz, hk, hW, hN⟩ := cs_read (l := X.2.1) (G := X.2.2.2.2.2.2.2.2.2.2.2.1) (ad := ad) hlf h512 hI 
  refine z_aload_n C 1720 1 2 dL_law_1720 rfl rfl ?_
  refine z_aload_n C 1721 3 4 dL_law_1721 rfl rfl ?_
  refine z_cW C 1722 dL_law_1722 ww_read hW rfl rfl (Nat.le_of_ble_eq_true rfl) hr ⟨by show _ ≤ 601024; omega, by show _ ≤ 7293034; omega⟩ ?_
  intro r S1 L1 R1 p1
  obtain ⟨rfl, P2, hM, hN2⟩ := hN r S1 L1 R1 p1
  refine z_istore C 1725 5 [(5, _), (4, _), (0, _), (1, _), (2, _), (3, _)] dL_law_1725 (by decide) rfl ?_
  refine z_aload_n C 1727 2 4 dL_law_1727 rfl rfl ?_
  refine z_cVi0 C 1728 dL_law_1728 cv_L_215 hM rfl ⟨by decide, rfl⟩ Nat.zero_lt_one rfl rfl (Nat.le_of_ble_eq_true rfl) ⟨by decide, by decide⟩ ⟨rfl, rfl⟩ ⟨by show _ ≤ 601024; omega, by show _ ≤ 7293034; omega⟩ ?_
  intro b S2 L2 R2 p2
  obtain ⟨hR2, e0, e60, S3, hext, e3, hIV⟩ := hN2 b S2 L2 R2 p2
  refine z_ext S3 hext ?_
  refine z_istore C 1731 6 [(6, _), (5, _), (4, _), (0, _), (1, _), (2, _), (3, _)] dL_law_1731 (by decide) rfl ?_
  refine z_aload_n C 1733 2 5 dL_law_1733 rfl rfl ?_
  refine z_cVi0 C 1734 dL_law_1734 cv_L_129 (c_X9_thrown hR2) rfl ⟨by decide, rfl⟩ Nat.zero_lt_one rfl rfl (Nat.le_of_ble_eq_true rfl) ⟨by decide, by decide⟩ ⟨rfl, rfl⟩ ⟨by show _ ≤ 601024; omega, by show _ ≤ 7293034; omega⟩ ?_
  intro r9 S9 L9 R9 p9
  obtain ⟨rfl, rfl, rfl, rfl⟩ := p9
  rw [e3]
  refine z_iload C 1737 5 1 dL_law_1737 rfl ?_
  refine z_icmp_eq C 1739 1744 dL_law_1739 (by decide) (fun _ => ?_) (fun h => absurd rfl h)
  refine z_iload C 1744 5 1 dL_law_1744 rfl ?_
  have fin : Z X 7 ad mdm S3 L2 R2 (356 + t + rmW.cells) (14747 + 6 * t + rmW.slots) 1761 [(6, .int b), (5, .int (nI k)), (4, .int (nI (6 * t))), (0, .ref bs), (1, .ref (ad 0 0)), (2, .ref (ad 40 0)), (3, .ref (ad 60 0))] [] := by
    refine z_goto C 1761 2211 dL_law_1761 (by decide) ?_
    refine z_sub [(4, _), (0, _), (1, _), (2, _), (3, _)] [2, 3, 4, 5, 6] rfl ?_
    exact z_wid (by omega) (by omega) (kk _ _ _ hIV)
  refine z_if_neN C 1746 1761 dL_law_1746 (by decide) (by omega) (fun _ => fin) (fun hk0 => ?_)
  refine z_aload_n C 1749 3 6 dL_law_1749 rfl rfl ?_
  refine z_iconst (v := nI 0) C 1750 dL_law_1750 (by decide) ?_
  refine z_lald C 1751 dL_law_1751 rfl Nat.zero_lt_one rfl (by decide) (by decide) ?_
  rw [e60 hk0]
  refine z_iload C 1752 6 0 dL_law_1752 rfl ?_
  refine z_i2l C 1754 dL_law_1754 (v := i2 b) rfl ?_
  refine z_lcmp C 1755 dL_law_1755 ?_
  refine z_if_eq C 1756 1761 dL_law_1756 (by decide) (fun _ => fin) (fun h => absurd (lg_cmp_rf _) h)
set_option maxHeartbeats 4000000 in
set_option maxRecDepth 100000 in
theorem lc_28 {X : mX} {bs L0 t : Nat} {xs : Nat → Int32} {ad : mA} {S : mS} {L : mL} {R : mR} (C : mK X RL cL_law 7 room_1) (hS : LH X bs L0 xs) (ht : 6 * t + 6 ≤ L0) (hlf : X.2.1.stackTraces = false) (hI : IVt S L R t) (kk : ∀ (S' : mS) (L' : mL) (R' : mR), IVt S' L' R' (t + 1) → Z X 7 ad mdm S' L' R' (356 + (t + 1)) (14747 + 6 * (t + 1)) 2211 [(4, .int (nI (6 * t))), (0, .ref bs), (1, .ref (ad 0 0)), (2, .ref (ad 40 0)), (3, .ref (ad 60 0))] []) : Z X 7 ad mdm S L R (356 + t) (14747 + 6 * t) 1764 [(4, .int (nI (6 * t))), (0, .ref bs), (1, .ref (ad 0 0)), (2, .ref (ad 40 0)), (3, .ref (ad 60 0))] [] := by
  have h512 : t ≤ 512 := by have := hS.2.2.2; omega
  have hL0 := hS.2.2.2
  by_cases h0 : xs (6 * t + 2) = 0
  · obtain ⟨k, rmW, P1, hr, hz, hk, hW, hN⟩ := cs_pin (l := X.2.1) (G := X.2.2.2.2.2.2.2.2.2.2.2.1) (ad := ad) hlf h512 hI (xs (6 * t + 1)) (b := 0) (by omega)
    refine z_aload_n C 1764 1 2 dL_law_1764 rfl rfl ?_
    refine z_aload_n C 1765 0 1 dL_law_1765 rfl rfl ?_
    refine z_iload C 1766 4 0 dL_law_1766 rfl ?_
    refine z_iconst (v := nI 1) C 1768 dL_law_1768 (by decide) ?_
    refine z_iaddN C 1769 dL_law_1769 ?_
    refine z_sld C hS.1 hS.2.1 hS.2.2.1 1770 dL_law_1770 rfl (by omega) (by omega) ?_
    refine z_aload_n C 1771 0 1 dL_law_1771 rfl rfl ?_
    refine z_iload C 1772 4 0 dL_law_1772 rfl ?_
    refine z_iconst (v := nI 2) C 1774 dL_law_1774 (by decide) ?_
    refine z_iaddN C 1775 dL_law_1775 ?_
    refine z_sld C hS.1 hS.2.1 hS.2.2.1 1776 dL_law_1776 rfl (by omega) (by omega) ?_
    refine z_if_eq C 1777 1784 dL_law_1777 (by decide) (fun h => ?_) (fun h => absurd h0 h)
    refine z_iconst (v := nI 0) C 1784 dL_law_1784 (by decide) ?_
    refine z_aload_n C 1785 3 4 dL_law_1785 rfl rfl ?_
    refine z_cW C 1786 dL_law_1786 ww_pin hW rfl rfl (Nat.le_of_ble_eq_true rfl) hr ⟨by show _ ≤ 601024; omega, by show _ ≤ 7293034; omega⟩ ?_
    intro r S1 L1 R1 p1
    obtain ⟨rfl, P2, hM, hN2⟩ := hN r S1 L1 R1 p1
    refine z_istore C 1789 5 [(5, _), (4, _), (0, _), (1, _), (2, _), (3, _)] dL_law_1789 (by decide) rfl ?_
    refine z_aload_n C 1791 2 4 dL_law_1791 rfl rfl ?_
    refine z_aload_n C 1792 0 2 dL_law_1792 rfl rfl ?_
    refine z_iload C 1793 4 1 dL_law_1793 rfl ?_
    refine z_iconst (v := nI 1) C 1795 dL_law_1795 (by decide) ?_
    refine z_iaddN C 1796 dL_law_1796 ?_
    refine z_sld C hS.1 hS.2.1 hS.2.2.1 1797 dL_law_1797 rfl (by omega) (by omega) ?_
    refine z_aload_n C 1798 0 2 dL_law_1798 rfl rfl ?_
    refine z_iload C 1799 4 1 dL_law_1799 rfl ?_
    refine z_iconst (v := nI 2) C 1801 dL_law_1801 (by decide) ?_
    refine z_iaddN C 1802 dL_law_1802 ?_
    refine z_sld C hS.1 hS.2.1 hS.2.2.1 1803 dL_law_1803 rfl (by omega) (by omega) ?_
    refine z_if_eq C 1804 1811 dL_law_1804 (by decide) (fun h => ?_) (fun h => absurd h0 h)
    refine z_iconst (v := nI 0) C 1811 dL_law_1811 (by decide) ?_
    refine z_cVi0 C 1812 dL_law_1812 cv_L_219 hM rfl ⟨by decide, rfl⟩ Nat.zero_lt_one rfl rfl (Nat.le_of_ble_eq_true rfl) ⟨by decide, by decide⟩ ⟨rfl, rfl⟩ ⟨by show _ ≤ 601024; omega, by show _ ≤ 7293034; omega⟩ ?_
    intro b S2 L2 R2 p2
    obtain ⟨hR2, e0, e60, S3, hext, e3, hIV⟩ := hN2 b S2 L2 R2 p2
    refine z_ext S3 hext ?_
    refine z_istore C 1815 6 [(6, _), (5, _), (4, _), (0, _), (1, _), (2, _), (3, _)] dL_law_1815 (by decide) rfl ?_
    refine z_aload_n C 1817 2 5 dL_law_1817 rfl rfl ?_
    refine z_cVi0 C 1818 dL_law_1818 cv_L_129 (c_X9_thrown hR2) rfl ⟨by decide, rfl⟩ Nat.zero_lt_one rfl rfl (Nat.le_of_ble_eq_true rfl) ⟨by decide, by decide⟩ ⟨rfl, rfl⟩ ⟨by show _ ≤ 601024; omega, by show _ ≤ 7293034; omega⟩ ?_
    intro r9 S9 L9 R9 p9
    obtain ⟨rfl, rfl, rfl, rfl⟩ := p9
    rw [e3]
    refine z_iload C 1821 5 1 dL_law_1821 rfl ?_
    refine z_icmp_eq C 1823 1828 dL_law_1823 (by decide) (fun _ => ?_) (fun h => absurd rfl h)
    refine z_iload C 1828 5 1 dL_law_1828 rfl ?_
    have fin : Z X 7 ad mdm S3 L2 R2 (356 + t + rmW.cells) (14747 + 6 * t + rmW.slots) 1852 [(6, .int b), (5, .int (nI k)), (4, .int (nI (6 * t))), (0, .ref bs), (1, .ref (ad 0 0)), (2, .ref (ad 40 0)), (3, .ref (ad 60 0))] [] := by
      refine z_goto C 1852 2211 dL_law_1852 (by decide) ?_
      refine z_sub [(4, _), (0, _), (1, _), (2, _), (3, _)] [2, 3, 4, 5, 6] rfl ?_
      exact z_wid (by omega) (by omega) (kk _ _ _ hIV)
    refine z_if_neN C 1830 1852 dL_law_1830 (by decide) (by omega) (fun _ => fin) (fun hk0 => ?_)
    refine z_aload_n C 1833 3 6 dL_law_1833 rfl rfl ?_
    refine z_iconst (v := nI 0) C 1834 dL_law_1834 (by decide) ?_
    refine z_lald C 1835 dL_law_1835 rfl Nat.zero_lt_one rfl (by decide) (by decide) ?_
    rw [e60 hk0]
    refine z_iload C 1836 6 0 dL_law_1836 rfl ?_
    refine z_if_eq C 1838 1845 dL_law_1838 (by decide) (fun h => ?_) (fun h => ?_)
    · rw [show b2 b = 0 from if_pos h]
      refine z_lconst (v := 0) C 1845 dL_law_1845 (by decide) ?_
      refine z_lcmp C 1846 dL_law_1846 ?_
      refine z_if_eq C 1847 1852 dL_law_1847 (by decide) (fun _ => fin) (fun h => absurd (lg_cmp_rf _) h)
    · rw [show b2 b = 1 from if_neg h]
      refine z_lconst (v := 1) C 1841 dL_law_1841 (by decide) ?_
      refine z_goto C 1842 1846 dL_law_1842 (by decide) ?_
      refine z_lcmp C 1846 dL_law_1846 ?_
      refine z_if_eq C 1847 1852 dL_law_1847 (by decide) (fun _ => fin) (fun h => absurd (lg_cmp_rf _) h)
  · obtain ⟨k, rmW, P1, hr, hz, hk, hW, hN⟩ := cs_pin (l := X.2.1) (G := X.2.2.2.2.2.2.2.2.2.2.2.1) (ad := ad) hlf h512 hI (xs (6 * t + 1)) (b := 1) (by omega)
    refine z_aload_n C 1764 1 2 dL_law_1764 rfl rfl ?_
    refine z_aload_n C 1765 0 1 dL_law_1765 rfl rfl ?_
    refine z_iload C 1766 4 0 dL_law_1766 rfl ?_
    refine z_iconst (v := nI 1) C 1768 dL_law_1768 (by decide) ?_
    refine z_iaddN C 1769 dL_law_1769 ?_
    refine z_sld C hS.1 hS.2.1 hS.2.2.1 1770 dL_law_1770 rfl (by omega) (by omega) ?_
    refine z_aload_n C 1771 0 1 dL_law_1771 rfl rfl ?_
    refine z_iload C 1772 4 0 dL_law_1772 rfl ?_
    refine z_iconst (v := nI 2) C 1774 dL_law_1774 (by decide) ?_
    refine z_iaddN C 1775 dL_law_1775 ?_
    refine z_sld C hS.1 hS.2.1 hS.2.2.1 1776 dL_law_1776 rfl (by omega) (by omega) ?_
    refine z_if_eq C 1777 1784 dL_law_1777 (by decide) (fun h => absurd h h0) (fun h => ?_)
    refine z_iconst (v := nI 1) C 1780 dL_law_1780 (by decide) ?_
    refine z_goto C 1781 1785 dL_law_1781 (by decide) ?_
    refine z_aload_n C 1785 3 4 dL_law_1785 rfl rfl ?_
    refine z_cW C 1786 dL_law_1786 ww_pin hW rfl rfl (Nat.le_of_ble_eq_true rfl) hr ⟨by show _ ≤ 601024; omega, by show _ ≤ 7293034; omega⟩ ?_
    intro r S1 L1 R1 p1
    obtain ⟨rfl, P2, hM, hN2⟩ := hN r S1 L1 R1 p1
    refine z_istore C 1789 5 [(5, _), (4, _), (0, _), (1, _), (2, _), (3, _)] dL_law_1789 (by decide) rfl ?_
    refine z_aload_n C 1791 2 4 dL_law_1791 rfl rfl ?_
    refine z_aload_n C 1792 0 2 dL_law_1792 rfl rfl ?_
    refine z_iload C 1793 4 1 dL_law_1793 rfl ?_
    refine z_iconst (v := nI 1) C 1795 dL_law_1795 (by decide) ?_
    refine z_iaddN C 1796 dL_law_1796 ?_
    refine z_sld C hS.1 hS.2.1 hS.2.2.1 1797 dL_law_1797 rfl (by omega) (by omega) ?_
    refine z_aload_n C 1798 0 2 dL_law_1798 rfl rfl ?_
    refine z_iload C 1799 4 1 dL_law_1799 rfl ?_
    refine z_iconst (v := nI 2) C 1801 dL_law_1801 (by decide) ?_
    refine z_iaddN C 1802 dL_law_1802 ?_
    refine z_sld C hS.1 hS.2.1 hS.2.2.1 1803 dL_law_1803 rfl (by omega) (by omega) ?_
    refine z_if_eq C 1804 1811 dL_law_1804 (by decide) (fun h => absurd h h0) (fun h => ?_)
    refine z_iconst (v := nI 1) C 1807 dL_law_1807 (by decide) ?_
    refine z_goto C 1808 1812 dL_law_1808 (by decide) ?_
    refine z_cVi0 C 1812 dL_law_1812 cv_L_219 hM rfl ⟨by decide, rfl⟩ Nat.zero_lt_one rfl rfl (Nat.le_of_ble_eq_true rfl) ⟨by decide, by decide⟩ ⟨rfl, rfl⟩ ⟨by show _ ≤ 601024; omega, by show _ ≤ 7293034; omega⟩ ?_
    intro b S2 L2 R2 p2
    obtain ⟨hR2, e0, e60, S3, hext, e3, hIV⟩ := hN2 b S2 L2 R2 p2
    refine z_ext S3 hext ?_
    refine z_istore C 1815 6 [(6, _), (5, _), (4, _), (0, _), (1, _), (2, _), (3, _)] dL_law_1815 (by decide) rfl ?_
    refine z_aload_n C 1817 2 5 dL_law_1817 rfl rfl ?_
    refine z_cVi0 C 1818 dL_law_1818 cv_L_129 (c_X9_thrown hR2) rfl ⟨by decide, rfl⟩ Nat.zero_lt_one rfl rfl (Nat.le_of_ble_eq_true rfl) ⟨by decide, by decide⟩ ⟨rfl, rfl⟩ ⟨by show _ ≤ 601024; omega, by show _ ≤ 7293034; omega⟩ ?_
    intro r9 S9 L9 R9 p9
    obtain ⟨rfl, rfl, rfl, rfl⟩ := p9
    rw [e3]
    refine z_iload C 1821 5 1 dL_law_1821 rfl ?_
    refine z_icmp_eq C 1823 1828 dL_law_1823 (by decide) (fun _ => ?_) (fun h => absurd rfl h)
    refine z_iload C 1828 5 1 dL_law_1828 rfl ?_
    have fin : Z X 7 ad mdm S3 L2 R2 (356 + t + rmW.cells) (14747 + 6 * t + rmW.slots) 1852 [(6, .int b), (5, .int (nI k)), (4, .int (nI (6 * t))), (0, .ref bs), (1, .ref (ad 0 0)), (2, .ref (ad 40 0)), (3, .ref (ad 60 0))] [] := by
      refine z_goto C 1852 2211 dL_law_1852 (by decide) ?_
      refine z_sub [(4, _), (0, _), (1, _), (2, _), (3, _)] [2, 3, 4, 5, 6] rfl ?_
      exact z_wid (by omega) (by omega) (kk _ _ _ hIV)
    refine z_if_neN C 1830 1852 dL_law_1830 (by decide) (by omega) (fun _ => fin) (fun hk0 => ?_)
    refine z_aload_n C 1833 3 6 dL_law_1833 rfl rfl ?_
    refine z_iconst (v := nI 0) C 1834 dL_law_1834 (by decide) ?_
    refine z_lald C 1835 dL_law_1835 rfl Nat.zero_lt_one rfl (by decide) (by decide) ?_
    rw [e60 hk0]
    refine z_iload C 1836 6 0 dL_law_1836 rfl ?_
    refine z_if_eq C 1838 1845 dL_law_1838 (by decide) (fun h => ?_) (fun h => ?_)
    · rw [show b2 b = 0 from if_pos h]
      refine z_lconst (v := 0) C 1845 dL_law_1845 (by decide) ?_
      refine z_lcmp C 1846 dL_law_1846 ?_
      refine z_if_eq C 1847 1852 dL_law_1847 (by decide) (fun _ => fin) (fun h => absurd (lg_cmp_rf _) h)
    · rw [show b2 b = 1 from if_neg h]
      refine z_lconst (v := 1) C 1841 dL_law_1841 (by decide) ?_
      refine z_goto C 1842 1846 dL_law_1842 (by decide) ?_
      refine z_lcmp C 1846 dL_law_1846 ?_
      refine z_if_eq C 1847 1852 dL_law_1847 (by decide) (fun _ => fin) (fun h => absurd (lg_cmp_rf _) h)
set_option maxHeartbeats 4000000 in
set_option maxRecDepth 100000 in
theorem lc_29 {X : mX} {bs L0 t : Nat} {xs : Nat → Int32} {ad : mA} {S : mS} {L : mL} {R : mR} (C : mK X RL cL_law 7 room_1) (hS : LH X bs L0 xs) (ht : 6 * t + 6 ≤ L0) (hlf : X.2.1.stackTraces = false) (hI : IVt S L R t) (kk : ∀ (S' : mS) (L' : mL) (R' : mR), IVt S' L' R' (t + 1) → Z X 7 ad mdm S' L' R' (356 + (t + 1)) (14747 + 6 * (t + 1)) 2211 [(4, .int (nI (6 * t))), (0, .ref bs), (1, .ref (ad 0 0)), (2, .ref (ad 40 0)), (3, .ref (ad 60 0))] []) : Z X 7 ad mdm S L R (356 + t) (14747 + 6 * t) 1855 [(4, .int (nI (6 * t))), (0, .ref bs), (1, .ref (ad 0 0)), (2, .ref (ad 40 0)), (3, .ref (ad 60 0))] [] := by
  have h512 : t ≤ 512 := by have := hS.2.2.2; omega
  have hL0 := hS.2.2.2
  obtain ⟨k, rmW, P1, hr, hz, hk, hW, hN⟩ := cs_trim (l := X.2.1) (G := X.2.2.2.2.2.2.2.2.2.2.2.1) (ad := ad) hlf h512 hI (xs (6 * t + 1))
  refine z_aload_n C 1855 1 2 dL_law_1855 rfl rfl ?_
  refine z_aload_n C 1856 0 1 dL_law_1856 rfl rfl ?_
  refine z_iload C 1857 4 0 dL_law_1857 rfl ?_
  refine z_iconst (v := nI 1) C 1859 dL_law_1859 (by decide) ?_
  refine z_iaddN C 1860 dL_law_1860 ?_
  refine z_sld C hS.1 hS.2.1 hS.2.2.1 1861 dL_law_1861 rfl (by omega) (by omega) ?_
  refine z_aload_n C 1862 3 4 dL_law_1862 rfl rfl ?_
  refine z_cW C 1863 dL_law_1863 ww_trim hW rfl rfl (Nat.le_of_ble_eq_true rfl) hr ⟨by show _ ≤ 601024; omega, by show _ ≤ 7293034; omega⟩ ?_
  intro r S1 L1 R1 p1
  obtain ⟨rfl, P2, hM, hN2⟩ := hN r S1 L1 R1 p1
  refine z_istore C 1866 5 [(5, _), (4, _), (0, _), (1, _), (2, _), (3, _)] dL_law_1866 (by decide) rfl ?_
  refine z_aload_n C 1868 2 4 dL_law_1868 rfl rfl ?_
  refine z_aload_n C 1869 0 2 dL_law_1869 rfl rfl ?_
  refine z_iload C 1870 4 1 dL_law_1870 rfl ?_
  refine z_iconst (v := nI 1) C 1872 dL_law_1872 (by decide) ?_
  refine z_iaddN C 1873 dL_law_1873 ?_
  refine z_sld C hS.1 hS.2.1 hS.2.2.1 1874 dL_law_1874 rfl (by omega) (by omega) ?_
  refine z_cVi0 C 1875 dL_law_1875 cv_L_222 hM rfl ⟨by decide, rfl⟩ Nat.zero_lt_one rfl rfl (Nat.le_of_ble_eq_true rfl) ⟨by decide, by decide⟩ ⟨rfl, rfl⟩ ⟨by show _ ≤ 601024; omega, by show _ ≤ 7293034; omega⟩ ?_
  intro b S2 L2 R2 p2
  obtain ⟨hR2, e0, e60, S3, hext, e3, hIV⟩ := hN2 b S2 L2 R2 p2
  refine z_ext S3 hext ?_
  refine z_istore C 1878 6 [(6, _), (5, _), (4, _), (0, _), (1, _), (2, _), (3, _)] dL_law_1878 (by decide) rfl ?_
  refine z_aload_n C 1880 2 5 dL_law_1880 rfl rfl ?_
  refine z_cVi0 C 1881 dL_law_1881 cv_L_129 (c_X9_thrown hR2) rfl ⟨by decide, rfl⟩ Nat.zero_lt_one rfl rfl (Nat.le_of_ble_eq_true rfl) ⟨by decide, by decide⟩ ⟨rfl, rfl⟩ ⟨by show _ ≤ 601024; omega, by show _ ≤ 7293034; omega⟩ ?_
  intro r9 S9 L9 R9 p9
  obtain ⟨rfl, rfl, rfl, rfl⟩ := p9
  rw [e3]
  refine z_iload C 1884 5 1 dL_law_1884 rfl ?_
  refine z_icmp_eq C 1886 1891 dL_law_1886 (by decide) (fun _ => ?_) (fun h => absurd rfl h)
  refine z_iload C 1891 5 1 dL_law_1891 rfl ?_
  have fin : Z X 7 ad mdm S3 L2 R2 (356 + t + rmW.cells) (14747 + 6 * t + rmW.slots) 1908 [(6, .int b), (5, .int (nI k)), (4, .int (nI (6 * t))), (0, .ref bs), (1, .ref (ad 0 0)), (2, .ref (ad 40 0)), (3, .ref (ad 60 0))] [] := by
    refine z_goto C 1908 2211 dL_law_1908 (by decide) ?_
    refine z_sub [(4, _), (0, _), (1, _), (2, _), (3, _)] [2, 3, 4, 5, 6] rfl ?_
    exact z_wid (by omega) (by omega) (kk _ _ _ hIV)
  refine z_if_neN C 1893 1908 dL_law_1893 (by decide) (by omega) (fun _ => fin) (fun hk0 => ?_)
  refine z_aload_n C 1896 3 6 dL_law_1896 rfl rfl ?_
  refine z_iconst (v := nI 0) C 1897 dL_law_1897 (by decide) ?_
  refine z_lald C 1898 dL_law_1898 rfl Nat.zero_lt_one rfl (by decide) (by decide) ?_
  rw [e60 hk0]
  refine z_iload C 1899 6 0 dL_law_1899 rfl ?_
  refine z_i2l C 1901 dL_law_1901 (v := i2 b) rfl ?_
  refine z_lcmp C 1902 dL_law_1902 ?_
  refine z_if_eq C 1903 1908 dL_law_1903 (by decide) (fun _ => fin) (fun h => absurd (lg_cmp_rf _) h)
set_option maxHeartbeats 4000000 in
set_option maxRecDepth 100000 in
theorem lc_30 {X : mX} {bs L0 t : Nat} {xs : Nat → Int32} {ad : mA} {S : mS} {L : mL} {R : mR} (C : mK X RL cL_law 7 room_1) (hS : LH X bs L0 xs) (ht : 6 * t + 6 ≤ L0) (hlf : X.2.1.stackTraces = false) (hI : IVt S L R t) (kk : ∀ (S' : mS) (L' : mL) (R' : mR), IVt S' L' R' (t + 1) → Z X 7 ad mdm S' L' R' (356 + (t + 1)) (14747 + 6 * (t + 1)) 2211 [(4, .int (nI (6 * t))), (0, .ref bs), (1, .ref (ad 0 0)), (2, .ref (ad 40 0)), (3, .ref (ad 60 0))] []) : Z X 7 ad mdm S L R (356 + t) (14747 + 6 * t) 1911 [(4, .int (nI (6 * t))), (0, .ref bs), (1, .ref (ad 0 0)), (2, .ref (ad 40 0)), (3, .ref (ad 60 0))] [] := by
  have h512 : t ≤ 512 := by have := hS.2.2.2; omega
  have hL0 := hS.2.2.2
  obtain ⟨k, rmW, P1, hr, hz, hk, hW, hN⟩ := cs_close (l := X.2.1) (G := X.2.2.2.2.2.2.2.2.2.2.2.1) (ad := ad) hlf h512 hI (xs (6 * t + 1))
  refine z_aload_n C 1911 1 2 dL_law_1911 rfl rfl ?_
  refine z_aload_n C 1912 0 1 dL_law_1912 rfl rfl ?_
  refine z_iload C 1913 4 0 dL_law_1913 rfl ?_
  refine z_iconst (v := nI 1) C 1915 dL_law_1915 (by decide) ?_
  refine z_iaddN C 1916 dL_law_1916 ?_
  refine z_sld C hS.1 hS.2.1 hS.2.2.1 1917 dL_law_1917 rfl (by omega) (by omega) ?_
  refine z_aload_n C 1918 3 4 dL_law_1918 rfl rfl ?_
  refine z_cW C 1919 dL_law_1919 ww_close hW rfl rfl (Nat.le_of_ble_eq_true rfl) hr ⟨by show _ ≤ 601024; omega, by show _ ≤ 7293034; omega⟩ ?_
  intro r S1 L1 R1 p1
  obtain ⟨rfl, P2, hM, hN2⟩ := hN r S1 L1 R1 p1
  refine z_istore C 1922 5 [(5, _), (4, _), (0, _), (1, _), (2, _), (3, _)] dL_law_1922 (by decide) rfl ?_
  refine z_aload_n C 1924 2 4 dL_law_1924 rfl rfl ?_
  refine z_aload_n C 1925 0 2 dL_law_1925 rfl rfl ?_
  refine z_iload C 1926 4 1 dL_law_1926 rfl ?_
  refine z_iconst (v := nI 1) C 1928 dL_law_1928 (by decide) ?_
  refine z_iaddN C 1929 dL_law_1929 ?_
  refine z_sld C hS.1 hS.2.1 hS.2.2.1 1930 dL_law_1930 rfl (by omega) (by omega) ?_
  refine z_cVi0 C 1931 dL_law_1931 cv_L_225 hM rfl ⟨by decide, rfl⟩ Nat.zero_lt_one rfl rfl (Nat.le_of_ble_eq_true rfl) ⟨by decide, by decide⟩ ⟨rfl, rfl⟩ ⟨by show _ ≤ 601024; omega, by show _ ≤ 7293034; omega⟩ ?_
  intro b S2 L2 R2 p2
  obtain ⟨hR2, e0, e60, S3, hext, e3, hIV⟩ := hN2 b S2 L2 R2 p2
  refine z_ext S3 hext ?_
  refine z_istore C 1934 6 [(6, _), (5, _), (4, _), (0, _), (1, _), (2, _), (3, _)] dL_law_1934 (by decide) rfl ?_
  refine z_aload_n C 1936 2 5 dL_law_1936 rfl rfl ?_
  refine z_cVi0 C 1937 dL_law_1937 cv_L_129 (c_X9_thrown hR2) rfl ⟨by decide, rfl⟩ Nat.zero_lt_one rfl rfl (Nat.le_of_ble_eq_true rfl) ⟨by decide, by decide⟩ ⟨rfl, rfl⟩ ⟨by show _ ≤ 601024; omega, by show _ ≤ 7293034; omega⟩ ?_
  intro r9 S9 L9 R9 p9
  obtain ⟨rfl, rfl, rfl, rfl⟩ := p9
  rw [e3]
  refine z_iload C 1940 5 1 dL_law_1940 rfl ?_
  refine z_icmp_eq C 1942 1947 dL_law_1942 (by decide) (fun _ => ?_) (fun h => absurd rfl h)
  refine z_iload C 1947 5 1 dL_law_1947 rfl ?_
  have fin : Z X 7 ad mdm S3 L2 R2 (356 + t + rmW.cells) (14747 + 6 * t + rmW.slots) 1964 [(6, .int b), (5, .int (nI k)), (4, .int (nI (6 * t))), (0, .ref bs), (1, .ref (ad 0 0)), (2, .ref (ad 40 0)), (3, .ref (ad 60 0))] [] := by
    refine z_goto C 1964 2211 dL_law_1964 (by decide) ?_
    refine z_sub [(4, _), (0, _), (1, _), (2, _), (3, _)] [2, 3, 4, 5, 6] rfl ?_
    exact z_wid (by omega) (by omega) (kk _ _ _ hIV)
  refine z_if_neN C 1949 1964 dL_law_1949 (by decide) (by omega) (fun _ => fin) (fun hk0 => ?_)
  refine z_aload_n C 1952 3 6 dL_law_1952 rfl rfl ?_
  refine z_iconst (v := nI 0) C 1953 dL_law_1953 (by decide) ?_
  refine z_lald C 1954 dL_law_1954 rfl Nat.zero_lt_one rfl (by decide) (by decide) ?_
  rw [e60 hk0]
  refine z_iload C 1955 6 0 dL_law_1955 rfl ?_
  refine z_i2l C 1957 dL_law_1957 (v := i2 b) rfl ?_
  refine z_lcmp C 1958 dL_law_1958 ?_
  refine z_if_eq C 1959 1964 dL_law_1959 (by decide) (fun _ => fin) (fun h => absurd (lg_cmp_rf _) h)
set_option maxHeartbeats 4000000 in
set_option maxRecDepth 100000 in
theorem lc_31 {X : mX} {bs L0 t : Nat} {xs : Nat → Int32} {ad : mA} {S : mS} {L : mL} {R : mR} (C : mK X RL cL_law 7 room_1) (hS : LH X bs L0 xs) (ht : 6 * t + 6 ≤ L0) (hlf : X.2.1.stackTraces = false) (hI : IVt S L R t) (kk : ∀ (S' : mS) (L' : mL) (R' : mR), IVt S' L' R' (t + 1) → Z X 7 ad mdm S' L' R' (356 + (t + 1)) (14747 + 6 * (t + 1)) 2211 [(4, .int (nI (6 * t))), (0, .ref bs), (1, .ref (ad 0 0)), (2, .ref (ad 40 0)), (3, .ref (ad 60 0))] []) : Z X 7 ad mdm S L R (356 + t) (14747 + 6 * t) 1967 [(4, .int (nI (6 * t))), (0, .ref bs), (1, .ref (ad 0 0)), (2, .ref (ad 40 0)), (3, .ref (ad 60 0))] [] := by
  have h512 : t ≤ 512 := by have := hS.2.2.2; omega
  have hL0 := hS.2.2.2
  obtain ⟨k, rmW, P1, hr, hz, hk, hW, hN⟩ := cs_setLimit (l := X.2.1) (G := X.2.2.2.2.2.2.2.2.2.2.2.1) (ad := ad) hlf h512 hI (xs (6 * t + 1))
  refine z_aload_n C 1967 1 2 dL_law_1967 rfl rfl ?_
  refine z_aload_n C 1968 0 1 dL_law_1968 rfl rfl ?_
  refine z_iload C 1969 4 0 dL_law_1969 rfl ?_
  refine z_iconst (v := nI 1) C 1971 dL_law_1971 (by decide) ?_
  refine z_iaddN C 1972 dL_law_1972 ?_
  refine z_sld C hS.1 hS.2.1 hS.2.2.1 1973 dL_law_1973 rfl (by omega) (by omega) ?_
  refine z_aload_n C 1974 3 4 dL_law_1974 rfl rfl ?_
  refine z_cW C 1975 dL_law_1975 ww_setLimit hW rfl rfl (Nat.le_of_ble_eq_true rfl) hr ⟨by show _ ≤ 601024; omega, by show _ ≤ 7293034; omega⟩ ?_
  intro r S1 L1 R1 p1
  obtain ⟨rfl, P2, hM, hN2⟩ := hN r S1 L1 R1 p1
  refine z_istore C 1978 5 [(5, _), (4, _), (0, _), (1, _), (2, _), (3, _)] dL_law_1978 (by decide) rfl ?_
  refine z_aload_n C 1980 2 4 dL_law_1980 rfl rfl ?_
  refine z_aload_n C 1981 0 2 dL_law_1981 rfl rfl ?_
  refine z_iload C 1982 4 1 dL_law_1982 rfl ?_
  refine z_iconst (v := nI 1) C 1984 dL_law_1984 (by decide) ?_
  refine z_iaddN C 1985 dL_law_1985 ?_
  refine z_sld C hS.1 hS.2.1 hS.2.2.1 1986 dL_law_1986 rfl (by omega) (by omega) ?_
  refine z_cVi0 C 1987 dL_law_1987 cv_L_228 hM rfl ⟨by decide, rfl⟩ Nat.zero_lt_one rfl rfl (Nat.le_of_ble_eq_true rfl) ⟨by decide, by decide⟩ ⟨rfl, rfl⟩ ⟨by show _ ≤ 601024; omega, by show _ ≤ 7293034; omega⟩ ?_
  intro b S2 L2 R2 p2
  obtain ⟨hR2, e0, e60, S3, hext, e3, hIV⟩ := hN2 b S2 L2 R2 p2
  refine z_ext S3 hext ?_
  refine z_istore C 1990 6 [(6, _), (5, _), (4, _), (0, _), (1, _), (2, _), (3, _)] dL_law_1990 (by decide) rfl ?_
  refine z_aload_n C 1992 2 5 dL_law_1992 rfl rfl ?_
  refine z_cVi0 C 1993 dL_law_1993 cv_L_129 (c_X9_thrown hR2) rfl ⟨by decide, rfl⟩ Nat.zero_lt_one rfl rfl (Nat.le_of_ble_eq_true rfl) ⟨by decide, by decide⟩ ⟨rfl, rfl⟩ ⟨by show _ ≤ 601024; omega, by show _ ≤ 7293034; omega⟩ ?_
  intro r9 S9 L9 R9 p9
  obtain ⟨rfl, rfl, rfl, rfl⟩ := p9
  rw [e3]
  refine z_iload C 1996 5 1 dL_law_1996 rfl ?_
  refine z_icmp_eq C 1998 2003 dL_law_1998 (by decide) (fun _ => ?_) (fun h => absurd rfl h)
  refine z_iload C 2003 5 1 dL_law_2003 rfl ?_
  have fin : Z X 7 ad mdm S3 L2 R2 (356 + t + rmW.cells) (14747 + 6 * t + rmW.slots) 2020 [(6, .int b), (5, .int (nI k)), (4, .int (nI (6 * t))), (0, .ref bs), (1, .ref (ad 0 0)), (2, .ref (ad 40 0)), (3, .ref (ad 60 0))] [] := by
    refine z_goto C 2020 2211 dL_law_2020 (by decide) ?_
    refine z_sub [(4, _), (0, _), (1, _), (2, _), (3, _)] [2, 3, 4, 5, 6] rfl ?_
    exact z_wid (by omega) (by omega) (kk _ _ _ hIV)
  refine z_if_neN C 2005 2020 dL_law_2005 (by decide) (by omega) (fun _ => fin) (fun hk0 => ?_)
  refine z_aload_n C 2008 3 6 dL_law_2008 rfl rfl ?_
  refine z_iconst (v := nI 0) C 2009 dL_law_2009 (by decide) ?_
  refine z_lald C 2010 dL_law_2010 rfl Nat.zero_lt_one rfl (by decide) (by decide) ?_
  rw [e60 hk0]
  refine z_iload C 2011 6 0 dL_law_2011 rfl ?_
  refine z_i2l C 2013 dL_law_2013 (v := i2 b) rfl ?_
  refine z_lcmp C 2014 dL_law_2014 ?_
  refine z_if_eq C 2015 2020 dL_law_2015 (by decide) (fun _ => fin) (fun h => absurd (lg_cmp_rf _) h)
set_option maxHeartbeats 4000000 in
set_option maxRecDepth 100000 in
theorem lc_32 {X : mX} {bs L0 t : Nat} {xs : Nat → Int32} {ad : mA} {S : mS} {L : mL} {R : mR} (C : mK X RL cL_law 7 room_1) (hS : LH X bs L0 xs) (ht : 6 * t + 6 ≤ L0) (hlf : X.2.1.stackTraces = false) (hI : IVt S L R t) (kk : ∀ (S' : mS) (L' : mL) (R' : mR), IVt S' L' R' (t + 1) → Z X 7 ad mdm S' L' R' (356 + (t + 1)) (14747 + 6 * (t + 1)) 2211 [(4, .int (nI (6 * t))), (0, .ref bs), (1, .ref (ad 0 0)), (2, .ref (ad 40 0)), (3, .ref (ad 60 0))] []) : Z X 7 ad mdm S L R (356 + t) (14747 + 6 * t) 2023 [(4, .int (nI (6 * t))), (0, .ref bs), (1, .ref (ad 0 0)), (2, .ref (ad 40 0)), (3, .ref (ad 60 0))] [] := by
  have h512 : t ≤ 512 := by have := hS.2.2.2; omega
  have hL0 := hS.2.2.2
  obtain ⟨k, rmW, P1, hr, hz, hk, hW, hN⟩ := cs_setPolicy (l := X.2.1) (G := X.2.2.2.2.2.2.2.2.2.2.2.1) (ad := ad) hlf h512 hI (xs (6 * t + 1))
  refine z_aload_n C 2023 1 2 dL_law_2023 rfl rfl ?_
  refine z_aload_n C 2024 0 1 dL_law_2024 rfl rfl ?_
  refine z_iload C 2025 4 0 dL_law_2025 rfl ?_
  refine z_iconst (v := nI 1) C 2027 dL_law_2027 (by decide) ?_
  refine z_iaddN C 2028 dL_law_2028 ?_
  refine z_sld C hS.1 hS.2.1 hS.2.2.1 2029 dL_law_2029 rfl (by omega) (by omega) ?_
  refine z_aload_n C 2030 3 4 dL_law_2030 rfl rfl ?_
  refine z_cW C 2031 dL_law_2031 ww_setPolicy hW rfl rfl (Nat.le_of_ble_eq_true rfl) hr ⟨by show _ ≤ 601024; omega, by show _ ≤ 7293034; omega⟩ ?_
  intro r S1 L1 R1 p1
  obtain ⟨rfl, P2, hM, hN2⟩ := hN r S1 L1 R1 p1
  refine z_istore C 2034 5 [(5, _), (4, _), (0, _), (1, _), (2, _), (3, _)] dL_law_2034 (by decide) rfl ?_
  refine z_aload_n C 2036 2 4 dL_law_2036 rfl rfl ?_
  refine z_aload_n C 2037 0 2 dL_law_2037 rfl rfl ?_
  refine z_iload C 2038 4 1 dL_law_2038 rfl ?_
  refine z_iconst (v := nI 1) C 2040 dL_law_2040 (by decide) ?_
  refine z_iaddN C 2041 dL_law_2041 ?_
  refine z_sld C hS.1 hS.2.1 hS.2.2.1 2042 dL_law_2042 rfl (by omega) (by omega) ?_
  refine z_cVi0 C 2043 dL_law_2043 cv_L_231 hM rfl ⟨by decide, rfl⟩ Nat.zero_lt_one rfl rfl (Nat.le_of_ble_eq_true rfl) ⟨by decide, by decide⟩ ⟨rfl, rfl⟩ ⟨by show _ ≤ 601024; omega, by show _ ≤ 7293034; omega⟩ ?_
  intro b S2 L2 R2 p2
  obtain ⟨hR2, e0, e60, S3, hext, e3, hIV⟩ := hN2 b S2 L2 R2 p2
  refine z_ext S3 hext ?_
  refine z_istore C 2046 6 [(6, _), (5, _), (4, _), (0, _), (1, _), (2, _), (3, _)] dL_law_2046 (by decide) rfl ?_
  refine z_aload_n C 2048 2 5 dL_law_2048 rfl rfl ?_
  refine z_cVi0 C 2049 dL_law_2049 cv_L_129 (c_X9_thrown hR2) rfl ⟨by decide, rfl⟩ Nat.zero_lt_one rfl rfl (Nat.le_of_ble_eq_true rfl) ⟨by decide, by decide⟩ ⟨rfl, rfl⟩ ⟨by show _ ≤ 601024; omega, by show _ ≤ 7293034; omega⟩ ?_
  intro r9 S9 L9 R9 p9
  obtain ⟨rfl, rfl, rfl, rfl⟩ := p9
  rw [e3]
  refine z_iload C 2052 5 1 dL_law_2052 rfl ?_
  refine z_icmp_eq C 2054 2059 dL_law_2054 (by decide) (fun _ => ?_) (fun h => absurd rfl h)
  refine z_iload C 2059 5 1 dL_law_2059 rfl ?_
  have fin : Z X 7 ad mdm S3 L2 R2 (356 + t + rmW.cells) (14747 + 6 * t + rmW.slots) 2076 [(6, .int b), (5, .int (nI k)), (4, .int (nI (6 * t))), (0, .ref bs), (1, .ref (ad 0 0)), (2, .ref (ad 40 0)), (3, .ref (ad 60 0))] [] := by
    refine z_goto C 2076 2211 dL_law_2076 (by decide) ?_
    refine z_sub [(4, _), (0, _), (1, _), (2, _), (3, _)] [2, 3, 4, 5, 6] rfl ?_
    exact z_wid (by omega) (by omega) (kk _ _ _ hIV)
  refine z_if_neN C 2061 2076 dL_law_2061 (by decide) (by omega) (fun _ => fin) (fun hk0 => ?_)
  refine z_aload_n C 2064 3 6 dL_law_2064 rfl rfl ?_
  refine z_iconst (v := nI 0) C 2065 dL_law_2065 (by decide) ?_
  refine z_lald C 2066 dL_law_2066 rfl Nat.zero_lt_one rfl (by decide) (by decide) ?_
  rw [e60 hk0]
  refine z_iload C 2067 6 0 dL_law_2067 rfl ?_
  refine z_i2l C 2069 dL_law_2069 (v := i2 b) rfl ?_
  refine z_lcmp C 2070 dL_law_2070 ?_
  refine z_if_eq C 2071 2076 dL_law_2071 (by decide) (fun _ => fin) (fun h => absurd (lg_cmp_rf _) h)
set_option maxHeartbeats 4000000 in
set_option maxRecDepth 100000 in
theorem lc_33 {X : mX} {bs L0 t : Nat} {xs : Nat → Int32} {ad : mA} {S : mS} {L : mL} {R : mR} (C : mK X RL cL_law 7 room_1) (hS : LH X bs L0 xs) (ht : 6 * t + 6 ≤ L0) (hlf : X.2.1.stackTraces = false) (hI : IVt S L R t) (kk : ∀ (S' : mS) (L' : mL) (R' : mR), IVt S' L' R' (t + 1) → Z X 7 ad mdm S' L' R' (356 + (t + 1)) (14747 + 6 * (t + 1)) 2211 [(4, .int (nI (6 * t))), (0, .ref bs), (1, .ref (ad 0 0)), (2, .ref (ad 40 0)), (3, .ref (ad 60 0))] []) : Z X 7 ad mdm S L R (356 + t) (14747 + 6 * t) 2079 [(4, .int (nI (6 * t))), (0, .ref bs), (1, .ref (ad 0 0)), (2, .ref (ad 40 0)), (3, .ref (ad 60 0))] [] := by
  have h512 : t ≤ 512 := by have := hS.2.2.2; omega
  have hL0 := hS.2.2.2
  obtain ⟨P1, hX, hN⟩ := cs_undo (l := X.2.1) (G := X.2.2.2.2.2.2.2.2.2.2.2.1) (ad := ad) hI 
  refine z_aload_n C 2079 1 2 dL_law_2079 rfl rfl ?_
  refine z_cVi0 C 2080 dL_law_2080 cv_L_232 hX rfl ⟨by decide, rfl⟩ Nat.zero_lt_one rfl rfl (Nat.le_of_ble_eq_true rfl) ⟨by decide, by decide⟩ ⟨rfl, rfl⟩ ⟨by show _ ≤ 601024; omega, by show _ ≤ 7293034; omega⟩ ?_
  intro r S1 L1 R1 p1
  obtain ⟨P2, hM, hN2⟩ := hN r S1 L1 R1 p1
  refine z_aload_n C 2083 2 3 dL_law_2083 rfl rfl ?_
  refine z_cVi0 C 2084 dL_law_2084 cv_L_235 hM rfl ⟨by decide, rfl⟩ Nat.zero_lt_one rfl rfl (Nat.le_of_ble_eq_true rfl) ⟨by decide, by decide⟩ ⟨rfl, rfl⟩ ⟨by show _ ≤ 601024; omega, by show _ ≤ 7293034; omega⟩ ?_
  intro b S2 L2 R2 p2
  obtain ⟨rfl, S3, hext, hIV⟩ := hN2 b S2 L2 R2 p2
  refine z_ext S3 hext ?_
  refine z_icmp_eq C 2087 2211 dL_law_2087 (by decide) (fun _ => ?_) (fun h => absurd rfl h)
  exact z_wid (by omega) (by omega) (kk _ _ _ hIV)
set_option maxHeartbeats 4000000 in
set_option maxRecDepth 100000 in
theorem lc_34 {X : mX} {bs L0 t : Nat} {xs : Nat → Int32} {ad : mA} {S : mS} {L : mL} {R : mR} (C : mK X RL cL_law 7 room_1) (hS : LH X bs L0 xs) (ht : 6 * t + 6 ≤ L0) (hlf : X.2.1.stackTraces = false) (hI : IVt S L R t) (kk : ∀ (S' : mS) (L' : mL) (R' : mR), IVt S' L' R' (t + 1) → Z X 7 ad mdm S' L' R' (356 + (t + 1)) (14747 + 6 * (t + 1)) 2211 [(4, .int (nI (6 * t))), (0, .ref bs), (1, .ref (ad 0 0)), (2, .ref (ad 40 0)), (3, .ref (ad 60 0))] []) : Z X 7 ad mdm S L R (356 + t) (14747 + 6 * t) 2092 [(4, .int (nI (6 * t))), (0, .ref bs), (1, .ref (ad 0 0)), (2, .ref (ad 40 0)), (3, .ref (ad 60 0))] [] := by
  have h512 : t ≤ 512 := by have := hS.2.2.2; omega
  have hL0 := hS.2.2.2
  obtain ⟨k, rmW, P1, hr, hz, hk, hW, hN⟩ := cs_saveSnapshot (l := X.2.1) (G := X.2.2.2.2.2.2.2.2.2.2.2.1) (ad := ad) hlf h512 hI (xs (6 * t + 1))
  refine z_aload_n C 2092 1 2 dL_law_2092 rfl rfl ?_
  refine z_aload_n C 2093 0 1 dL_law_2093 rfl rfl ?_
  refine z_iload C 2094 4 0 dL_law_2094 rfl ?_
  refine z_iconst (v := nI 1) C 2096 dL_law_2096 (by decide) ?_
  refine z_iaddN C 2097 dL_law_2097 ?_
  refine z_sld C hS.1 hS.2.1 hS.2.2.1 2098 dL_law_2098 rfl (by omega) (by omega) ?_
  refine z_aload_n C 2099 3 4 dL_law_2099 rfl rfl ?_
  refine z_cW C 2100 dL_law_2100 ww_saveSnapshot hW rfl rfl (Nat.le_of_ble_eq_true rfl) hr ⟨by show _ ≤ 601024; omega, by show _ ≤ 7293034; omega⟩ ?_
  intro r S1 L1 R1 p1
  obtain ⟨rfl, P2, hM, hN2⟩ := hN r S1 L1 R1 p1
  refine z_istore C 2103 5 [(5, _), (4, _), (0, _), (1, _), (2, _), (3, _)] dL_law_2103 (by decide) rfl ?_
  refine z_aload_n C 2105 2 4 dL_law_2105 rfl rfl ?_
  refine z_aload_n C 2106 0 2 dL_law_2106 rfl rfl ?_
  refine z_iload C 2107 4 1 dL_law_2107 rfl ?_
  refine z_iconst (v := nI 1) C 2109 dL_law_2109 (by decide) ?_
  refine z_iaddN C 2110 dL_law_2110 ?_
  refine z_sld C hS.1 hS.2.1 hS.2.2.1 2111 dL_law_2111 rfl (by omega) (by omega) ?_
  refine z_cVi0 C 2112 dL_law_2112 cv_L_238 hM rfl ⟨by decide, rfl⟩ Nat.zero_lt_one rfl rfl (Nat.le_of_ble_eq_true rfl) ⟨by decide, by decide⟩ ⟨rfl, rfl⟩ ⟨by show _ ≤ 601024; omega, by show _ ≤ 7293034; omega⟩ ?_
  intro b S2 L2 R2 p2
  obtain ⟨hR2, e0, e60, S3, hext, e3, hIV⟩ := hN2 b S2 L2 R2 p2
  refine z_ext S3 hext ?_
  refine z_istore C 2115 6 [(6, _), (5, _), (4, _), (0, _), (1, _), (2, _), (3, _)] dL_law_2115 (by decide) rfl ?_
  refine z_aload_n C 2117 2 5 dL_law_2117 rfl rfl ?_
  refine z_cVi0 C 2118 dL_law_2118 cv_L_129 (c_X9_thrown hR2) rfl ⟨by decide, rfl⟩ Nat.zero_lt_one rfl rfl (Nat.le_of_ble_eq_true rfl) ⟨by decide, by decide⟩ ⟨rfl, rfl⟩ ⟨by show _ ≤ 601024; omega, by show _ ≤ 7293034; omega⟩ ?_
  intro r9 S9 L9 R9 p9
  obtain ⟨rfl, rfl, rfl, rfl⟩ := p9
  rw [e3]
  refine z_iload C 2121 5 1 dL_law_2121 rfl ?_
  refine z_icmp_eq C 2123 2128 dL_law_2123 (by decide) (fun _ => ?_) (fun h => absurd rfl h)
  refine z_iload C 2128 5 1 dL_law_2128 rfl ?_
  have fin : Z X 7 ad mdm S3 L2 R2 (356 + t + rmW.cells) (14747 + 6 * t + rmW.slots) 2152 [(6, .int b), (5, .int (nI k)), (4, .int (nI (6 * t))), (0, .ref bs), (1, .ref (ad 0 0)), (2, .ref (ad 40 0)), (3, .ref (ad 60 0))] [] := by
    refine z_goto C 2152 2211 dL_law_2152 (by decide) ?_
    refine z_sub [(4, _), (0, _), (1, _), (2, _), (3, _)] [2, 3, 4, 5, 6] rfl ?_
    exact z_wid (by omega) (by omega) (kk _ _ _ hIV)
  refine z_if_neN C 2130 2152 dL_law_2130 (by decide) (by omega) (fun _ => fin) (fun hk0 => ?_)
  refine z_aload_n C 2133 3 6 dL_law_2133 rfl rfl ?_
  refine z_iconst (v := nI 0) C 2134 dL_law_2134 (by decide) ?_
  refine z_lald C 2135 dL_law_2135 rfl Nat.zero_lt_one rfl (by decide) (by decide) ?_
  rw [e60 hk0]
  refine z_iload C 2136 6 0 dL_law_2136 rfl ?_
  refine z_if_eq C 2138 2145 dL_law_2138 (by decide) (fun h => ?_) (fun h => ?_)
  · rw [show b2 b = 0 from if_pos h]
    refine z_lconst (v := 0) C 2145 dL_law_2145 (by decide) ?_
    refine z_lcmp C 2146 dL_law_2146 ?_
    refine z_if_eq C 2147 2152 dL_law_2147 (by decide) (fun _ => fin) (fun h => absurd (lg_cmp_rf _) h)
  · rw [show b2 b = 1 from if_neg h]
    refine z_lconst (v := 1) C 2141 dL_law_2141 (by decide) ?_
    refine z_goto C 2142 2146 dL_law_2142 (by decide) ?_
    refine z_lcmp C 2146 dL_law_2146 ?_
    refine z_if_eq C 2147 2152 dL_law_2147 (by decide) (fun _ => fin) (fun h => absurd (lg_cmp_rf _) h)
set_option maxHeartbeats 4000000 in
set_option maxRecDepth 100000 in
theorem lc_35 {X : mX} {bs L0 t : Nat} {xs : Nat → Int32} {ad : mA} {S : mS} {L : mL} {R : mR} (C : mK X RL cL_law 7 room_1) (hS : LH X bs L0 xs) (ht : 6 * t + 6 ≤ L0) (hlf : X.2.1.stackTraces = false) (hI : IVt S L R t) (kk : ∀ (S' : mS) (L' : mL) (R' : mR), IVt S' L' R' (t + 1) → Z X 7 ad mdm S' L' R' (356 + (t + 1)) (14747 + 6 * (t + 1)) 2211 [(4, .int (nI (6 * t))), (0, .ref bs), (1, .ref (ad 0 0)), (2, .ref (ad 40 0)), (3, .ref (ad 60 0))] []) : Z X 7 ad mdm S L R (356 + t) (14747 + 6 * t) 2155 [(4, .int (nI (6 * t))), (0, .ref bs), (1, .ref (ad 0 0)), (2, .ref (ad 40 0)), (3, .ref (ad 60 0))] [] := by
  have h512 : t ≤ 512 := by have := hS.2.2.2; omega
  have hL0 := hS.2.2.2
  obtain ⟨k, rmW, P1, hr, hz, hk, hW, hN⟩ := cs_restoreSnapshot (l := X.2.1) (G := X.2.2.2.2.2.2.2.2.2.2.2.1) (ad := ad) hlf h512 hI (xs (6 * t + 1))
  refine z_aload_n C 2155 1 2 dL_law_2155 rfl rfl ?_
  refine z_aload_n C 2156 0 1 dL_law_2156 rfl rfl ?_
  refine z_iload C 2157 4 0 dL_law_2157 rfl ?_
  refine z_iconst (v := nI 1) C 2159 dL_law_2159 (by decide) ?_
  refine z_iaddN C 2160 dL_law_2160 ?_
  refine z_sld C hS.1 hS.2.1 hS.2.2.1 2161 dL_law_2161 rfl (by omega) (by omega) ?_
  refine z_aload_n C 2162 3 4 dL_law_2162 rfl rfl ?_
  refine z_cW C 2163 dL_law_2163 ww_restoreSnapshot hW rfl rfl (Nat.le_of_ble_eq_true rfl) hr ⟨by show _ ≤ 601024; omega, by show _ ≤ 7293034; omega⟩ ?_
  intro r S1 L1 R1 p1
  obtain ⟨rfl, P2, hM, hN2⟩ := hN r S1 L1 R1 p1
  refine z_istore C 2166 5 [(5, _), (4, _), (0, _), (1, _), (2, _), (3, _)] dL_law_2166 (by decide) rfl ?_
  refine z_aload_n C 2168 2 4 dL_law_2168 rfl rfl ?_
  refine z_aload_n C 2169 0 2 dL_law_2169 rfl rfl ?_
  refine z_iload C 2170 4 1 dL_law_2170 rfl ?_
  refine z_iconst (v := nI 1) C 2172 dL_law_2172 (by decide) ?_
  refine z_iaddN C 2173 dL_law_2173 ?_
  refine z_sld C hS.1 hS.2.1 hS.2.2.1 2174 dL_law_2174 rfl (by omega) (by omega) ?_
  refine z_cVi0 C 2175 dL_law_2175 cv_L_241 hM rfl ⟨by decide, rfl⟩ Nat.zero_lt_one rfl rfl (Nat.le_of_ble_eq_true rfl) ⟨by decide, by decide⟩ ⟨rfl, rfl⟩ ⟨by show _ ≤ 601024; omega, by show _ ≤ 7293034; omega⟩ ?_
  intro b S2 L2 R2 p2
  obtain ⟨hR2, e0, e60, S3, hext, e3, hIV⟩ := hN2 b S2 L2 R2 p2
  refine z_ext S3 hext ?_
  refine z_istore C 2178 6 [(6, _), (5, _), (4, _), (0, _), (1, _), (2, _), (3, _)] dL_law_2178 (by decide) rfl ?_
  refine z_aload_n C 2180 2 5 dL_law_2180 rfl rfl ?_
  refine z_cVi0 C 2181 dL_law_2181 cv_L_129 (c_X9_thrown hR2) rfl ⟨by decide, rfl⟩ Nat.zero_lt_one rfl rfl (Nat.le_of_ble_eq_true rfl) ⟨by decide, by decide⟩ ⟨rfl, rfl⟩ ⟨by show _ ≤ 601024; omega, by show _ ≤ 7293034; omega⟩ ?_
  intro r9 S9 L9 R9 p9
  obtain ⟨rfl, rfl, rfl, rfl⟩ := p9
  rw [e3]
  refine z_iload C 2184 5 1 dL_law_2184 rfl ?_
  refine z_icmp_eq C 2186 2191 dL_law_2186 (by decide) (fun _ => ?_) (fun h => absurd rfl h)
  refine z_iload C 2191 5 1 dL_law_2191 rfl ?_
  have fin : Z X 7 ad mdm S3 L2 R2 (356 + t + rmW.cells) (14747 + 6 * t + rmW.slots) 2208 [(6, .int b), (5, .int (nI k)), (4, .int (nI (6 * t))), (0, .ref bs), (1, .ref (ad 0 0)), (2, .ref (ad 40 0)), (3, .ref (ad 60 0))] [] := by
    refine z_goto C 2208 2211 dL_law_2208 (by decide) ?_
    refine z_sub [(4, _), (0, _), (1, _), (2, _), (3, _)] [2, 3, 4, 5, 6] rfl ?_
    exact z_wid (by omega) (by omega) (kk _ _ _ hIV)
  refine z_if_neN C 2193 2208 dL_law_2193 (by decide) (by omega) (fun _ => fin) (fun hk0 => ?_)
  refine z_aload_n C 2196 3 6 dL_law_2196 rfl rfl ?_
  refine z_iconst (v := nI 0) C 2197 dL_law_2197 (by decide) ?_
  refine z_lald C 2198 dL_law_2198 rfl Nat.zero_lt_one rfl (by decide) (by decide) ?_
  rw [e60 hk0]
  refine z_iload C 2199 6 0 dL_law_2199 rfl ?_
  refine z_i2l C 2201 dL_law_2201 (v := i2 b) rfl ?_
  refine z_lcmp C 2202 dL_law_2202 ?_
  refine z_if_eq C 2203 2208 dL_law_2203 (by decide) (fun _ => fin) (fun h => absurd (lg_cmp_rf _) h)
set_option maxHeartbeats 4000000 in
set_option maxRecDepth 100000 in
theorem lw_loop {X : mX} {bs L0 : Nat} {xs : Nat → Int32} {ad : mA} (C : mK X RL cL_law 7 room_1) (hS : LH X bs L0 xs) (hlf : X.2.1.stackTraces = false) (hret : ∀ (S : mS) (L : mL) (R : mR) (ce sl : Nat) (lv : List (Nat × Value)), ce ≤ 601024 → sl ≤ 7293034 → Z X 7 ad mdm S L R ce sl 2218 lv [.int (nI 1)]) : ∀ (m t : Nat) (S : mS) (L : mL) (R : mR), 513 - t < m → t ≤ 512 → IVt S L R t → Z X 7 ad mdm S L R (356 + t) (14747 + 6 * t) 23 [(4, .int (nI (6 * t))), (0, .ref bs), (1, .ref (ad 0 0)), (2, .ref (ad 40 0)), (3, .ref (ad 60 0))] [] := by
  intro m
  induction m with
  | zero => intro t S L R h; exact absurd h (Nat.not_lt_zero _)
  | succ m ih =>
    intro t S L R hm h512 hI
    have hL0 := hS.2.2.2
    refine z_iload C 23 4 0 dL_law_23 rfl ?_
    refine z_aload_n C 25 0 1 dL_law_25 rfl rfl ?_
    refine z_xlen C hS.1 hS.2.1 hS.2.2.1 26 dL_law_26 ?_
    refine z_bipush (v := nI 6) C 27 dL_law_27 (by decide +kernel) ?_
    refine z_isub C 29 dL_law_29 ?_
    refine z_icmp_gt C 30 2217 dL_law_30 (by decide) (fun _ => ?_) (fun h30 => ?_)
    · refine z_iconst (v := nI 1) C 2217 dL_law_2217 (by decide) ?_
      exact hret _ _ _ _ _ _ (by omega) (by omega)
    · have ht : 6 * t + 6 ≤ L0 := by
        refine Classical.byContradiction fun q => h30 ?_
        refine Int32.lt_iff_toInt_lt.mpr ?_
        rw [pk_sub_toInt (by omega) (by omega), nI_toInt (by omega)]
        omega
      have kk : ∀ (S' : mS) (L' : mL) (R' : mR), IVt S' L' R' (t + 1) → Z X 7 ad mdm S' L' R' (356 + (t + 1)) (14747 + 6 * (t + 1)) 2211 [(4, .int (nI (6 * t))), (0, .ref bs), (1, .ref (ad 0 0)), (2, .ref (ad 40 0)), (3, .ref (ad 60 0))] [] := by
        intro S' L' R' hI'
        refine z_iinc C 2211 4 0 [(4, _), (0, _), (1, _), (2, _), (3, _)] dL_law_2211 rfl (nI_add (6 * t) 6) (by decide) rfl ?_
        refine z_goto C 2214 23 dL_law_2214 (by decide) ?_
        exact ih (t + 1) S' L' R' (by omega) (by omega) hI'
      refine z_aload_n C 33 0 1 dL_law_33 rfl rfl ?_
      refine z_iload C 34 4 0 dL_law_34 rfl ?_
      refine z_sld C hS.1 hS.2.1 hS.2.2.1 36 dL_law_36 rfl (by omega) (by omega) ?_
      refine z_bipush (v := nI 63) C 37 dL_law_37 (by decide +kernel) ?_
      refine z_iand C 39 dL_law_39 ?_
      refine z_tab C 40 0 35 2211 (fun n => [200, 273, 329, 342, 398, 411, 479, 547, 603, 671, 727, 783, 851, 907, 963, 1019, 1075, 1131, 1187, 1255, 1347, 1415, 1471, 1527, 1540, 1596, 1652, 1720, 1764, 1855, 1911, 1967, 2023, 2079, 2092, 2155].getD (n - 0) 0) dL_law_40 (by decide) (by decide) (by decide) (fun n40 g40 k40 h40 => ?_) (fun h40 => ?_)
      · rcases (show n40 = 0 ∨ n40 = 1 ∨ n40 = 2 ∨ n40 = 3 ∨ n40 = 4 ∨ n40 = 5 ∨ n40 = 6 ∨ n40 = 7 ∨ n40 = 8 ∨ n40 = 9 ∨ n40 = 10 ∨ n40 = 11 ∨ n40 = 12 ∨ n40 = 13 ∨ n40 = 14 ∨ n40 = 15 ∨ n40 = 16 ∨ n40 = 17 ∨ n40 = 18 ∨ n40 = 19 ∨ n40 = 20 ∨ n40 = 21 ∨ n40 = 22 ∨ n40 = 23 ∨ n40 = 24 ∨ n40 = 25 ∨ n40 = 26 ∨ n40 = 27 ∨ n40 = 28 ∨ n40 = 29 ∨ n40 = 30 ∨ n40 = 31 ∨ n40 = 32 ∨ n40 = 33 ∨ n40 = 34 ∨ n40 = 35 by omega) with rfl | rfl | rfl | rfl | rfl | rfl | rfl | rfl | rfl | rfl | rfl | rfl | rfl | rfl | rfl | rfl | rfl | rfl | rfl | rfl | rfl | rfl | rfl | rfl | rfl | rfl | rfl | rfl | rfl | rfl | rfl | rfl | rfl | rfl | rfl | rfl
        · exact lc_0 C hS ht hlf hI kk
        · exact lc_1 C hS ht hlf hI kk
        · exact lc_2 C hS ht hlf hI kk
        · exact lc_3 C hS ht hlf hI kk
        · exact lc_4 C hS ht hlf hI kk
        · exact lc_5 C hS ht hlf hI kk
        · exact lc_6 C hS ht hlf hI kk
        · exact lc_7 C hS ht hlf hI kk
        · exact lc_8 C hS ht hlf hI kk
        · exact lc_9 C hS ht hlf hI kk
        · exact lc_10 C hS ht hlf hI kk
        · exact lc_11 C hS ht hlf hI kk
        · exact lc_12 C hS ht hlf hI kk
        · exact lc_13 C hS ht hlf hI kk
        · exact lc_14 C hS ht hlf hI kk
        · exact lc_15 C hS ht hlf hI kk
        · exact lc_16 C hS ht hlf hI kk
        · exact lc_17 C hS ht hlf hI kk
        · exact lc_18 C hS ht hlf hI kk
        · exact lc_19 C hS ht hlf hI kk
        · exact lc_20 C hS ht hlf hI kk
        · exact lc_21 C hS ht hlf hI kk
        · exact lc_22 C hS ht hlf hI kk
        · exact lc_23 C hS ht hlf hI kk
        · exact lc_24 C hS ht hlf hI kk
        · exact lc_25 C hS ht hlf hI kk
        · exact lc_26 C hS ht hlf hI kk
        · exact lc_27 C hS ht hlf hI kk
        · exact lc_28 C hS ht hlf hI kk
        · exact lc_29 C hS ht hlf hI kk
        · exact lc_30 C hS ht hlf hI kk
        · exact lc_31 C hS ht hlf hI kk
        · exact lc_32 C hS ht hlf hI kk
        · exact lc_33 C hS ht hlf hI kk
        · exact lc_34 C hS ht hlf hI kk
        · exact lc_35 C hS ht hlf hI kk
      · exact z_wid (by omega) (by omega) (kk _ _ _ hI.next)
