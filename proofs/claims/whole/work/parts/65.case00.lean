set_option maxHeartbeats 4000000 in
set_option maxRecDepth 100000 in
theorem lw_case_0 {F : pb_F} {d k n cells slots sz b N j X : Nat} {sk : pb_Sk} {rf : pb_Rf} {sg : pb_Sg} {xs : Nat → Int32} {v5 v6 : Option Value} (h : pb_Fx F mL_law d k n) (hfl : (pb_l F).stackTraces = false) (hX : va_X b N xs (pb_s F) (pb_s F).heap) (hbl : b < (pb_s F).heap.size) (hbA : ¬ pb_own (pb_g F) b) (hN : N ≤ 3072) (hj : 6 * j + 6 ≤ N) (hd : 30 ≤ d) (hc : cells + 18 ≤ k) (hs : slots + 400 ≤ n) (hI : pq_INV X sz sk rf sg) (kk : ∀ sz' sk' rf' sg' v5' v6', pq_INV X sz' sk' rf' sg' → pv F (cells + 18) (slots + 400) sz' sk' rf' sg' 2247 [some (.ref b), some (.ref X), some (.ref (X + 45)), some (.ref (X + 70)), some (.int (nI (6 * j))), v5', v6'] []) : pv F cells slots sz sk rf sg 180 [some (.ref b), some (.ref X), some (.ref (X + 45)), some (.ref (X + 70)), some (.int (nI (6 * j))), v5, v6] [] := by
  obtain ⟨k0, kc, nc, post, hk3, hkc, hnc, hM, hP⟩ := pq_st_setTask hfl hI (xs (6 * j + 1)) (xs (6 * j + 2)) (xs (6 * j + 3)) (xs (6 * j + 4)) (xs (6 * j + 5))
  refine v_aload_n h (i := 1) dL_law_180 (q := 181) rfl rfl rfl ?_
  refine v_aload_n h (i := 0) dL_law_181 (q := 182) rfl rfl rfl ?_
  refine v_iload h dL_law_182 (q := 184) rfl rfl ?_
  refine v_iconst h (v := nI 1) dL_law_184 (q := 185) rfl (by decide +kernel) ?_
  refine v_iadd h dL_law_185 (q := 186) rfl ?_
  refine v_sld h hX hbl hbA (t := 6 * j + 1) (nI_add _ _) (by omega) (by omega) dL_law_186 (q := 187) rfl ?_
  refine v_aload_n h (i := 0) dL_law_187 (q := 188) rfl rfl rfl ?_
  refine v_iload h dL_law_188 (q := 190) rfl rfl ?_
  refine v_iconst h (v := nI 2) dL_law_190 (q := 191) rfl (by decide +kernel) ?_
  refine v_iadd h dL_law_191 (q := 192) rfl ?_
  refine v_sld h hX hbl hbA (t := 6 * j + 2) (nI_add _ _) (by omega) (by omega) dL_law_192 (q := 193) rfl ?_
  refine v_aload_n h (i := 0) dL_law_193 (q := 194) rfl rfl rfl ?_
  refine v_iload h dL_law_194 (q := 196) rfl rfl ?_
  refine v_iconst h (v := nI 3) dL_law_196 (q := 197) rfl (by decide +kernel) ?_
  refine v_iadd h dL_law_197 (q := 198) rfl ?_
  refine v_sld h hX hbl hbA (t := 6 * j + 3) (nI_add _ _) (by omega) (by omega) dL_law_198 (q := 199) rfl ?_
  refine v_aload_n h (i := 0) dL_law_199 (q := 200) rfl rfl rfl ?_
  refine v_iload h dL_law_200 (q := 202) rfl rfl ?_
  refine v_iconst h (v := nI 4) dL_law_202 (q := 203) rfl (by decide +kernel) ?_
  refine v_iadd h dL_law_203 (q := 204) rfl ?_
  refine v_sld h hX hbl hbA (t := 6 * j + 4) (nI_add _ _) (by omega) (by omega) dL_law_204 (q := 205) rfl ?_
  refine v_aload_n h (i := 0) dL_law_205 (q := 206) rfl rfl rfl ?_
  refine v_iload h dL_law_206 (q := 208) rfl rfl ?_
  refine v_iconst h (v := nI 5) dL_law_208 (q := 209) rfl (by decide +kernel) ?_
  refine v_iadd h dL_law_209 (q := 210) rfl ?_
  refine v_sld h hX hbl hbA (t := 6 * j + 5) (nI_add _ _) (by omega) (by omega) dL_law_210 (q := 211) rfl ?_
  refine v_aload_n h (i := 3) dL_law_211 (q := 212) rfl rfl rfl ?_
  refine v_callSH h hM kL_setTask (fun h9 => nomatch h9) tw283 rfl rfl (by simp [Value.category]) (by omega) (by omega) (by omega) rfl dL_law_212 (q := 215) rfl ?_ (fun E sz9 sk9 rf9 sg9 hx9 => nomatch (hP _ _ _ _ _ hx9).1)
  intro v1 sz1 sk1 rf1 sg1 hp1
  obtain ⟨e1, d8, w8, sg2, hd8, hPw, hM8, ht, ho, hI2⟩ := hP _ _ _ _ _ hp1
  cases e1
  obtain ⟨nn, B, par, hsk, -⟩ := id hI2
  have hm1 := hsk.2.2.1
  have hO1 := hsk.2.2.2.1
  refine v_istore h dL_law_215 (q := 217) rfl (Nat.le_of_ble_eq_true rfl) rfl ?_
  refine v_aload_n h (i := 2) dL_law_217 (q := 218) rfl rfl rfl ?_
  refine v_aload_n h (i := 0) dL_law_218 (q := 219) rfl rfl rfl ?_
  refine v_iload h dL_law_219 (q := 221) rfl rfl ?_
  refine v_iconst h (v := nI 1) dL_law_221 (q := 222) rfl (by decide +kernel) ?_
  refine v_iadd h dL_law_222 (q := 223) rfl ?_
  refine v_sld h hX hbl hbA (t := 6 * j + 1) (nI_add _ _) (by omega) (by omega) dL_law_223 (q := 224) rfl ?_
  refine v_aload_n h (i := 0) dL_law_224 (q := 225) rfl rfl rfl ?_
  refine v_iload h dL_law_225 (q := 227) rfl rfl ?_
  refine v_iconst h (v := nI 2) dL_law_227 (q := 228) rfl (by decide +kernel) ?_
  refine v_iadd h dL_law_228 (q := 229) rfl ?_
  refine v_sld h hX hbl hbA (t := 6 * j + 2) (nI_add _ _) (by omega) (by omega) dL_law_229 (q := 230) rfl ?_
  refine v_aload_n h (i := 0) dL_law_230 (q := 231) rfl rfl rfl ?_
  refine v_iload h dL_law_231 (q := 233) rfl rfl ?_
  refine v_iconst h (v := nI 3) dL_law_233 (q := 234) rfl (by decide +kernel) ?_
  refine v_iadd h dL_law_234 (q := 235) rfl ?_
  refine v_sld h hX hbl hbA (t := 6 * j + 3) (nI_add _ _) (by omega) (by omega) dL_law_235 (q := 236) rfl ?_
  refine v_aload_n h (i := 0) dL_law_236 (q := 237) rfl rfl rfl ?_
  refine v_iload h dL_law_237 (q := 239) rfl rfl ?_
  refine v_iconst h (v := nI 4) dL_law_239 (q := 240) rfl (by decide +kernel) ?_
  refine v_iadd h dL_law_240 (q := 241) rfl ?_
  refine v_sld h hX hbl hbA (t := 6 * j + 4) (nI_add _ _) (by omega) (by omega) dL_law_241 (q := 242) rfl ?_
  refine v_aload_n h (i := 0) dL_law_242 (q := 243) rfl rfl rfl ?_
  refine v_iload h dL_law_243 (q := 245) rfl rfl ?_
  refine v_iconst h (v := nI 5) dL_law_245 (q := 246) rfl (by decide +kernel) ?_
  refine v_iadd h dL_law_246 (q := 247) rfl ?_
  refine v_sld h hX hbl hbA (t := 6 * j + 5) (nI_add _ _) (by omega) (by omega) dL_law_247 (q := 248) rfl ?_
  refine v_callV1 h hM8 kX8_setTask tw915 tw917 hm1.1 (by decide) rfl rfl rfl (by simp [Value.category]) (by omega) (by omega) (by omega) rfl dL_law_248 (q := 251) rfl ?_
  refine v_istore h dL_law_251 (q := 253) rfl (Nat.le_of_ble_eq_true rfl) rfl ?_
  refine v_aload_n h (i := 2) dL_law_253 (q := 254) rfl rfl rfl ?_
  refine v_callV1 h (c_X8_thrown hfl hm1) kX8_thrown tw911 tw913 hm1.1 (by decide) rfl rfl rfl (by simp [Value.category]) (by omega) (by omega) (by omega) rfl dL_law_254 (q := 257) rfl ?_
  refine v_iload h dL_law_257 (q := 259) rfl rfl ?_
  refine v_icmp_eq h dL_law_259 (q := 262) rfl (tgt := 264) (by decide) (fun _ => ?_) (fun c9 => absurd ht c9)
  refine v_iload h dL_law_264 (q := 266) rfl rfl ?_
  refine v_if_ne h dL_law_266 (q := 269) rfl (tgt := 288) (by decide) (fun _ => ?_) (fun c9 => ?_)
  · refine v_goto h dL_law_288 (tgt := 2247) (by decide) ?_
    refine v_widen (c2 := cells + 18) (s2 := slots + 400) (by omega) (by omega) ?_
    exact kk _ _ _ _ _ _ hI2
  · have hk0 : k0 = 0 := (nI_eq (by omega) (by omega)).mp c9
    refine v_aload_n h (i := 3) dL_law_269 (q := 270) rfl rfl rfl ?_
    refine v_iconst h (v := nI 0) dL_law_270 (q := 271) rfl (by decide +kernel) ?_
    refine v_lald h hO1 rfl (by decide) (by decide) dL_law_271 (q := 272) rfl ?_
    rw [ho hk0]
    refine v_iload h dL_law_272 (q := 274) rfl rfl ?_
    obtain ⟨bv, rfl⟩ := hPw
    cases bv
    · refine v_if_eq h dL_law_274 (q := 277) rfl (tgt := 281) (by decide) (fun _ => ?_) (fun c8 => absurd rfl c8)
      refine v_lconst h (v := (nI 0).toInt64) dL_law_281 (q := 282) rfl (by decide) ?_
      refine v_lcmp h dL_law_282 (q := 283) rfl ?_
      refine v_if_eq h dL_law_283 (q := 286) rfl (tgt := 288) (by decide) (fun _ => ?_) (fun c8 => absurd ((lg_cmp_eq _ _).mpr rfl) c8)
      refine v_goto h dL_law_288 (tgt := 2247) (by decide) ?_
      refine v_widen (c2 := cells + 18) (s2 := slots + 400) (by omega) (by omega) ?_
      exact kk _ _ _ _ _ _ hI2
    · refine v_if_eq h dL_law_274 (q := 277) rfl (tgt := 281) (by decide) (fun c8 => absurd c8 (by decide)) (fun _ => ?_)
      refine v_lconst h (v := (nI 1).toInt64) dL_law_277 (q := 278) rfl (by decide) ?_
      refine v_goto h dL_law_278 (tgt := 282) (by decide) ?_
      refine v_lcmp h dL_law_282 (q := 283) rfl ?_
      refine v_if_eq h dL_law_283 (q := 286) rfl (tgt := 288) (by decide) (fun _ => ?_) (fun c8 => absurd ((lg_cmp_eq _ _).mpr rfl) c8)
      refine v_goto h dL_law_288 (tgt := 2247) (by decide) ?_
      refine v_widen (c2 := cells + 18) (s2 := slots + 400) (by omega) (by omega) ?_
      exact kk _ _ _ _ _ _ hI2
set_option maxHeartbeats 4000000 in
set_option maxRecDepth 100000 in
theorem lw_case_1 {F : pb_F} {d k n cells slots sz b N j X : Nat} {sk : pb_Sk} {rf : pb_Rf} {sg : pb_Sg} {xs : Nat → Int32} {v5 v6 : Option Value} (h : pb_Fx F mL_law d k n) (hfl : (pb_l F).stackTraces = false) (hX : va_X b N xs (pb_s F) (pb_s F).heap) (hbl : b < (pb_s F).heap.size) (hbA : ¬ pb_own (pb_g F) b) (hN : N ≤ 3072) (hj : 6 * j + 6 ≤ N) (hd : 30 ≤ d) (hc : cells + 18 ≤ k) (hs : slots + 400 ≤ n) (hI : pq_INV X sz sk rf sg) (kk : ∀ sz' sk' rf' sg' v5' v6', pq_INV X sz' sk' rf' sg' → pv F (cells + 18) (slots + 400) sz' sk' rf' sg' 2247 [some (.ref b), some (.ref X), some (.ref (X + 45)), some (.ref (X + 70)), some (.int (nI (6 * j))), v5', v6'] []) : pv F cells slots sz sk rf sg 291 [some (.ref b), some (.ref X), some (.ref (X + 45)), some (.ref (X + 70)), some (.int (nI (6 * j))), v5, v6] [] := by
  obtain ⟨k0, kc, nc, post, hk3, hkc, hnc, hM, hP⟩ := pq_st_removeTask hfl hI (xs (6 * j + 1)) (xs (6 * j + 2))
  refine v_aload_n h (i := 1) dL_law_291 (q := 292) rfl rfl rfl ?_
  refine v_aload_n h (i := 0) dL_law_292 (q := 293) rfl rfl rfl ?_
  refine v_iload h dL_law_293 (q := 295) rfl rfl ?_
  refine v_iconst h (v := nI 1) dL_law_295 (q := 296) rfl (by decide +kernel) ?_
  refine v_iadd h dL_law_296 (q := 297) rfl ?_
  refine v_sld h hX hbl hbA (t := 6 * j + 1) (nI_add _ _) (by omega) (by omega) dL_law_297 (q := 298) rfl ?_
  refine v_aload_n h (i := 0) dL_law_298 (q := 299) rfl rfl rfl ?_
  refine v_iload h dL_law_299 (q := 301) rfl rfl ?_
  refine v_iconst h (v := nI 2) dL_law_301 (q := 302) rfl (by decide +kernel) ?_
  refine v_iadd h dL_law_302 (q := 303) rfl ?_
  refine v_sld h hX hbl hbA (t := 6 * j + 2) (nI_add _ _) (by omega) (by omega) dL_law_303 (q := 304) rfl ?_
  refine v_aload_n h (i := 3) dL_law_304 (q := 305) rfl rfl rfl ?_
  refine v_callSH h hM kL_removeTask (fun h9 => nomatch h9) tw398 rfl rfl (by simp [Value.category]) (by omega) (by omega) (by omega) rfl dL_law_305 (q := 308) rfl ?_ (fun E sz9 sk9 rf9 sg9 hx9 => nomatch (hP _ _ _ _ _ hx9).1)
  intro v1 sz1 sk1 rf1 sg1 hp1
  obtain ⟨e1, d8, w8, sg2, hd8, hPw, hM8, ht, ho, hI2⟩ := hP _ _ _ _ _ hp1
  cases e1
  obtain ⟨nn, B, par, hsk, -⟩ := id hI2
  have hm1 := hsk.2.2.1
  have hO1 := hsk.2.2.2.1
  refine v_istore h dL_law_308 (q := 310) rfl (Nat.le_of_ble_eq_true rfl) rfl ?_
  refine v_aload_n h (i := 2) dL_law_310 (q := 311) rfl rfl rfl ?_
  refine v_aload_n h (i := 0) dL_law_311 (q := 312) rfl rfl rfl ?_
  refine v_iload h dL_law_312 (q := 314) rfl rfl ?_
  refine v_iconst h (v := nI 1) dL_law_314 (q := 315) rfl (by decide +kernel) ?_
  refine v_iadd h dL_law_315 (q := 316) rfl ?_
  refine v_sld h hX hbl hbA (t := 6 * j + 1) (nI_add _ _) (by omega) (by omega) dL_law_316 (q := 317) rfl ?_
  refine v_aload_n h (i := 0) dL_law_317 (q := 318) rfl rfl rfl ?_
  refine v_iload h dL_law_318 (q := 320) rfl rfl ?_
  refine v_iconst h (v := nI 2) dL_law_320 (q := 321) rfl (by decide +kernel) ?_
  refine v_iadd h dL_law_321 (q := 322) rfl ?_
  refine v_sld h hX hbl hbA (t := 6 * j + 2) (nI_add _ _) (by omega) (by omega) dL_law_322 (q := 323) rfl ?_
  refine v_callV1 h hM8 kX8_removeTask tw948 tw950 hm1.1 (by decide) rfl rfl rfl (by simp [Value.category]) (by omega) (by omega) (by omega) rfl dL_law_323 (q := 326) rfl ?_
  refine v_istore h dL_law_326 (q := 328) rfl (Nat.le_of_ble_eq_true rfl) rfl ?_
  refine v_aload_n h (i := 2) dL_law_328 (q := 329) rfl rfl rfl ?_
  refine v_callV1 h (c_X8_thrown hfl hm1) kX8_thrown tw911 tw913 hm1.1 (by decide) rfl rfl rfl (by simp [Value.category]) (by omega) (by omega) (by omega) rfl dL_law_329 (q := 332) rfl ?_
  refine v_iload h dL_law_332 (q := 334) rfl rfl ?_
  refine v_icmp_eq h dL_law_334 (q := 337) rfl (tgt := 339) (by decide) (fun _ => ?_) (fun c9 => absurd ht c9)
  refine v_iload h dL_law_339 (q := 341) rfl rfl ?_
  refine v_if_ne h dL_law_341 (q := 344) rfl (tgt := 356) (by decide) (fun _ => ?_) (fun c9 => ?_)
  · refine v_goto h dL_law_356 (tgt := 2247) (by decide) ?_
    refine v_widen (c2 := cells + 18) (s2 := slots + 400) (by omega) (by omega) ?_
    exact kk _ _ _ _ _ _ hI2
  · have hk0 : k0 = 0 := (nI_eq (by omega) (by omega)).mp c9
    refine v_aload_n h (i := 3) dL_law_344 (q := 345) rfl rfl rfl ?_
    refine v_iconst h (v := nI 0) dL_law_345 (q := 346) rfl (by decide +kernel) ?_
    refine v_lald h hO1 rfl (by decide) (by decide) dL_law_346 (q := 347) rfl ?_
    rw [ho hk0]
    refine v_iload h dL_law_347 (q := 349) rfl rfl ?_
    refine v_i2l h dL_law_349 (q := 350) rfl ?_
    refine v_lcmp h dL_law_350 (q := 351) rfl ?_
    refine v_if_eq h dL_law_351 (q := 354) rfl (tgt := 356) (by decide) (fun _ => ?_) (fun c8 => absurd ((lg_cmp_eq _ _).mpr rfl) c8)
    refine v_goto h dL_law_356 (tgt := 2247) (by decide) ?_
    refine v_widen (c2 := cells + 18) (s2 := slots + 400) (by omega) (by omega) ?_
    exact kk _ _ _ _ _ _ hI2
set_option maxHeartbeats 4000000 in
set_option maxRecDepth 100000 in
theorem lw_case_2 {F : pb_F} {d k n cells slots sz b N j X : Nat} {sk : pb_Sk} {rf : pb_Rf} {sg : pb_Sg} {xs : Nat → Int32} {v5 v6 : Option Value} (h : pb_Fx F mL_law d k n) (hfl : (pb_l F).stackTraces = false) (hX : va_X b N xs (pb_s F) (pb_s F).heap) (hbl : b < (pb_s F).heap.size) (hbA : ¬ pb_own (pb_g F) b) (hN : N ≤ 3072) (hj : 6 * j + 6 ≤ N) (hd : 30 ≤ d) (hc : cells + 18 ≤ k) (hs : slots + 400 ≤ n) (hI : pq_INV X sz sk rf sg) (kk : ∀ sz' sk' rf' sg' v5' v6', pq_INV X sz' sk' rf' sg' → pv F (cells + 18) (slots + 400) sz' sk' rf' sg' 2247 [some (.ref b), some (.ref X), some (.ref (X + 45)), some (.ref (X + 70)), some (.int (nI (6 * j))), v5', v6'] []) : pv F cells slots sz sk rf sg 359 [some (.ref b), some (.ref X), some (.ref (X + 45)), some (.ref (X + 70)), some (.int (nI (6 * j))), v5, v6] [] := by
  by_cases hz : xs (6 * j + 4) = 0
  · obtain ⟨k0, kc, nc, post, hk3, hkc, hnc, hM, hP⟩ := pq_st_setNeed hfl hI (xs (6 * j + 1)) (xs (6 * j + 2)) (xs (6 * j + 3)) false
    refine v_aload_n h (i := 1) dL_law_359 (q := 360) rfl rfl rfl ?_
    refine v_aload_n h (i := 0) dL_law_360 (q := 361) rfl rfl rfl ?_
    refine v_iload h dL_law_361 (q := 363) rfl rfl ?_
    refine v_iconst h (v := nI 1) dL_law_363 (q := 364) rfl (by decide +kernel) ?_
    refine v_iadd h dL_law_364 (q := 365) rfl ?_
    refine v_sld h hX hbl hbA (t := 6 * j + 1) (nI_add _ _) (by omega) (by omega) dL_law_365 (q := 366) rfl ?_
    refine v_aload_n h (i := 0) dL_law_366 (q := 367) rfl rfl rfl ?_
    refine v_iload h dL_law_367 (q := 369) rfl rfl ?_
    refine v_iconst h (v := nI 2) dL_law_369 (q := 370) rfl (by decide +kernel) ?_
    refine v_iadd h dL_law_370 (q := 371) rfl ?_
    refine v_sld h hX hbl hbA (t := 6 * j + 2) (nI_add _ _) (by omega) (by omega) dL_law_371 (q := 372) rfl ?_
    refine v_aload_n h (i := 0) dL_law_372 (q := 373) rfl rfl rfl ?_
    refine v_iload h dL_law_373 (q := 375) rfl rfl ?_
    refine v_iconst h (v := nI 3) dL_law_375 (q := 376) rfl (by decide +kernel) ?_
    refine v_iadd h dL_law_376 (q := 377) rfl ?_
    refine v_sld h hX hbl hbA (t := 6 * j + 3) (nI_add _ _) (by omega) (by omega) dL_law_377 (q := 378) rfl ?_
    refine v_aload_n h (i := 0) dL_law_378 (q := 379) rfl rfl rfl ?_
    refine v_iload h dL_law_379 (q := 381) rfl rfl ?_
    refine v_iconst h (v := nI 4) dL_law_381 (q := 382) rfl (by decide +kernel) ?_
    refine v_iadd h dL_law_382 (q := 383) rfl ?_
    refine v_sld h hX hbl hbA (t := 6 * j + 4) (nI_add _ _) (by omega) (by omega) dL_law_383 (q := 384) rfl ?_
    refine v_if_eq h dL_law_384 (q := 387) rfl (tgt := 391) (by decide) (fun _ => ?_) (fun c9 => absurd hz c9)
    refine v_iconst h (v := nI 0) dL_law_391 (q := 392) rfl (by decide +kernel) ?_
    refine v_aload_n h (i := 3) dL_law_392 (q := 393) rfl rfl rfl ?_
    refine v_callSH h hM kL_setNeed (fun h9 => nomatch h9) tw435 rfl rfl (by simp [Value.category]) (by omega) (by omega) (by omega) rfl dL_law_393 (q := 396) rfl ?_ (fun E sz9 sk9 rf9 sg9 hx9 => nomatch (hP _ _ _ _ _ hx9).1)
    intro v1 sz1 sk1 rf1 sg1 hp1
    obtain ⟨e1, d8, w8, sg2, hd8, hPw, hM8, ht, ho, hI2⟩ := hP _ _ _ _ _ hp1
    cases e1
    obtain ⟨nn, B, par, hsk, -⟩ := id hI2
    have hm1 := hsk.2.2.1
    have hO1 := hsk.2.2.2.1
    refine v_istore h dL_law_396 (q := 398) rfl (Nat.le_of_ble_eq_true rfl) rfl ?_
    refine v_aload_n h (i := 2) dL_law_398 (q := 399) rfl rfl rfl ?_
    refine v_aload_n h (i := 0) dL_law_399 (q := 400) rfl rfl rfl ?_
    refine v_iload h dL_law_400 (q := 402) rfl rfl ?_
    refine v_iconst h (v := nI 1) dL_law_402 (q := 403) rfl (by decide +kernel) ?_
    refine v_iadd h dL_law_403 (q := 404) rfl ?_
    refine v_sld h hX hbl hbA (t := 6 * j + 1) (nI_add _ _) (by omega) (by omega) dL_law_404 (q := 405) rfl ?_
    refine v_aload_n h (i := 0) dL_law_405 (q := 406) rfl rfl rfl ?_
    refine v_iload h dL_law_406 (q := 408) rfl rfl ?_
    refine v_iconst h (v := nI 2) dL_law_408 (q := 409) rfl (by decide +kernel) ?_
    refine v_iadd h dL_law_409 (q := 410) rfl ?_
    refine v_sld h hX hbl hbA (t := 6 * j + 2) (nI_add _ _) (by omega) (by omega) dL_law_410 (q := 411) rfl ?_
    refine v_aload_n h (i := 0) dL_law_411 (q := 412) rfl rfl rfl ?_
    refine v_iload h dL_law_412 (q := 414) rfl rfl ?_
    refine v_iconst h (v := nI 3) dL_law_414 (q := 415) rfl (by decide +kernel) ?_
    refine v_iadd h dL_law_415 (q := 416) rfl ?_
    refine v_sld h hX hbl hbA (t := 6 * j + 3) (nI_add _ _) (by omega) (by omega) dL_law_416 (q := 417) rfl ?_
    refine v_aload_n h (i := 0) dL_law_417 (q := 418) rfl rfl rfl ?_
    refine v_iload h dL_law_418 (q := 420) rfl rfl ?_
    refine v_iconst h (v := nI 4) dL_law_420 (q := 421) rfl (by decide +kernel) ?_
    refine v_iadd h dL_law_421 (q := 422) rfl ?_
    refine v_sld h hX hbl hbA (t := 6 * j + 4) (nI_add _ _) (by omega) (by omega) dL_law_422 (q := 423) rfl ?_
    refine v_if_eq h dL_law_423 (q := 426) rfl (tgt := 430) (by decide) (fun _ => ?_) (fun c9 => absurd hz c9)
    refine v_iconst h (v := nI 0) dL_law_430 (q := 431) rfl (by decide +kernel) ?_
    refine v_callV1 h hM8 kX8_setNeed tw960 tw962 hm1.1 (by decide) rfl rfl rfl (by simp [Value.category]) (by omega) (by omega) (by omega) rfl dL_law_431 (q := 434) rfl ?_
    refine v_istore h dL_law_434 (q := 436) rfl (Nat.le_of_ble_eq_true rfl) rfl ?_
    refine v_aload_n h (i := 2) dL_law_436 (q := 437) rfl rfl rfl ?_
    refine v_callV1 h (c_X8_thrown hfl hm1) kX8_thrown tw911 tw913 hm1.1 (by decide) rfl rfl rfl (by simp [Value.category]) (by omega) (by omega) (by omega) rfl dL_law_437 (q := 440) rfl ?_
    refine v_iload h dL_law_440 (q := 442) rfl rfl ?_
    refine v_icmp_eq h dL_law_442 (q := 445) rfl (tgt := 447) (by decide) (fun _ => ?_) (fun c9 => absurd ht c9)
    refine v_iload h dL_law_447 (q := 449) rfl rfl ?_
    refine v_if_ne h dL_law_449 (q := 452) rfl (tgt := 471) (by decide) (fun _ => ?_) (fun c9 => ?_)
    · refine v_goto h dL_law_471 (tgt := 2247) (by decide) ?_
      refine v_widen (c2 := cells + 18) (s2 := slots + 400) (by omega) (by omega) ?_
      exact kk _ _ _ _ _ _ hI2
    · have hk0 : k0 = 0 := (nI_eq (by omega) (by omega)).mp c9
      refine v_aload_n h (i := 3) dL_law_452 (q := 453) rfl rfl rfl ?_
      refine v_iconst h (v := nI 0) dL_law_453 (q := 454) rfl (by decide +kernel) ?_
      refine v_lald h hO1 rfl (by decide) (by decide) dL_law_454 (q := 455) rfl ?_
      rw [ho hk0]
      refine v_iload h dL_law_455 (q := 457) rfl rfl ?_
      obtain ⟨bv, rfl⟩ := hPw
      cases bv
      · refine v_if_eq h dL_law_457 (q := 460) rfl (tgt := 464) (by decide) (fun _ => ?_) (fun c8 => absurd rfl c8)
        refine v_lconst h (v := (nI 0).toInt64) dL_law_464 (q := 465) rfl (by decide) ?_
        refine v_lcmp h dL_law_465 (q := 466) rfl ?_
        refine v_if_eq h dL_law_466 (q := 469) rfl (tgt := 471) (by decide) (fun _ => ?_) (fun c8 => absurd ((lg_cmp_eq _ _).mpr rfl) c8)
        refine v_goto h dL_law_471 (tgt := 2247) (by decide) ?_
        refine v_widen (c2 := cells + 18) (s2 := slots + 400) (by omega) (by omega) ?_
        exact kk _ _ _ _ _ _ hI2
      · refine v_if_eq h dL_law_457 (q := 460) rfl (tgt := 464) (by decide) (fun c8 => absurd c8 (by decide)) (fun _ => ?_)
        refine v_lconst h (v := (nI 1).toInt64) dL_law_460 (q := 461) rfl (by decide) ?_
        refine v_goto h dL_law_461 (tgt := 465) (by decide) ?_
        refine v_lcmp h dL_law_465 (q := 466) rfl ?_
        refine v_if_eq h dL_law_466 (q := 469) rfl (tgt := 471) (by decide) (fun _ => ?_) (fun c8 => absurd ((lg_cmp_eq _ _).mpr rfl) c8)
        refine v_goto h dL_law_471 (tgt := 2247) (by decide) ?_
        refine v_widen (c2 := cells + 18) (s2 := slots + 400) (by omega) (by omega) ?_
        exact kk _ _ _ _ _ _ hI2
  · obtain ⟨k0, kc, nc, post, hk3, hkc, hnc, hM, hP⟩ := pq_st_setNeed hfl hI (xs (6 * j + 1)) (xs (6 * j + 2)) (xs (6 * j + 3)) true
    refine v_aload_n h (i := 1) dL_law_359 (q := 360) rfl rfl rfl ?_
    refine v_aload_n h (i := 0) dL_law_360 (q := 361) rfl rfl rfl ?_
    refine v_iload h dL_law_361 (q := 363) rfl rfl ?_
    refine v_iconst h (v := nI 1) dL_law_363 (q := 364) rfl (by decide +kernel) ?_
    refine v_iadd h dL_law_364 (q := 365) rfl ?_
    refine v_sld h hX hbl hbA (t := 6 * j + 1) (nI_add _ _) (by omega) (by omega) dL_law_365 (q := 366) rfl ?_
    refine v_aload_n h (i := 0) dL_law_366 (q := 367) rfl rfl rfl ?_
    refine v_iload h dL_law_367 (q := 369) rfl rfl ?_
    refine v_iconst h (v := nI 2) dL_law_369 (q := 370) rfl (by decide +kernel) ?_
    refine v_iadd h dL_law_370 (q := 371) rfl ?_
    refine v_sld h hX hbl hbA (t := 6 * j + 2) (nI_add _ _) (by omega) (by omega) dL_law_371 (q := 372) rfl ?_
    refine v_aload_n h (i := 0) dL_law_372 (q := 373) rfl rfl rfl ?_
    refine v_iload h dL_law_373 (q := 375) rfl rfl ?_
    refine v_iconst h (v := nI 3) dL_law_375 (q := 376) rfl (by decide +kernel) ?_
    refine v_iadd h dL_law_376 (q := 377) rfl ?_
    refine v_sld h hX hbl hbA (t := 6 * j + 3) (nI_add _ _) (by omega) (by omega) dL_law_377 (q := 378) rfl ?_
    refine v_aload_n h (i := 0) dL_law_378 (q := 379) rfl rfl rfl ?_
    refine v_iload h dL_law_379 (q := 381) rfl rfl ?_
    refine v_iconst h (v := nI 4) dL_law_381 (q := 382) rfl (by decide +kernel) ?_
    refine v_iadd h dL_law_382 (q := 383) rfl ?_
    refine v_sld h hX hbl hbA (t := 6 * j + 4) (nI_add _ _) (by omega) (by omega) dL_law_383 (q := 384) rfl ?_
    refine v_if_eq h dL_law_384 (q := 387) rfl (tgt := 391) (by decide) (fun c9 => absurd c9 hz) (fun _ => ?_)
    refine v_iconst h (v := nI 1) dL_law_387 (q := 388) rfl (by decide +kernel) ?_
    refine v_goto h dL_law_388 (tgt := 392) (by decide) ?_
    refine v_aload_n h (i := 3) dL_law_392 (q := 393) rfl rfl rfl ?_
    refine v_callSH h hM kL_setNeed (fun h9 => nomatch h9) tw435 rfl rfl (by simp [Value.category]) (by omega) (by omega) (by omega) rfl dL_law_393 (q := 396) rfl ?_ (fun E sz9 sk9 rf9 sg9 hx9 => nomatch (hP _ _ _ _ _ hx9).1)
    intro v1 sz1 sk1 rf1 sg1 hp1
    obtain ⟨e1, d8, w8, sg2, hd8, hPw, hM8, ht, ho, hI2⟩ := hP _ _ _ _ _ hp1
    cases e1
    obtain ⟨nn, B, par, hsk, -⟩ := id hI2
    have hm1 := hsk.2.2.1
    have hO1 := hsk.2.2.2.1
    refine v_istore h dL_law_396 (q := 398) rfl (Nat.le_of_ble_eq_true rfl) rfl ?_
    refine v_aload_n h (i := 2) dL_law_398 (q := 399) rfl rfl rfl ?_
    refine v_aload_n h (i := 0) dL_law_399 (q := 400) rfl rfl rfl ?_
    refine v_iload h dL_law_400 (q := 402) rfl rfl ?_
    refine v_iconst h (v := nI 1) dL_law_402 (q := 403) rfl (by decide +kernel) ?_
    refine v_iadd h dL_law_403 (q := 404) rfl ?_
    refine v_sld h hX hbl hbA (t := 6 * j + 1) (nI_add _ _) (by omega) (by omega) dL_law_404 (q := 405) rfl ?_
    refine v_aload_n h (i := 0) dL_law_405 (q := 406) rfl rfl rfl ?_
    refine v_iload h dL_law_406 (q := 408) rfl rfl ?_
    refine v_iconst h (v := nI 2) dL_law_408 (q := 409) rfl (by decide +kernel) ?_
    refine v_iadd h dL_law_409 (q := 410) rfl ?_
    refine v_sld h hX hbl hbA (t := 6 * j + 2) (nI_add _ _) (by omega) (by omega) dL_law_410 (q := 411) rfl ?_
    refine v_aload_n h (i := 0) dL_law_411 (q := 412) rfl rfl rfl ?_
    refine v_iload h dL_law_412 (q := 414) rfl rfl ?_
    refine v_iconst h (v := nI 3) dL_law_414 (q := 415) rfl (by decide +kernel) ?_
    refine v_iadd h dL_law_415 (q := 416) rfl ?_
    refine v_sld h hX hbl hbA (t := 6 * j + 3) (nI_add _ _) (by omega) (by omega) dL_law_416 (q := 417) rfl ?_
    refine v_aload_n h (i := 0) dL_law_417 (q := 418) rfl rfl rfl ?_
    refine v_iload h dL_law_418 (q := 420) rfl rfl ?_
    refine v_iconst h (v := nI 4) dL_law_420 (q := 421) rfl (by decide +kernel) ?_
    refine v_iadd h dL_law_421 (q := 422) rfl ?_
    refine v_sld h hX hbl hbA (t := 6 * j + 4) (nI_add _ _) (by omega) (by omega) dL_law_422 (q := 423) rfl ?_
    refine v_if_eq h dL_law_423 (q := 426) rfl (tgt := 430) (by decide) (fun c9 => absurd c9 hz) (fun _ => ?_)
    refine v_iconst h (v := nI 1) dL_law_426 (q := 427) rfl (by decide +kernel) ?_
    refine v_goto h dL_law_427 (tgt := 431) (by decide) ?_
    refine v_callV1 h hM8 kX8_setNeed tw960 tw962 hm1.1 (by decide) rfl rfl rfl (by simp [Value.category]) (by omega) (by omega) (by omega) rfl dL_law_431 (q := 434) rfl ?_
    refine v_istore h dL_law_434 (q := 436) rfl (Nat.le_of_ble_eq_true rfl) rfl ?_
    refine v_aload_n h (i := 2) dL_law_436 (q := 437) rfl rfl rfl ?_
    refine v_callV1 h (c_X8_thrown hfl hm1) kX8_thrown tw911 tw913 hm1.1 (by decide) rfl rfl rfl (by simp [Value.category]) (by omega) (by omega) (by omega) rfl dL_law_437 (q := 440) rfl ?_
    refine v_iload h dL_law_440 (q := 442) rfl rfl ?_
    refine v_icmp_eq h dL_law_442 (q := 445) rfl (tgt := 447) (by decide) (fun _ => ?_) (fun c9 => absurd ht c9)
    refine v_iload h dL_law_447 (q := 449) rfl rfl ?_
    refine v_if_ne h dL_law_449 (q := 452) rfl (tgt := 471) (by decide) (fun _ => ?_) (fun c9 => ?_)
    · refine v_goto h dL_law_471 (tgt := 2247) (by decide) ?_
      refine v_widen (c2 := cells + 18) (s2 := slots + 400) (by omega) (by omega) ?_
      exact kk _ _ _ _ _ _ hI2
    · have hk0 : k0 = 0 := (nI_eq (by omega) (by omega)).mp c9
      refine v_aload_n h (i := 3) dL_law_452 (q := 453) rfl rfl rfl ?_
      refine v_iconst h (v := nI 0) dL_law_453 (q := 454) rfl (by decide +kernel) ?_
      refine v_lald h hO1 rfl (by decide) (by decide) dL_law_454 (q := 455) rfl ?_
      rw [ho hk0]
      refine v_iload h dL_law_455 (q := 457) rfl rfl ?_
      obtain ⟨bv, rfl⟩ := hPw
      cases bv
      · refine v_if_eq h dL_law_457 (q := 460) rfl (tgt := 464) (by decide) (fun _ => ?_) (fun c8 => absurd rfl c8)
        refine v_lconst h (v := (nI 0).toInt64) dL_law_464 (q := 465) rfl (by decide) ?_
        refine v_lcmp h dL_law_465 (q := 466) rfl ?_
        refine v_if_eq h dL_law_466 (q := 469) rfl (tgt := 471) (by decide) (fun _ => ?_) (fun c8 => absurd ((lg_cmp_eq _ _).mpr rfl) c8)
        refine v_goto h dL_law_471 (tgt := 2247) (by decide) ?_
        refine v_widen (c2 := cells + 18) (s2 := slots + 400) (by omega) (by omega) ?_
        exact kk _ _ _ _ _ _ hI2
      · refine v_if_eq h dL_law_457 (q := 460) rfl (tgt := 464) (by decide) (fun c8 => absurd c8 (by decide)) (fun _ => ?_)
        refine v_lconst h (v := (nI 1).toInt64) dL_law_460 (q := 461) rfl (by decide) ?_
        refine v_goto h dL_law_461 (tgt := 465) (by decide) ?_
        refine v_lcmp h dL_law_465 (q := 466) rfl ?_
        refine v_if_eq h dL_law_466 (q := 469) rfl (tgt := 471) (by decide) (fun _ => ?_) (fun c8 => absurd ((lg_cmp_eq _ _).mpr rfl) c8)
        refine v_goto h dL_law_471 (tgt := 2247) (by decide) ?_
        refine v_widen (c2 := cells + 18) (s2 := slots + 400) (by omega) (by omega) ?_
        exact kk _ _ _ _ _ _ hI2
set_option maxHeartbeats 4000000 in
set_option maxRecDepth 100000 in
theorem lw_case_3 {F : pb_F} {d k n cells slots sz b N j X : Nat} {sk : pb_Sk} {rf : pb_Rf} {sg : pb_Sg} {xs : Nat → Int32} {v5 v6 : Option Value} (h : pb_Fx F mL_law d k n) (hfl : (pb_l F).stackTraces = false) (hX : va_X b N xs (pb_s F) (pb_s F).heap) (hbl : b < (pb_s F).heap.size) (hbA : ¬ pb_own (pb_g F) b) (hN : N ≤ 3072) (hj : 6 * j + 6 ≤ N) (hd : 30 ≤ d) (hc : cells + 18 ≤ k) (hs : slots + 400 ≤ n) (hI : pq_INV X sz sk rf sg) (kk : ∀ sz' sk' rf' sg' v5' v6', pq_INV X sz' sk' rf' sg' → pv F (cells + 18) (slots + 400) sz' sk' rf' sg' 2247 [some (.ref b), some (.ref X), some (.ref (X + 45)), some (.ref (X + 70)), some (.int (nI (6 * j))), v5', v6'] []) : pv F cells slots sz sk rf sg 474 [some (.ref b), some (.ref X), some (.ref (X + 45)), some (.ref (X + 70)), some (.int (nI (6 * j))), v5, v6] [] := by
  obtain ⟨k0, kc, nc, post, hk3, hkc, hnc, hM, hP⟩ := pq_st_undo hfl hI (xs (6 * j + 1))
  refine v_aload_n h (i := 1) dL_law_474 (q := 475) rfl rfl rfl ?_
  refine v_aload_n h (i := 0) dL_law_475 (q := 476) rfl rfl rfl ?_
  refine v_iload h dL_law_476 (q := 478) rfl rfl ?_
  refine v_iconst h (v := nI 1) dL_law_478 (q := 479) rfl (by decide +kernel) ?_
  refine v_iadd h dL_law_479 (q := 480) rfl ?_
  refine v_sld h hX hbl hbA (t := 6 * j + 1) (nI_add _ _) (by omega) (by omega) dL_law_480 (q := 481) rfl ?_
  refine v_aload_n h (i := 3) dL_law_481 (q := 482) rfl rfl rfl ?_
  refine v_callSH h hM kL_undo (fun h9 => nomatch h9) tw450 rfl rfl (by simp [Value.category]) (by omega) (by omega) (by omega) rfl dL_law_482 (q := 485) rfl ?_ (fun E sz9 sk9 rf9 sg9 hx9 => nomatch (hP _ _ _ _ _ hx9).1)
  intro v1 sz1 sk1 rf1 sg1 hp1
  obtain ⟨e1, d8, w8, sg2, hd8, hPw, hM8, ht, ho, hI2⟩ := hP _ _ _ _ _ hp1
  cases e1
  obtain ⟨nn, B, par, hsk, -⟩ := id hI2
  have hm1 := hsk.2.2.1
  have hO1 := hsk.2.2.2.1
  refine v_istore h dL_law_485 (q := 487) rfl (Nat.le_of_ble_eq_true rfl) rfl ?_
  refine v_aload_n h (i := 2) dL_law_487 (q := 488) rfl rfl rfl ?_
  refine v_aload_n h (i := 0) dL_law_488 (q := 489) rfl rfl rfl ?_
  refine v_iload h dL_law_489 (q := 491) rfl rfl ?_
  refine v_iconst h (v := nI 1) dL_law_491 (q := 492) rfl (by decide +kernel) ?_
  refine v_iadd h dL_law_492 (q := 493) rfl ?_
  refine v_sld h hX hbl hbA (t := 6 * j + 1) (nI_add _ _) (by omega) (by omega) dL_law_493 (q := 494) rfl ?_
  refine v_callV1 h hM8 kX8_undo tw968 tw970 hm1.1 (by decide) rfl rfl rfl (by simp [Value.category]) (by omega) (by omega) (by omega) rfl dL_law_494 (q := 497) rfl ?_
  refine v_istore h dL_law_497 (q := 499) rfl (Nat.le_of_ble_eq_true rfl) rfl ?_
  refine v_aload_n h (i := 2) dL_law_499 (q := 500) rfl rfl rfl ?_
  refine v_callV1 h (c_X8_thrown hfl hm1) kX8_thrown tw911 tw913 hm1.1 (by decide) rfl rfl rfl (by simp [Value.category]) (by omega) (by omega) (by omega) rfl dL_law_500 (q := 503) rfl ?_
  refine v_iload h dL_law_503 (q := 505) rfl rfl ?_
  refine v_icmp_eq h dL_law_505 (q := 508) rfl (tgt := 510) (by decide) (fun _ => ?_) (fun c9 => absurd ht c9)
  refine v_iload h dL_law_510 (q := 512) rfl rfl ?_
  refine v_if_ne h dL_law_512 (q := 515) rfl (tgt := 527) (by decide) (fun _ => ?_) (fun c9 => ?_)
  · refine v_goto h dL_law_527 (tgt := 2247) (by decide) ?_
    refine v_widen (c2 := cells + 18) (s2 := slots + 400) (by omega) (by omega) ?_
    exact kk _ _ _ _ _ _ hI2
  · have hk0 : k0 = 0 := (nI_eq (by omega) (by omega)).mp c9
    refine v_aload_n h (i := 3) dL_law_515 (q := 516) rfl rfl rfl ?_
    refine v_iconst h (v := nI 0) dL_law_516 (q := 517) rfl (by decide +kernel) ?_
    refine v_lald h hO1 rfl (by decide) (by decide) dL_law_517 (q := 518) rfl ?_
    rw [ho hk0]
    refine v_iload h dL_law_518 (q := 520) rfl rfl ?_
    refine v_i2l h dL_law_520 (q := 521) rfl ?_
    refine v_lcmp h dL_law_521 (q := 522) rfl ?_
    refine v_if_eq h dL_law_522 (q := 525) rfl (tgt := 527) (by decide) (fun _ => ?_) (fun c8 => absurd ((lg_cmp_eq _ _).mpr rfl) c8)
    refine v_goto h dL_law_527 (tgt := 2247) (by decide) ?_
    refine v_widen (c2 := cells + 18) (s2 := slots + 400) (by omega) (by omega) ?_
    exact kk _ _ _ _ _ _ hI2
