theorem law_0 {G : jG} {cl sl b L : Nat} {xs : Nat → Int32} {i : Int} {M : jMem} (hcs : cl ≤ room_1.cells ∧ sl ≤ room_1.slots) (h0 : 0 ≤ i) (h1 : i + 6 ≤ L) (hL : L ≤ 3072) (hJ : jJ M) (k : ∀ M', jJ M' → jX G mLaw room_1 cl sl (jlE G b L xs) lw_Z 1168 [.ref b, .ref (jad G 0), .ref (jad G 8), .int (jI i)] [] M') : jX G mLaw room_1 cl sl (jlE G b L xs) lw_Z 168 [.ref b, .ref (jad G 0), .ref (jad G 8), .int (jI i)] [] M := by
  refine jr_aload_n (n := 169) dL_law_168 rfl rfl ?_
  refine jr_aload_n (n := 170) dL_law_169 rfl rfl ?_
  refine jr_iload_n (n := 171) dL_law_170 rfl rfl ?_
  refine jr_iconst (n := 172) dL_law_171 rfl ?_
  refine jr_iadd (n := 173) dL_law_172 rfl ?_
  refine jr_sld (n := 174) dL_law_173 rfl (by omega) (by omega) (by omega) ?_
  refine jr_aload_n (n := 175) dL_law_174 rfl rfl ?_
  refine jr_iload_n (n := 176) dL_law_175 rfl rfl ?_
  refine jr_iconst (n := 177) dL_law_176 rfl ?_
  refine jr_iadd (n := 178) dL_law_177 rfl ?_
  refine jr_sld (n := 179) dL_law_178 rfl (by omega) (by omega) (by omega) ?_
  refine jr_aload_n (n := 180) dL_law_179 rfl rfl ?_
  refine jr_iload_n (n := 181) dL_law_180 rfl rfl ?_
  refine jr_iconst (n := 182) dL_law_181 rfl ?_
  refine jr_iadd (n := 183) dL_law_182 rfl ?_
  refine jr_sld (n := 184) dL_law_183 rfl (by omega) (by omega) (by omega) ?_
  refine jr_gV3 (d := 30) (n := 187) (ci := 7) (ν := mX7_newCase) dL_law_184 rfl lL_13 kX7_newCase iX7_newCase rfl ⟨_, rfl, rfl⟩ (by decide) (Nat.le_of_ble_eq_true rfl) (Nat.le_of_ble_eq_true rfl) rfl ⟨Nat.le_of_ble_eq_true rfl, Nat.le_of_ble_eq_true rfl⟩ hcs ?_
  refine jN_mono (g_newCase hJ (jI_R _) (jI_R _) (jI_R _)) (fun v9 M9 h9 => ?_)
  refine jr_aload_n (n := 188) dL_law_187 rfl rfl ?_
  refine jr_aload_n (n := 189) dL_law_188 rfl rfl ?_
  refine jr_iload_n (n := 190) dL_law_189 rfl rfl ?_
  refine jr_iconst (n := 191) dL_law_190 rfl ?_
  refine jr_iadd (n := 192) dL_law_191 rfl ?_
  refine jr_sld (n := 193) dL_law_192 rfl (by omega) (by omega) (by omega) ?_
  refine jr_aload_n (n := 194) dL_law_193 rfl rfl ?_
  refine jr_iload_n (n := 195) dL_law_194 rfl rfl ?_
  refine jr_iconst (n := 196) dL_law_195 rfl ?_
  refine jr_iadd (n := 197) dL_law_196 rfl ?_
  refine jr_sld (n := 198) dL_law_197 rfl (by omega) (by omega) (by omega) ?_
  refine jr_aload_n (n := 199) dL_law_198 rfl rfl ?_
  refine jr_iload_n (n := 200) dL_law_199 rfl rfl ?_
  refine jr_iconst (n := 201) dL_law_200 rfl ?_
  refine jr_iadd (n := 202) dL_law_201 rfl ?_
  refine jr_sld (n := 203) dL_law_202 rfl (by omega) (by omega) (by omega) ?_
  refine jr_gV3 (d := 30) (n := 206) (ci := 8) (ν := mX8_newCase) dL_law_203 rfl lL_17 kX8_newCase iX8_newCase rfl ⟨_, rfl, rfl⟩ (by decide) (jcat_push v9) (Nat.le_of_ble_eq_true rfl) rfl ⟨Nat.le_of_ble_eq_true rfl, Nat.le_of_ble_eq_true rfl⟩ hcs ?_
  refine jN_mono h9 (fun v8 M8 h8 => ?_)
  obtain ⟨z, e1, e2, hJ8⟩ := h8
  subst e1
  subst e2
  refine jr_lcmp (n := 207) dL_law_206 rfl ?_
  refine jr_ifT_eq (t := 1168) dL_law_207 (by decide) (jlc_R _ _) (jlc_self _) ?_
  exact k M8 hJ8
theorem law_1 {G : jG} {cl sl b L : Nat} {xs : Nat → Int32} {i : Int} {M : jMem} (hcs : cl ≤ room_1.cells ∧ sl ≤ room_1.slots) (h0 : 0 ≤ i) (h1 : i + 6 ≤ L) (hL : L ≤ 3072) (hJ : jJ M) (k : ∀ M', jJ M' → jX G mLaw room_1 cl sl (jlE G b L xs) lw_Z 1168 [.ref b, .ref (jad G 0), .ref (jad G 8), .int (jI i)] [] M') : jX G mLaw room_1 cl sl (jlE G b L xs) lw_Z 212 [.ref b, .ref (jad G 0), .ref (jad G 8), .int (jI i)] [] M := by
  refine jr_aload_n (n := 213) dL_law_212 rfl rfl ?_
  refine jr_aload_n (n := 214) dL_law_213 rfl rfl ?_
  refine jr_iload_n (n := 215) dL_law_214 rfl rfl ?_
  refine jr_iconst (n := 216) dL_law_215 rfl ?_
  refine jr_iadd (n := 217) dL_law_216 rfl ?_
  refine jr_sld (n := 218) dL_law_217 rfl (by omega) (by omega) (by omega) ?_
  refine jr_aload_n (n := 219) dL_law_218 rfl rfl ?_
  refine jr_iload_n (n := 220) dL_law_219 rfl rfl ?_
  refine jr_iconst (n := 221) dL_law_220 rfl ?_
  refine jr_iadd (n := 222) dL_law_221 rfl ?_
  refine jr_sld (n := 223) dL_law_222 rfl (by omega) (by omega) (by omega) ?_
  refine jr_gV2 (d := 30) (n := 226) (ci := 7) (ν := mX7_witness) dL_law_223 rfl lL_18 kX7_witness iX7_witness rfl ⟨_, rfl, rfl⟩ (by decide) (Nat.le_of_ble_eq_true rfl) (Nat.le_of_ble_eq_true rfl) rfl ⟨Nat.le_of_ble_eq_true rfl, Nat.le_of_ble_eq_true rfl⟩ hcs ?_
  refine jN_mono (g_witness hJ (jI_R _) (jI_R _)) (fun v9 M9 h9 => ?_)
  refine jr_aload_n (n := 227) dL_law_226 rfl rfl ?_
  refine jr_aload_n (n := 228) dL_law_227 rfl rfl ?_
  refine jr_iload_n (n := 229) dL_law_228 rfl rfl ?_
  refine jr_iconst (n := 230) dL_law_229 rfl ?_
  refine jr_iadd (n := 231) dL_law_230 rfl ?_
  refine jr_sld (n := 232) dL_law_231 rfl (by omega) (by omega) (by omega) ?_
  refine jr_aload_n (n := 233) dL_law_232 rfl rfl ?_
  refine jr_iload_n (n := 234) dL_law_233 rfl rfl ?_
  refine jr_iconst (n := 235) dL_law_234 rfl ?_
  refine jr_iadd (n := 236) dL_law_235 rfl ?_
  refine jr_sld (n := 237) dL_law_236 rfl (by omega) (by omega) (by omega) ?_
  refine jr_gV2 (d := 30) (n := 240) (ci := 8) (ν := mX8_witness) dL_law_237 rfl lL_22 kX8_witness iX8_witness rfl ⟨_, rfl, rfl⟩ (by decide) (jcat_push v9) (Nat.le_of_ble_eq_true rfl) rfl ⟨Nat.le_of_ble_eq_true rfl, Nat.le_of_ble_eq_true rfl⟩ hcs ?_
  refine jN_mono h9 (fun v8 M8 h8 => ?_)
  obtain ⟨z, e1, e2, hJ8⟩ := h8
  subst e1
  subst e2
  refine jr_lcmp (n := 241) dL_law_240 rfl ?_
  refine jr_ifT_eq (t := 1168) dL_law_241 (by decide) (jlc_R _ _) (jlc_self _) ?_
  exact k M8 hJ8
theorem law_2 {G : jG} {cl sl b L : Nat} {xs : Nat → Int32} {i : Int} {M : jMem} (hcs : cl ≤ room_1.cells ∧ sl ≤ room_1.slots) (h0 : 0 ≤ i) (h1 : i + 6 ≤ L) (hL : L ≤ 3072) (hJ : jJ M) (k : ∀ M', jJ M' → jX G mLaw room_1 cl sl (jlE G b L xs) lw_Z 1168 [.ref b, .ref (jad G 0), .ref (jad G 8), .int (jI i)] [] M') : jX G mLaw room_1 cl sl (jlE G b L xs) lw_Z 246 [.ref b, .ref (jad G 0), .ref (jad G 8), .int (jI i)] [] M := by
  refine jr_aload_n (n := 247) dL_law_246 rfl rfl ?_
  refine jr_aload_n (n := 248) dL_law_247 rfl rfl ?_
  refine jr_iload_n (n := 249) dL_law_248 rfl rfl ?_
  refine jr_iconst (n := 250) dL_law_249 rfl ?_
  refine jr_iadd (n := 251) dL_law_250 rfl ?_
  refine jr_sld (n := 252) dL_law_251 rfl (by omega) (by omega) (by omega) ?_
  refine jr_aload_n (n := 253) dL_law_252 rfl rfl ?_
  refine jr_iload_n (n := 254) dL_law_253 rfl rfl ?_
  refine jr_iconst (n := 255) dL_law_254 rfl ?_
  refine jr_iadd (n := 256) dL_law_255 rfl ?_
  refine jr_sld (n := 257) dL_law_256 rfl (by omega) (by omega) (by omega) ?_
  refine jr_gV2 (d := 30) (n := 260) (ci := 7) (ν := mX7_isOf) dL_law_257 rfl lL_23 kX7_isOf iX7_isOf rfl ⟨_, rfl, rfl⟩ (by decide) (Nat.le_of_ble_eq_true rfl) (Nat.le_of_ble_eq_true rfl) rfl ⟨Nat.le_of_ble_eq_true rfl, Nat.le_of_ble_eq_true rfl⟩ hcs ?_
  refine jN_mono (g_isOf hJ (jI_R _) (jI_R _)) (fun v9 M9 h9 => ?_)
  refine jr_aload_n (n := 261) dL_law_260 rfl rfl ?_
  refine jr_aload_n (n := 262) dL_law_261 rfl rfl ?_
  refine jr_iload_n (n := 263) dL_law_262 rfl rfl ?_
  refine jr_iconst (n := 264) dL_law_263 rfl ?_
  refine jr_iadd (n := 265) dL_law_264 rfl ?_
  refine jr_sld (n := 266) dL_law_265 rfl (by omega) (by omega) (by omega) ?_
  refine jr_aload_n (n := 267) dL_law_266 rfl rfl ?_
  refine jr_iload_n (n := 268) dL_law_267 rfl rfl ?_
  refine jr_iconst (n := 269) dL_law_268 rfl ?_
  refine jr_iadd (n := 270) dL_law_269 rfl ?_
  refine jr_sld (n := 271) dL_law_270 rfl (by omega) (by omega) (by omega) ?_
  refine jr_gV2 (d := 30) (n := 274) (ci := 8) (ν := mX8_isOf) dL_law_271 rfl lL_26 kX8_isOf iX8_isOf rfl ⟨_, rfl, rfl⟩ (by decide) (jcat_push v9) (Nat.le_of_ble_eq_true rfl) rfl ⟨Nat.le_of_ble_eq_true rfl, Nat.le_of_ble_eq_true rfl⟩ hcs ?_
  refine jN_mono h9 (fun v8 M8 h8 => ?_)
  obtain ⟨z, e1, e2, hJ8⟩ := h8
  subst e1
  subst e2
  refine jr_lcmp (n := 275) dL_law_274 rfl ?_
  refine jr_ifT_eq (t := 1168) dL_law_275 (by decide) (jlc_R _ _) (jlc_self _) ?_
  exact k M8 hJ8
theorem law_3 {G : jG} {cl sl b L : Nat} {xs : Nat → Int32} {i : Int} {M : jMem} (hcs : cl ≤ room_1.cells ∧ sl ≤ room_1.slots) (h0 : 0 ≤ i) (h1 : i + 6 ≤ L) (hL : L ≤ 3072) (hJ : jJ M) (k : ∀ M', jJ M' → jX G mLaw room_1 cl sl (jlE G b L xs) lw_Z 1168 [.ref b, .ref (jad G 0), .ref (jad G 8), .int (jI i)] [] M') : jX G mLaw room_1 cl sl (jlE G b L xs) lw_Z 280 [.ref b, .ref (jad G 0), .ref (jad G 8), .int (jI i)] [] M := by
  refine jr_aload_n (n := 281) dL_law_280 rfl rfl ?_
  refine jr_aload_n (n := 282) dL_law_281 rfl rfl ?_
  refine jr_iload_n (n := 283) dL_law_282 rfl rfl ?_
  refine jr_iconst (n := 284) dL_law_283 rfl ?_
  refine jr_iadd (n := 285) dL_law_284 rfl ?_
  refine jr_sld (n := 286) dL_law_285 rfl (by omega) (by omega) (by omega) ?_
  refine jr_aload_n (n := 287) dL_law_286 rfl rfl ?_
  refine jr_iload_n (n := 288) dL_law_287 rfl rfl ?_
  refine jr_iconst (n := 289) dL_law_288 rfl ?_
  refine jr_iadd (n := 290) dL_law_289 rfl ?_
  refine jr_sld (n := 291) dL_law_290 rfl (by omega) (by omega) (by omega) ?_
  refine jr_gV2 (d := 30) (n := 294) (ci := 7) (ν := mX7_needs) dL_law_291 rfl lL_27 kX7_needs iX7_needs rfl ⟨_, rfl, rfl⟩ (by decide) (Nat.le_of_ble_eq_true rfl) (Nat.le_of_ble_eq_true rfl) rfl ⟨Nat.le_of_ble_eq_true rfl, Nat.le_of_ble_eq_true rfl⟩ hcs ?_
  refine jN_mono (g_needs hJ (jI_R _) (jI_R _)) (fun v9 M9 h9 => ?_)
  refine jr_aload_n (n := 295) dL_law_294 rfl rfl ?_
  refine jr_aload_n (n := 296) dL_law_295 rfl rfl ?_
  refine jr_iload_n (n := 297) dL_law_296 rfl rfl ?_
  refine jr_iconst (n := 298) dL_law_297 rfl ?_
  refine jr_iadd (n := 299) dL_law_298 rfl ?_
  refine jr_sld (n := 300) dL_law_299 rfl (by omega) (by omega) (by omega) ?_
  refine jr_aload_n (n := 301) dL_law_300 rfl rfl ?_
  refine jr_iload_n (n := 302) dL_law_301 rfl rfl ?_
  refine jr_iconst (n := 303) dL_law_302 rfl ?_
  refine jr_iadd (n := 304) dL_law_303 rfl ?_
  refine jr_sld (n := 305) dL_law_304 rfl (by omega) (by omega) (by omega) ?_
  refine jr_gV2 (d := 30) (n := 308) (ci := 8) (ν := mX8_needs) dL_law_305 rfl lL_30 kX8_needs iX8_needs rfl ⟨_, rfl, rfl⟩ (by decide) (jcat_push v9) (Nat.le_of_ble_eq_true rfl) rfl ⟨Nat.le_of_ble_eq_true rfl, Nat.le_of_ble_eq_true rfl⟩ hcs ?_
  refine jN_mono h9 (fun v8 M8 h8 => ?_)
  obtain ⟨z, e1, e2, hJ8⟩ := h8
  subst e1
  subst e2
  refine jr_lcmp (n := 309) dL_law_308 rfl ?_
  refine jr_ifT_eq (t := 1168) dL_law_309 (by decide) (jlc_R _ _) (jlc_self _) ?_
  exact k M8 hJ8
theorem law_4 {G : jG} {cl sl b L : Nat} {xs : Nat → Int32} {i : Int} {M : jMem} (hcs : cl ≤ room_1.cells ∧ sl ≤ room_1.slots) (h0 : 0 ≤ i) (h1 : i + 6 ≤ L) (hL : L ≤ 3072) (hJ : jJ M) (k : ∀ M', jJ M' → jX G mLaw room_1 cl sl (jlE G b L xs) lw_Z 1168 [.ref b, .ref (jad G 0), .ref (jad G 8), .int (jI i)] [] M') : jX G mLaw room_1 cl sl (jlE G b L xs) lw_Z 314 [.ref b, .ref (jad G 0), .ref (jad G 8), .int (jI i)] [] M := by
  refine jr_aload_n (n := 315) dL_law_314 rfl rfl ?_
  refine jr_aload_n (n := 316) dL_law_315 rfl rfl ?_
  refine jr_iload_n (n := 317) dL_law_316 rfl rfl ?_
  refine jr_iconst (n := 318) dL_law_317 rfl ?_
  refine jr_iadd (n := 319) dL_law_318 rfl ?_
  refine jr_sld (n := 320) dL_law_319 rfl (by omega) (by omega) (by omega) ?_
  refine jr_aload_n (n := 321) dL_law_320 rfl rfl ?_
  refine jr_iload_n (n := 322) dL_law_321 rfl rfl ?_
  refine jr_iconst (n := 323) dL_law_322 rfl ?_
  refine jr_iadd (n := 324) dL_law_323 rfl ?_
  refine jr_sld (n := 325) dL_law_324 rfl (by omega) (by omega) (by omega) ?_
  refine jr_gV2 (d := 30) (n := 328) (ci := 7) (ν := mX7_fold) dL_law_325 rfl lL_31 kX7_fold iX7_fold rfl ⟨_, rfl, rfl⟩ (by decide) (Nat.le_of_ble_eq_true rfl) (Nat.le_of_ble_eq_true rfl) rfl ⟨Nat.le_of_ble_eq_true rfl, Nat.le_of_ble_eq_true rfl⟩ hcs ?_
  refine jN_mono (g_fold hJ (jI_R _) (jI_R _)) (fun v9 M9 h9 => ?_)
  refine jr_aload_n (n := 329) dL_law_328 rfl rfl ?_
  refine jr_aload_n (n := 330) dL_law_329 rfl rfl ?_
  refine jr_iload_n (n := 331) dL_law_330 rfl rfl ?_
  refine jr_iconst (n := 332) dL_law_331 rfl ?_
  refine jr_iadd (n := 333) dL_law_332 rfl ?_
  refine jr_sld (n := 334) dL_law_333 rfl (by omega) (by omega) (by omega) ?_
  refine jr_aload_n (n := 335) dL_law_334 rfl rfl ?_
  refine jr_iload_n (n := 336) dL_law_335 rfl rfl ?_
  refine jr_iconst (n := 337) dL_law_336 rfl ?_
  refine jr_iadd (n := 338) dL_law_337 rfl ?_
  refine jr_sld (n := 339) dL_law_338 rfl (by omega) (by omega) (by omega) ?_
  refine jr_gV2 (d := 30) (n := 342) (ci := 8) (ν := mX8_fold) dL_law_339 rfl lL_34 kX8_fold iX8_fold rfl ⟨_, rfl, rfl⟩ (by decide) (jcat_push v9) (Nat.le_of_ble_eq_true rfl) rfl ⟨Nat.le_of_ble_eq_true rfl, Nat.le_of_ble_eq_true rfl⟩ hcs ?_
  refine jN_mono h9 (fun v8 M8 h8 => ?_)
  obtain ⟨z, e1, e2, hJ8⟩ := h8
  subst e1
  subst e2
  refine jr_lcmp (n := 343) dL_law_342 rfl ?_
  refine jr_ifT_eq (t := 1168) dL_law_343 (by decide) (jlc_R _ _) (jlc_self _) ?_
  exact k M8 hJ8
theorem law_5 {G : jG} {cl sl b L : Nat} {xs : Nat → Int32} {i : Int} {M : jMem} (hcs : cl ≤ room_1.cells ∧ sl ≤ room_1.slots) (h0 : 0 ≤ i) (h1 : i + 6 ≤ L) (hL : L ≤ 3072) (hJ : jJ M) (k : ∀ M', jJ M' → jX G mLaw room_1 cl sl (jlE G b L xs) lw_Z 1168 [.ref b, .ref (jad G 0), .ref (jad G 8), .int (jI i)] [] M') : jX G mLaw room_1 cl sl (jlE G b L xs) lw_Z 348 [.ref b, .ref (jad G 0), .ref (jad G 8), .int (jI i)] [] M := by
  refine jr_aload_n (n := 349) dL_law_348 rfl rfl ?_
  refine jr_aload_n (n := 350) dL_law_349 rfl rfl ?_
  refine jr_iload_n (n := 351) dL_law_350 rfl rfl ?_
  refine jr_iconst (n := 352) dL_law_351 rfl ?_
  refine jr_iadd (n := 353) dL_law_352 rfl ?_
  refine jr_sld (n := 354) dL_law_353 rfl (by omega) (by omega) (by omega) ?_
  refine jr_aload_n (n := 355) dL_law_354 rfl rfl ?_
  refine jr_iload_n (n := 356) dL_law_355 rfl rfl ?_
  refine jr_iconst (n := 357) dL_law_356 rfl ?_
  refine jr_iadd (n := 358) dL_law_357 rfl ?_
  refine jr_sld (n := 359) dL_law_358 rfl (by omega) (by omega) (by omega) ?_
  refine jr_gV2 (d := 30) (n := 362) (ci := 7) (ν := mX7_told) dL_law_359 rfl lL_35 kX7_told iX7_told rfl ⟨_, rfl, rfl⟩ (by decide) (Nat.le_of_ble_eq_true rfl) (Nat.le_of_ble_eq_true rfl) rfl ⟨Nat.le_of_ble_eq_true rfl, Nat.le_of_ble_eq_true rfl⟩ hcs ?_
  refine jN_mono (g_told hJ (jI_R _) (jI_R _)) (fun v9 M9 h9 => ?_)
  refine jr_aload_n (n := 363) dL_law_362 rfl rfl ?_
  refine jr_aload_n (n := 364) dL_law_363 rfl rfl ?_
  refine jr_iload_n (n := 365) dL_law_364 rfl rfl ?_
  refine jr_iconst (n := 366) dL_law_365 rfl ?_
  refine jr_iadd (n := 367) dL_law_366 rfl ?_
  refine jr_sld (n := 368) dL_law_367 rfl (by omega) (by omega) (by omega) ?_
  refine jr_aload_n (n := 369) dL_law_368 rfl rfl ?_
  refine jr_iload_n (n := 370) dL_law_369 rfl rfl ?_
  refine jr_iconst (n := 371) dL_law_370 rfl ?_
  refine jr_iadd (n := 372) dL_law_371 rfl ?_
  refine jr_sld (n := 373) dL_law_372 rfl (by omega) (by omega) (by omega) ?_
  refine jr_gV2 (d := 30) (n := 376) (ci := 8) (ν := mX8_told) dL_law_373 rfl lL_38 kX8_told iX8_told rfl ⟨_, rfl, rfl⟩ (by decide) (jcat_push v9) (Nat.le_of_ble_eq_true rfl) rfl ⟨Nat.le_of_ble_eq_true rfl, Nat.le_of_ble_eq_true rfl⟩ hcs ?_
  refine jN_mono h9 (fun v8 M8 h8 => ?_)
  obtain ⟨z, e1, e2, hJ8⟩ := h8
  subst e1
  subst e2
  refine jr_lcmp (n := 377) dL_law_376 rfl ?_
  refine jr_ifT_eq (t := 1168) dL_law_377 (by decide) (jlc_R _ _) (jlc_self _) ?_
  exact k M8 hJ8
theorem law_6 {G : jG} {cl sl b L : Nat} {xs : Nat → Int32} {i : Int} {M : jMem} (hcs : cl ≤ room_1.cells ∧ sl ≤ room_1.slots) (h0 : 0 ≤ i) (h1 : i + 6 ≤ L) (hL : L ≤ 3072) (hJ : jJ M) (k : ∀ M', jJ M' → jX G mLaw room_1 cl sl (jlE G b L xs) lw_Z 1168 [.ref b, .ref (jad G 0), .ref (jad G 8), .int (jI i)] [] M') : jX G mLaw room_1 cl sl (jlE G b L xs) lw_Z 382 [.ref b, .ref (jad G 0), .ref (jad G 8), .int (jI i)] [] M := by
  refine jr_aload_n (n := 383) dL_law_382 rfl rfl ?_
  refine jr_aload_n (n := 384) dL_law_383 rfl rfl ?_
  refine jr_iload_n (n := 385) dL_law_384 rfl rfl ?_
  refine jr_iconst (n := 386) dL_law_385 rfl ?_
  refine jr_iadd (n := 387) dL_law_386 rfl ?_
  refine jr_sld (n := 388) dL_law_387 rfl (by omega) (by omega) (by omega) ?_
  refine jr_aload_n (n := 389) dL_law_388 rfl rfl ?_
  refine jr_iload_n (n := 390) dL_law_389 rfl rfl ?_
  refine jr_iconst (n := 391) dL_law_390 rfl ?_
  refine jr_iadd (n := 392) dL_law_391 rfl ?_
  refine jr_sld (n := 393) dL_law_392 rfl (by omega) (by omega) (by omega) ?_
  refine jr_gV2 (d := 30) (n := 396) (ci := 7) (ν := mX7_inList) dL_law_393 rfl lL_39 kX7_inList iX7_inList rfl ⟨_, rfl, rfl⟩ (by decide) (Nat.le_of_ble_eq_true rfl) (Nat.le_of_ble_eq_true rfl) rfl ⟨Nat.le_of_ble_eq_true rfl, Nat.le_of_ble_eq_true rfl⟩ hcs ?_
  refine jN_mono (g_inList hJ (jI_R _) (jI_R _)) (fun v9 M9 h9 => ?_)
  refine jr_aload_n (n := 397) dL_law_396 rfl rfl ?_
  refine jr_aload_n (n := 398) dL_law_397 rfl rfl ?_
  refine jr_iload_n (n := 399) dL_law_398 rfl rfl ?_
  refine jr_iconst (n := 400) dL_law_399 rfl ?_
  refine jr_iadd (n := 401) dL_law_400 rfl ?_
  refine jr_sld (n := 402) dL_law_401 rfl (by omega) (by omega) (by omega) ?_
  refine jr_aload_n (n := 403) dL_law_402 rfl rfl ?_
  refine jr_iload_n (n := 404) dL_law_403 rfl rfl ?_
  refine jr_iconst (n := 405) dL_law_404 rfl ?_
  refine jr_iadd (n := 406) dL_law_405 rfl ?_
  refine jr_sld (n := 407) dL_law_406 rfl (by omega) (by omega) (by omega) ?_
  refine jr_gV2 (d := 30) (n := 410) (ci := 8) (ν := mX8_inList) dL_law_407 rfl lL_42 kX8_inList iX8_inList rfl ⟨_, rfl, rfl⟩ (by decide) (jcat_push v9) (Nat.le_of_ble_eq_true rfl) rfl ⟨Nat.le_of_ble_eq_true rfl, Nat.le_of_ble_eq_true rfl⟩ hcs ?_
  refine jN_mono h9 (fun v8 M8 h8 => ?_)
  obtain ⟨z, e1, e2, hJ8⟩ := h8
  subst e1
  subst e2
  refine jr_lcmp (n := 411) dL_law_410 rfl ?_
  refine jr_ifT_eq (t := 1168) dL_law_411 (by decide) (jlc_R _ _) (jlc_self _) ?_
  exact k M8 hJ8
theorem law_7 {G : jG} {cl sl b L : Nat} {xs : Nat → Int32} {i : Int} {M : jMem} (hcs : cl ≤ room_1.cells ∧ sl ≤ room_1.slots) (h0 : 0 ≤ i) (h1 : i + 6 ≤ L) (hL : L ≤ 3072) (hJ : jJ M) (k : ∀ M', jJ M' → jX G mLaw room_1 cl sl (jlE G b L xs) lw_Z 1168 [.ref b, .ref (jad G 0), .ref (jad G 8), .int (jI i)] [] M') : jX G mLaw room_1 cl sl (jlE G b L xs) lw_Z 416 [.ref b, .ref (jad G 0), .ref (jad G 8), .int (jI i)] [] M := by
  refine jr_aload_n (n := 417) dL_law_416 rfl rfl ?_
  refine jr_aload_n (n := 418) dL_law_417 rfl rfl ?_
  refine jr_iload_n (n := 419) dL_law_418 rfl rfl ?_
  refine jr_iconst (n := 420) dL_law_419 rfl ?_
  refine jr_iadd (n := 421) dL_law_420 rfl ?_
  refine jr_sld (n := 422) dL_law_421 rfl (by omega) (by omega) (by omega) ?_
  refine jr_aload_n (n := 423) dL_law_422 rfl rfl ?_
  refine jr_iload_n (n := 424) dL_law_423 rfl rfl ?_
  refine jr_iconst (n := 425) dL_law_424 rfl ?_
  refine jr_iadd (n := 426) dL_law_425 rfl ?_
  refine jr_sld (n := 427) dL_law_426 rfl (by omega) (by omega) (by omega) ?_
  refine jr_gV2 (d := 30) (n := 430) (ci := 7) (ν := mX7_rule) dL_law_427 rfl lL_43 kX7_rule iX7_rule rfl ⟨_, rfl, rfl⟩ (by decide) (Nat.le_of_ble_eq_true rfl) (Nat.le_of_ble_eq_true rfl) rfl ⟨Nat.le_of_ble_eq_true rfl, Nat.le_of_ble_eq_true rfl⟩ hcs ?_
  refine jN_mono (g_rule hJ (jI_R _) (jI_R _)) (fun v9 M9 h9 => ?_)
  refine jr_aload_n (n := 431) dL_law_430 rfl rfl ?_
  refine jr_aload_n (n := 432) dL_law_431 rfl rfl ?_
  refine jr_iload_n (n := 433) dL_law_432 rfl rfl ?_
  refine jr_iconst (n := 434) dL_law_433 rfl ?_
  refine jr_iadd (n := 435) dL_law_434 rfl ?_
  refine jr_sld (n := 436) dL_law_435 rfl (by omega) (by omega) (by omega) ?_
  refine jr_aload_n (n := 437) dL_law_436 rfl rfl ?_
  refine jr_iload_n (n := 438) dL_law_437 rfl rfl ?_
  refine jr_iconst (n := 439) dL_law_438 rfl ?_
  refine jr_iadd (n := 440) dL_law_439 rfl ?_
  refine jr_sld (n := 441) dL_law_440 rfl (by omega) (by omega) (by omega) ?_
  refine jr_gV2 (d := 30) (n := 444) (ci := 8) (ν := mX8_rule) dL_law_441 rfl lL_46 kX8_rule iX8_rule rfl ⟨_, rfl, rfl⟩ (by decide) (jcat_push v9) (Nat.le_of_ble_eq_true rfl) rfl ⟨Nat.le_of_ble_eq_true rfl, Nat.le_of_ble_eq_true rfl⟩ hcs ?_
  refine jN_mono h9 (fun v8 M8 h8 => ?_)
  obtain ⟨z, e1, e2, hJ8⟩ := h8
  subst e1
  subst e2
  refine jr_lcmp (n := 445) dL_law_444 rfl ?_
  refine jr_ifT_eq (t := 1168) dL_law_445 (by decide) (jlc_R _ _) (jlc_self _) ?_
  exact k M8 hJ8
theorem law_8 {G : jG} {cl sl b L : Nat} {xs : Nat → Int32} {i : Int} {M : jMem} (hcs : cl ≤ room_1.cells ∧ sl ≤ room_1.slots) (h0 : 0 ≤ i) (h1 : i + 6 ≤ L) (hL : L ≤ 3072) (hJ : jJ M) (k : ∀ M', jJ M' → jX G mLaw room_1 cl sl (jlE G b L xs) lw_Z 1168 [.ref b, .ref (jad G 0), .ref (jad G 8), .int (jI i)] [] M') : jX G mLaw room_1 cl sl (jlE G b L xs) lw_Z 450 [.ref b, .ref (jad G 0), .ref (jad G 8), .int (jI i)] [] M := by
  refine jr_aload_n (n := 451) dL_law_450 rfl rfl ?_
  refine jr_aload_n (n := 452) dL_law_451 rfl rfl ?_
  refine jr_iload_n (n := 453) dL_law_452 rfl rfl ?_
  refine jr_iconst (n := 454) dL_law_453 rfl ?_
  refine jr_iadd (n := 455) dL_law_454 rfl ?_
  refine jr_sld (n := 456) dL_law_455 rfl (by omega) (by omega) (by omega) ?_
  refine jr_aload_n (n := 457) dL_law_456 rfl rfl ?_
  refine jr_iload_n (n := 458) dL_law_457 rfl rfl ?_
  refine jr_iconst (n := 459) dL_law_458 rfl ?_
  refine jr_iadd (n := 460) dL_law_459 rfl ?_
  refine jr_sld (n := 461) dL_law_460 rfl (by omega) (by omega) (by omega) ?_
  refine jr_gV2 (d := 30) (n := 464) (ci := 7) (ν := mX7_weight) dL_law_461 rfl lL_47 kX7_weight iX7_weight rfl ⟨_, rfl, rfl⟩ (by decide) (Nat.le_of_ble_eq_true rfl) (Nat.le_of_ble_eq_true rfl) rfl ⟨Nat.le_of_ble_eq_true rfl, Nat.le_of_ble_eq_true rfl⟩ hcs ?_
  refine jN_mono (g_weight hJ (jI_R _) (jI_R _)) (fun v9 M9 h9 => ?_)
  refine jr_aload_n (n := 465) dL_law_464 rfl rfl ?_
  refine jr_aload_n (n := 466) dL_law_465 rfl rfl ?_
  refine jr_iload_n (n := 467) dL_law_466 rfl rfl ?_
  refine jr_iconst (n := 468) dL_law_467 rfl ?_
  refine jr_iadd (n := 469) dL_law_468 rfl ?_
  refine jr_sld (n := 470) dL_law_469 rfl (by omega) (by omega) (by omega) ?_
  refine jr_aload_n (n := 471) dL_law_470 rfl rfl ?_
  refine jr_iload_n (n := 472) dL_law_471 rfl rfl ?_
  refine jr_iconst (n := 473) dL_law_472 rfl ?_
  refine jr_iadd (n := 474) dL_law_473 rfl ?_
  refine jr_sld (n := 475) dL_law_474 rfl (by omega) (by omega) (by omega) ?_
  refine jr_gV2 (d := 30) (n := 478) (ci := 8) (ν := mX8_weight) dL_law_475 rfl lL_50 kX8_weight iX8_weight rfl ⟨_, rfl, rfl⟩ (by decide) (jcat_push v9) (Nat.le_of_ble_eq_true rfl) rfl ⟨Nat.le_of_ble_eq_true rfl, Nat.le_of_ble_eq_true rfl⟩ hcs ?_
  refine jN_mono h9 (fun v8 M8 h8 => ?_)
  obtain ⟨z, e1, e2, hJ8⟩ := h8
  subst e1
  subst e2
  refine jr_lcmp (n := 479) dL_law_478 rfl ?_
  refine jr_ifT_eq (t := 1168) dL_law_479 (by decide) (jlc_R _ _) (jlc_self _) ?_
  exact k M8 hJ8
theorem law_9 {G : jG} {cl sl b L : Nat} {xs : Nat → Int32} {i : Int} {M : jMem} (hcs : cl ≤ room_1.cells ∧ sl ≤ room_1.slots) (h0 : 0 ≤ i) (h1 : i + 6 ≤ L) (hL : L ≤ 3072) (hJ : jJ M) (k : ∀ M', jJ M' → jX G mLaw room_1 cl sl (jlE G b L xs) lw_Z 1168 [.ref b, .ref (jad G 0), .ref (jad G 8), .int (jI i)] [] M') : jX G mLaw room_1 cl sl (jlE G b L xs) lw_Z 484 [.ref b, .ref (jad G 0), .ref (jad G 8), .int (jI i)] [] M := by
  refine jr_aload_n (n := 485) dL_law_484 rfl rfl ?_
  refine jr_aload_n (n := 486) dL_law_485 rfl rfl ?_
  refine jr_iload_n (n := 487) dL_law_486 rfl rfl ?_
  refine jr_iconst (n := 488) dL_law_487 rfl ?_
  refine jr_iadd (n := 489) dL_law_488 rfl ?_
  refine jr_sld (n := 490) dL_law_489 rfl (by omega) (by omega) (by omega) ?_
  refine jr_aload_n (n := 491) dL_law_490 rfl rfl ?_
  refine jr_iload_n (n := 492) dL_law_491 rfl rfl ?_
  refine jr_iconst (n := 493) dL_law_492 rfl ?_
  refine jr_iadd (n := 494) dL_law_493 rfl ?_
  refine jr_sld (n := 495) dL_law_494 rfl (by omega) (by omega) (by omega) ?_
  refine jr_gV2 (d := 30) (n := 498) (ci := 7) (ν := mX7_cost) dL_law_495 rfl lL_51 kX7_cost iX7_cost rfl ⟨_, rfl, rfl⟩ (by decide) (Nat.le_of_ble_eq_true rfl) (Nat.le_of_ble_eq_true rfl) rfl ⟨Nat.le_of_ble_eq_true rfl, Nat.le_of_ble_eq_true rfl⟩ hcs ?_
  refine jN_mono (g_cost hJ (jI_R _) (jI_R _)) (fun v9 M9 h9 => ?_)
  refine jr_aload_n (n := 499) dL_law_498 rfl rfl ?_
  refine jr_aload_n (n := 500) dL_law_499 rfl rfl ?_
  refine jr_iload_n (n := 501) dL_law_500 rfl rfl ?_
  refine jr_iconst (n := 502) dL_law_501 rfl ?_
  refine jr_iadd (n := 503) dL_law_502 rfl ?_
  refine jr_sld (n := 504) dL_law_503 rfl (by omega) (by omega) (by omega) ?_
  refine jr_aload_n (n := 505) dL_law_504 rfl rfl ?_
  refine jr_iload_n (n := 506) dL_law_505 rfl rfl ?_
  refine jr_iconst (n := 507) dL_law_506 rfl ?_
  refine jr_iadd (n := 508) dL_law_507 rfl ?_
  refine jr_sld (n := 509) dL_law_508 rfl (by omega) (by omega) (by omega) ?_
  refine jr_gV2 (d := 30) (n := 512) (ci := 8) (ν := mX8_cost) dL_law_509 rfl lL_54 kX8_cost iX8_cost rfl ⟨_, rfl, rfl⟩ (by decide) (jcat_push v9) (Nat.le_of_ble_eq_true rfl) rfl ⟨Nat.le_of_ble_eq_true rfl, Nat.le_of_ble_eq_true rfl⟩ hcs ?_
  refine jN_mono h9 (fun v8 M8 h8 => ?_)
  obtain ⟨z, e1, e2, hJ8⟩ := h8
  subst e1
  subst e2
  refine jr_lcmp (n := 513) dL_law_512 rfl ?_
  refine jr_ifT_eq (t := 1168) dL_law_513 (by decide) (jlc_R _ _) (jlc_self _) ?_
  exact k M8 hJ8
theorem law_10 {G : jG} {cl sl b L : Nat} {xs : Nat → Int32} {i : Int} {M : jMem} (hcs : cl ≤ room_1.cells ∧ sl ≤ room_1.slots) (h0 : 0 ≤ i) (h1 : i + 6 ≤ L) (hL : L ≤ 3072) (hJ : jJ M) (k : ∀ M', jJ M' → jX G mLaw room_1 cl sl (jlE G b L xs) lw_Z 1168 [.ref b, .ref (jad G 0), .ref (jad G 8), .int (jI i)] [] M') : jX G mLaw room_1 cl sl (jlE G b L xs) lw_Z 518 [.ref b, .ref (jad G 0), .ref (jad G 8), .int (jI i)] [] M := by
  refine jr_aload_n (n := 519) dL_law_518 rfl rfl ?_
  refine jr_aload_n (n := 520) dL_law_519 rfl rfl ?_
  refine jr_iload_n (n := 521) dL_law_520 rfl rfl ?_
  refine jr_iconst (n := 522) dL_law_521 rfl ?_
  refine jr_iadd (n := 523) dL_law_522 rfl ?_
  refine jr_sld (n := 524) dL_law_523 rfl (by omega) (by omega) (by omega) ?_
  refine jr_gV1 (d := 30) (n := 527) (ci := 7) (ν := mX7_best) dL_law_524 rfl lL_55 kX7_best iX7_best rfl ⟨_, rfl, rfl⟩ (by decide) (Nat.le_of_ble_eq_true rfl) (Nat.le_of_ble_eq_true rfl) rfl ⟨Nat.le_of_ble_eq_true rfl, Nat.le_of_ble_eq_true rfl⟩ hcs ?_
  refine jN_mono (g_best hJ (jI_R _)) (fun v9 M9 h9 => ?_)
  refine jr_aload_n (n := 528) dL_law_527 rfl rfl ?_
  refine jr_aload_n (n := 529) dL_law_528 rfl rfl ?_
  refine jr_iload_n (n := 530) dL_law_529 rfl rfl ?_
  refine jr_iconst (n := 531) dL_law_530 rfl ?_
  refine jr_iadd (n := 532) dL_law_531 rfl ?_
  refine jr_sld (n := 533) dL_law_532 rfl (by omega) (by omega) (by omega) ?_
  refine jr_gV1 (d := 30) (n := 536) (ci := 8) (ν := mX8_best) dL_law_533 rfl lL_59 kX8_best iX8_best rfl ⟨_, rfl, rfl⟩ (by decide) (jcat_push v9) (Nat.le_of_ble_eq_true rfl) rfl ⟨Nat.le_of_ble_eq_true rfl, Nat.le_of_ble_eq_true rfl⟩ hcs ?_
  refine jN_mono h9 (fun v8 M8 h8 => ?_)
  obtain ⟨z, e1, e2, hJ8⟩ := h8
  subst e1
  subst e2
  refine jr_lcmp (n := 537) dL_law_536 rfl ?_
  refine jr_ifT_eq (t := 1168) dL_law_537 (by decide) (jlc_R _ _) (jlc_self _) ?_
  exact k M8 hJ8
theorem law_11 {G : jG} {cl sl b L : Nat} {xs : Nat → Int32} {i : Int} {M : jMem} (hcs : cl ≤ room_1.cells ∧ sl ≤ room_1.slots) (h0 : 0 ≤ i) (h1 : i + 6 ≤ L) (hL : L ≤ 3072) (hJ : jJ M) (k : ∀ M', jJ M' → jX G mLaw room_1 cl sl (jlE G b L xs) lw_Z 1168 [.ref b, .ref (jad G 0), .ref (jad G 8), .int (jI i)] [] M') : jX G mLaw room_1 cl sl (jlE G b L xs) lw_Z 542 [.ref b, .ref (jad G 0), .ref (jad G 8), .int (jI i)] [] M := by
  refine jr_aload_n (n := 543) dL_law_542 rfl rfl ?_
  refine jr_aload_n (n := 544) dL_law_543 rfl rfl ?_
  refine jr_iload_n (n := 545) dL_law_544 rfl rfl ?_
  refine jr_iconst (n := 546) dL_law_545 rfl ?_
  refine jr_iadd (n := 547) dL_law_546 rfl ?_
  refine jr_sld (n := 548) dL_law_547 rfl (by omega) (by omega) (by omega) ?_
  refine jr_aload_n (n := 549) dL_law_548 rfl rfl ?_
  refine jr_iload_n (n := 550) dL_law_549 rfl rfl ?_
  refine jr_iconst (n := 551) dL_law_550 rfl ?_
  refine jr_iadd (n := 552) dL_law_551 rfl ?_
  refine jr_sld (n := 553) dL_law_552 rfl (by omega) (by omega) (by omega) ?_
  refine jr_aload_n (n := 554) dL_law_553 rfl rfl ?_
  refine jr_iload_n (n := 555) dL_law_554 rfl rfl ?_
  refine jr_iconst (n := 556) dL_law_555 rfl ?_
  refine jr_iadd (n := 557) dL_law_556 rfl ?_
  refine jr_sld (n := 558) dL_law_557 rfl (by omega) (by omega) (by omega) ?_
  refine jr_gV3 (d := 30) (n := 561) (ci := 7) (ν := mX7_call) dL_law_558 rfl lL_60 kX7_call iX7_call rfl ⟨_, rfl, rfl⟩ (by decide) (Nat.le_of_ble_eq_true rfl) (Nat.le_of_ble_eq_true rfl) rfl ⟨Nat.le_of_ble_eq_true rfl, Nat.le_of_ble_eq_true rfl⟩ hcs ?_
  refine jN_mono (g_call hJ (jI_R _) (jI_R _) (jI_R _)) (fun v9 M9 h9 => ?_)
  refine jr_aload_n (n := 562) dL_law_561 rfl rfl ?_
  refine jr_aload_n (n := 563) dL_law_562 rfl rfl ?_
  refine jr_iload_n (n := 564) dL_law_563 rfl rfl ?_
  refine jr_iconst (n := 565) dL_law_564 rfl ?_
  refine jr_iadd (n := 566) dL_law_565 rfl ?_
  refine jr_sld (n := 567) dL_law_566 rfl (by omega) (by omega) (by omega) ?_
  refine jr_aload_n (n := 568) dL_law_567 rfl rfl ?_
  refine jr_iload_n (n := 569) dL_law_568 rfl rfl ?_
  refine jr_iconst (n := 570) dL_law_569 rfl ?_
  refine jr_iadd (n := 571) dL_law_570 rfl ?_
  refine jr_sld (n := 572) dL_law_571 rfl (by omega) (by omega) (by omega) ?_
  refine jr_aload_n (n := 573) dL_law_572 rfl rfl ?_
  refine jr_iload_n (n := 574) dL_law_573 rfl rfl ?_
  refine jr_iconst (n := 575) dL_law_574 rfl ?_
  refine jr_iadd (n := 576) dL_law_575 rfl ?_
  refine jr_sld (n := 577) dL_law_576 rfl (by omega) (by omega) (by omega) ?_
  refine jr_gV3 (d := 30) (n := 580) (ci := 8) (ν := mX8_call) dL_law_577 rfl lL_63 kX8_call iX8_call rfl ⟨_, rfl, rfl⟩ (by decide) (jcat_push v9) (Nat.le_of_ble_eq_true rfl) rfl ⟨Nat.le_of_ble_eq_true rfl, Nat.le_of_ble_eq_true rfl⟩ hcs ?_
  refine jN_mono h9 (fun v8 M8 h8 => ?_)
  obtain ⟨z, e1, e2, hJ8⟩ := h8
  subst e1
  subst e2
  refine jr_lcmp (n := 581) dL_law_580 rfl ?_
  refine jr_ifT_eq (t := 1168) dL_law_581 (by decide) (jlc_R _ _) (jlc_self _) ?_
  exact k M8 hJ8
theorem law_12 {G : jG} {cl sl b L : Nat} {xs : Nat → Int32} {i : Int} {M : jMem} (hcs : cl ≤ room_1.cells ∧ sl ≤ room_1.slots) (h0 : 0 ≤ i) (h1 : i + 6 ≤ L) (hL : L ≤ 3072) (hJ : jJ M) (k : ∀ M', jJ M' → jX G mLaw room_1 cl sl (jlE G b L xs) lw_Z 1168 [.ref b, .ref (jad G 0), .ref (jad G 8), .int (jI i)] [] M') : jX G mLaw room_1 cl sl (jlE G b L xs) lw_Z 586 [.ref b, .ref (jad G 0), .ref (jad G 8), .int (jI i)] [] M := by
  refine jr_aload_n (n := 587) dL_law_586 rfl rfl ?_
  refine jr_aload_n (n := 588) dL_law_587 rfl rfl ?_
  refine jr_iload_n (n := 589) dL_law_588 rfl rfl ?_
  refine jr_iconst (n := 590) dL_law_589 rfl ?_
  refine jr_iadd (n := 591) dL_law_590 rfl ?_
  refine jr_sld (n := 592) dL_law_591 rfl (by omega) (by omega) (by omega) ?_
  refine jr_aload_n (n := 593) dL_law_592 rfl rfl ?_
  refine jr_iload_n (n := 594) dL_law_593 rfl rfl ?_
  refine jr_iconst (n := 595) dL_law_594 rfl ?_
  refine jr_iadd (n := 596) dL_law_595 rfl ?_
  refine jr_sld (n := 597) dL_law_596 rfl (by omega) (by omega) (by omega) ?_
  refine jr_gV2 (d := 30) (n := 600) (ci := 7) (ν := mX7_called) dL_law_597 rfl lL_64 kX7_called iX7_called rfl ⟨_, rfl, rfl⟩ (by decide) (Nat.le_of_ble_eq_true rfl) (Nat.le_of_ble_eq_true rfl) rfl ⟨Nat.le_of_ble_eq_true rfl, Nat.le_of_ble_eq_true rfl⟩ hcs ?_
  refine jN_mono (g_called hJ (jI_R _) (jI_R _)) (fun v9 M9 h9 => ?_)
  refine jr_aload_n (n := 601) dL_law_600 rfl rfl ?_
  refine jr_aload_n (n := 602) dL_law_601 rfl rfl ?_
  refine jr_iload_n (n := 603) dL_law_602 rfl rfl ?_
  refine jr_iconst (n := 604) dL_law_603 rfl ?_
  refine jr_iadd (n := 605) dL_law_604 rfl ?_
  refine jr_sld (n := 606) dL_law_605 rfl (by omega) (by omega) (by omega) ?_
  refine jr_aload_n (n := 607) dL_law_606 rfl rfl ?_
  refine jr_iload_n (n := 608) dL_law_607 rfl rfl ?_
  refine jr_iconst (n := 609) dL_law_608 rfl ?_
  refine jr_iadd (n := 610) dL_law_609 rfl ?_
  refine jr_sld (n := 611) dL_law_610 rfl (by omega) (by omega) (by omega) ?_
  refine jr_gV2 (d := 30) (n := 614) (ci := 8) (ν := mX8_called) dL_law_611 rfl lL_67 kX8_called iX8_called rfl ⟨_, rfl, rfl⟩ (by decide) (jcat_push v9) (Nat.le_of_ble_eq_true rfl) rfl ⟨Nat.le_of_ble_eq_true rfl, Nat.le_of_ble_eq_true rfl⟩ hcs ?_
  refine jN_mono h9 (fun v8 M8 h8 => ?_)
  obtain ⟨z, e1, e2, hJ8⟩ := h8
  subst e1
  subst e2
  refine jr_lcmp (n := 615) dL_law_614 rfl ?_
  refine jr_ifT_eq (t := 1168) dL_law_615 (by decide) (jlc_R _ _) (jlc_self _) ?_
  exact k M8 hJ8
theorem law_13 {G : jG} {cl sl b L : Nat} {xs : Nat → Int32} {i : Int} {M : jMem} (hcs : cl ≤ room_1.cells ∧ sl ≤ room_1.slots) (h0 : 0 ≤ i) (h1 : i + 6 ≤ L) (hL : L ≤ 3072) (hJ : jJ M) (k : ∀ M', jJ M' → jX G mLaw room_1 cl sl (jlE G b L xs) lw_Z 1168 [.ref b, .ref (jad G 0), .ref (jad G 8), .int (jI i)] [] M') : jX G mLaw room_1 cl sl (jlE G b L xs) lw_Z 620 [.ref b, .ref (jad G 0), .ref (jad G 8), .int (jI i)] [] M := by
  refine jr_aload_n (n := 621) dL_law_620 rfl rfl ?_
  refine jr_aload_n (n := 622) dL_law_621 rfl rfl ?_
  refine jr_iload_n (n := 623) dL_law_622 rfl rfl ?_
  refine jr_iconst (n := 624) dL_law_623 rfl ?_
  refine jr_iadd (n := 625) dL_law_624 rfl ?_
  refine jr_sld (n := 626) dL_law_625 rfl (by omega) (by omega) (by omega) ?_
  refine jr_gV1 (d := 30) (n := 629) (ci := 7) (ν := mX7_plan) dL_law_626 rfl lL_68 kX7_plan iX7_plan rfl ⟨_, rfl, rfl⟩ (by decide) (Nat.le_of_ble_eq_true rfl) (Nat.le_of_ble_eq_true rfl) rfl ⟨Nat.le_of_ble_eq_true rfl, Nat.le_of_ble_eq_true rfl⟩ hcs ?_
  refine jN_mono (g_plan hJ (jI_R _)) (fun v9 M9 h9 => ?_)
  refine jr_aload_n (n := 630) dL_law_629 rfl rfl ?_
  refine jr_aload_n (n := 631) dL_law_630 rfl rfl ?_
  refine jr_iload_n (n := 632) dL_law_631 rfl rfl ?_
  refine jr_iconst (n := 633) dL_law_632 rfl ?_
  refine jr_iadd (n := 634) dL_law_633 rfl ?_
  refine jr_sld (n := 635) dL_law_634 rfl (by omega) (by omega) (by omega) ?_
  refine jr_gV1 (d := 30) (n := 638) (ci := 8) (ν := mX8_plan) dL_law_635 rfl lL_71 kX8_plan iX8_plan rfl ⟨_, rfl, rfl⟩ (by decide) (jcat_push v9) (Nat.le_of_ble_eq_true rfl) rfl ⟨Nat.le_of_ble_eq_true rfl, Nat.le_of_ble_eq_true rfl⟩ hcs ?_
  refine jN_mono h9 (fun v8 M8 h8 => ?_)
  obtain ⟨z, e1, e2, hJ8⟩ := h8
  subst e1
  subst e2
  refine jr_lcmp (n := 639) dL_law_638 rfl ?_
  refine jr_ifT_eq (t := 1168) dL_law_639 (by decide) (jlc_R _ _) (jlc_self _) ?_
  exact k M8 hJ8
theorem law_14 {G : jG} {cl sl b L : Nat} {xs : Nat → Int32} {i : Int} {M : jMem} (hcs : cl ≤ room_1.cells ∧ sl ≤ room_1.slots) (h0 : 0 ≤ i) (h1 : i + 6 ≤ L) (hL : L ≤ 3072) (hJ : jJ M) (k : ∀ M', jJ M' → jX G mLaw room_1 cl sl (jlE G b L xs) lw_Z 1168 [.ref b, .ref (jad G 0), .ref (jad G 8), .int (jI i)] [] M') : jX G mLaw room_1 cl sl (jlE G b L xs) lw_Z 644 [.ref b, .ref (jad G 0), .ref (jad G 8), .int (jI i)] [] M := by
  refine jr_aload_n (n := 645) dL_law_644 rfl rfl ?_
  refine jr_aload_n (n := 646) dL_law_645 rfl rfl ?_
  refine jr_iload_n (n := 647) dL_law_646 rfl rfl ?_
  refine jr_iconst (n := 648) dL_law_647 rfl ?_
  refine jr_iadd (n := 649) dL_law_648 rfl ?_
  refine jr_sld (n := 650) dL_law_649 rfl (by omega) (by omega) (by omega) ?_
  refine jr_aload_n (n := 651) dL_law_650 rfl rfl ?_
  refine jr_iload_n (n := 652) dL_law_651 rfl rfl ?_
  refine jr_iconst (n := 653) dL_law_652 rfl ?_
  refine jr_iadd (n := 654) dL_law_653 rfl ?_
  refine jr_sld (n := 655) dL_law_654 rfl (by omega) (by omega) (by omega) ?_
  refine jr_gV2 (d := 30) (n := 658) (ci := 7) (ν := mX7_fate) dL_law_655 rfl lL_72 kX7_fate iX7_fate rfl ⟨_, rfl, rfl⟩ (by decide) (Nat.le_of_ble_eq_true rfl) (Nat.le_of_ble_eq_true rfl) rfl ⟨Nat.le_of_ble_eq_true rfl, Nat.le_of_ble_eq_true rfl⟩ hcs ?_
  refine jN_mono (g_fate hJ (jI_R _) (jI_R _)) (fun v9 M9 h9 => ?_)
  refine jr_aload_n (n := 659) dL_law_658 rfl rfl ?_
  refine jr_aload_n (n := 660) dL_law_659 rfl rfl ?_
  refine jr_iload_n (n := 661) dL_law_660 rfl rfl ?_
  refine jr_iconst (n := 662) dL_law_661 rfl ?_
  refine jr_iadd (n := 663) dL_law_662 rfl ?_
  refine jr_sld (n := 664) dL_law_663 rfl (by omega) (by omega) (by omega) ?_
  refine jr_aload_n (n := 665) dL_law_664 rfl rfl ?_
  refine jr_iload_n (n := 666) dL_law_665 rfl rfl ?_
  refine jr_iconst (n := 667) dL_law_666 rfl ?_
  refine jr_iadd (n := 668) dL_law_667 rfl ?_
  refine jr_sld (n := 669) dL_law_668 rfl (by omega) (by omega) (by omega) ?_
  refine jr_gV2 (d := 30) (n := 672) (ci := 8) (ν := mX8_fate) dL_law_669 rfl lL_75 kX8_fate iX8_fate rfl ⟨_, rfl, rfl⟩ (by decide) (jcat_push v9) (Nat.le_of_ble_eq_true rfl) rfl ⟨Nat.le_of_ble_eq_true rfl, Nat.le_of_ble_eq_true rfl⟩ hcs ?_
  refine jN_mono h9 (fun v8 M8 h8 => ?_)
  obtain ⟨z, e1, e2, hJ8⟩ := h8
  subst e1
  subst e2
  refine jr_lcmp (n := 673) dL_law_672 rfl ?_
  refine jr_ifT_eq (t := 1168) dL_law_673 (by decide) (jlc_R _ _) (jlc_self _) ?_
  exact k M8 hJ8
theorem law_15 {G : jG} {cl sl b L : Nat} {xs : Nat → Int32} {i : Int} {M : jMem} (hcs : cl ≤ room_1.cells ∧ sl ≤ room_1.slots) (h0 : 0 ≤ i) (h1 : i + 6 ≤ L) (hL : L ≤ 3072) (hJ : jJ M) (k : ∀ M', jJ M' → jX G mLaw room_1 cl sl (jlE G b L xs) lw_Z 1168 [.ref b, .ref (jad G 0), .ref (jad G 8), .int (jI i)] [] M') : jX G mLaw room_1 cl sl (jlE G b L xs) lw_Z 678 [.ref b, .ref (jad G 0), .ref (jad G 8), .int (jI i)] [] M := by
  refine jr_aload_n (n := 679) dL_law_678 rfl rfl ?_
  refine jr_aload_n (n := 680) dL_law_679 rfl rfl ?_
  refine jr_iload_n (n := 681) dL_law_680 rfl rfl ?_
  refine jr_iconst (n := 682) dL_law_681 rfl ?_
  refine jr_iadd (n := 683) dL_law_682 rfl ?_
  refine jr_sld (n := 684) dL_law_683 rfl (by omega) (by omega) (by omega) ?_
  refine jr_aload_n (n := 685) dL_law_684 rfl rfl ?_
  refine jr_iload_n (n := 686) dL_law_685 rfl rfl ?_
  refine jr_iconst (n := 687) dL_law_686 rfl ?_
  refine jr_iadd (n := 688) dL_law_687 rfl ?_
  refine jr_sld (n := 689) dL_law_688 rfl (by omega) (by omega) (by omega) ?_
  refine jr_gV2 (d := 30) (n := 692) (ci := 7) (ν := mX7_begins) dL_law_689 rfl lL_76 kX7_begins iX7_begins rfl ⟨_, rfl, rfl⟩ (by decide) (Nat.le_of_ble_eq_true rfl) (Nat.le_of_ble_eq_true rfl) rfl ⟨Nat.le_of_ble_eq_true rfl, Nat.le_of_ble_eq_true rfl⟩ hcs ?_
  refine jN_mono (g_begins hJ (jI_R _) (jI_R _)) (fun v9 M9 h9 => ?_)
  refine jr_aload_n (n := 693) dL_law_692 rfl rfl ?_
  refine jr_aload_n (n := 694) dL_law_693 rfl rfl ?_
  refine jr_iload_n (n := 695) dL_law_694 rfl rfl ?_
  refine jr_iconst (n := 696) dL_law_695 rfl ?_
  refine jr_iadd (n := 697) dL_law_696 rfl ?_
  refine jr_sld (n := 698) dL_law_697 rfl (by omega) (by omega) (by omega) ?_
  refine jr_aload_n (n := 699) dL_law_698 rfl rfl ?_
  refine jr_iload_n (n := 700) dL_law_699 rfl rfl ?_
  refine jr_iconst (n := 701) dL_law_700 rfl ?_
  refine jr_iadd (n := 702) dL_law_701 rfl ?_
  refine jr_sld (n := 703) dL_law_702 rfl (by omega) (by omega) (by omega) ?_
  refine jr_gV2 (d := 30) (n := 706) (ci := 8) (ν := mX8_begins) dL_law_703 rfl lL_79 kX8_begins iX8_begins rfl ⟨_, rfl, rfl⟩ (by decide) (jcat_push v9) (Nat.le_of_ble_eq_true rfl) rfl ⟨Nat.le_of_ble_eq_true rfl, Nat.le_of_ble_eq_true rfl⟩ hcs ?_
  refine jN_mono h9 (fun v8 M8 h8 => ?_)
  obtain ⟨z, e1, e2, hJ8⟩ := h8
  subst e1
  subst e2
  refine jr_lcmp (n := 707) dL_law_706 rfl ?_
  refine jr_ifT_eq (t := 1168) dL_law_707 (by decide) (jlc_R _ _) (jlc_self _) ?_
  exact k M8 hJ8
theorem law_16 {G : jG} {cl sl b L : Nat} {xs : Nat → Int32} {i : Int} {M : jMem} (hcs : cl ≤ room_1.cells ∧ sl ≤ room_1.slots) (h0 : 0 ≤ i) (h1 : i + 6 ≤ L) (hL : L ≤ 3072) (hJ : jJ M) (k : ∀ M', jJ M' → jX G mLaw room_1 cl sl (jlE G b L xs) lw_Z 1168 [.ref b, .ref (jad G 0), .ref (jad G 8), .int (jI i)] [] M') : jX G mLaw room_1 cl sl (jlE G b L xs) lw_Z 712 [.ref b, .ref (jad G 0), .ref (jad G 8), .int (jI i)] [] M := by
  refine jr_aload_n (n := 713) dL_law_712 rfl rfl ?_
  refine jr_aload_n (n := 714) dL_law_713 rfl rfl ?_
  refine jr_iload_n (n := 715) dL_law_714 rfl rfl ?_
  refine jr_iconst (n := 716) dL_law_715 rfl ?_
  refine jr_iadd (n := 717) dL_law_716 rfl ?_
  refine jr_sld (n := 718) dL_law_717 rfl (by omega) (by omega) (by omega) ?_
  refine jr_aload_n (n := 719) dL_law_718 rfl rfl ?_
  refine jr_iload_n (n := 720) dL_law_719 rfl rfl ?_
  refine jr_iconst (n := 721) dL_law_720 rfl ?_
  refine jr_iadd (n := 722) dL_law_721 rfl ?_
  refine jr_sld (n := 723) dL_law_722 rfl (by omega) (by omega) (by omega) ?_
  refine jr_gV2 (d := 30) (n := 726) (ci := 7) (ν := mX7_waited) dL_law_723 rfl lL_80 kX7_waited iX7_waited rfl ⟨_, rfl, rfl⟩ (by decide) (Nat.le_of_ble_eq_true rfl) (Nat.le_of_ble_eq_true rfl) rfl ⟨Nat.le_of_ble_eq_true rfl, Nat.le_of_ble_eq_true rfl⟩ hcs ?_
  refine jN_mono (g_waited hJ (jI_R _) (jI_R _)) (fun v9 M9 h9 => ?_)
  refine jr_aload_n (n := 727) dL_law_726 rfl rfl ?_
  refine jr_aload_n (n := 728) dL_law_727 rfl rfl ?_
  refine jr_iload_n (n := 729) dL_law_728 rfl rfl ?_
  refine jr_iconst (n := 730) dL_law_729 rfl ?_
  refine jr_iadd (n := 731) dL_law_730 rfl ?_
  refine jr_sld (n := 732) dL_law_731 rfl (by omega) (by omega) (by omega) ?_
  refine jr_aload_n (n := 733) dL_law_732 rfl rfl ?_
  refine jr_iload_n (n := 734) dL_law_733 rfl rfl ?_
  refine jr_iconst (n := 735) dL_law_734 rfl ?_
  refine jr_iadd (n := 736) dL_law_735 rfl ?_
  refine jr_sld (n := 737) dL_law_736 rfl (by omega) (by omega) (by omega) ?_
  refine jr_gV2 (d := 30) (n := 740) (ci := 8) (ν := mX8_waited) dL_law_737 rfl lL_83 kX8_waited iX8_waited rfl ⟨_, rfl, rfl⟩ (by decide) (jcat_push v9) (Nat.le_of_ble_eq_true rfl) rfl ⟨Nat.le_of_ble_eq_true rfl, Nat.le_of_ble_eq_true rfl⟩ hcs ?_
  refine jN_mono h9 (fun v8 M8 h8 => ?_)
  obtain ⟨z, e1, e2, hJ8⟩ := h8
  subst e1
  subst e2
  refine jr_lcmp (n := 741) dL_law_740 rfl ?_
  refine jr_ifT_eq (t := 1168) dL_law_741 (by decide) (jlc_R _ _) (jlc_self _) ?_
  exact k M8 hJ8
theorem law_17 {G : jG} {cl sl b L : Nat} {xs : Nat → Int32} {i : Int} {M : jMem} (hcs : cl ≤ room_1.cells ∧ sl ≤ room_1.slots) (h0 : 0 ≤ i) (h1 : i + 6 ≤ L) (hL : L ≤ 3072) (hJ : jJ M) (k : ∀ M', jJ M' → jX G mLaw room_1 cl sl (jlE G b L xs) lw_Z 1168 [.ref b, .ref (jad G 0), .ref (jad G 8), .int (jI i)] [] M') : jX G mLaw room_1 cl sl (jlE G b L xs) lw_Z 746 [.ref b, .ref (jad G 0), .ref (jad G 8), .int (jI i)] [] M := by
  refine jr_aload_n (n := 747) dL_law_746 rfl rfl ?_
  refine jr_aload_n (n := 748) dL_law_747 rfl rfl ?_
  refine jr_iload_n (n := 749) dL_law_748 rfl rfl ?_
  refine jr_iconst (n := 750) dL_law_749 rfl ?_
  refine jr_iadd (n := 751) dL_law_750 rfl ?_
  refine jr_sld (n := 752) dL_law_751 rfl (by omega) (by omega) (by omega) ?_
  refine jr_aload_n (n := 753) dL_law_752 rfl rfl ?_
  refine jr_iload_n (n := 754) dL_law_753 rfl rfl ?_
  refine jr_iconst (n := 755) dL_law_754 rfl ?_
  refine jr_iadd (n := 756) dL_law_755 rfl ?_
  refine jr_sld (n := 757) dL_law_756 rfl (by omega) (by omega) (by omega) ?_
  refine jr_gV2 (d := 30) (n := 760) (ci := 7) (ν := mX7_idle) dL_law_757 rfl lL_84 kX7_idle iX7_idle rfl ⟨_, rfl, rfl⟩ (by decide) (Nat.le_of_ble_eq_true rfl) (Nat.le_of_ble_eq_true rfl) rfl ⟨Nat.le_of_ble_eq_true rfl, Nat.le_of_ble_eq_true rfl⟩ hcs ?_
  refine jN_mono (g_idle hJ (jI_R _) (jI_R _)) (fun v9 M9 h9 => ?_)
  refine jr_aload_n (n := 761) dL_law_760 rfl rfl ?_
  refine jr_aload_n (n := 762) dL_law_761 rfl rfl ?_
  refine jr_iload_n (n := 763) dL_law_762 rfl rfl ?_
  refine jr_iconst (n := 764) dL_law_763 rfl ?_
  refine jr_iadd (n := 765) dL_law_764 rfl ?_
  refine jr_sld (n := 766) dL_law_765 rfl (by omega) (by omega) (by omega) ?_
  refine jr_aload_n (n := 767) dL_law_766 rfl rfl ?_
  refine jr_iload_n (n := 768) dL_law_767 rfl rfl ?_
  refine jr_iconst (n := 769) dL_law_768 rfl ?_
  refine jr_iadd (n := 770) dL_law_769 rfl ?_
  refine jr_sld (n := 771) dL_law_770 rfl (by omega) (by omega) (by omega) ?_
  refine jr_gV2 (d := 30) (n := 774) (ci := 8) (ν := mX8_idle) dL_law_771 rfl lL_87 kX8_idle iX8_idle rfl ⟨_, rfl, rfl⟩ (by decide) (jcat_push v9) (Nat.le_of_ble_eq_true rfl) rfl ⟨Nat.le_of_ble_eq_true rfl, Nat.le_of_ble_eq_true rfl⟩ hcs ?_
  refine jN_mono h9 (fun v8 M8 h8 => ?_)
  obtain ⟨z, e1, e2, hJ8⟩ := h8
  subst e1
  subst e2
  refine jr_lcmp (n := 775) dL_law_774 rfl ?_
  refine jr_ifT_eq (t := 1168) dL_law_775 (by decide) (jlc_R _ _) (jlc_self _) ?_
  exact k M8 hJ8
theorem law_18 {G : jG} {cl sl b L : Nat} {xs : Nat → Int32} {i : Int} {M : jMem} (hcs : cl ≤ room_1.cells ∧ sl ≤ room_1.slots) (h0 : 0 ≤ i) (h1 : i + 6 ≤ L) (hL : L ≤ 3072) (hJ : jJ M) (k : ∀ M', jJ M' → jX G mLaw room_1 cl sl (jlE G b L xs) lw_Z 1168 [.ref b, .ref (jad G 0), .ref (jad G 8), .int (jI i)] [] M') : jX G mLaw room_1 cl sl (jlE G b L xs) lw_Z 780 [.ref b, .ref (jad G 0), .ref (jad G 8), .int (jI i)] [] M := by
  refine jr_aload_n (n := 781) dL_law_780 rfl rfl ?_
  refine jr_gV0 (d := 30) (n := 784) (ci := 7) (ν := mX7_waits) dL_law_781 rfl lL_88 kX7_waits iX7_waits rfl ⟨_, rfl, rfl⟩ (by decide) (Nat.le_of_ble_eq_true rfl) (Nat.le_of_ble_eq_true rfl) rfl ⟨Nat.le_of_ble_eq_true rfl, Nat.le_of_ble_eq_true rfl⟩ hcs ?_
  refine jN_mono (g_waits hJ ) (fun v9 M9 h9 => ?_)
  refine jr_aload_n (n := 785) dL_law_784 rfl rfl ?_
  refine jr_gV0 (d := 30) (n := 788) (ci := 8) (ν := mX8_waits) dL_law_785 rfl lL_92 kX8_waits iX8_waits rfl ⟨_, rfl, rfl⟩ (by decide) (jcat_push v9) (Nat.le_of_ble_eq_true rfl) rfl ⟨Nat.le_of_ble_eq_true rfl, Nat.le_of_ble_eq_true rfl⟩ hcs ?_
  refine jN_mono h9 (fun v8 M8 h8 => ?_)
  obtain ⟨z, e1, e2, hJ8⟩ := h8
  subst e1
  subst e2
  refine jr_lcmp (n := 789) dL_law_788 rfl ?_
  refine jr_ifT_eq (t := 1168) dL_law_789 (by decide) (jlc_R _ _) (jlc_self _) ?_
  exact k M8 hJ8
theorem law_19 {G : jG} {cl sl b L : Nat} {xs : Nat → Int32} {i : Int} {M : jMem} (hcs : cl ≤ room_1.cells ∧ sl ≤ room_1.slots) (h0 : 0 ≤ i) (h1 : i + 6 ≤ L) (hL : L ≤ 3072) (hJ : jJ M) (k : ∀ M', jJ M' → jX G mLaw room_1 cl sl (jlE G b L xs) lw_Z 1168 [.ref b, .ref (jad G 0), .ref (jad G 8), .int (jI i)] [] M') : jX G mLaw room_1 cl sl (jlE G b L xs) lw_Z 794 [.ref b, .ref (jad G 0), .ref (jad G 8), .int (jI i)] [] M := by
  refine jr_aload_n (n := 795) dL_law_794 rfl rfl ?_
  refine jr_aload_n (n := 796) dL_law_795 rfl rfl ?_
  refine jr_iload_n (n := 797) dL_law_796 rfl rfl ?_
  refine jr_iconst (n := 798) dL_law_797 rfl ?_
  refine jr_iadd (n := 799) dL_law_798 rfl ?_
  refine jr_sld (n := 800) dL_law_799 rfl (by omega) (by omega) (by omega) ?_
  refine jr_gV1 (d := 30) (n := 803) (ci := 7) (ν := mX7_pay) dL_law_800 rfl lL_93 kX7_pay iX7_pay rfl ⟨_, rfl, rfl⟩ (by decide) (Nat.le_of_ble_eq_true rfl) (Nat.le_of_ble_eq_true rfl) rfl ⟨Nat.le_of_ble_eq_true rfl, Nat.le_of_ble_eq_true rfl⟩ hcs ?_
  refine jN_mono (g_pay hJ (jI_R _)) (fun v9 M9 h9 => ?_)
  refine jr_aload_n (n := 804) dL_law_803 rfl rfl ?_
  refine jr_aload_n (n := 805) dL_law_804 rfl rfl ?_
  refine jr_iload_n (n := 806) dL_law_805 rfl rfl ?_
  refine jr_iconst (n := 807) dL_law_806 rfl ?_
  refine jr_iadd (n := 808) dL_law_807 rfl ?_
  refine jr_sld (n := 809) dL_law_808 rfl (by omega) (by omega) (by omega) ?_
  refine jr_gV1 (d := 30) (n := 812) (ci := 8) (ν := mX8_pay) dL_law_809 rfl lL_96 kX8_pay iX8_pay rfl ⟨_, rfl, rfl⟩ (by decide) (jcat_push v9) (Nat.le_of_ble_eq_true rfl) rfl ⟨Nat.le_of_ble_eq_true rfl, Nat.le_of_ble_eq_true rfl⟩ hcs ?_
  refine jN_mono h9 (fun v8 M8 h8 => ?_)
  obtain ⟨z, e1, e2, hJ8⟩ := h8
  subst e1
  subst e2
  refine jr_lcmp (n := 813) dL_law_812 rfl ?_
  refine jr_ifT_eq (t := 1168) dL_law_813 (by decide) (jlc_R _ _) (jlc_self _) ?_
  exact k M8 hJ8
theorem law_20 {G : jG} {cl sl b L : Nat} {xs : Nat → Int32} {i : Int} {M : jMem} (hcs : cl ≤ room_1.cells ∧ sl ≤ room_1.slots) (h0 : 0 ≤ i) (h1 : i + 6 ≤ L) (hL : L ≤ 3072) (hJ : jJ M) (k : ∀ M', jJ M' → jX G mLaw room_1 cl sl (jlE G b L xs) lw_Z 1168 [.ref b, .ref (jad G 0), .ref (jad G 8), .int (jI i)] [] M') : jX G mLaw room_1 cl sl (jlE G b L xs) lw_Z 818 [.ref b, .ref (jad G 0), .ref (jad G 8), .int (jI i)] [] M := by
  refine jr_aload_n (n := 819) dL_law_818 rfl rfl ?_
  refine jr_aload_n (n := 820) dL_law_819 rfl rfl ?_
  refine jr_iload_n (n := 821) dL_law_820 rfl rfl ?_
  refine jr_iconst (n := 822) dL_law_821 rfl ?_
  refine jr_iadd (n := 823) dL_law_822 rfl ?_
  refine jr_sld (n := 824) dL_law_823 rfl (by omega) (by omega) (by omega) ?_
  refine jr_aload_n (n := 825) dL_law_824 rfl rfl ?_
  refine jr_iload_n (n := 826) dL_law_825 rfl rfl ?_
  refine jr_iconst (n := 827) dL_law_826 rfl ?_
  refine jr_iadd (n := 828) dL_law_827 rfl ?_
  refine jr_sld (n := 829) dL_law_828 rfl (by omega) (by omega) (by omega) ?_
  refine jr_aload_n (n := 830) dL_law_829 rfl rfl ?_
  refine jr_iload_n (n := 831) dL_law_830 rfl rfl ?_
  refine jr_iconst (n := 832) dL_law_831 rfl ?_
  refine jr_iadd (n := 833) dL_law_832 rfl ?_
  refine jr_sld (n := 834) dL_law_833 rfl (by omega) (by omega) (by omega) ?_
  refine jr_gV3 (d := 30) (n := 837) (ci := 7) (ν := mX7_apart) dL_law_834 rfl lL_97 kX7_apart iX7_apart rfl ⟨_, rfl, rfl⟩ (by decide) (Nat.le_of_ble_eq_true rfl) (Nat.le_of_ble_eq_true rfl) rfl ⟨Nat.le_of_ble_eq_true rfl, Nat.le_of_ble_eq_true rfl⟩ hcs ?_
  refine jN_mono (g_apart hJ (jI_R _) (jI_R _) (jI_R _)) (fun v9 M9 h9 => ?_)
  refine jr_aload_n (n := 838) dL_law_837 rfl rfl ?_
  refine jr_aload_n (n := 839) dL_law_838 rfl rfl ?_
  refine jr_iload_n (n := 840) dL_law_839 rfl rfl ?_
  refine jr_iconst (n := 841) dL_law_840 rfl ?_
  refine jr_iadd (n := 842) dL_law_841 rfl ?_
  refine jr_sld (n := 843) dL_law_842 rfl (by omega) (by omega) (by omega) ?_
  refine jr_aload_n (n := 844) dL_law_843 rfl rfl ?_
  refine jr_iload_n (n := 845) dL_law_844 rfl rfl ?_
  refine jr_iconst (n := 846) dL_law_845 rfl ?_
  refine jr_iadd (n := 847) dL_law_846 rfl ?_
  refine jr_sld (n := 848) dL_law_847 rfl (by omega) (by omega) (by omega) ?_
  refine jr_aload_n (n := 849) dL_law_848 rfl rfl ?_
  refine jr_iload_n (n := 850) dL_law_849 rfl rfl ?_
  refine jr_iconst (n := 851) dL_law_850 rfl ?_
  refine jr_iadd (n := 852) dL_law_851 rfl ?_
  refine jr_sld (n := 853) dL_law_852 rfl (by omega) (by omega) (by omega) ?_
  refine jr_gV3 (d := 30) (n := 856) (ci := 8) (ν := mX8_apart) dL_law_853 rfl lL_100 kX8_apart iX8_apart rfl ⟨_, rfl, rfl⟩ (by decide) (jcat_push v9) (Nat.le_of_ble_eq_true rfl) rfl ⟨Nat.le_of_ble_eq_true rfl, Nat.le_of_ble_eq_true rfl⟩ hcs ?_
  refine jN_mono h9 (fun v8 M8 h8 => ?_)
  obtain ⟨z, e1, e2, hJ8⟩ := h8
  subst e1
  subst e2
  refine jr_lcmp (n := 857) dL_law_856 rfl ?_
  refine jr_ifT_eq (t := 1168) dL_law_857 (by decide) (jlc_R _ _) (jlc_self _) ?_
  exact k M8 hJ8
theorem law_21 {G : jG} {cl sl b L : Nat} {xs : Nat → Int32} {i : Int} {M : jMem} (hcs : cl ≤ room_1.cells ∧ sl ≤ room_1.slots) (h0 : 0 ≤ i) (h1 : i + 6 ≤ L) (hL : L ≤ 3072) (hJ : jJ M) (k : ∀ M', jJ M' → jX G mLaw room_1 cl sl (jlE G b L xs) lw_Z 1168 [.ref b, .ref (jad G 0), .ref (jad G 8), .int (jI i)] [] M') : jX G mLaw room_1 cl sl (jlE G b L xs) lw_Z 862 [.ref b, .ref (jad G 0), .ref (jad G 8), .int (jI i)] [] M := by
  refine jr_aload_n (n := 863) dL_law_862 rfl rfl ?_
  refine jr_aload_n (n := 864) dL_law_863 rfl rfl ?_
  refine jr_iload_n (n := 865) dL_law_864 rfl rfl ?_
  refine jr_iconst (n := 866) dL_law_865 rfl ?_
  refine jr_iadd (n := 867) dL_law_866 rfl ?_
  refine jr_sld (n := 868) dL_law_867 rfl (by omega) (by omega) (by omega) ?_
  refine jr_gV1 (d := 30) (n := 871) (ci := 7) (ν := mX7_room) dL_law_868 rfl lL_101 kX7_room iX7_room rfl ⟨_, rfl, rfl⟩ (by decide) (Nat.le_of_ble_eq_true rfl) (Nat.le_of_ble_eq_true rfl) rfl ⟨Nat.le_of_ble_eq_true rfl, Nat.le_of_ble_eq_true rfl⟩ hcs ?_
  refine jN_mono (g_room hJ (jI_R _)) (fun v9 M9 h9 => ?_)
  refine jr_aload_n (n := 872) dL_law_871 rfl rfl ?_
  refine jr_aload_n (n := 873) dL_law_872 rfl rfl ?_
  refine jr_iload_n (n := 874) dL_law_873 rfl rfl ?_
  refine jr_iconst (n := 875) dL_law_874 rfl ?_
  refine jr_iadd (n := 876) dL_law_875 rfl ?_
  refine jr_sld (n := 877) dL_law_876 rfl (by omega) (by omega) (by omega) ?_
  refine jr_gV1 (d := 30) (n := 880) (ci := 8) (ν := mX8_room) dL_law_877 rfl lL_104 kX8_room iX8_room rfl ⟨_, rfl, rfl⟩ (by decide) (jcat_push v9) (Nat.le_of_ble_eq_true rfl) rfl ⟨Nat.le_of_ble_eq_true rfl, Nat.le_of_ble_eq_true rfl⟩ hcs ?_
  refine jN_mono h9 (fun v8 M8 h8 => ?_)
  obtain ⟨z, e1, e2, hJ8⟩ := h8
  subst e1
  subst e2
  refine jr_lcmp (n := 881) dL_law_880 rfl ?_
  refine jr_ifT_eq (t := 1168) dL_law_881 (by decide) (jlc_R _ _) (jlc_self _) ?_
  exact k M8 hJ8
theorem law_22 {G : jG} {cl sl b L : Nat} {xs : Nat → Int32} {i : Int} {M : jMem} (hcs : cl ≤ room_1.cells ∧ sl ≤ room_1.slots) (h0 : 0 ≤ i) (h1 : i + 6 ≤ L) (hL : L ≤ 3072) (hJ : jJ M) (k : ∀ M', jJ M' → jX G mLaw room_1 cl sl (jlE G b L xs) lw_Z 1168 [.ref b, .ref (jad G 0), .ref (jad G 8), .int (jI i)] [] M') : jX G mLaw room_1 cl sl (jlE G b L xs) lw_Z 886 [.ref b, .ref (jad G 0), .ref (jad G 8), .int (jI i)] [] M := by
  refine jr_aload_n (n := 887) dL_law_886 rfl rfl ?_
  refine jr_aload_n (n := 888) dL_law_887 rfl rfl ?_
  refine jr_iload_n (n := 889) dL_law_888 rfl rfl ?_
  refine jr_iconst (n := 890) dL_law_889 rfl ?_
  refine jr_iadd (n := 891) dL_law_890 rfl ?_
  refine jr_sld (n := 892) dL_law_891 rfl (by omega) (by omega) (by omega) ?_
  refine jr_aload_n (n := 893) dL_law_892 rfl rfl ?_
  refine jr_iload_n (n := 894) dL_law_893 rfl rfl ?_
  refine jr_iconst (n := 895) dL_law_894 rfl ?_
  refine jr_iadd (n := 896) dL_law_895 rfl ?_
  refine jr_sld (n := 897) dL_law_896 rfl (by omega) (by omega) (by omega) ?_
  refine jr_gV2 (d := 30) (n := 900) (ci := 7) (ν := mX7_move) dL_law_897 rfl lL_105 kX7_move iX7_move rfl ⟨_, rfl, rfl⟩ (by decide) (Nat.le_of_ble_eq_true rfl) (Nat.le_of_ble_eq_true rfl) rfl ⟨Nat.le_of_ble_eq_true rfl, Nat.le_of_ble_eq_true rfl⟩ hcs ?_
  refine jN_mono (g_move hJ (jI_R _) (jI_R _)) (fun v9 M9 h9 => ?_)
  refine jr_aload_n (n := 901) dL_law_900 rfl rfl ?_
  refine jr_aload_n (n := 902) dL_law_901 rfl rfl ?_
  refine jr_iload_n (n := 903) dL_law_902 rfl rfl ?_
  refine jr_iconst (n := 904) dL_law_903 rfl ?_
  refine jr_iadd (n := 905) dL_law_904 rfl ?_
  refine jr_sld (n := 906) dL_law_905 rfl (by omega) (by omega) (by omega) ?_
  refine jr_aload_n (n := 907) dL_law_906 rfl rfl ?_
  refine jr_iload_n (n := 908) dL_law_907 rfl rfl ?_
  refine jr_iconst (n := 909) dL_law_908 rfl ?_
  refine jr_iadd (n := 910) dL_law_909 rfl ?_
  refine jr_sld (n := 911) dL_law_910 rfl (by omega) (by omega) (by omega) ?_
  refine jr_gV2 (d := 30) (n := 914) (ci := 8) (ν := mX8_move) dL_law_911 rfl lL_108 kX8_move iX8_move rfl ⟨_, rfl, rfl⟩ (by decide) (jcat_push v9) (Nat.le_of_ble_eq_true rfl) rfl ⟨Nat.le_of_ble_eq_true rfl, Nat.le_of_ble_eq_true rfl⟩ hcs ?_
  refine jN_mono h9 (fun v8 M8 h8 => ?_)
  obtain ⟨z, e1, e2, hJ8⟩ := h8
  subst e1
  subst e2
  refine jr_lcmp (n := 915) dL_law_914 rfl ?_
  refine jr_ifT_eq (t := 1168) dL_law_915 (by decide) (jlc_R _ _) (jlc_self _) ?_
  exact k M8 hJ8
theorem law_23 {G : jG} {cl sl b L : Nat} {xs : Nat → Int32} {i : Int} {M : jMem} (hcs : cl ≤ room_1.cells ∧ sl ≤ room_1.slots) (h0 : 0 ≤ i) (h1 : i + 6 ≤ L) (hL : L ≤ 3072) (hJ : jJ M) (k : ∀ M', jJ M' → jX G mLaw room_1 cl sl (jlE G b L xs) lw_Z 1168 [.ref b, .ref (jad G 0), .ref (jad G 8), .int (jI i)] [] M') : jX G mLaw room_1 cl sl (jlE G b L xs) lw_Z 920 [.ref b, .ref (jad G 0), .ref (jad G 8), .int (jI i)] [] M := by
  refine jr_aload_n (n := 921) dL_law_920 rfl rfl ?_
  refine jr_aload_n (n := 922) dL_law_921 rfl rfl ?_
  refine jr_iload_n (n := 923) dL_law_922 rfl rfl ?_
  refine jr_iconst (n := 924) dL_law_923 rfl ?_
  refine jr_iadd (n := 925) dL_law_924 rfl ?_
  refine jr_sld (n := 926) dL_law_925 rfl (by omega) (by omega) (by omega) ?_
  refine jr_aload_n (n := 927) dL_law_926 rfl rfl ?_
  refine jr_iload_n (n := 928) dL_law_927 rfl rfl ?_
  refine jr_iconst (n := 929) dL_law_928 rfl ?_
  refine jr_iadd (n := 930) dL_law_929 rfl ?_
  refine jr_sld (n := 931) dL_law_930 rfl (by omega) (by omega) (by omega) ?_
  refine jr_gV2 (d := 30) (n := 934) (ci := 7) (ν := mX7_notice) dL_law_931 rfl lL_109 kX7_notice iX7_notice rfl ⟨_, rfl, rfl⟩ (by decide) (Nat.le_of_ble_eq_true rfl) (Nat.le_of_ble_eq_true rfl) rfl ⟨Nat.le_of_ble_eq_true rfl, Nat.le_of_ble_eq_true rfl⟩ hcs ?_
  refine jN_mono (g_notice hJ (jI_R _) (jI_R _)) (fun v9 M9 h9 => ?_)
  refine jr_aload_n (n := 935) dL_law_934 rfl rfl ?_
  refine jr_aload_n (n := 936) dL_law_935 rfl rfl ?_
  refine jr_iload_n (n := 937) dL_law_936 rfl rfl ?_
  refine jr_iconst (n := 938) dL_law_937 rfl ?_
  refine jr_iadd (n := 939) dL_law_938 rfl ?_
  refine jr_sld (n := 940) dL_law_939 rfl (by omega) (by omega) (by omega) ?_
  refine jr_aload_n (n := 941) dL_law_940 rfl rfl ?_
  refine jr_iload_n (n := 942) dL_law_941 rfl rfl ?_
  refine jr_iconst (n := 943) dL_law_942 rfl ?_
  refine jr_iadd (n := 944) dL_law_943 rfl ?_
  refine jr_sld (n := 945) dL_law_944 rfl (by omega) (by omega) (by omega) ?_
  refine jr_gV2 (d := 30) (n := 948) (ci := 8) (ν := mX8_notice) dL_law_945 rfl lL_112 kX8_notice iX8_notice rfl ⟨_, rfl, rfl⟩ (by decide) (jcat_push v9) (Nat.le_of_ble_eq_true rfl) rfl ⟨Nat.le_of_ble_eq_true rfl, Nat.le_of_ble_eq_true rfl⟩ hcs ?_
  refine jN_mono h9 (fun v8 M8 h8 => ?_)
  obtain ⟨z, e1, e2, hJ8⟩ := h8
  subst e1
  subst e2
  refine jr_lcmp (n := 949) dL_law_948 rfl ?_
  refine jr_ifT_eq (t := 1168) dL_law_949 (by decide) (jlc_R _ _) (jlc_self _) ?_
  exact k M8 hJ8
theorem law_24 {G : jG} {cl sl b L : Nat} {xs : Nat → Int32} {i : Int} {M : jMem} (hcs : cl ≤ room_1.cells ∧ sl ≤ room_1.slots) (h0 : 0 ≤ i) (h1 : i + 6 ≤ L) (hL : L ≤ 3072) (hJ : jJ M) (k : ∀ M', jJ M' → jX G mLaw room_1 cl sl (jlE G b L xs) lw_Z 1168 [.ref b, .ref (jad G 0), .ref (jad G 8), .int (jI i)] [] M') : jX G mLaw room_1 cl sl (jlE G b L xs) lw_Z 954 [.ref b, .ref (jad G 0), .ref (jad G 8), .int (jI i)] [] M := by
  refine jr_aload_n (n := 955) dL_law_954 rfl rfl ?_
  refine jr_aload_n (n := 956) dL_law_955 rfl rfl ?_
  refine jr_iload_n (n := 957) dL_law_956 rfl rfl ?_
  refine jr_iconst (n := 958) dL_law_957 rfl ?_
  refine jr_iadd (n := 959) dL_law_958 rfl ?_
  refine jr_sld (n := 960) dL_law_959 rfl (by omega) (by omega) (by omega) ?_
  refine jr_gV1 (d := 30) (n := 963) (ci := 7) (ν := mX7_read) dL_law_960 rfl lL_113 kX7_read iX7_read rfl ⟨_, rfl, rfl⟩ (by decide) (Nat.le_of_ble_eq_true rfl) (Nat.le_of_ble_eq_true rfl) rfl ⟨Nat.le_of_ble_eq_true rfl, Nat.le_of_ble_eq_true rfl⟩ hcs ?_
  refine jN_mono (g_read hJ (jI_R _)) (fun v9 M9 h9 => ?_)
  refine jr_aload_n (n := 964) dL_law_963 rfl rfl ?_
  refine jr_aload_n (n := 965) dL_law_964 rfl rfl ?_
  refine jr_iload_n (n := 966) dL_law_965 rfl rfl ?_
  refine jr_iconst (n := 967) dL_law_966 rfl ?_
  refine jr_iadd (n := 968) dL_law_967 rfl ?_
  refine jr_sld (n := 969) dL_law_968 rfl (by omega) (by omega) (by omega) ?_
  refine jr_gV1 (d := 30) (n := 972) (ci := 8) (ν := mX8_read) dL_law_969 rfl lL_116 kX8_read iX8_read rfl ⟨_, rfl, rfl⟩ (by decide) (jcat_push v9) (Nat.le_of_ble_eq_true rfl) rfl ⟨Nat.le_of_ble_eq_true rfl, Nat.le_of_ble_eq_true rfl⟩ hcs ?_
  refine jN_mono h9 (fun v8 M8 h8 => ?_)
  obtain ⟨z, e1, e2, hJ8⟩ := h8
  subst e1
  subst e2
  refine jr_lcmp (n := 973) dL_law_972 rfl ?_
  refine jr_ifT_eq (t := 1168) dL_law_973 (by decide) (jlc_R _ _) (jlc_self _) ?_
  exact k M8 hJ8
theorem law_25 {G : jG} {cl sl b L : Nat} {xs : Nat → Int32} {i : Int} {M : jMem} (hcs : cl ≤ room_1.cells ∧ sl ≤ room_1.slots) (h0 : 0 ≤ i) (h1 : i + 6 ≤ L) (hL : L ≤ 3072) (hJ : jJ M) (k : ∀ M', jJ M' → jX G mLaw room_1 cl sl (jlE G b L xs) lw_Z 1168 [.ref b, .ref (jad G 0), .ref (jad G 8), .int (jI i)] [] M') : jX G mLaw room_1 cl sl (jlE G b L xs) lw_Z 978 [.ref b, .ref (jad G 0), .ref (jad G 8), .int (jI i)] [] M := by
  refine jr_aload_n (n := 979) dL_law_978 rfl rfl ?_
  refine jr_aload_n (n := 980) dL_law_979 rfl rfl ?_
  refine jr_iload_n (n := 981) dL_law_980 rfl rfl ?_
  refine jr_iconst (n := 982) dL_law_981 rfl ?_
  refine jr_iadd (n := 983) dL_law_982 rfl ?_
  refine jr_sld (n := 984) dL_law_983 rfl (by omega) (by omega) (by omega) ?_
  refine jr_aload_n (n := 985) dL_law_984 rfl rfl ?_
  refine jr_iload_n (n := 986) dL_law_985 rfl rfl ?_
  refine jr_iconst (n := 987) dL_law_986 rfl ?_
  refine jr_iadd (n := 988) dL_law_987 rfl ?_
  refine jr_sld (n := 989) dL_law_988 rfl (by omega) (by omega) (by omega) ?_
  refine jr_gV2 (d := 30) (n := 992) (ci := 7) (ν := mX7_sheet) dL_law_989 rfl lL_117 kX7_sheet iX7_sheet rfl ⟨_, rfl, rfl⟩ (by decide) (Nat.le_of_ble_eq_true rfl) (Nat.le_of_ble_eq_true rfl) rfl ⟨Nat.le_of_ble_eq_true rfl, Nat.le_of_ble_eq_true rfl⟩ hcs ?_
  refine jN_mono (g_sheet hJ (jI_R _) (jI_R _)) (fun v9 M9 h9 => ?_)
  refine jr_aload_n (n := 993) dL_law_992 rfl rfl ?_
  refine jr_aload_n (n := 994) dL_law_993 rfl rfl ?_
  refine jr_iload_n (n := 995) dL_law_994 rfl rfl ?_
  refine jr_iconst (n := 996) dL_law_995 rfl ?_
  refine jr_iadd (n := 997) dL_law_996 rfl ?_
  refine jr_sld (n := 998) dL_law_997 rfl (by omega) (by omega) (by omega) ?_
  refine jr_aload_n (n := 999) dL_law_998 rfl rfl ?_
  refine jr_iload_n (n := 1000) dL_law_999 rfl rfl ?_
  refine jr_iconst (n := 1001) dL_law_1000 rfl ?_
  refine jr_iadd (n := 1002) dL_law_1001 rfl ?_
  refine jr_sld (n := 1003) dL_law_1002 rfl (by omega) (by omega) (by omega) ?_
  refine jr_gV2 (d := 30) (n := 1006) (ci := 8) (ν := mX8_sheet) dL_law_1003 rfl lL_120 kX8_sheet iX8_sheet rfl ⟨_, rfl, rfl⟩ (by decide) (jcat_push v9) (Nat.le_of_ble_eq_true rfl) rfl ⟨Nat.le_of_ble_eq_true rfl, Nat.le_of_ble_eq_true rfl⟩ hcs ?_
  refine jN_mono h9 (fun v8 M8 h8 => ?_)
  obtain ⟨z, e1, e2, hJ8⟩ := h8
  subst e1
  subst e2
  refine jr_lcmp (n := 1007) dL_law_1006 rfl ?_
  refine jr_ifT_eq (t := 1168) dL_law_1007 (by decide) (jlc_R _ _) (jlc_self _) ?_
  exact k M8 hJ8
theorem law_26 {G : jG} {cl sl b L : Nat} {xs : Nat → Int32} {i : Int} {M : jMem} (hcs : cl ≤ room_1.cells ∧ sl ≤ room_1.slots) (h0 : 0 ≤ i) (h1 : i + 6 ≤ L) (hL : L ≤ 3072) (hJ : jJ M) (k : ∀ M', jJ M' → jX G mLaw room_1 cl sl (jlE G b L xs) lw_Z 1168 [.ref b, .ref (jad G 0), .ref (jad G 8), .int (jI i)] [] M') : jX G mLaw room_1 cl sl (jlE G b L xs) lw_Z 1012 [.ref b, .ref (jad G 0), .ref (jad G 8), .int (jI i)] [] M := by
  refine jr_aload_n (n := 1013) dL_law_1012 rfl rfl ?_
  refine jr_aload_n (n := 1014) dL_law_1013 rfl rfl ?_
  refine jr_iload_n (n := 1015) dL_law_1014 rfl rfl ?_
  refine jr_iconst (n := 1016) dL_law_1015 rfl ?_
  refine jr_iadd (n := 1017) dL_law_1016 rfl ?_
  refine jr_sld (n := 1018) dL_law_1017 rfl (by omega) (by omega) (by omega) ?_
  refine jr_aload_n (n := 1019) dL_law_1018 rfl rfl ?_
  refine jr_iload_n (n := 1020) dL_law_1019 rfl rfl ?_
  refine jr_iconst (n := 1021) dL_law_1020 rfl ?_
  refine jr_iadd (n := 1022) dL_law_1021 rfl ?_
  refine jr_sld (n := 1023) dL_law_1022 rfl (by omega) (by omega) (by omega) ?_
  refine jr_aload_n (n := 1024) dL_law_1023 rfl rfl ?_
  refine jr_iload_n (n := 1025) dL_law_1024 rfl rfl ?_
  refine jr_iconst (n := 1026) dL_law_1025 rfl ?_
  refine jr_iadd (n := 1027) dL_law_1026 rfl ?_
  refine jr_sld (n := 1028) dL_law_1027 rfl (by omega) (by omega) (by omega) ?_
  refine jr_gV3 (d := 30) (n := 1031) (ci := 7) (ν := mX7_mark) dL_law_1028 rfl lL_121 kX7_mark iX7_mark rfl ⟨_, rfl, rfl⟩ (by decide) (Nat.le_of_ble_eq_true rfl) (Nat.le_of_ble_eq_true rfl) rfl ⟨Nat.le_of_ble_eq_true rfl, Nat.le_of_ble_eq_true rfl⟩ hcs ?_
  refine jN_mono (g_mark hJ (jI_R _) (jI_R _) (jI_R _)) (fun v9 M9 h9 => ?_)
  refine jr_aload_n (n := 1032) dL_law_1031 rfl rfl ?_
  refine jr_aload_n (n := 1033) dL_law_1032 rfl rfl ?_
  refine jr_iload_n (n := 1034) dL_law_1033 rfl rfl ?_
  refine jr_iconst (n := 1035) dL_law_1034 rfl ?_
  refine jr_iadd (n := 1036) dL_law_1035 rfl ?_
  refine jr_sld (n := 1037) dL_law_1036 rfl (by omega) (by omega) (by omega) ?_
  refine jr_aload_n (n := 1038) dL_law_1037 rfl rfl ?_
  refine jr_iload_n (n := 1039) dL_law_1038 rfl rfl ?_
  refine jr_iconst (n := 1040) dL_law_1039 rfl ?_
  refine jr_iadd (n := 1041) dL_law_1040 rfl ?_
  refine jr_sld (n := 1042) dL_law_1041 rfl (by omega) (by omega) (by omega) ?_
  refine jr_aload_n (n := 1043) dL_law_1042 rfl rfl ?_
  refine jr_iload_n (n := 1044) dL_law_1043 rfl rfl ?_
  refine jr_iconst (n := 1045) dL_law_1044 rfl ?_
  refine jr_iadd (n := 1046) dL_law_1045 rfl ?_
  refine jr_sld (n := 1047) dL_law_1046 rfl (by omega) (by omega) (by omega) ?_
  refine jr_gV3 (d := 30) (n := 1050) (ci := 8) (ν := mX8_mark) dL_law_1047 rfl lL_124 kX8_mark iX8_mark rfl ⟨_, rfl, rfl⟩ (by decide) (jcat_push v9) (Nat.le_of_ble_eq_true rfl) rfl ⟨Nat.le_of_ble_eq_true rfl, Nat.le_of_ble_eq_true rfl⟩ hcs ?_
  refine jN_mono h9 (fun v8 M8 h8 => ?_)
  obtain ⟨z, e1, e2, hJ8⟩ := h8
  subst e1
  subst e2
  refine jr_lcmp (n := 1051) dL_law_1050 rfl ?_
  refine jr_ifT_eq (t := 1168) dL_law_1051 (by decide) (jlc_R _ _) (jlc_self _) ?_
  exact k M8 hJ8
theorem law_27 {G : jG} {cl sl b L : Nat} {xs : Nat → Int32} {i : Int} {M : jMem} (hcs : cl ≤ room_1.cells ∧ sl ≤ room_1.slots) (h0 : 0 ≤ i) (h1 : i + 6 ≤ L) (hL : L ≤ 3072) (hJ : jJ M) (k : ∀ M', jJ M' → jX G mLaw room_1 cl sl (jlE G b L xs) lw_Z 1168 [.ref b, .ref (jad G 0), .ref (jad G 8), .int (jI i)] [] M') : jX G mLaw room_1 cl sl (jlE G b L xs) lw_Z 1056 [.ref b, .ref (jad G 0), .ref (jad G 8), .int (jI i)] [] M := by
  refine jr_aload_n (n := 1057) dL_law_1056 rfl rfl ?_
  refine jr_aload_n (n := 1058) dL_law_1057 rfl rfl ?_
  refine jr_iload_n (n := 1059) dL_law_1058 rfl rfl ?_
  refine jr_iconst (n := 1060) dL_law_1059 rfl ?_
  refine jr_iadd (n := 1061) dL_law_1060 rfl ?_
  refine jr_sld (n := 1062) dL_law_1061 rfl (by omega) (by omega) (by omega) ?_
  refine jr_aload_n (n := 1063) dL_law_1062 rfl rfl ?_
  refine jr_iload_n (n := 1064) dL_law_1063 rfl rfl ?_
  refine jr_iconst (n := 1065) dL_law_1064 rfl ?_
  refine jr_iadd (n := 1066) dL_law_1065 rfl ?_
  refine jr_sld (n := 1067) dL_law_1066 rfl (by omega) (by omega) (by omega) ?_
  refine jr_aload_n (n := 1068) dL_law_1067 rfl rfl ?_
  refine jr_iload_n (n := 1069) dL_law_1068 rfl rfl ?_
  refine jr_iconst (n := 1070) dL_law_1069 rfl ?_
  refine jr_iadd (n := 1071) dL_law_1070 rfl ?_
  refine jr_sld (n := 1072) dL_law_1071 rfl (by omega) (by omega) (by omega) ?_
  refine jr_aload_n (n := 1073) dL_law_1072 rfl rfl ?_
  refine jr_iload_n (n := 1074) dL_law_1073 rfl rfl ?_
  refine jr_iconst (n := 1075) dL_law_1074 rfl ?_
  refine jr_iadd (n := 1076) dL_law_1075 rfl ?_
  refine jr_sld (n := 1077) dL_law_1076 rfl (by omega) (by omega) (by omega) ?_
  refine jr_aload_n (n := 1078) dL_law_1077 rfl rfl ?_
  refine jr_iload_n (n := 1079) dL_law_1078 rfl rfl ?_
  refine jr_iconst (n := 1080) dL_law_1079 rfl ?_
  refine jr_iadd (n := 1081) dL_law_1080 rfl ?_
  refine jr_sld (n := 1082) dL_law_1081 rfl (by omega) (by omega) (by omega) ?_
  refine jr_gV5 (d := 30) (n := 1085) (ci := 7) (ν := mX7_copy) dL_law_1082 rfl lL_125 kX7_copy iX7_copy rfl ⟨_, rfl, rfl⟩ (by decide) (Nat.le_of_ble_eq_true rfl) (Nat.le_of_ble_eq_true rfl) rfl ⟨Nat.le_of_ble_eq_true rfl, Nat.le_of_ble_eq_true rfl⟩ hcs ?_
  refine jN_mono (g_copy hJ (jI_R _) (jI_R _) (jI_R _) (jI_R _) (jI_R _)) (fun v9 M9 h9 => ?_)
  refine jr_aload_n (n := 1086) dL_law_1085 rfl rfl ?_
  refine jr_aload_n (n := 1087) dL_law_1086 rfl rfl ?_
  refine jr_iload_n (n := 1088) dL_law_1087 rfl rfl ?_
  refine jr_iconst (n := 1089) dL_law_1088 rfl ?_
  refine jr_iadd (n := 1090) dL_law_1089 rfl ?_
  refine jr_sld (n := 1091) dL_law_1090 rfl (by omega) (by omega) (by omega) ?_
  refine jr_aload_n (n := 1092) dL_law_1091 rfl rfl ?_
  refine jr_iload_n (n := 1093) dL_law_1092 rfl rfl ?_
  refine jr_iconst (n := 1094) dL_law_1093 rfl ?_
  refine jr_iadd (n := 1095) dL_law_1094 rfl ?_
  refine jr_sld (n := 1096) dL_law_1095 rfl (by omega) (by omega) (by omega) ?_
  refine jr_aload_n (n := 1097) dL_law_1096 rfl rfl ?_
  refine jr_iload_n (n := 1098) dL_law_1097 rfl rfl ?_
  refine jr_iconst (n := 1099) dL_law_1098 rfl ?_
  refine jr_iadd (n := 1100) dL_law_1099 rfl ?_
  refine jr_sld (n := 1101) dL_law_1100 rfl (by omega) (by omega) (by omega) ?_
  refine jr_aload_n (n := 1102) dL_law_1101 rfl rfl ?_
  refine jr_iload_n (n := 1103) dL_law_1102 rfl rfl ?_
  refine jr_iconst (n := 1104) dL_law_1103 rfl ?_
  refine jr_iadd (n := 1105) dL_law_1104 rfl ?_
  refine jr_sld (n := 1106) dL_law_1105 rfl (by omega) (by omega) (by omega) ?_
  refine jr_aload_n (n := 1107) dL_law_1106 rfl rfl ?_
  refine jr_iload_n (n := 1108) dL_law_1107 rfl rfl ?_
  refine jr_iconst (n := 1109) dL_law_1108 rfl ?_
  refine jr_iadd (n := 1110) dL_law_1109 rfl ?_
  refine jr_sld (n := 1111) dL_law_1110 rfl (by omega) (by omega) (by omega) ?_
  refine jr_gV5 (d := 30) (n := 1114) (ci := 8) (ν := mX8_copy) dL_law_1111 rfl lL_129 kX8_copy iX8_copy rfl ⟨_, rfl, rfl⟩ (by decide) (jcat_push v9) (Nat.le_of_ble_eq_true rfl) rfl ⟨Nat.le_of_ble_eq_true rfl, Nat.le_of_ble_eq_true rfl⟩ hcs ?_
  refine jN_mono h9 (fun v8 M8 h8 => ?_)
  obtain ⟨z, e1, e2, hJ8⟩ := h8
  subst e1
  subst e2
  refine jr_lcmp (n := 1115) dL_law_1114 rfl ?_
  refine jr_ifT_eq (t := 1168) dL_law_1115 (by decide) (jlc_R _ _) (jlc_self _) ?_
  exact k M8 hJ8
theorem law_28 {G : jG} {cl sl b L : Nat} {xs : Nat → Int32} {i : Int} {M : jMem} (hcs : cl ≤ room_1.cells ∧ sl ≤ room_1.slots) (h0 : 0 ≤ i) (h1 : i + 6 ≤ L) (hL : L ≤ 3072) (hJ : jJ M) (k : ∀ M', jJ M' → jX G mLaw room_1 cl sl (jlE G b L xs) lw_Z 1168 [.ref b, .ref (jad G 0), .ref (jad G 8), .int (jI i)] [] M') : jX G mLaw room_1 cl sl (jlE G b L xs) lw_Z 1120 [.ref b, .ref (jad G 0), .ref (jad G 8), .int (jI i)] [] M := by
  refine jr_aload_n (n := 1121) dL_law_1120 rfl rfl ?_
  refine jr_aload_n (n := 1122) dL_law_1121 rfl rfl ?_
  refine jr_iload_n (n := 1123) dL_law_1122 rfl rfl ?_
  refine jr_iconst (n := 1124) dL_law_1123 rfl ?_
  refine jr_iadd (n := 1125) dL_law_1124 rfl ?_
  refine jr_sld (n := 1126) dL_law_1125 rfl (by omega) (by omega) (by omega) ?_
  refine jr_gV1 (d := 30) (n := 1129) (ci := 7) (ν := mX7_take) dL_law_1126 rfl lL_130 kX7_take iX7_take rfl ⟨_, rfl, rfl⟩ (by decide) (Nat.le_of_ble_eq_true rfl) (Nat.le_of_ble_eq_true rfl) rfl ⟨Nat.le_of_ble_eq_true rfl, Nat.le_of_ble_eq_true rfl⟩ hcs ?_
  refine jN_mono (g_take hJ (jI_R _)) (fun v9 M9 h9 => ?_)
  refine jr_aload_n (n := 1130) dL_law_1129 rfl rfl ?_
  refine jr_aload_n (n := 1131) dL_law_1130 rfl rfl ?_
  refine jr_iload_n (n := 1132) dL_law_1131 rfl rfl ?_
  refine jr_iconst (n := 1133) dL_law_1132 rfl ?_
  refine jr_iadd (n := 1134) dL_law_1133 rfl ?_
  refine jr_sld (n := 1135) dL_law_1134 rfl (by omega) (by omega) (by omega) ?_
  refine jr_gV1 (d := 30) (n := 1138) (ci := 8) (ν := mX8_take) dL_law_1135 rfl lL_133 kX8_take iX8_take rfl ⟨_, rfl, rfl⟩ (by decide) (jcat_push v9) (Nat.le_of_ble_eq_true rfl) rfl ⟨Nat.le_of_ble_eq_true rfl, Nat.le_of_ble_eq_true rfl⟩ hcs ?_
  refine jN_mono h9 (fun v8 M8 h8 => ?_)
  obtain ⟨z, e1, e2, hJ8⟩ := h8
  subst e1
  subst e2
  refine jr_lcmp (n := 1139) dL_law_1138 rfl ?_
  refine jr_ifT_eq (t := 1168) dL_law_1139 (by decide) (jlc_R _ _) (jlc_self _) ?_
  exact k M8 hJ8
theorem law_29 {G : jG} {cl sl b L : Nat} {xs : Nat → Int32} {i : Int} {M : jMem} (hcs : cl ≤ room_1.cells ∧ sl ≤ room_1.slots) (h0 : 0 ≤ i) (h1 : i + 6 ≤ L) (hL : L ≤ 3072) (hJ : jJ M) (k : ∀ M', jJ M' → jX G mLaw room_1 cl sl (jlE G b L xs) lw_Z 1168 [.ref b, .ref (jad G 0), .ref (jad G 8), .int (jI i)] [] M') : jX G mLaw room_1 cl sl (jlE G b L xs) lw_Z 1144 [.ref b, .ref (jad G 0), .ref (jad G 8), .int (jI i)] [] M := by
  refine jr_aload_n (n := 1145) dL_law_1144 rfl rfl ?_
  refine jr_aload_n (n := 1146) dL_law_1145 rfl rfl ?_
  refine jr_iload_n (n := 1147) dL_law_1146 rfl rfl ?_
  refine jr_iconst (n := 1148) dL_law_1147 rfl ?_
  refine jr_iadd (n := 1149) dL_law_1148 rfl ?_
  refine jr_sld (n := 1150) dL_law_1149 rfl (by omega) (by omega) (by omega) ?_
  refine jr_gV1 (d := 30) (n := 1153) (ci := 7) (ν := mX7_count) dL_law_1150 rfl lL_134 kX7_count iX7_count rfl ⟨_, rfl, rfl⟩ (by decide) (Nat.le_of_ble_eq_true rfl) (Nat.le_of_ble_eq_true rfl) rfl ⟨Nat.le_of_ble_eq_true rfl, Nat.le_of_ble_eq_true rfl⟩ hcs ?_
  refine jN_mono (g_count hJ (jI_R _)) (fun v9 M9 h9 => ?_)
  refine jr_aload_n (n := 1154) dL_law_1153 rfl rfl ?_
  refine jr_aload_n (n := 1155) dL_law_1154 rfl rfl ?_
  refine jr_iload_n (n := 1156) dL_law_1155 rfl rfl ?_
  refine jr_iconst (n := 1157) dL_law_1156 rfl ?_
  refine jr_iadd (n := 1158) dL_law_1157 rfl ?_
  refine jr_sld (n := 1159) dL_law_1158 rfl (by omega) (by omega) (by omega) ?_
  refine jr_gV1 (d := 30) (n := 1162) (ci := 8) (ν := mX8_count) dL_law_1159 rfl lL_137 kX8_count iX8_count rfl ⟨_, rfl, rfl⟩ (by decide) (jcat_push v9) (Nat.le_of_ble_eq_true rfl) rfl ⟨Nat.le_of_ble_eq_true rfl, Nat.le_of_ble_eq_true rfl⟩ hcs ?_
  refine jN_mono h9 (fun v8 M8 h8 => ?_)
  obtain ⟨z, e1, e2, hJ8⟩ := h8
  subst e1
  subst e2
  refine jr_lcmp (n := 1163) dL_law_1162 rfl ?_
  refine jr_ifT_eq (t := 1168) dL_law_1163 (by decide) (jlc_R _ _) (jlc_self _) ?_
  exact k M8 hJ8
