/-! ===== the law: a call of each, compared ===== -/
section LAWC
variable {G : tkG} {n i mc ms len : Nat} {T : Nat → Nat × Nat} {I : Nat → Nat → Int32} {L : Nat → Nat → Int64} {P : Nat → Nat → Option Nat} {xs : Nat → Int32} {Q : Option tkV → tkH → Prop}
def NXL (G : tkG) (i mc ms : Nat) (Q : Option tkV → tkH → Prop) : Prop := ∀ n T I L P mc' ms', lR n T I L P → mc ≤ mc' + 10 → ms ≤ ms' + 275 → tkX G mL_law 100 mc' ms' 1235 [some vS, some (vR 0), some (vR 40), some (vI (nI i))] [] (n, T, I, L, P) Q
theorem lR.k0 (h : lR n T I L P) : (T 0).1 = 10 := by
  obtain ⟨-, -, -, -, -, tw, kc, kn, o1, -⟩ := h
  exact o1.1
theorem la_begin (hG : G.2.2.2.2 = (len, xs)) (hlen : len ≤ 3072) (hi : i + 6 ≤ len) (hL : lR n T I L P) (hmc : 10 ≤ mc) (hms : 275 ≤ ms) (hnx : NXL G i mc ms Q) : tkX G mL_law 100 mc ms 180 [some vS, some (vR 0), some (vR 40), some (vI (nI i))] [] (n, T, I, L, P) Q := by
  have k0 := hL.k0
  obtain ⟨Qc, c1, c2⟩ := p_begin (G := G) hL (xs (i + 1)) (xs (i + 2)) (xs (i + 3))
  refine tk_aload1 dL_law_180 ?_
  refine tk_sload dL_law_181 ?_
  refine tk_iload3 dL_law_182 ?_
  refine tk_iconst dL_law_183 kc_iconst_1 ?_
  first | refine tk_iaddN dL_law_184 ?_ | refine tk_iadd dL_law_184 ?_
  refine tk_sald dL_law_185 hG (by omega) (by omega) ?_
  refine tk_sload dL_law_186 ?_
  refine tk_iload3 dL_law_187 ?_
  refine tk_iconst dL_law_188 kc_iconst_2 ?_
  first | refine tk_iaddN dL_law_189 ?_ | refine tk_iadd dL_law_189 ?_
  refine tk_sald dL_law_190 hG (by omega) (by omega) ?_
  refine tk_sload dL_law_191 ?_
  refine tk_iload3 dL_law_192 ?_
  refine tk_iconst dL_law_193 kc_iconst_3 ?_
  first | refine tk_iaddN dL_law_194 ?_ | refine tk_iadd dL_law_194 ?_
  refine tk_sald dL_law_195 hG (by omega) (by omega) ?_
  refine tk_callV3s dL_law_196 kL_13 (by first | assumption | exact va_up_self _ _ _ | exact (va_up_ne _ _ (by omega)).trans (by assumption) | exact congrArg Prod.fst (va_up_self _ _ _) | exact (congrArg Prod.fst (va_up_ne _ _ (by omega))).trans (by assumption) | exact (congrFun (va_up_ne _ _ (by omega)) _).trans (by assumption) | exact (va_up_ne _ _ (by omega)).trans (va_up_self _ _ _) | exact (va_up_ne _ _ (by omega)).trans ((va_up_ne _ _ (by omega)).trans (by assumption)) | exact (congrArg Prod.fst ((va_up_ne _ _ (by omega)).trans (va_up_ne _ _ (by omega)))).trans (by assumption) | exact (congrFun ((va_up_ne _ _ (by omega)).trans (va_up_ne _ _ (by omega))) _).trans (by assumption) | (rw [va_up_self, va_up_ne _ _ (by omega)]; assumption)) (c1) (Nat.le_of_ble_eq_true rfl) (by omega) (by omega) (by omega) ?_
  rintro rr hh1 hq
  obtain ⟨x, n1, T1, I1, L1, P1, rfl, rfl, hR, Qr, d1, d2⟩ := c2 _ _ hq
  dsimp only [Option.toList, List.singleton_append]
  refine tk_aload2 dL_law_199 ?_
  refine tk_sload dL_law_200 ?_
  refine tk_iload3 dL_law_201 ?_
  refine tk_iconst dL_law_202 kc_iconst_1 ?_
  first | refine tk_iaddN dL_law_203 ?_ | refine tk_iadd dL_law_203 ?_
  refine tk_sald dL_law_204 hG (by omega) (by omega) ?_
  refine tk_sload dL_law_205 ?_
  refine tk_iload3 dL_law_206 ?_
  refine tk_iconst dL_law_207 kc_iconst_2 ?_
  first | refine tk_iaddN dL_law_208 ?_ | refine tk_iadd dL_law_208 ?_
  refine tk_sald dL_law_209 hG (by omega) (by omega) ?_
  refine tk_sload dL_law_210 ?_
  refine tk_iload3 dL_law_211 ?_
  refine tk_iconst dL_law_212 kc_iconst_3 ?_
  first | refine tk_iaddN dL_law_213 ?_ | refine tk_iadd dL_law_213 ?_
  refine tk_sald dL_law_214 hG (by omega) (by omega) ?_
  refine tk_callV3q dL_law_215 kL_17 hR.o (d1) (Nat.le_of_ble_eq_true rfl) (by omega) ?_
  rintro rr hh1 hq2
  obtain ⟨I2, L2, rfl, rfl, hL2⟩ := d2 _ _ hq2
  dsimp only [Option.toList, List.singleton_append]
  first | refine tk_icmp_eqN dL_law_218 (by omega) (by omega) (fun h218 => ?_) (fun h218 => ?_) | refine tk_icmp_eq dL_law_218 (fun h218 => ?_) (fun h218 => ?_)
  · exact hnx _ _ _ _ _ _ _ hL2 (by omega) (by omega)
  · exact absurd rfl h218
theorem la_go (hG : G.2.2.2.2 = (len, xs)) (hlen : len ≤ 3072) (hi : i + 6 ≤ len) (hL : lR n T I L P) (hmc : 10 ≤ mc) (hms : 275 ≤ ms) (hnx : NXL G i mc ms Q) : tkX G mL_law 100 mc ms 223 [some vS, some (vR 0), some (vR 40), some (vI (nI i))] [] (n, T, I, L, P) Q := by
  have k0 := hL.k0
  obtain ⟨Qc, c1, c2⟩ := p_go (G := G) hL (xs (i + 1)) (xs (i + 2))
  refine tk_aload1 dL_law_223 ?_
  refine tk_sload dL_law_224 ?_
  refine tk_iload3 dL_law_225 ?_
  refine tk_iconst dL_law_226 kc_iconst_1 ?_
  first | refine tk_iaddN dL_law_227 ?_ | refine tk_iadd dL_law_227 ?_
  refine tk_sald dL_law_228 hG (by omega) (by omega) ?_
  refine tk_sload dL_law_229 ?_
  refine tk_iload3 dL_law_230 ?_
  refine tk_iconst dL_law_231 kc_iconst_2 ?_
  first | refine tk_iaddN dL_law_232 ?_ | refine tk_iadd dL_law_232 ?_
  refine tk_sald dL_law_233 hG (by omega) (by omega) ?_
  refine tk_callV2s dL_law_234 kL_18 (by first | assumption | exact va_up_self _ _ _ | exact (va_up_ne _ _ (by omega)).trans (by assumption) | exact congrArg Prod.fst (va_up_self _ _ _) | exact (congrArg Prod.fst (va_up_ne _ _ (by omega))).trans (by assumption) | exact (congrFun (va_up_ne _ _ (by omega)) _).trans (by assumption) | exact (va_up_ne _ _ (by omega)).trans (va_up_self _ _ _) | exact (va_up_ne _ _ (by omega)).trans ((va_up_ne _ _ (by omega)).trans (by assumption)) | exact (congrArg Prod.fst ((va_up_ne _ _ (by omega)).trans (va_up_ne _ _ (by omega)))).trans (by assumption) | exact (congrFun ((va_up_ne _ _ (by omega)).trans (va_up_ne _ _ (by omega))) _).trans (by assumption) | (rw [va_up_self, va_up_ne _ _ (by omega)]; assumption)) (c1) (Nat.le_of_ble_eq_true rfl) (by omega) (by omega) (by omega) ?_
  rintro rr hh1 hq
  obtain ⟨x, n1, T1, I1, L1, P1, rfl, rfl, hR, Qr, d1, d2⟩ := c2 _ _ hq
  dsimp only [Option.toList, List.singleton_append]
  refine tk_aload2 dL_law_237 ?_
  refine tk_sload dL_law_238 ?_
  refine tk_iload3 dL_law_239 ?_
  refine tk_iconst dL_law_240 kc_iconst_1 ?_
  first | refine tk_iaddN dL_law_241 ?_ | refine tk_iadd dL_law_241 ?_
  refine tk_sald dL_law_242 hG (by omega) (by omega) ?_
  refine tk_sload dL_law_243 ?_
  refine tk_iload3 dL_law_244 ?_
  refine tk_iconst dL_law_245 kc_iconst_2 ?_
  first | refine tk_iaddN dL_law_246 ?_ | refine tk_iadd dL_law_246 ?_
  refine tk_sald dL_law_247 hG (by omega) (by omega) ?_
  refine tk_callV2q dL_law_248 kL_22 hR.o (d1) (Nat.le_of_ble_eq_true rfl) (by omega) ?_
  rintro rr hh1 hq2
  obtain ⟨I2, L2, rfl, rfl, hL2⟩ := d2 _ _ hq2
  dsimp only [Option.toList, List.singleton_append]
  first | refine tk_icmp_eqN dL_law_251 (by omega) (by omega) (fun h251 => ?_) (fun h251 => ?_) | refine tk_icmp_eq dL_law_251 (fun h251 => ?_) (fun h251 => ?_)
  · exact hnx _ _ _ _ _ _ _ hL2 (by omega) (by omega)
  · exact absurd rfl h251
theorem la_group (hG : G.2.2.2.2 = (len, xs)) (hlen : len ≤ 3072) (hi : i + 6 ≤ len) (hL : lR n T I L P) (hmc : 10 ≤ mc) (hms : 275 ≤ ms) (hnx : NXL G i mc ms Q) : tkX G mL_law 100 mc ms 256 [some vS, some (vR 0), some (vR 40), some (vI (nI i))] [] (n, T, I, L, P) Q := by
  have k0 := hL.k0
  obtain ⟨Qc, c1, c2⟩ := p_group (G := G) hL (xs (i + 1)) (xs (i + 2))
  refine tk_aload1 dL_law_256 ?_
  refine tk_sload dL_law_257 ?_
  refine tk_iload3 dL_law_258 ?_
  refine tk_iconst dL_law_259 kc_iconst_1 ?_
  first | refine tk_iaddN dL_law_260 ?_ | refine tk_iadd dL_law_260 ?_
  refine tk_sald dL_law_261 hG (by omega) (by omega) ?_
  refine tk_sload dL_law_262 ?_
  refine tk_iload3 dL_law_263 ?_
  refine tk_iconst dL_law_264 kc_iconst_2 ?_
  first | refine tk_iaddN dL_law_265 ?_ | refine tk_iadd dL_law_265 ?_
  refine tk_sald dL_law_266 hG (by omega) (by omega) ?_
  refine tk_callV2s dL_law_267 kL_23 (by first | assumption | exact va_up_self _ _ _ | exact (va_up_ne _ _ (by omega)).trans (by assumption) | exact congrArg Prod.fst (va_up_self _ _ _) | exact (congrArg Prod.fst (va_up_ne _ _ (by omega))).trans (by assumption) | exact (congrFun (va_up_ne _ _ (by omega)) _).trans (by assumption) | exact (va_up_ne _ _ (by omega)).trans (va_up_self _ _ _) | exact (va_up_ne _ _ (by omega)).trans ((va_up_ne _ _ (by omega)).trans (by assumption)) | exact (congrArg Prod.fst ((va_up_ne _ _ (by omega)).trans (va_up_ne _ _ (by omega)))).trans (by assumption) | exact (congrFun ((va_up_ne _ _ (by omega)).trans (va_up_ne _ _ (by omega))) _).trans (by assumption) | (rw [va_up_self, va_up_ne _ _ (by omega)]; assumption)) (c1) (Nat.le_of_ble_eq_true rfl) (by omega) (by omega) (by omega) ?_
  rintro rr hh1 hq
  obtain ⟨x, n1, T1, I1, L1, P1, rfl, rfl, hR, Qr, d1, d2⟩ := c2 _ _ hq
  dsimp only [Option.toList, List.singleton_append]
  refine tk_aload2 dL_law_270 ?_
  refine tk_sload dL_law_271 ?_
  refine tk_iload3 dL_law_272 ?_
  refine tk_iconst dL_law_273 kc_iconst_1 ?_
  first | refine tk_iaddN dL_law_274 ?_ | refine tk_iadd dL_law_274 ?_
  refine tk_sald dL_law_275 hG (by omega) (by omega) ?_
  refine tk_sload dL_law_276 ?_
  refine tk_iload3 dL_law_277 ?_
  refine tk_iconst dL_law_278 kc_iconst_2 ?_
  first | refine tk_iaddN dL_law_279 ?_ | refine tk_iadd dL_law_279 ?_
  refine tk_sald dL_law_280 hG (by omega) (by omega) ?_
  refine tk_callV2q dL_law_281 kL_26 hR.o (d1) (Nat.le_of_ble_eq_true rfl) (by omega) ?_
  rintro rr hh1 hq2
  obtain ⟨I2, L2, rfl, rfl, hL2⟩ := d2 _ _ hq2
  dsimp only [Option.toList, List.singleton_append]
  first | refine tk_icmp_eqN dL_law_284 (by omega) (by omega) (fun h284 => ?_) (fun h284 => ?_) | refine tk_icmp_eq dL_law_284 (fun h284 => ?_) (fun h284 => ?_)
  · exact hnx _ _ _ _ _ _ _ hL2 (by omega) (by omega)
  · exact absurd rfl h284
theorem la_sign (hG : G.2.2.2.2 = (len, xs)) (hlen : len ≤ 3072) (hi : i + 6 ≤ len) (hL : lR n T I L P) (hmc : 10 ≤ mc) (hms : 275 ≤ ms) (hnx : NXL G i mc ms Q) : tkX G mL_law 100 mc ms 289 [some vS, some (vR 0), some (vR 40), some (vI (nI i))] [] (n, T, I, L, P) Q := by
  have k0 := hL.k0
  obtain ⟨Qc, c1, c2⟩ := p_sign (G := G) hL (xs (i + 1)) (xs (i + 2))
  refine tk_aload1 dL_law_289 ?_
  refine tk_sload dL_law_290 ?_
  refine tk_iload3 dL_law_291 ?_
  refine tk_iconst dL_law_292 kc_iconst_1 ?_
  first | refine tk_iaddN dL_law_293 ?_ | refine tk_iadd dL_law_293 ?_
  refine tk_sald dL_law_294 hG (by omega) (by omega) ?_
  refine tk_sload dL_law_295 ?_
  refine tk_iload3 dL_law_296 ?_
  refine tk_iconst dL_law_297 kc_iconst_2 ?_
  first | refine tk_iaddN dL_law_298 ?_ | refine tk_iadd dL_law_298 ?_
  refine tk_sald dL_law_299 hG (by omega) (by omega) ?_
  refine tk_callV2s dL_law_300 kL_27 (by first | assumption | exact va_up_self _ _ _ | exact (va_up_ne _ _ (by omega)).trans (by assumption) | exact congrArg Prod.fst (va_up_self _ _ _) | exact (congrArg Prod.fst (va_up_ne _ _ (by omega))).trans (by assumption) | exact (congrFun (va_up_ne _ _ (by omega)) _).trans (by assumption) | exact (va_up_ne _ _ (by omega)).trans (va_up_self _ _ _) | exact (va_up_ne _ _ (by omega)).trans ((va_up_ne _ _ (by omega)).trans (by assumption)) | exact (congrArg Prod.fst ((va_up_ne _ _ (by omega)).trans (va_up_ne _ _ (by omega)))).trans (by assumption) | exact (congrFun ((va_up_ne _ _ (by omega)).trans (va_up_ne _ _ (by omega))) _).trans (by assumption) | (rw [va_up_self, va_up_ne _ _ (by omega)]; assumption)) (c1) (Nat.le_of_ble_eq_true rfl) (by omega) (by omega) (by omega) ?_
  rintro rr hh1 hq
  obtain ⟨x, n1, T1, I1, L1, P1, rfl, rfl, hR, Qr, d1, d2⟩ := c2 _ _ hq
  dsimp only [Option.toList, List.singleton_append]
  refine tk_aload2 dL_law_303 ?_
  refine tk_sload dL_law_304 ?_
  refine tk_iload3 dL_law_305 ?_
  refine tk_iconst dL_law_306 kc_iconst_1 ?_
  first | refine tk_iaddN dL_law_307 ?_ | refine tk_iadd dL_law_307 ?_
  refine tk_sald dL_law_308 hG (by omega) (by omega) ?_
  refine tk_sload dL_law_309 ?_
  refine tk_iload3 dL_law_310 ?_
  refine tk_iconst dL_law_311 kc_iconst_2 ?_
  first | refine tk_iaddN dL_law_312 ?_ | refine tk_iadd dL_law_312 ?_
  refine tk_sald dL_law_313 hG (by omega) (by omega) ?_
  refine tk_callV2q dL_law_314 kL_30 hR.o (d1) (Nat.le_of_ble_eq_true rfl) (by omega) ?_
  rintro rr hh1 hq2
  obtain ⟨I2, L2, rfl, rfl, hL2⟩ := d2 _ _ hq2
  dsimp only [Option.toList, List.singleton_append]
  first | refine tk_icmp_eqN dL_law_317 (by omega) (by omega) (fun h317 => ?_) (fun h317 => ?_) | refine tk_icmp_eq dL_law_317 (fun h317 => ?_) (fun h317 => ?_)
  · exact hnx _ _ _ _ _ _ _ hL2 (by omega) (by omega)
  · exact absurd rfl h317
theorem la_blank (hG : G.2.2.2.2 = (len, xs)) (hlen : len ≤ 3072) (hi : i + 6 ≤ len) (hL : lR n T I L P) (hmc : 10 ≤ mc) (hms : 275 ≤ ms) (hnx : NXL G i mc ms Q) : tkX G mL_law 100 mc ms 322 [some vS, some (vR 0), some (vR 40), some (vI (nI i))] [] (n, T, I, L, P) Q := by
  have k0 := hL.k0
  obtain ⟨Qc, c1, c2⟩ := p_blank (G := G) hL (xs (i + 1))
  refine tk_aload1 dL_law_322 ?_
  refine tk_sload dL_law_323 ?_
  refine tk_iload3 dL_law_324 ?_
  refine tk_iconst dL_law_325 kc_iconst_1 ?_
  first | refine tk_iaddN dL_law_326 ?_ | refine tk_iadd dL_law_326 ?_
  refine tk_sald dL_law_327 hG (by omega) (by omega) ?_
  refine tk_callV1s dL_law_328 kL_31 (by first | assumption | exact va_up_self _ _ _ | exact (va_up_ne _ _ (by omega)).trans (by assumption) | exact congrArg Prod.fst (va_up_self _ _ _) | exact (congrArg Prod.fst (va_up_ne _ _ (by omega))).trans (by assumption) | exact (congrFun (va_up_ne _ _ (by omega)) _).trans (by assumption) | exact (va_up_ne _ _ (by omega)).trans (va_up_self _ _ _) | exact (va_up_ne _ _ (by omega)).trans ((va_up_ne _ _ (by omega)).trans (by assumption)) | exact (congrArg Prod.fst ((va_up_ne _ _ (by omega)).trans (va_up_ne _ _ (by omega)))).trans (by assumption) | exact (congrFun ((va_up_ne _ _ (by omega)).trans (va_up_ne _ _ (by omega))) _).trans (by assumption) | (rw [va_up_self, va_up_ne _ _ (by omega)]; assumption)) (c1) (Nat.le_of_ble_eq_true rfl) (by omega) (by omega) (by omega) ?_
  rintro rr hh1 hq
  obtain ⟨x, n1, T1, I1, L1, P1, rfl, rfl, hR, Qr, d1, d2⟩ := c2 _ _ hq
  dsimp only [Option.toList, List.singleton_append]
  refine tk_aload2 dL_law_331 ?_
  refine tk_sload dL_law_332 ?_
  refine tk_iload3 dL_law_333 ?_
  refine tk_iconst dL_law_334 kc_iconst_1 ?_
  first | refine tk_iaddN dL_law_335 ?_ | refine tk_iadd dL_law_335 ?_
  refine tk_sald dL_law_336 hG (by omega) (by omega) ?_
  refine tk_callV1q dL_law_337 kL_35 hR.o (d1) (Nat.le_of_ble_eq_true rfl) (by omega) ?_
  rintro rr hh1 hq2
  obtain ⟨I2, L2, rfl, rfl, hL2⟩ := d2 _ _ hq2
  dsimp only [Option.toList, List.singleton_append]
  first | refine tk_icmp_eqN dL_law_340 (by omega) (by omega) (fun h340 => ?_) (fun h340 => ?_) | refine tk_icmp_eq dL_law_340 (fun h340 => ?_) (fun h340 => ?_)
  · exact hnx _ _ _ _ _ _ _ hL2 (by omega) (by omega)
  · exact absurd rfl h340
theorem la_write (hG : G.2.2.2.2 = (len, xs)) (hlen : len ≤ 3072) (hi : i + 6 ≤ len) (hL : lR n T I L P) (hmc : 10 ≤ mc) (hms : 275 ≤ ms) (hnx : NXL G i mc ms Q) : tkX G mL_law 100 mc ms 345 [some vS, some (vR 0), some (vR 40), some (vI (nI i))] [] (n, T, I, L, P) Q := by
  have k0 := hL.k0
  obtain ⟨Qc, c1, c2⟩ := p_write (G := G) hL (xs (i + 1)) (xs (i + 2))
  refine tk_aload1 dL_law_345 ?_
  refine tk_sload dL_law_346 ?_
  refine tk_iload3 dL_law_347 ?_
  refine tk_iconst dL_law_348 kc_iconst_1 ?_
  first | refine tk_iaddN dL_law_349 ?_ | refine tk_iadd dL_law_349 ?_
  refine tk_sald dL_law_350 hG (by omega) (by omega) ?_
  refine tk_sload dL_law_351 ?_
  refine tk_iload3 dL_law_352 ?_
  refine tk_iconst dL_law_353 kc_iconst_2 ?_
  first | refine tk_iaddN dL_law_354 ?_ | refine tk_iadd dL_law_354 ?_
  refine tk_sald dL_law_355 hG (by omega) (by omega) ?_
  refine tk_callV2s dL_law_356 kL_36 (by first | assumption | exact va_up_self _ _ _ | exact (va_up_ne _ _ (by omega)).trans (by assumption) | exact congrArg Prod.fst (va_up_self _ _ _) | exact (congrArg Prod.fst (va_up_ne _ _ (by omega))).trans (by assumption) | exact (congrFun (va_up_ne _ _ (by omega)) _).trans (by assumption) | exact (va_up_ne _ _ (by omega)).trans (va_up_self _ _ _) | exact (va_up_ne _ _ (by omega)).trans ((va_up_ne _ _ (by omega)).trans (by assumption)) | exact (congrArg Prod.fst ((va_up_ne _ _ (by omega)).trans (va_up_ne _ _ (by omega)))).trans (by assumption) | exact (congrFun ((va_up_ne _ _ (by omega)).trans (va_up_ne _ _ (by omega))) _).trans (by assumption) | (rw [va_up_self, va_up_ne _ _ (by omega)]; assumption)) (c1) (Nat.le_of_ble_eq_true rfl) (by omega) (by omega) (by omega) ?_
  rintro rr hh1 hq
  obtain ⟨x, n1, T1, I1, L1, P1, rfl, rfl, hR, Qr, d1, d2⟩ := c2 _ _ hq
  dsimp only [Option.toList, List.singleton_append]
  refine tk_aload2 dL_law_359 ?_
  refine tk_sload dL_law_360 ?_
  refine tk_iload3 dL_law_361 ?_
  refine tk_iconst dL_law_362 kc_iconst_1 ?_
  first | refine tk_iaddN dL_law_363 ?_ | refine tk_iadd dL_law_363 ?_
  refine tk_sald dL_law_364 hG (by omega) (by omega) ?_
  refine tk_sload dL_law_365 ?_
  refine tk_iload3 dL_law_366 ?_
  refine tk_iconst dL_law_367 kc_iconst_2 ?_
  first | refine tk_iaddN dL_law_368 ?_ | refine tk_iadd dL_law_368 ?_
  refine tk_sald dL_law_369 hG (by omega) (by omega) ?_
  refine tk_callV2q dL_law_370 kL_39 hR.o (d1) (Nat.le_of_ble_eq_true rfl) (by omega) ?_
  rintro rr hh1 hq2
  obtain ⟨I2, L2, rfl, rfl, hL2⟩ := d2 _ _ hq2
  dsimp only [Option.toList, List.singleton_append]
  first | refine tk_icmp_eqN dL_law_373 (by omega) (by omega) (fun h373 => ?_) (fun h373 => ?_) | refine tk_icmp_eq dL_law_373 (fun h373 => ?_) (fun h373 => ?_)
  · exact hnx _ _ _ _ _ _ _ hL2 (by omega) (by omega)
  · exact absurd rfl h373
theorem la_as (hG : G.2.2.2.2 = (len, xs)) (hlen : len ≤ 3072) (hi : i + 6 ≤ len) (hL : lR n T I L P) (hmc : 10 ≤ mc) (hms : 275 ≤ ms) (hnx : NXL G i mc ms Q) : tkX G mL_law 100 mc ms 378 [some vS, some (vR 0), some (vR 40), some (vI (nI i))] [] (n, T, I, L, P) Q := by
  have k0 := hL.k0
  obtain ⟨Qc, c1, c2⟩ := p_as (G := G) hL (xs (i + 1)) (xs (i + 2)) (xs (i + 3))
  refine tk_aload1 dL_law_378 ?_
  refine tk_sload dL_law_379 ?_
  refine tk_iload3 dL_law_380 ?_
  refine tk_iconst dL_law_381 kc_iconst_1 ?_
  first | refine tk_iaddN dL_law_382 ?_ | refine tk_iadd dL_law_382 ?_
  refine tk_sald dL_law_383 hG (by omega) (by omega) ?_
  refine tk_sload dL_law_384 ?_
  refine tk_iload3 dL_law_385 ?_
  refine tk_iconst dL_law_386 kc_iconst_2 ?_
  first | refine tk_iaddN dL_law_387 ?_ | refine tk_iadd dL_law_387 ?_
  refine tk_sald dL_law_388 hG (by omega) (by omega) ?_
  refine tk_sload dL_law_389 ?_
  refine tk_iload3 dL_law_390 ?_
  refine tk_iconst dL_law_391 kc_iconst_3 ?_
  first | refine tk_iaddN dL_law_392 ?_ | refine tk_iadd dL_law_392 ?_
  refine tk_sald dL_law_393 hG (by omega) (by omega) ?_
  refine tk_callV3s dL_law_394 kL_40 (by first | assumption | exact va_up_self _ _ _ | exact (va_up_ne _ _ (by omega)).trans (by assumption) | exact congrArg Prod.fst (va_up_self _ _ _) | exact (congrArg Prod.fst (va_up_ne _ _ (by omega))).trans (by assumption) | exact (congrFun (va_up_ne _ _ (by omega)) _).trans (by assumption) | exact (va_up_ne _ _ (by omega)).trans (va_up_self _ _ _) | exact (va_up_ne _ _ (by omega)).trans ((va_up_ne _ _ (by omega)).trans (by assumption)) | exact (congrArg Prod.fst ((va_up_ne _ _ (by omega)).trans (va_up_ne _ _ (by omega)))).trans (by assumption) | exact (congrFun ((va_up_ne _ _ (by omega)).trans (va_up_ne _ _ (by omega))) _).trans (by assumption) | (rw [va_up_self, va_up_ne _ _ (by omega)]; assumption)) (c1) (Nat.le_of_ble_eq_true rfl) (by omega) (by omega) (by omega) ?_
  rintro rr hh1 hq
  obtain ⟨x, n1, T1, I1, L1, P1, rfl, rfl, hR, Qr, d1, d2⟩ := c2 _ _ hq
  dsimp only [Option.toList, List.singleton_append]
  refine tk_aload2 dL_law_397 ?_
  refine tk_sload dL_law_398 ?_
  refine tk_iload3 dL_law_399 ?_
  refine tk_iconst dL_law_400 kc_iconst_1 ?_
  first | refine tk_iaddN dL_law_401 ?_ | refine tk_iadd dL_law_401 ?_
  refine tk_sald dL_law_402 hG (by omega) (by omega) ?_
  refine tk_sload dL_law_403 ?_
  refine tk_iload3 dL_law_404 ?_
  refine tk_iconst dL_law_405 kc_iconst_2 ?_
  first | refine tk_iaddN dL_law_406 ?_ | refine tk_iadd dL_law_406 ?_
  refine tk_sald dL_law_407 hG (by omega) (by omega) ?_
  refine tk_sload dL_law_408 ?_
  refine tk_iload3 dL_law_409 ?_
  refine tk_iconst dL_law_410 kc_iconst_3 ?_
  first | refine tk_iaddN dL_law_411 ?_ | refine tk_iadd dL_law_411 ?_
  refine tk_sald dL_law_412 hG (by omega) (by omega) ?_
  refine tk_callV3q dL_law_413 kL_43 hR.o (d1) (Nat.le_of_ble_eq_true rfl) (by omega) ?_
  rintro rr hh1 hq2
  obtain ⟨I2, L2, rfl, rfl, hL2⟩ := d2 _ _ hq2
  dsimp only [Option.toList, List.singleton_append]
  first | refine tk_icmp_eqN dL_law_416 (by omega) (by omega) (fun h416 => ?_) (fun h416 => ?_) | refine tk_icmp_eq dL_law_416 (fun h416 => ?_) (fun h416 => ?_)
  · exact hnx _ _ _ _ _ _ _ hL2 (by omega) (by omega)
  · exact absurd rfl h416
theorem la_wrong (hG : G.2.2.2.2 = (len, xs)) (hlen : len ≤ 3072) (hi : i + 6 ≤ len) (hL : lR n T I L P) (hmc : 10 ≤ mc) (hms : 275 ≤ ms) (hnx : NXL G i mc ms Q) : tkX G mL_law 100 mc ms 421 [some vS, some (vR 0), some (vR 40), some (vI (nI i))] [] (n, T, I, L, P) Q := by
  have k0 := hL.k0
  obtain ⟨Qc, c1, c2⟩ := p_wrong (G := G) hL (xs (i + 1))
  refine tk_aload1 dL_law_421 ?_
  refine tk_sload dL_law_422 ?_
  refine tk_iload3 dL_law_423 ?_
  refine tk_iconst dL_law_424 kc_iconst_1 ?_
  first | refine tk_iaddN dL_law_425 ?_ | refine tk_iadd dL_law_425 ?_
  refine tk_sald dL_law_426 hG (by omega) (by omega) ?_
  refine tk_callV1s dL_law_427 kL_44 (by first | assumption | exact va_up_self _ _ _ | exact (va_up_ne _ _ (by omega)).trans (by assumption) | exact congrArg Prod.fst (va_up_self _ _ _) | exact (congrArg Prod.fst (va_up_ne _ _ (by omega))).trans (by assumption) | exact (congrFun (va_up_ne _ _ (by omega)) _).trans (by assumption) | exact (va_up_ne _ _ (by omega)).trans (va_up_self _ _ _) | exact (va_up_ne _ _ (by omega)).trans ((va_up_ne _ _ (by omega)).trans (by assumption)) | exact (congrArg Prod.fst ((va_up_ne _ _ (by omega)).trans (va_up_ne _ _ (by omega)))).trans (by assumption) | exact (congrFun ((va_up_ne _ _ (by omega)).trans (va_up_ne _ _ (by omega))) _).trans (by assumption) | (rw [va_up_self, va_up_ne _ _ (by omega)]; assumption)) (c1) (Nat.le_of_ble_eq_true rfl) (by omega) (by omega) (by omega) ?_
  rintro rr hh1 hq
  obtain ⟨x, n1, T1, I1, L1, P1, rfl, rfl, hR, Qr, d1, d2⟩ := c2 _ _ hq
  dsimp only [Option.toList, List.singleton_append]
  refine tk_aload2 dL_law_430 ?_
  refine tk_sload dL_law_431 ?_
  refine tk_iload3 dL_law_432 ?_
  refine tk_iconst dL_law_433 kc_iconst_1 ?_
  first | refine tk_iaddN dL_law_434 ?_ | refine tk_iadd dL_law_434 ?_
  refine tk_sald dL_law_435 hG (by omega) (by omega) ?_
  refine tk_callV1q dL_law_436 kL_47 hR.o (d1) (Nat.le_of_ble_eq_true rfl) (by omega) ?_
  rintro rr hh1 hq2
  obtain ⟨I2, L2, rfl, rfl, hL2⟩ := d2 _ _ hq2
  dsimp only [Option.toList, List.singleton_append]
  first | refine tk_icmp_eqN dL_law_439 (by omega) (by omega) (fun h439 => ?_) (fun h439 => ?_) | refine tk_icmp_eq dL_law_439 (fun h439 => ?_) (fun h439 => ?_)
  · exact hnx _ _ _ _ _ _ _ hL2 (by omega) (by omega)
  · exact absurd rfl h439
theorem la_see (hG : G.2.2.2.2 = (len, xs)) (hlen : len ≤ 3072) (hi : i + 6 ≤ len) (hL : lR n T I L P) (hmc : 10 ≤ mc) (hms : 275 ≤ ms) (hnx : NXL G i mc ms Q) : tkX G mL_law 100 mc ms 444 [some vS, some (vR 0), some (vR 40), some (vI (nI i))] [] (n, T, I, L, P) Q := by
  have k0 := hL.k0
  obtain ⟨Qc, c1, c2⟩ := p_see (G := G) hL (xs (i + 1)) (xs (i + 2))
  refine tk_aload1 dL_law_444 ?_
  refine tk_sload dL_law_445 ?_
  refine tk_iload3 dL_law_446 ?_
  refine tk_iconst dL_law_447 kc_iconst_1 ?_
  first | refine tk_iaddN dL_law_448 ?_ | refine tk_iadd dL_law_448 ?_
  refine tk_sald dL_law_449 hG (by omega) (by omega) ?_
  refine tk_sload dL_law_450 ?_
  refine tk_iload3 dL_law_451 ?_
  refine tk_iconst dL_law_452 kc_iconst_2 ?_
  first | refine tk_iaddN dL_law_453 ?_ | refine tk_iadd dL_law_453 ?_
  refine tk_sald dL_law_454 hG (by omega) (by omega) ?_
  refine tk_callV2s dL_law_455 kL_48 (by first | assumption | exact va_up_self _ _ _ | exact (va_up_ne _ _ (by omega)).trans (by assumption) | exact congrArg Prod.fst (va_up_self _ _ _) | exact (congrArg Prod.fst (va_up_ne _ _ (by omega))).trans (by assumption) | exact (congrFun (va_up_ne _ _ (by omega)) _).trans (by assumption) | exact (va_up_ne _ _ (by omega)).trans (va_up_self _ _ _) | exact (va_up_ne _ _ (by omega)).trans ((va_up_ne _ _ (by omega)).trans (by assumption)) | exact (congrArg Prod.fst ((va_up_ne _ _ (by omega)).trans (va_up_ne _ _ (by omega)))).trans (by assumption) | exact (congrFun ((va_up_ne _ _ (by omega)).trans (va_up_ne _ _ (by omega))) _).trans (by assumption) | (rw [va_up_self, va_up_ne _ _ (by omega)]; assumption)) (c1) (Nat.le_of_ble_eq_true rfl) (by omega) (by omega) (by omega) ?_
  rintro rr hh1 hq
  obtain ⟨x, n1, T1, I1, L1, P1, rfl, rfl, hR, Qr, d1, d2⟩ := c2 _ _ hq
  dsimp only [Option.toList, List.singleton_append]
  refine tk_aload2 dL_law_458 ?_
  refine tk_sload dL_law_459 ?_
  refine tk_iload3 dL_law_460 ?_
  refine tk_iconst dL_law_461 kc_iconst_1 ?_
  first | refine tk_iaddN dL_law_462 ?_ | refine tk_iadd dL_law_462 ?_
  refine tk_sald dL_law_463 hG (by omega) (by omega) ?_
  refine tk_sload dL_law_464 ?_
  refine tk_iload3 dL_law_465 ?_
  refine tk_iconst dL_law_466 kc_iconst_2 ?_
  first | refine tk_iaddN dL_law_467 ?_ | refine tk_iadd dL_law_467 ?_
  refine tk_sald dL_law_468 hG (by omega) (by omega) ?_
  refine tk_callV2q dL_law_469 kL_51 hR.o (d1) (Nat.le_of_ble_eq_true rfl) (by omega) ?_
  rintro rr hh1 hq2
  obtain ⟨I2, L2, rfl, rfl, hL2⟩ := d2 _ _ hq2
  dsimp only [Option.toList, List.singleton_append]
  first | refine tk_icmp_eqN dL_law_472 (by omega) (by omega) (fun h472 => ?_) (fun h472 => ?_) | refine tk_icmp_eq dL_law_472 (fun h472 => ?_) (fun h472 => ?_)
  · exact hnx _ _ _ _ _ _ _ hL2 (by omega) (by omega)
  · exact absurd rfl h472
theorem la_tell (hG : G.2.2.2.2 = (len, xs)) (hlen : len ≤ 3072) (hi : i + 6 ≤ len) (hL : lR n T I L P) (hmc : 10 ≤ mc) (hms : 275 ≤ ms) (hnx : NXL G i mc ms Q) : tkX G mL_law 100 mc ms 477 [some vS, some (vR 0), some (vR 40), some (vI (nI i))] [] (n, T, I, L, P) Q := by
  have k0 := hL.k0
  obtain ⟨Qc, c1, c2⟩ := p_tell (G := G) hL (xs (i + 1)) (xs (i + 2)) (xs (i + 3))
  refine tk_aload1 dL_law_477 ?_
  refine tk_sload dL_law_478 ?_
  refine tk_iload3 dL_law_479 ?_
  refine tk_iconst dL_law_480 kc_iconst_1 ?_
  first | refine tk_iaddN dL_law_481 ?_ | refine tk_iadd dL_law_481 ?_
  refine tk_sald dL_law_482 hG (by omega) (by omega) ?_
  refine tk_sload dL_law_483 ?_
  refine tk_iload3 dL_law_484 ?_
  refine tk_iconst dL_law_485 kc_iconst_2 ?_
  first | refine tk_iaddN dL_law_486 ?_ | refine tk_iadd dL_law_486 ?_
  refine tk_sald dL_law_487 hG (by omega) (by omega) ?_
  refine tk_sload dL_law_488 ?_
  refine tk_iload3 dL_law_489 ?_
  refine tk_iconst dL_law_490 kc_iconst_3 ?_
  first | refine tk_iaddN dL_law_491 ?_ | refine tk_iadd dL_law_491 ?_
  refine tk_sald dL_law_492 hG (by omega) (by omega) ?_
  refine tk_callV3s dL_law_493 kL_52 (by first | assumption | exact va_up_self _ _ _ | exact (va_up_ne _ _ (by omega)).trans (by assumption) | exact congrArg Prod.fst (va_up_self _ _ _) | exact (congrArg Prod.fst (va_up_ne _ _ (by omega))).trans (by assumption) | exact (congrFun (va_up_ne _ _ (by omega)) _).trans (by assumption) | exact (va_up_ne _ _ (by omega)).trans (va_up_self _ _ _) | exact (va_up_ne _ _ (by omega)).trans ((va_up_ne _ _ (by omega)).trans (by assumption)) | exact (congrArg Prod.fst ((va_up_ne _ _ (by omega)).trans (va_up_ne _ _ (by omega)))).trans (by assumption) | exact (congrFun ((va_up_ne _ _ (by omega)).trans (va_up_ne _ _ (by omega))) _).trans (by assumption) | (rw [va_up_self, va_up_ne _ _ (by omega)]; assumption)) (c1) (Nat.le_of_ble_eq_true rfl) (by omega) (by omega) (by omega) ?_
  rintro rr hh1 hq
  obtain ⟨x, n1, T1, I1, L1, P1, rfl, rfl, hR, Qr, d1, d2⟩ := c2 _ _ hq
  dsimp only [Option.toList, List.singleton_append]
  refine tk_aload2 dL_law_496 ?_
  refine tk_sload dL_law_497 ?_
  refine tk_iload3 dL_law_498 ?_
  refine tk_iconst dL_law_499 kc_iconst_1 ?_
  first | refine tk_iaddN dL_law_500 ?_ | refine tk_iadd dL_law_500 ?_
  refine tk_sald dL_law_501 hG (by omega) (by omega) ?_
  refine tk_sload dL_law_502 ?_
  refine tk_iload3 dL_law_503 ?_
  refine tk_iconst dL_law_504 kc_iconst_2 ?_
  first | refine tk_iaddN dL_law_505 ?_ | refine tk_iadd dL_law_505 ?_
  refine tk_sald dL_law_506 hG (by omega) (by omega) ?_
  refine tk_sload dL_law_507 ?_
  refine tk_iload3 dL_law_508 ?_
  refine tk_iconst dL_law_509 kc_iconst_3 ?_
  first | refine tk_iaddN dL_law_510 ?_ | refine tk_iadd dL_law_510 ?_
  refine tk_sald dL_law_511 hG (by omega) (by omega) ?_
  refine tk_callV3q dL_law_512 kL_55 hR.o (d1) (Nat.le_of_ble_eq_true rfl) (by omega) ?_
  rintro rr hh1 hq2
  obtain ⟨I2, L2, rfl, rfl, hL2⟩ := d2 _ _ hq2
  dsimp only [Option.toList, List.singleton_append]
  first | refine tk_icmp_eqN dL_law_515 (by omega) (by omega) (fun h515 => ?_) (fun h515 => ?_) | refine tk_icmp_eq dL_law_515 (fun h515 => ?_) (fun h515 => ?_)
  · exact hnx _ _ _ _ _ _ _ hL2 (by omega) (by omega)
  · exact absurd rfl h515
theorem la_openly (hG : G.2.2.2.2 = (len, xs)) (hlen : len ≤ 3072) (hi : i + 6 ≤ len) (hL : lR n T I L P) (hmc : 10 ≤ mc) (hms : 275 ≤ ms) (hnx : NXL G i mc ms Q) : tkX G mL_law 100 mc ms 520 [some vS, some (vR 0), some (vR 40), some (vI (nI i))] [] (n, T, I, L, P) Q := by
  have k0 := hL.k0
  obtain ⟨Qc, c1, c2⟩ := p_openly (G := G) hL (xs (i + 1)) (xs (i + 2)) (xs (i + 3))
  refine tk_aload1 dL_law_520 ?_
  refine tk_sload dL_law_521 ?_
  refine tk_iload3 dL_law_522 ?_
  refine tk_iconst dL_law_523 kc_iconst_1 ?_
  first | refine tk_iaddN dL_law_524 ?_ | refine tk_iadd dL_law_524 ?_
  refine tk_sald dL_law_525 hG (by omega) (by omega) ?_
  refine tk_sload dL_law_526 ?_
  refine tk_iload3 dL_law_527 ?_
  refine tk_iconst dL_law_528 kc_iconst_2 ?_
  first | refine tk_iaddN dL_law_529 ?_ | refine tk_iadd dL_law_529 ?_
  refine tk_sald dL_law_530 hG (by omega) (by omega) ?_
  refine tk_sload dL_law_531 ?_
  refine tk_iload3 dL_law_532 ?_
  refine tk_iconst dL_law_533 kc_iconst_3 ?_
  first | refine tk_iaddN dL_law_534 ?_ | refine tk_iadd dL_law_534 ?_
  refine tk_sald dL_law_535 hG (by omega) (by omega) ?_
  refine tk_callV3s dL_law_536 kL_56 (by first | assumption | exact va_up_self _ _ _ | exact (va_up_ne _ _ (by omega)).trans (by assumption) | exact congrArg Prod.fst (va_up_self _ _ _) | exact (congrArg Prod.fst (va_up_ne _ _ (by omega))).trans (by assumption) | exact (congrFun (va_up_ne _ _ (by omega)) _).trans (by assumption) | exact (va_up_ne _ _ (by omega)).trans (va_up_self _ _ _) | exact (va_up_ne _ _ (by omega)).trans ((va_up_ne _ _ (by omega)).trans (by assumption)) | exact (congrArg Prod.fst ((va_up_ne _ _ (by omega)).trans (va_up_ne _ _ (by omega)))).trans (by assumption) | exact (congrFun ((va_up_ne _ _ (by omega)).trans (va_up_ne _ _ (by omega))) _).trans (by assumption) | (rw [va_up_self, va_up_ne _ _ (by omega)]; assumption)) (c1) (Nat.le_of_ble_eq_true rfl) (by omega) (by omega) (by omega) ?_
  rintro rr hh1 hq
  obtain ⟨x, n1, T1, I1, L1, P1, rfl, rfl, hR, Qr, d1, d2⟩ := c2 _ _ hq
  dsimp only [Option.toList, List.singleton_append]
  refine tk_aload2 dL_law_539 ?_
  refine tk_sload dL_law_540 ?_
  refine tk_iload3 dL_law_541 ?_
  refine tk_iconst dL_law_542 kc_iconst_1 ?_
  first | refine tk_iaddN dL_law_543 ?_ | refine tk_iadd dL_law_543 ?_
  refine tk_sald dL_law_544 hG (by omega) (by omega) ?_
  refine tk_sload dL_law_545 ?_
  refine tk_iload3 dL_law_546 ?_
  refine tk_iconst dL_law_547 kc_iconst_2 ?_
  first | refine tk_iaddN dL_law_548 ?_ | refine tk_iadd dL_law_548 ?_
  refine tk_sald dL_law_549 hG (by omega) (by omega) ?_
  refine tk_sload dL_law_550 ?_
  refine tk_iload3 dL_law_551 ?_
  refine tk_iconst dL_law_552 kc_iconst_3 ?_
  first | refine tk_iaddN dL_law_553 ?_ | refine tk_iadd dL_law_553 ?_
  refine tk_sald dL_law_554 hG (by omega) (by omega) ?_
  refine tk_callV3q dL_law_555 kL_59 hR.o (d1) (Nat.le_of_ble_eq_true rfl) (by omega) ?_
  rintro rr hh1 hq2
  obtain ⟨I2, L2, rfl, rfl, hL2⟩ := d2 _ _ hq2
  dsimp only [Option.toList, List.singleton_append]
  first | refine tk_icmp_eqN dL_law_558 (by omega) (by omega) (fun h558 => ?_) (fun h558 => ?_) | refine tk_icmp_eq dL_law_558 (fun h558 => ?_) (fun h558 => ?_)
  · exact hnx _ _ _ _ _ _ _ hL2 (by omega) (by omega)
  · exact absurd rfl h558
theorem la_cry (hG : G.2.2.2.2 = (len, xs)) (hlen : len ≤ 3072) (hi : i + 6 ≤ len) (hL : lR n T I L P) (hmc : 10 ≤ mc) (hms : 275 ≤ ms) (hnx : NXL G i mc ms Q) : tkX G mL_law 100 mc ms 563 [some vS, some (vR 0), some (vR 40), some (vI (nI i))] [] (n, T, I, L, P) Q := by
  have k0 := hL.k0
  obtain ⟨Qc, c1, c2⟩ := p_cry (G := G) hL (xs (i + 1)) (xs (i + 2))
  refine tk_aload1 dL_law_563 ?_
  refine tk_sload dL_law_564 ?_
  refine tk_iload3 dL_law_565 ?_
  refine tk_iconst dL_law_566 kc_iconst_1 ?_
  first | refine tk_iaddN dL_law_567 ?_ | refine tk_iadd dL_law_567 ?_
  refine tk_sald dL_law_568 hG (by omega) (by omega) ?_
  refine tk_sload dL_law_569 ?_
  refine tk_iload3 dL_law_570 ?_
  refine tk_iconst dL_law_571 kc_iconst_2 ?_
  first | refine tk_iaddN dL_law_572 ?_ | refine tk_iadd dL_law_572 ?_
  refine tk_sald dL_law_573 hG (by omega) (by omega) ?_
  refine tk_callV2s dL_law_574 kL_60 (by first | assumption | exact va_up_self _ _ _ | exact (va_up_ne _ _ (by omega)).trans (by assumption) | exact congrArg Prod.fst (va_up_self _ _ _) | exact (congrArg Prod.fst (va_up_ne _ _ (by omega))).trans (by assumption) | exact (congrFun (va_up_ne _ _ (by omega)) _).trans (by assumption) | exact (va_up_ne _ _ (by omega)).trans (va_up_self _ _ _) | exact (va_up_ne _ _ (by omega)).trans ((va_up_ne _ _ (by omega)).trans (by assumption)) | exact (congrArg Prod.fst ((va_up_ne _ _ (by omega)).trans (va_up_ne _ _ (by omega)))).trans (by assumption) | exact (congrFun ((va_up_ne _ _ (by omega)).trans (va_up_ne _ _ (by omega))) _).trans (by assumption) | (rw [va_up_self, va_up_ne _ _ (by omega)]; assumption)) (c1) (Nat.le_of_ble_eq_true rfl) (by omega) (by omega) (by omega) ?_
  rintro rr hh1 hq
  obtain ⟨x, n1, T1, I1, L1, P1, rfl, rfl, hR, Qr, d1, d2⟩ := c2 _ _ hq
  dsimp only [Option.toList, List.singleton_append]
  refine tk_aload2 dL_law_577 ?_
  refine tk_sload dL_law_578 ?_
  refine tk_iload3 dL_law_579 ?_
  refine tk_iconst dL_law_580 kc_iconst_1 ?_
  first | refine tk_iaddN dL_law_581 ?_ | refine tk_iadd dL_law_581 ?_
  refine tk_sald dL_law_582 hG (by omega) (by omega) ?_
  refine tk_sload dL_law_583 ?_
  refine tk_iload3 dL_law_584 ?_
  refine tk_iconst dL_law_585 kc_iconst_2 ?_
  first | refine tk_iaddN dL_law_586 ?_ | refine tk_iadd dL_law_586 ?_
  refine tk_sald dL_law_587 hG (by omega) (by omega) ?_
  refine tk_callV2q dL_law_588 kL_63 hR.o (d1) (Nat.le_of_ble_eq_true rfl) (by omega) ?_
  rintro rr hh1 hq2
  obtain ⟨I2, L2, rfl, rfl, hL2⟩ := d2 _ _ hq2
  dsimp only [Option.toList, List.singleton_append]
  first | refine tk_icmp_eqN dL_law_591 (by omega) (by omega) (fun h591 => ?_) (fun h591 => ?_) | refine tk_icmp_eq dL_law_591 (fun h591 => ?_) (fun h591 => ?_)
  · exact hnx _ _ _ _ _ _ _ hL2 (by omega) (by omega)
  · exact absurd rfl h591
theorem la_lie (hG : G.2.2.2.2 = (len, xs)) (hlen : len ≤ 3072) (hi : i + 6 ≤ len) (hL : lR n T I L P) (hmc : 10 ≤ mc) (hms : 275 ≤ ms) (hnx : NXL G i mc ms Q) : tkX G mL_law 100 mc ms 596 [some vS, some (vR 0), some (vR 40), some (vI (nI i))] [] (n, T, I, L, P) Q := by
  have k0 := hL.k0
  obtain ⟨Qc, c1, c2⟩ := p_lie (G := G) hL (xs (i + 1)) (xs (i + 2))
  refine tk_aload1 dL_law_596 ?_
  refine tk_sload dL_law_597 ?_
  refine tk_iload3 dL_law_598 ?_
  refine tk_iconst dL_law_599 kc_iconst_1 ?_
  first | refine tk_iaddN dL_law_600 ?_ | refine tk_iadd dL_law_600 ?_
  refine tk_sald dL_law_601 hG (by omega) (by omega) ?_
  refine tk_sload dL_law_602 ?_
  refine tk_iload3 dL_law_603 ?_
  refine tk_iconst dL_law_604 kc_iconst_2 ?_
  first | refine tk_iaddN dL_law_605 ?_ | refine tk_iadd dL_law_605 ?_
  refine tk_sald dL_law_606 hG (by omega) (by omega) ?_
  refine tk_callV2s dL_law_607 kL_64 (by first | assumption | exact va_up_self _ _ _ | exact (va_up_ne _ _ (by omega)).trans (by assumption) | exact congrArg Prod.fst (va_up_self _ _ _) | exact (congrArg Prod.fst (va_up_ne _ _ (by omega))).trans (by assumption) | exact (congrFun (va_up_ne _ _ (by omega)) _).trans (by assumption) | exact (va_up_ne _ _ (by omega)).trans (va_up_self _ _ _) | exact (va_up_ne _ _ (by omega)).trans ((va_up_ne _ _ (by omega)).trans (by assumption)) | exact (congrArg Prod.fst ((va_up_ne _ _ (by omega)).trans (va_up_ne _ _ (by omega)))).trans (by assumption) | exact (congrFun ((va_up_ne _ _ (by omega)).trans (va_up_ne _ _ (by omega))) _).trans (by assumption) | (rw [va_up_self, va_up_ne _ _ (by omega)]; assumption)) (c1) (Nat.le_of_ble_eq_true rfl) (by omega) (by omega) (by omega) ?_
  rintro rr hh1 hq
  obtain ⟨x, n1, T1, I1, L1, P1, rfl, rfl, hR, Qr, d1, d2⟩ := c2 _ _ hq
  dsimp only [Option.toList, List.singleton_append]
  refine tk_aload2 dL_law_610 ?_
  refine tk_sload dL_law_611 ?_
  refine tk_iload3 dL_law_612 ?_
  refine tk_iconst dL_law_613 kc_iconst_1 ?_
  first | refine tk_iaddN dL_law_614 ?_ | refine tk_iadd dL_law_614 ?_
  refine tk_sald dL_law_615 hG (by omega) (by omega) ?_
  refine tk_sload dL_law_616 ?_
  refine tk_iload3 dL_law_617 ?_
  refine tk_iconst dL_law_618 kc_iconst_2 ?_
  first | refine tk_iaddN dL_law_619 ?_ | refine tk_iadd dL_law_619 ?_
  refine tk_sald dL_law_620 hG (by omega) (by omega) ?_
  refine tk_callV2q dL_law_621 kL_67 hR.o (d1) (Nat.le_of_ble_eq_true rfl) (by omega) ?_
  rintro rr hh1 hq2
  obtain ⟨I2, L2, rfl, rfl, hL2⟩ := d2 _ _ hq2
  dsimp only [Option.toList, List.singleton_append]
  first | refine tk_icmp_eqN dL_law_624 (by omega) (by omega) (fun h624 => ?_) (fun h624 => ?_) | refine tk_icmp_eq dL_law_624 (fun h624 => ?_) (fun h624 => ?_)
  · exact hnx _ _ _ _ _ _ _ hL2 (by omega) (by omega)
  · exact absurd rfl h624
theorem la_clashed (hG : G.2.2.2.2 = (len, xs)) (hlen : len ≤ 3072) (hi : i + 6 ≤ len) (hL : lR n T I L P) (hmc : 10 ≤ mc) (hms : 275 ≤ ms) (hnx : NXL G i mc ms Q) : tkX G mL_law 100 mc ms 629 [some vS, some (vR 0), some (vR 40), some (vI (nI i))] [] (n, T, I, L, P) Q := by
  have k0 := hL.k0
  obtain ⟨Qc, c1, c2⟩ := p_clashed (G := G) hL (xs (i + 1)) (xs (i + 2))
  refine tk_aload1 dL_law_629 ?_
  refine tk_sload dL_law_630 ?_
  refine tk_iload3 dL_law_631 ?_
  refine tk_iconst dL_law_632 kc_iconst_1 ?_
  first | refine tk_iaddN dL_law_633 ?_ | refine tk_iadd dL_law_633 ?_
  refine tk_sald dL_law_634 hG (by omega) (by omega) ?_
  refine tk_sload dL_law_635 ?_
  refine tk_iload3 dL_law_636 ?_
  refine tk_iconst dL_law_637 kc_iconst_2 ?_
  first | refine tk_iaddN dL_law_638 ?_ | refine tk_iadd dL_law_638 ?_
  refine tk_sald dL_law_639 hG (by omega) (by omega) ?_
  refine tk_callV2s dL_law_640 kL_68 (by first | assumption | exact va_up_self _ _ _ | exact (va_up_ne _ _ (by omega)).trans (by assumption) | exact congrArg Prod.fst (va_up_self _ _ _) | exact (congrArg Prod.fst (va_up_ne _ _ (by omega))).trans (by assumption) | exact (congrFun (va_up_ne _ _ (by omega)) _).trans (by assumption) | exact (va_up_ne _ _ (by omega)).trans (va_up_self _ _ _) | exact (va_up_ne _ _ (by omega)).trans ((va_up_ne _ _ (by omega)).trans (by assumption)) | exact (congrArg Prod.fst ((va_up_ne _ _ (by omega)).trans (va_up_ne _ _ (by omega)))).trans (by assumption) | exact (congrFun ((va_up_ne _ _ (by omega)).trans (va_up_ne _ _ (by omega))) _).trans (by assumption) | (rw [va_up_self, va_up_ne _ _ (by omega)]; assumption)) (c1) (Nat.le_of_ble_eq_true rfl) (by omega) (by omega) (by omega) ?_
  rintro rr hh1 hq
  obtain ⟨x, n1, T1, I1, L1, P1, rfl, rfl, hR, Qr, d1, d2⟩ := c2 _ _ hq
  dsimp only [Option.toList, List.singleton_append]
  refine tk_aload2 dL_law_643 ?_
  refine tk_sload dL_law_644 ?_
  refine tk_iload3 dL_law_645 ?_
  refine tk_iconst dL_law_646 kc_iconst_1 ?_
  first | refine tk_iaddN dL_law_647 ?_ | refine tk_iadd dL_law_647 ?_
  refine tk_sald dL_law_648 hG (by omega) (by omega) ?_
  refine tk_sload dL_law_649 ?_
  refine tk_iload3 dL_law_650 ?_
  refine tk_iconst dL_law_651 kc_iconst_2 ?_
  first | refine tk_iaddN dL_law_652 ?_ | refine tk_iadd dL_law_652 ?_
  refine tk_sald dL_law_653 hG (by omega) (by omega) ?_
  refine tk_callV2q dL_law_654 kL_71 hR.o (d1) (Nat.le_of_ble_eq_true rfl) (by omega) ?_
  rintro rr hh1 hq2
  obtain ⟨I2, L2, rfl, rfl, hL2⟩ := d2 _ _ hq2
  dsimp only [Option.toList, List.singleton_append]
  first | refine tk_icmp_eqN dL_law_657 (by omega) (by omega) (fun h657 => ?_) (fun h657 => ?_) | refine tk_icmp_eq dL_law_657 (fun h657 => ?_) (fun h657 => ?_)
  · exact hnx _ _ _ _ _ _ _ hL2 (by omega) (by omega)
  · exact absurd rfl h657
theorem la_swear (hG : G.2.2.2.2 = (len, xs)) (hlen : len ≤ 3072) (hi : i + 6 ≤ len) (hL : lR n T I L P) (hmc : 10 ≤ mc) (hms : 275 ≤ ms) (hnx : NXL G i mc ms Q) : tkX G mL_law 100 mc ms 662 [some vS, some (vR 0), some (vR 40), some (vI (nI i))] [] (n, T, I, L, P) Q := by
  have k0 := hL.k0
  obtain ⟨Qc, c1, c2⟩ := p_swear (G := G) hL (xs (i + 1)) (xs (i + 2))
  refine tk_aload1 dL_law_662 ?_
  refine tk_sload dL_law_663 ?_
  refine tk_iload3 dL_law_664 ?_
  refine tk_iconst dL_law_665 kc_iconst_1 ?_
  first | refine tk_iaddN dL_law_666 ?_ | refine tk_iadd dL_law_666 ?_
  refine tk_sald dL_law_667 hG (by omega) (by omega) ?_
  refine tk_sload dL_law_668 ?_
  refine tk_iload3 dL_law_669 ?_
  refine tk_iconst dL_law_670 kc_iconst_2 ?_
  first | refine tk_iaddN dL_law_671 ?_ | refine tk_iadd dL_law_671 ?_
  refine tk_sald dL_law_672 hG (by omega) (by omega) ?_
  refine tk_callV2s dL_law_673 kL_72 (by first | assumption | exact va_up_self _ _ _ | exact (va_up_ne _ _ (by omega)).trans (by assumption) | exact congrArg Prod.fst (va_up_self _ _ _) | exact (congrArg Prod.fst (va_up_ne _ _ (by omega))).trans (by assumption) | exact (congrFun (va_up_ne _ _ (by omega)) _).trans (by assumption) | exact (va_up_ne _ _ (by omega)).trans (va_up_self _ _ _) | exact (va_up_ne _ _ (by omega)).trans ((va_up_ne _ _ (by omega)).trans (by assumption)) | exact (congrArg Prod.fst ((va_up_ne _ _ (by omega)).trans (va_up_ne _ _ (by omega)))).trans (by assumption) | exact (congrFun ((va_up_ne _ _ (by omega)).trans (va_up_ne _ _ (by omega))) _).trans (by assumption) | (rw [va_up_self, va_up_ne _ _ (by omega)]; assumption)) (c1) (Nat.le_of_ble_eq_true rfl) (by omega) (by omega) (by omega) ?_
  rintro rr hh1 hq
  obtain ⟨x, n1, T1, I1, L1, P1, rfl, rfl, hR, Qr, d1, d2⟩ := c2 _ _ hq
  dsimp only [Option.toList, List.singleton_append]
  refine tk_aload2 dL_law_676 ?_
  refine tk_sload dL_law_677 ?_
  refine tk_iload3 dL_law_678 ?_
  refine tk_iconst dL_law_679 kc_iconst_1 ?_
  first | refine tk_iaddN dL_law_680 ?_ | refine tk_iadd dL_law_680 ?_
  refine tk_sald dL_law_681 hG (by omega) (by omega) ?_
  refine tk_sload dL_law_682 ?_
  refine tk_iload3 dL_law_683 ?_
  refine tk_iconst dL_law_684 kc_iconst_2 ?_
  first | refine tk_iaddN dL_law_685 ?_ | refine tk_iadd dL_law_685 ?_
  refine tk_sald dL_law_686 hG (by omega) (by omega) ?_
  refine tk_callV2q dL_law_687 kL_75 hR.o (d1) (Nat.le_of_ble_eq_true rfl) (by omega) ?_
  rintro rr hh1 hq2
  obtain ⟨I2, L2, rfl, rfl, hL2⟩ := d2 _ _ hq2
  dsimp only [Option.toList, List.singleton_append]
  first | refine tk_icmp_eqN dL_law_690 (by omega) (by omega) (fun h690 => ?_) (fun h690 => ?_) | refine tk_icmp_eq dL_law_690 (fun h690 => ?_) (fun h690 => ?_)
  · exact hnx _ _ _ _ _ _ _ hL2 (by omega) (by omega)
  · exact absurd rfl h690
theorem la_pact (hG : G.2.2.2.2 = (len, xs)) (hlen : len ≤ 3072) (hi : i + 6 ≤ len) (hL : lR n T I L P) (hmc : 10 ≤ mc) (hms : 275 ≤ ms) (hnx : NXL G i mc ms Q) : tkX G mL_law 100 mc ms 695 [some vS, some (vR 0), some (vR 40), some (vI (nI i))] [] (n, T, I, L, P) Q := by
  have k0 := hL.k0
  obtain ⟨Qc, c1, c2⟩ := p_pact (G := G) hL (xs (i + 1)) (xs (i + 2))
  refine tk_aload1 dL_law_695 ?_
  refine tk_sload dL_law_696 ?_
  refine tk_iload3 dL_law_697 ?_
  refine tk_iconst dL_law_698 kc_iconst_1 ?_
  first | refine tk_iaddN dL_law_699 ?_ | refine tk_iadd dL_law_699 ?_
  refine tk_sald dL_law_700 hG (by omega) (by omega) ?_
  refine tk_sload dL_law_701 ?_
  refine tk_iload3 dL_law_702 ?_
  refine tk_iconst dL_law_703 kc_iconst_2 ?_
  first | refine tk_iaddN dL_law_704 ?_ | refine tk_iadd dL_law_704 ?_
  refine tk_sald dL_law_705 hG (by omega) (by omega) ?_
  refine tk_callV2s dL_law_706 kL_76 (by first | assumption | exact va_up_self _ _ _ | exact (va_up_ne _ _ (by omega)).trans (by assumption) | exact congrArg Prod.fst (va_up_self _ _ _) | exact (congrArg Prod.fst (va_up_ne _ _ (by omega))).trans (by assumption) | exact (congrFun (va_up_ne _ _ (by omega)) _).trans (by assumption) | exact (va_up_ne _ _ (by omega)).trans (va_up_self _ _ _) | exact (va_up_ne _ _ (by omega)).trans ((va_up_ne _ _ (by omega)).trans (by assumption)) | exact (congrArg Prod.fst ((va_up_ne _ _ (by omega)).trans (va_up_ne _ _ (by omega)))).trans (by assumption) | exact (congrFun ((va_up_ne _ _ (by omega)).trans (va_up_ne _ _ (by omega))) _).trans (by assumption) | (rw [va_up_self, va_up_ne _ _ (by omega)]; assumption)) (c1) (Nat.le_of_ble_eq_true rfl) (by omega) (by omega) (by omega) ?_
  rintro rr hh1 hq
  obtain ⟨x, n1, T1, I1, L1, P1, rfl, rfl, hR, Qr, d1, d2⟩ := c2 _ _ hq
  dsimp only [Option.toList, List.singleton_append]
  refine tk_aload2 dL_law_709 ?_
  refine tk_sload dL_law_710 ?_
  refine tk_iload3 dL_law_711 ?_
  refine tk_iconst dL_law_712 kc_iconst_1 ?_
  first | refine tk_iaddN dL_law_713 ?_ | refine tk_iadd dL_law_713 ?_
  refine tk_sald dL_law_714 hG (by omega) (by omega) ?_
  refine tk_sload dL_law_715 ?_
  refine tk_iload3 dL_law_716 ?_
  refine tk_iconst dL_law_717 kc_iconst_2 ?_
  first | refine tk_iaddN dL_law_718 ?_ | refine tk_iadd dL_law_718 ?_
  refine tk_sald dL_law_719 hG (by omega) (by omega) ?_
  refine tk_callV2q dL_law_720 kL_79 hR.o (d1) (Nat.le_of_ble_eq_true rfl) (by omega) ?_
  rintro rr hh1 hq2
  obtain ⟨I2, L2, rfl, rfl, hL2⟩ := d2 _ _ hq2
  dsimp only [Option.toList, List.singleton_append]
  first | refine tk_icmp_eqN dL_law_723 (by omega) (by omega) (fun h723 => ?_) (fun h723 => ?_) | refine tk_icmp_eq dL_law_723 (fun h723 => ?_) (fun h723 => ?_)
  · exact hnx _ _ _ _ _ _ _ hL2 (by omega) (by omega)
  · exact absurd rfl h723
theorem la_binding (hG : G.2.2.2.2 = (len, xs)) (hlen : len ≤ 3072) (hi : i + 6 ≤ len) (hL : lR n T I L P) (hmc : 10 ≤ mc) (hms : 275 ≤ ms) (hnx : NXL G i mc ms Q) : tkX G mL_law 100 mc ms 728 [some vS, some (vR 0), some (vR 40), some (vI (nI i))] [] (n, T, I, L, P) Q := by
  have k0 := hL.k0
  obtain ⟨Qc, c1, c2⟩ := p_binding (G := G) hL 
  refine tk_aload1 dL_law_728 ?_
  refine tk_callV0s dL_law_729 kL_80 (by first | assumption | exact va_up_self _ _ _ | exact (va_up_ne _ _ (by omega)).trans (by assumption) | exact congrArg Prod.fst (va_up_self _ _ _) | exact (congrArg Prod.fst (va_up_ne _ _ (by omega))).trans (by assumption) | exact (congrFun (va_up_ne _ _ (by omega)) _).trans (by assumption) | exact (va_up_ne _ _ (by omega)).trans (va_up_self _ _ _) | exact (va_up_ne _ _ (by omega)).trans ((va_up_ne _ _ (by omega)).trans (by assumption)) | exact (congrArg Prod.fst ((va_up_ne _ _ (by omega)).trans (va_up_ne _ _ (by omega)))).trans (by assumption) | exact (congrFun ((va_up_ne _ _ (by omega)).trans (va_up_ne _ _ (by omega))) _).trans (by assumption) | (rw [va_up_self, va_up_ne _ _ (by omega)]; assumption)) (c1) (Nat.le_of_ble_eq_true rfl) (by omega) (by omega) (by omega) ?_
  rintro rr hh1 hq
  obtain ⟨x, n1, T1, I1, L1, P1, rfl, rfl, hR, Qr, d1, d2⟩ := c2 _ _ hq
  dsimp only [Option.toList, List.singleton_append]
  refine tk_aload2 dL_law_732 ?_
  refine tk_callV0q dL_law_733 kL_84 hR.o (d1) (Nat.le_of_ble_eq_true rfl) (by omega) ?_
  rintro rr hh1 hq2
  obtain ⟨I2, L2, rfl, rfl, hL2⟩ := d2 _ _ hq2
  dsimp only [Option.toList, List.singleton_append]
  first | refine tk_icmp_eqN dL_law_736 (by omega) (by omega) (fun h736 => ?_) (fun h736 => ?_) | refine tk_icmp_eq dL_law_736 (fun h736 => ?_) (fun h736 => ?_)
  · exact hnx _ _ _ _ _ _ _ hL2 (by omega) (by omega)
  · exact absurd rfl h736
theorem la_holds (hG : G.2.2.2.2 = (len, xs)) (hlen : len ≤ 3072) (hi : i + 6 ≤ len) (hL : lR n T I L P) (hmc : 10 ≤ mc) (hms : 275 ≤ ms) (hnx : NXL G i mc ms Q) : tkX G mL_law 100 mc ms 741 [some vS, some (vR 0), some (vR 40), some (vI (nI i))] [] (n, T, I, L, P) Q := by
  have k0 := hL.k0
  obtain ⟨Qc, c1, c2⟩ := p_holds (G := G) hL (xs (i + 1))
  refine tk_aload1 dL_law_741 ?_
  refine tk_sload dL_law_742 ?_
  refine tk_iload3 dL_law_743 ?_
  refine tk_iconst dL_law_744 kc_iconst_1 ?_
  first | refine tk_iaddN dL_law_745 ?_ | refine tk_iadd dL_law_745 ?_
  refine tk_sald dL_law_746 hG (by omega) (by omega) ?_
  refine tk_callV1s dL_law_747 kL_85 (by first | assumption | exact va_up_self _ _ _ | exact (va_up_ne _ _ (by omega)).trans (by assumption) | exact congrArg Prod.fst (va_up_self _ _ _) | exact (congrArg Prod.fst (va_up_ne _ _ (by omega))).trans (by assumption) | exact (congrFun (va_up_ne _ _ (by omega)) _).trans (by assumption) | exact (va_up_ne _ _ (by omega)).trans (va_up_self _ _ _) | exact (va_up_ne _ _ (by omega)).trans ((va_up_ne _ _ (by omega)).trans (by assumption)) | exact (congrArg Prod.fst ((va_up_ne _ _ (by omega)).trans (va_up_ne _ _ (by omega)))).trans (by assumption) | exact (congrFun ((va_up_ne _ _ (by omega)).trans (va_up_ne _ _ (by omega))) _).trans (by assumption) | (rw [va_up_self, va_up_ne _ _ (by omega)]; assumption)) (c1) (Nat.le_of_ble_eq_true rfl) (by omega) (by omega) (by omega) ?_
  rintro rr hh1 hq
  obtain ⟨x, n1, T1, I1, L1, P1, rfl, rfl, hR, Qr, d1, d2⟩ := c2 _ _ hq
  dsimp only [Option.toList, List.singleton_append]
  refine tk_aload2 dL_law_750 ?_
  refine tk_sload dL_law_751 ?_
  refine tk_iload3 dL_law_752 ?_
  refine tk_iconst dL_law_753 kc_iconst_1 ?_
  first | refine tk_iaddN dL_law_754 ?_ | refine tk_iadd dL_law_754 ?_
  refine tk_sald dL_law_755 hG (by omega) (by omega) ?_
  refine tk_callV1q dL_law_756 kL_88 hR.o (d1) (Nat.le_of_ble_eq_true rfl) (by omega) ?_
  rintro rr hh1 hq2
  obtain ⟨I2, L2, rfl, rfl, hL2⟩ := d2 _ _ hq2
  dsimp only [Option.toList, List.singleton_append]
  first | refine tk_icmp_eqN dL_law_759 (by omega) (by omega) (fun h759 => ?_) (fun h759 => ?_) | refine tk_icmp_eq dL_law_759 (fun h759 => ?_) (fun h759 => ?_)
  · exact hnx _ _ _ _ _ _ _ hL2 (by omega) (by omega)
  · exact absurd rfl h759
theorem la_many (hG : G.2.2.2.2 = (len, xs)) (hlen : len ≤ 3072) (hi : i + 6 ≤ len) (hL : lR n T I L P) (hmc : 10 ≤ mc) (hms : 275 ≤ ms) (hnx : NXL G i mc ms Q) : tkX G mL_law 100 mc ms 764 [some vS, some (vR 0), some (vR 40), some (vI (nI i))] [] (n, T, I, L, P) Q := by
  have k0 := hL.k0
  obtain ⟨Qc, c1, c2⟩ := p_many (G := G) hL (xs (i + 1))
  refine tk_aload1 dL_law_764 ?_
  refine tk_sload dL_law_765 ?_
  refine tk_iload3 dL_law_766 ?_
  refine tk_iconst dL_law_767 kc_iconst_1 ?_
  first | refine tk_iaddN dL_law_768 ?_ | refine tk_iadd dL_law_768 ?_
  refine tk_sald dL_law_769 hG (by omega) (by omega) ?_
  refine tk_callV1s dL_law_770 kL_89 (by first | assumption | exact va_up_self _ _ _ | exact (va_up_ne _ _ (by omega)).trans (by assumption) | exact congrArg Prod.fst (va_up_self _ _ _) | exact (congrArg Prod.fst (va_up_ne _ _ (by omega))).trans (by assumption) | exact (congrFun (va_up_ne _ _ (by omega)) _).trans (by assumption) | exact (va_up_ne _ _ (by omega)).trans (va_up_self _ _ _) | exact (va_up_ne _ _ (by omega)).trans ((va_up_ne _ _ (by omega)).trans (by assumption)) | exact (congrArg Prod.fst ((va_up_ne _ _ (by omega)).trans (va_up_ne _ _ (by omega)))).trans (by assumption) | exact (congrFun ((va_up_ne _ _ (by omega)).trans (va_up_ne _ _ (by omega))) _).trans (by assumption) | (rw [va_up_self, va_up_ne _ _ (by omega)]; assumption)) (c1) (Nat.le_of_ble_eq_true rfl) (by omega) (by omega) (by omega) ?_
  rintro rr hh1 hq
  obtain ⟨x, n1, T1, I1, L1, P1, rfl, rfl, hR, Qr, d1, d2⟩ := c2 _ _ hq
  dsimp only [Option.toList, List.singleton_append]
  refine tk_aload2 dL_law_773 ?_
  refine tk_sload dL_law_774 ?_
  refine tk_iload3 dL_law_775 ?_
  refine tk_iconst dL_law_776 kc_iconst_1 ?_
  first | refine tk_iaddN dL_law_777 ?_ | refine tk_iadd dL_law_777 ?_
  refine tk_sald dL_law_778 hG (by omega) (by omega) ?_
  refine tk_callV1q dL_law_779 kL_92 hR.o (d1) (Nat.le_of_ble_eq_true rfl) (by omega) ?_
  rintro rr hh1 hq2
  obtain ⟨I2, L2, rfl, rfl, hL2⟩ := d2 _ _ hq2
  dsimp only [Option.toList, List.singleton_append]
  first | refine tk_icmp_eqN dL_law_782 (by omega) (by omega) (fun h782 => ?_) (fun h782 => ?_) | refine tk_icmp_eq dL_law_782 (fun h782 => ?_) (fun h782 => ?_)
  · exact hnx _ _ _ _ _ _ _ hL2 (by omega) (by omega)
  · exact absurd rfl h782
theorem la_fails (hG : G.2.2.2.2 = (len, xs)) (hlen : len ≤ 3072) (hi : i + 6 ≤ len) (hL : lR n T I L P) (hmc : 10 ≤ mc) (hms : 275 ≤ ms) (hnx : NXL G i mc ms Q) : tkX G mL_law 100 mc ms 787 [some vS, some (vR 0), some (vR 40), some (vI (nI i))] [] (n, T, I, L, P) Q := by
  have k0 := hL.k0
  obtain ⟨Qc, c1, c2⟩ := p_fails (G := G) hL (xs (i + 1))
  refine tk_aload1 dL_law_787 ?_
  refine tk_sload dL_law_788 ?_
  refine tk_iload3 dL_law_789 ?_
  refine tk_iconst dL_law_790 kc_iconst_1 ?_
  first | refine tk_iaddN dL_law_791 ?_ | refine tk_iadd dL_law_791 ?_
  refine tk_sald dL_law_792 hG (by omega) (by omega) ?_
  refine tk_callV1s dL_law_793 kL_93 (by first | assumption | exact va_up_self _ _ _ | exact (va_up_ne _ _ (by omega)).trans (by assumption) | exact congrArg Prod.fst (va_up_self _ _ _) | exact (congrArg Prod.fst (va_up_ne _ _ (by omega))).trans (by assumption) | exact (congrFun (va_up_ne _ _ (by omega)) _).trans (by assumption) | exact (va_up_ne _ _ (by omega)).trans (va_up_self _ _ _) | exact (va_up_ne _ _ (by omega)).trans ((va_up_ne _ _ (by omega)).trans (by assumption)) | exact (congrArg Prod.fst ((va_up_ne _ _ (by omega)).trans (va_up_ne _ _ (by omega)))).trans (by assumption) | exact (congrFun ((va_up_ne _ _ (by omega)).trans (va_up_ne _ _ (by omega))) _).trans (by assumption) | (rw [va_up_self, va_up_ne _ _ (by omega)]; assumption)) (c1) (Nat.le_of_ble_eq_true rfl) (by omega) (by omega) (by omega) ?_
  rintro rr hh1 hq
  obtain ⟨x, n1, T1, I1, L1, P1, rfl, rfl, hR, Qr, d1, d2⟩ := c2 _ _ hq
  dsimp only [Option.toList, List.singleton_append]
  refine tk_aload2 dL_law_796 ?_
  refine tk_sload dL_law_797 ?_
  refine tk_iload3 dL_law_798 ?_
  refine tk_iconst dL_law_799 kc_iconst_1 ?_
  first | refine tk_iaddN dL_law_800 ?_ | refine tk_iadd dL_law_800 ?_
  refine tk_sald dL_law_801 hG (by omega) (by omega) ?_
  refine tk_callV1q dL_law_802 kL_96 hR.o (d1) (Nat.le_of_ble_eq_true rfl) (by omega) ?_
  rintro rr hh1 hq2
  obtain ⟨I2, L2, rfl, rfl, hL2⟩ := d2 _ _ hq2
  dsimp only [Option.toList, List.singleton_append]
  first | refine tk_icmp_eqN dL_law_805 (by omega) (by omega) (fun h805 => ?_) (fun h805 => ?_) | refine tk_icmp_eq dL_law_805 (fun h805 => ?_) (fun h805 => ?_)
  · exact hnx _ _ _ _ _ _ _ hL2 (by omega) (by omega)
  · exact absurd rfl h805
theorem la_like (hG : G.2.2.2.2 = (len, xs)) (hlen : len ≤ 3072) (hi : i + 6 ≤ len) (hL : lR n T I L P) (hmc : 10 ≤ mc) (hms : 275 ≤ ms) (hnx : NXL G i mc ms Q) : tkX G mL_law 100 mc ms 810 [some vS, some (vR 0), some (vR 40), some (vI (nI i))] [] (n, T, I, L, P) Q := by
  have k0 := hL.k0
  obtain ⟨Qc, c1, c2⟩ := p_like (G := G) hL (xs (i + 1)) (xs (i + 2))
  refine tk_aload1 dL_law_810 ?_
  refine tk_sload dL_law_811 ?_
  refine tk_iload3 dL_law_812 ?_
  refine tk_iconst dL_law_813 kc_iconst_1 ?_
  first | refine tk_iaddN dL_law_814 ?_ | refine tk_iadd dL_law_814 ?_
  refine tk_sald dL_law_815 hG (by omega) (by omega) ?_
  refine tk_sload dL_law_816 ?_
  refine tk_iload3 dL_law_817 ?_
  refine tk_iconst dL_law_818 kc_iconst_2 ?_
  first | refine tk_iaddN dL_law_819 ?_ | refine tk_iadd dL_law_819 ?_
  refine tk_sald dL_law_820 hG (by omega) (by omega) ?_
  refine tk_callV2s dL_law_821 kL_97 (by first | assumption | exact va_up_self _ _ _ | exact (va_up_ne _ _ (by omega)).trans (by assumption) | exact congrArg Prod.fst (va_up_self _ _ _) | exact (congrArg Prod.fst (va_up_ne _ _ (by omega))).trans (by assumption) | exact (congrFun (va_up_ne _ _ (by omega)) _).trans (by assumption) | exact (va_up_ne _ _ (by omega)).trans (va_up_self _ _ _) | exact (va_up_ne _ _ (by omega)).trans ((va_up_ne _ _ (by omega)).trans (by assumption)) | exact (congrArg Prod.fst ((va_up_ne _ _ (by omega)).trans (va_up_ne _ _ (by omega)))).trans (by assumption) | exact (congrFun ((va_up_ne _ _ (by omega)).trans (va_up_ne _ _ (by omega))) _).trans (by assumption) | (rw [va_up_self, va_up_ne _ _ (by omega)]; assumption)) (c1) (Nat.le_of_ble_eq_true rfl) (by omega) (by omega) (by omega) ?_
  rintro rr hh1 hq
  obtain ⟨x, n1, T1, I1, L1, P1, rfl, rfl, hR, Qr, d1, d2⟩ := c2 _ _ hq
  dsimp only [Option.toList, List.singleton_append]
  refine tk_aload2 dL_law_824 ?_
  refine tk_sload dL_law_825 ?_
  refine tk_iload3 dL_law_826 ?_
  refine tk_iconst dL_law_827 kc_iconst_1 ?_
  first | refine tk_iaddN dL_law_828 ?_ | refine tk_iadd dL_law_828 ?_
  refine tk_sald dL_law_829 hG (by omega) (by omega) ?_
  refine tk_sload dL_law_830 ?_
  refine tk_iload3 dL_law_831 ?_
  refine tk_iconst dL_law_832 kc_iconst_2 ?_
  first | refine tk_iaddN dL_law_833 ?_ | refine tk_iadd dL_law_833 ?_
  refine tk_sald dL_law_834 hG (by omega) (by omega) ?_
  refine tk_callV2q dL_law_835 kL_100 hR.o (d1) (Nat.le_of_ble_eq_true rfl) (by omega) ?_
  rintro rr hh1 hq2
  obtain ⟨I2, L2, rfl, rfl, hL2⟩ := d2 _ _ hq2
  dsimp only [Option.toList, List.singleton_append]
  first | refine tk_icmp_eqN dL_law_838 (by omega) (by omega) (fun h838 => ?_) (fun h838 => ?_) | refine tk_icmp_eq dL_law_838 (fun h838 => ?_) (fun h838 => ?_)
  · exact hnx _ _ _ _ _ _ _ hL2 (by omega) (by omega)
  · exact absurd rfl h838
theorem la_world (hG : G.2.2.2.2 = (len, xs)) (hlen : len ≤ 3072) (hi : i + 6 ≤ len) (hL : lR n T I L P) (hmc : 10 ≤ mc) (hms : 275 ≤ ms) (hnx : NXL G i mc ms Q) : tkX G mL_law 100 mc ms 843 [some vS, some (vR 0), some (vR 40), some (vI (nI i))] [] (n, T, I, L, P) Q := by
  have k0 := hL.k0
  obtain ⟨Qc, c1, c2⟩ := p_world (G := G) hL (xs (i + 1)) (xs (i + 2))
  refine tk_aload1 dL_law_843 ?_
  refine tk_sload dL_law_844 ?_
  refine tk_iload3 dL_law_845 ?_
  refine tk_iconst dL_law_846 kc_iconst_1 ?_
  first | refine tk_iaddN dL_law_847 ?_ | refine tk_iadd dL_law_847 ?_
  refine tk_sald dL_law_848 hG (by omega) (by omega) ?_
  refine tk_sload dL_law_849 ?_
  refine tk_iload3 dL_law_850 ?_
  refine tk_iconst dL_law_851 kc_iconst_2 ?_
  first | refine tk_iaddN dL_law_852 ?_ | refine tk_iadd dL_law_852 ?_
  refine tk_sald dL_law_853 hG (by omega) (by omega) ?_
  refine tk_callV2s dL_law_854 kL_101 (by first | assumption | exact va_up_self _ _ _ | exact (va_up_ne _ _ (by omega)).trans (by assumption) | exact congrArg Prod.fst (va_up_self _ _ _) | exact (congrArg Prod.fst (va_up_ne _ _ (by omega))).trans (by assumption) | exact (congrFun (va_up_ne _ _ (by omega)) _).trans (by assumption) | exact (va_up_ne _ _ (by omega)).trans (va_up_self _ _ _) | exact (va_up_ne _ _ (by omega)).trans ((va_up_ne _ _ (by omega)).trans (by assumption)) | exact (congrArg Prod.fst ((va_up_ne _ _ (by omega)).trans (va_up_ne _ _ (by omega)))).trans (by assumption) | exact (congrFun ((va_up_ne _ _ (by omega)).trans (va_up_ne _ _ (by omega))) _).trans (by assumption) | (rw [va_up_self, va_up_ne _ _ (by omega)]; assumption)) (c1) (Nat.le_of_ble_eq_true rfl) (by omega) (by omega) (by omega) ?_
  rintro rr hh1 hq
  obtain ⟨x, n1, T1, I1, L1, P1, rfl, rfl, hR, Qr, d1, d2⟩ := c2 _ _ hq
  dsimp only [Option.toList, List.singleton_append]
  refine tk_aload2 dL_law_857 ?_
  refine tk_sload dL_law_858 ?_
  refine tk_iload3 dL_law_859 ?_
  refine tk_iconst dL_law_860 kc_iconst_1 ?_
  first | refine tk_iaddN dL_law_861 ?_ | refine tk_iadd dL_law_861 ?_
  refine tk_sald dL_law_862 hG (by omega) (by omega) ?_
  refine tk_sload dL_law_863 ?_
  refine tk_iload3 dL_law_864 ?_
  refine tk_iconst dL_law_865 kc_iconst_2 ?_
  first | refine tk_iaddN dL_law_866 ?_ | refine tk_iadd dL_law_866 ?_
  refine tk_sald dL_law_867 hG (by omega) (by omega) ?_
  refine tk_callV2q dL_law_868 kL_104 hR.o (d1) (Nat.le_of_ble_eq_true rfl) (by omega) ?_
  rintro rr hh1 hq2
  obtain ⟨I2, L2, rfl, rfl, hL2⟩ := d2 _ _ hq2
  dsimp only [Option.toList, List.singleton_append]
  first | refine tk_icmp_eqN dL_law_871 (by omega) (by omega) (fun h871 => ?_) (fun h871 => ?_) | refine tk_icmp_eq dL_law_871 (fun h871 => ?_) (fun h871 => ?_)
  · exact hnx _ _ _ _ _ _ _ hL2 (by omega) (by omega)
  · exact absurd rfl h871
theorem la_known (hG : G.2.2.2.2 = (len, xs)) (hlen : len ≤ 3072) (hi : i + 6 ≤ len) (hL : lR n T I L P) (hmc : 10 ≤ mc) (hms : 275 ≤ ms) (hnx : NXL G i mc ms Q) : tkX G mL_law 100 mc ms 876 [some vS, some (vR 0), some (vR 40), some (vI (nI i))] [] (n, T, I, L, P) Q := by
  have k0 := hL.k0
  by_cases hw : xs (i + 2) = 0
  · obtain ⟨Qc, c1, c2⟩ := p_known (G := G) hL (xs (i + 1)) false
    refine tk_aload1 dL_law_876 ?_
    refine tk_sload dL_law_877 ?_
    refine tk_iload3 dL_law_878 ?_
    refine tk_iconst dL_law_879 kc_iconst_1 ?_
    first | refine tk_iaddN dL_law_880 ?_ | refine tk_iadd dL_law_880 ?_
    refine tk_sald dL_law_881 hG (by omega) (by omega) ?_
    refine tk_sload dL_law_882 ?_
    refine tk_iload3 dL_law_883 ?_
    refine tk_iconst dL_law_884 kc_iconst_2 ?_
    first | refine tk_iaddN dL_law_885 ?_ | refine tk_iadd dL_law_885 ?_
    refine tk_sald dL_law_886 hG (by omega) (by omega) ?_
    first | refine tk_jf_eqB dL_law_887 (fun h887 => ?_) (fun h887 => ?_) | refine tk_if_eq dL_law_887 (fun h887 => ?_) (fun h887 => ?_)
    · refine tk_iconst dL_law_894 kc_iconst_0 ?_
      refine tk_callV2s dL_law_895 kL_105 (by first | assumption | exact va_up_self _ _ _ | exact (va_up_ne _ _ (by omega)).trans (by assumption) | exact congrArg Prod.fst (va_up_self _ _ _) | exact (congrArg Prod.fst (va_up_ne _ _ (by omega))).trans (by assumption) | exact (congrFun (va_up_ne _ _ (by omega)) _).trans (by assumption) | exact (va_up_ne _ _ (by omega)).trans (va_up_self _ _ _) | exact (va_up_ne _ _ (by omega)).trans ((va_up_ne _ _ (by omega)).trans (by assumption)) | exact (congrArg Prod.fst ((va_up_ne _ _ (by omega)).trans (va_up_ne _ _ (by omega)))).trans (by assumption) | exact (congrFun ((va_up_ne _ _ (by omega)).trans (va_up_ne _ _ (by omega))) _).trans (by assumption) | (rw [va_up_self, va_up_ne _ _ (by omega)]; assumption)) (c1) (Nat.le_of_ble_eq_true rfl) (by omega) (by omega) (by omega) ?_
      rintro rr hh1 hq
      obtain ⟨x, n1, T1, I1, L1, P1, rfl, rfl, hR, Qr, d1, d2⟩ := c2 _ _ hq
      dsimp only [Option.toList, List.singleton_append]
      refine tk_aload2 dL_law_898 ?_
      refine tk_sload dL_law_899 ?_
      refine tk_iload3 dL_law_900 ?_
      refine tk_iconst dL_law_901 kc_iconst_1 ?_
      first | refine tk_iaddN dL_law_902 ?_ | refine tk_iadd dL_law_902 ?_
      refine tk_sald dL_law_903 hG (by omega) (by omega) ?_
      refine tk_sload dL_law_904 ?_
      refine tk_iload3 dL_law_905 ?_
      refine tk_iconst dL_law_906 kc_iconst_2 ?_
      first | refine tk_iaddN dL_law_907 ?_ | refine tk_iadd dL_law_907 ?_
      refine tk_sald dL_law_908 hG (by omega) (by omega) ?_
      first | refine tk_jf_eqB dL_law_909 (fun h909 => ?_) (fun h909 => ?_) | refine tk_if_eq dL_law_909 (fun h909 => ?_) (fun h909 => ?_)
      · refine tk_iconst dL_law_916 kc_iconst_0 ?_
        refine tk_callV2q dL_law_917 kL_109 hR.o (d1) (Nat.le_of_ble_eq_true rfl) (by omega) ?_
        rintro rr hh1 hq2
        obtain ⟨I2, L2, rfl, rfl, hL2⟩ := d2 _ _ hq2
        dsimp only [Option.toList, List.singleton_append]
        first | refine tk_icmp_eqN dL_law_920 (by omega) (by omega) (fun h920 => ?_) (fun h920 => ?_) | refine tk_icmp_eq dL_law_920 (fun h920 => ?_) (fun h920 => ?_)
        · exact hnx _ _ _ _ _ _ _ hL2 (by omega) (by omega)
        · exact absurd rfl h920
      · exact absurd hw h909
    · exact absurd hw h887
  · obtain ⟨Qc, c1, c2⟩ := p_known (G := G) hL (xs (i + 1)) true
    refine tk_aload1 dL_law_876 ?_
    refine tk_sload dL_law_877 ?_
    refine tk_iload3 dL_law_878 ?_
    refine tk_iconst dL_law_879 kc_iconst_1 ?_
    first | refine tk_iaddN dL_law_880 ?_ | refine tk_iadd dL_law_880 ?_
    refine tk_sald dL_law_881 hG (by omega) (by omega) ?_
    refine tk_sload dL_law_882 ?_
    refine tk_iload3 dL_law_883 ?_
    refine tk_iconst dL_law_884 kc_iconst_2 ?_
    first | refine tk_iaddN dL_law_885 ?_ | refine tk_iadd dL_law_885 ?_
    refine tk_sald dL_law_886 hG (by omega) (by omega) ?_
    first | refine tk_jf_eqB dL_law_887 (fun h887 => ?_) (fun h887 => ?_) | refine tk_if_eq dL_law_887 (fun h887 => ?_) (fun h887 => ?_)
    · exact absurd h887 hw
    · refine tk_iconst dL_law_890 kc_iconst_1 ?_
      refine tk_goto dL_law_891 ?_
      refine tk_callV2s dL_law_895 kL_105 (by first | assumption | exact va_up_self _ _ _ | exact (va_up_ne _ _ (by omega)).trans (by assumption) | exact congrArg Prod.fst (va_up_self _ _ _) | exact (congrArg Prod.fst (va_up_ne _ _ (by omega))).trans (by assumption) | exact (congrFun (va_up_ne _ _ (by omega)) _).trans (by assumption) | exact (va_up_ne _ _ (by omega)).trans (va_up_self _ _ _) | exact (va_up_ne _ _ (by omega)).trans ((va_up_ne _ _ (by omega)).trans (by assumption)) | exact (congrArg Prod.fst ((va_up_ne _ _ (by omega)).trans (va_up_ne _ _ (by omega)))).trans (by assumption) | exact (congrFun ((va_up_ne _ _ (by omega)).trans (va_up_ne _ _ (by omega))) _).trans (by assumption) | (rw [va_up_self, va_up_ne _ _ (by omega)]; assumption)) (c1) (Nat.le_of_ble_eq_true rfl) (by omega) (by omega) (by omega) ?_
      rintro rr hh1 hq
      obtain ⟨x, n1, T1, I1, L1, P1, rfl, rfl, hR, Qr, d1, d2⟩ := c2 _ _ hq
      dsimp only [Option.toList, List.singleton_append]
      refine tk_aload2 dL_law_898 ?_
      refine tk_sload dL_law_899 ?_
      refine tk_iload3 dL_law_900 ?_
      refine tk_iconst dL_law_901 kc_iconst_1 ?_
      first | refine tk_iaddN dL_law_902 ?_ | refine tk_iadd dL_law_902 ?_
      refine tk_sald dL_law_903 hG (by omega) (by omega) ?_
      refine tk_sload dL_law_904 ?_
      refine tk_iload3 dL_law_905 ?_
      refine tk_iconst dL_law_906 kc_iconst_2 ?_
      first | refine tk_iaddN dL_law_907 ?_ | refine tk_iadd dL_law_907 ?_
      refine tk_sald dL_law_908 hG (by omega) (by omega) ?_
      first | refine tk_jf_eqB dL_law_909 (fun h909 => ?_) (fun h909 => ?_) | refine tk_if_eq dL_law_909 (fun h909 => ?_) (fun h909 => ?_)
      · exact absurd h909 hw
      · refine tk_iconst dL_law_912 kc_iconst_1 ?_
        refine tk_goto dL_law_913 ?_
        refine tk_callV2q dL_law_917 kL_109 hR.o (d1) (Nat.le_of_ble_eq_true rfl) (by omega) ?_
        rintro rr hh1 hq2
        obtain ⟨I2, L2, rfl, rfl, hL2⟩ := d2 _ _ hq2
        dsimp only [Option.toList, List.singleton_append]
        first | refine tk_icmp_eqN dL_law_920 (by omega) (by omega) (fun h920 => ?_) (fun h920 => ?_) | refine tk_icmp_eq dL_law_920 (fun h920 => ?_) (fun h920 => ?_)
        · exact hnx _ _ _ _ _ _ _ hL2 (by omega) (by omega)
        · exact absurd rfl h920
theorem la_lessons (hG : G.2.2.2.2 = (len, xs)) (hlen : len ≤ 3072) (hi : i + 6 ≤ len) (hL : lR n T I L P) (hmc : 10 ≤ mc) (hms : 275 ≤ ms) (hnx : NXL G i mc ms Q) : tkX G mL_law 100 mc ms 925 [some vS, some (vR 0), some (vR 40), some (vI (nI i))] [] (n, T, I, L, P) Q := by
  have k0 := hL.k0
  obtain ⟨Qc, c1, c2⟩ := p_lessons (G := G) hL (xs (i + 1))
  refine tk_aload1 dL_law_925 ?_
  refine tk_sload dL_law_926 ?_
  refine tk_iload3 dL_law_927 ?_
  refine tk_iconst dL_law_928 kc_iconst_1 ?_
  first | refine tk_iaddN dL_law_929 ?_ | refine tk_iadd dL_law_929 ?_
  refine tk_sald dL_law_930 hG (by omega) (by omega) ?_
  refine tk_callV1s dL_law_931 kL_110 (by first | assumption | exact va_up_self _ _ _ | exact (va_up_ne _ _ (by omega)).trans (by assumption) | exact congrArg Prod.fst (va_up_self _ _ _) | exact (congrArg Prod.fst (va_up_ne _ _ (by omega))).trans (by assumption) | exact (congrFun (va_up_ne _ _ (by omega)) _).trans (by assumption) | exact (va_up_ne _ _ (by omega)).trans (va_up_self _ _ _) | exact (va_up_ne _ _ (by omega)).trans ((va_up_ne _ _ (by omega)).trans (by assumption)) | exact (congrArg Prod.fst ((va_up_ne _ _ (by omega)).trans (va_up_ne _ _ (by omega)))).trans (by assumption) | exact (congrFun ((va_up_ne _ _ (by omega)).trans (va_up_ne _ _ (by omega))) _).trans (by assumption) | (rw [va_up_self, va_up_ne _ _ (by omega)]; assumption)) (c1) (Nat.le_of_ble_eq_true rfl) (by omega) (by omega) (by omega) ?_
  rintro rr hh1 hq
  obtain ⟨x, n1, T1, I1, L1, P1, rfl, rfl, hR, Qr, d1, d2⟩ := c2 _ _ hq
  dsimp only [Option.toList, List.singleton_append]
  refine tk_aload2 dL_law_934 ?_
  refine tk_sload dL_law_935 ?_
  refine tk_iload3 dL_law_936 ?_
  refine tk_iconst dL_law_937 kc_iconst_1 ?_
  first | refine tk_iaddN dL_law_938 ?_ | refine tk_iadd dL_law_938 ?_
  refine tk_sald dL_law_939 hG (by omega) (by omega) ?_
  refine tk_callV1q dL_law_940 kL_113 hR.o (d1) (Nat.le_of_ble_eq_true rfl) (by omega) ?_
  rintro rr hh1 hq2
  obtain ⟨I2, L2, rfl, rfl, hL2⟩ := d2 _ _ hq2
  dsimp only [Option.toList, List.singleton_append]
  first | refine tk_icmp_eqN dL_law_943 (by omega) (by omega) (fun h943 => ?_) (fun h943 => ?_) | refine tk_icmp_eq dL_law_943 (fun h943 => ?_) (fun h943 => ?_)
  · exact hnx _ _ _ _ _ _ _ hL2 (by omega) (by omega)
  · exact absurd rfl h943
theorem la_lesson (hG : G.2.2.2.2 = (len, xs)) (hlen : len ≤ 3072) (hi : i + 6 ≤ len) (hL : lR n T I L P) (hmc : 10 ≤ mc) (hms : 275 ≤ ms) (hnx : NXL G i mc ms Q) : tkX G mL_law 100 mc ms 948 [some vS, some (vR 0), some (vR 40), some (vI (nI i))] [] (n, T, I, L, P) Q := by
  have k0 := hL.k0
  obtain ⟨Qc, c1, c2⟩ := p_lesson (G := G) hL (xs (i + 1)) (xs (i + 2))
  refine tk_aload1 dL_law_948 ?_
  refine tk_sload dL_law_949 ?_
  refine tk_iload3 dL_law_950 ?_
  refine tk_iconst dL_law_951 kc_iconst_1 ?_
  first | refine tk_iaddN dL_law_952 ?_ | refine tk_iadd dL_law_952 ?_
  refine tk_sald dL_law_953 hG (by omega) (by omega) ?_
  refine tk_sload dL_law_954 ?_
  refine tk_iload3 dL_law_955 ?_
  refine tk_iconst dL_law_956 kc_iconst_2 ?_
  first | refine tk_iaddN dL_law_957 ?_ | refine tk_iadd dL_law_957 ?_
  refine tk_sald dL_law_958 hG (by omega) (by omega) ?_
  refine tk_callV2s dL_law_959 kL_114 (by first | assumption | exact va_up_self _ _ _ | exact (va_up_ne _ _ (by omega)).trans (by assumption) | exact congrArg Prod.fst (va_up_self _ _ _) | exact (congrArg Prod.fst (va_up_ne _ _ (by omega))).trans (by assumption) | exact (congrFun (va_up_ne _ _ (by omega)) _).trans (by assumption) | exact (va_up_ne _ _ (by omega)).trans (va_up_self _ _ _) | exact (va_up_ne _ _ (by omega)).trans ((va_up_ne _ _ (by omega)).trans (by assumption)) | exact (congrArg Prod.fst ((va_up_ne _ _ (by omega)).trans (va_up_ne _ _ (by omega)))).trans (by assumption) | exact (congrFun ((va_up_ne _ _ (by omega)).trans (va_up_ne _ _ (by omega))) _).trans (by assumption) | (rw [va_up_self, va_up_ne _ _ (by omega)]; assumption)) (c1) (Nat.le_of_ble_eq_true rfl) (by omega) (by omega) (by omega) ?_
  rintro rr hh1 hq
  obtain ⟨x, n1, T1, I1, L1, P1, rfl, rfl, hR, Qr, d1, d2⟩ := c2 _ _ hq
  dsimp only [Option.toList, List.singleton_append]
  refine tk_aload2 dL_law_962 ?_
  refine tk_sload dL_law_963 ?_
  refine tk_iload3 dL_law_964 ?_
  refine tk_iconst dL_law_965 kc_iconst_1 ?_
  first | refine tk_iaddN dL_law_966 ?_ | refine tk_iadd dL_law_966 ?_
  refine tk_sald dL_law_967 hG (by omega) (by omega) ?_
  refine tk_sload dL_law_968 ?_
  refine tk_iload3 dL_law_969 ?_
  refine tk_iconst dL_law_970 kc_iconst_2 ?_
  first | refine tk_iaddN dL_law_971 ?_ | refine tk_iadd dL_law_971 ?_
  refine tk_sald dL_law_972 hG (by omega) (by omega) ?_
  refine tk_callV2q dL_law_973 kL_117 hR.o (d1) (Nat.le_of_ble_eq_true rfl) (by omega) ?_
  rintro rr hh1 hq2
  obtain ⟨I2, L2, rfl, rfl, hL2⟩ := d2 _ _ hq2
  dsimp only [Option.toList, List.singleton_append]
  first | refine tk_icmp_eqN dL_law_976 (by omega) (by omega) (fun h976 => ?_) (fun h976 => ?_) | refine tk_icmp_eq dL_law_976 (fun h976 => ?_) (fun h976 => ?_)
  · exact hnx _ _ _ _ _ _ _ hL2 (by omega) (by omega)
  · exact absurd rfl h976
theorem la_mark (hG : G.2.2.2.2 = (len, xs)) (hlen : len ≤ 3072) (hi : i + 6 ≤ len) (hL : lR n T I L P) (hmc : 10 ≤ mc) (hms : 275 ≤ ms) (hnx : NXL G i mc ms Q) : tkX G mL_law 100 mc ms 981 [some vS, some (vR 0), some (vR 40), some (vI (nI i))] [] (n, T, I, L, P) Q := by
  have k0 := hL.k0
  obtain ⟨Qc, c1, c2⟩ := p_mark (G := G) hL 
  refine tk_aload1 dL_law_981 ?_
  refine tk_callV0s dL_law_982 kL_118 (by first | assumption | exact va_up_self _ _ _ | exact (va_up_ne _ _ (by omega)).trans (by assumption) | exact congrArg Prod.fst (va_up_self _ _ _) | exact (congrArg Prod.fst (va_up_ne _ _ (by omega))).trans (by assumption) | exact (congrFun (va_up_ne _ _ (by omega)) _).trans (by assumption) | exact (va_up_ne _ _ (by omega)).trans (va_up_self _ _ _) | exact (va_up_ne _ _ (by omega)).trans ((va_up_ne _ _ (by omega)).trans (by assumption)) | exact (congrArg Prod.fst ((va_up_ne _ _ (by omega)).trans (va_up_ne _ _ (by omega)))).trans (by assumption) | exact (congrFun ((va_up_ne _ _ (by omega)).trans (va_up_ne _ _ (by omega))) _).trans (by assumption) | (rw [va_up_self, va_up_ne _ _ (by omega)]; assumption)) (c1) (Nat.le_of_ble_eq_true rfl) (by omega) (by omega) (by omega) ?_
  rintro rr hh1 hq
  obtain ⟨x, n1, T1, I1, L1, P1, rfl, rfl, hR, Qr, d1, d2⟩ := c2 _ _ hq
  dsimp only [Option.toList, List.singleton_append]
  refine tk_aload2 dL_law_985 ?_
  refine tk_callV0q dL_law_986 kL_121 hR.o (d1) (Nat.le_of_ble_eq_true rfl) (by omega) ?_
  rintro rr hh1 hq2
  obtain ⟨I2, L2, rfl, rfl, hL2⟩ := d2 _ _ hq2
  dsimp only [Option.toList, List.singleton_append]
  first | refine tk_icmp_eqN dL_law_989 (by omega) (by omega) (fun h989 => ?_) (fun h989 => ?_) | refine tk_icmp_eq dL_law_989 (fun h989 => ?_) (fun h989 => ?_)
  · exact hnx _ _ _ _ _ _ _ hL2 (by omega) (by omega)
  · exact absurd rfl h989
theorem la_then (hG : G.2.2.2.2 = (len, xs)) (hlen : len ≤ 3072) (hi : i + 6 ≤ len) (hL : lR n T I L P) (hmc : 10 ≤ mc) (hms : 275 ≤ ms) (hnx : NXL G i mc ms Q) : tkX G mL_law 100 mc ms 994 [some vS, some (vR 0), some (vR 40), some (vI (nI i))] [] (n, T, I, L, P) Q := by
  have k0 := hL.k0
  obtain ⟨Qc, c1, c2⟩ := p_then (G := G) hL (xs (i + 1)) (xs (i + 2))
  refine tk_aload1 dL_law_994 ?_
  refine tk_sload dL_law_995 ?_
  refine tk_iload3 dL_law_996 ?_
  refine tk_iconst dL_law_997 kc_iconst_1 ?_
  first | refine tk_iaddN dL_law_998 ?_ | refine tk_iadd dL_law_998 ?_
  refine tk_sald dL_law_999 hG (by omega) (by omega) ?_
  refine tk_sload dL_law_1000 ?_
  refine tk_iload3 dL_law_1001 ?_
  refine tk_iconst dL_law_1002 kc_iconst_2 ?_
  first | refine tk_iaddN dL_law_1003 ?_ | refine tk_iadd dL_law_1003 ?_
  refine tk_sald dL_law_1004 hG (by omega) (by omega) ?_
  refine tk_callV2s dL_law_1005 kL_122 (by first | assumption | exact va_up_self _ _ _ | exact (va_up_ne _ _ (by omega)).trans (by assumption) | exact congrArg Prod.fst (va_up_self _ _ _) | exact (congrArg Prod.fst (va_up_ne _ _ (by omega))).trans (by assumption) | exact (congrFun (va_up_ne _ _ (by omega)) _).trans (by assumption) | exact (va_up_ne _ _ (by omega)).trans (va_up_self _ _ _) | exact (va_up_ne _ _ (by omega)).trans ((va_up_ne _ _ (by omega)).trans (by assumption)) | exact (congrArg Prod.fst ((va_up_ne _ _ (by omega)).trans (va_up_ne _ _ (by omega)))).trans (by assumption) | exact (congrFun ((va_up_ne _ _ (by omega)).trans (va_up_ne _ _ (by omega))) _).trans (by assumption) | (rw [va_up_self, va_up_ne _ _ (by omega)]; assumption)) (c1) (Nat.le_of_ble_eq_true rfl) (by omega) (by omega) (by omega) ?_
  rintro rr hh1 hq
  obtain ⟨x, n1, T1, I1, L1, P1, rfl, rfl, hR, Qr, d1, d2⟩ := c2 _ _ hq
  dsimp only [Option.toList, List.singleton_append]
  refine tk_aload2 dL_law_1008 ?_
  refine tk_sload dL_law_1009 ?_
  refine tk_iload3 dL_law_1010 ?_
  refine tk_iconst dL_law_1011 kc_iconst_1 ?_
  first | refine tk_iaddN dL_law_1012 ?_ | refine tk_iadd dL_law_1012 ?_
  refine tk_sald dL_law_1013 hG (by omega) (by omega) ?_
  refine tk_sload dL_law_1014 ?_
  refine tk_iload3 dL_law_1015 ?_
  refine tk_iconst dL_law_1016 kc_iconst_2 ?_
  first | refine tk_iaddN dL_law_1017 ?_ | refine tk_iadd dL_law_1017 ?_
  refine tk_sald dL_law_1018 hG (by omega) (by omega) ?_
  refine tk_callV2q dL_law_1019 kL_125 hR.o (d1) (Nat.le_of_ble_eq_true rfl) (by omega) ?_
  rintro rr hh1 hq2
  obtain ⟨I2, L2, rfl, rfl, hL2⟩ := d2 _ _ hq2
  dsimp only [Option.toList, List.singleton_append]
  first | refine tk_icmp_eqN dL_law_1022 (by omega) (by omega) (fun h1022 => ?_) (fun h1022 => ?_) | refine tk_icmp_eq dL_law_1022 (fun h1022 => ?_) (fun h1022 => ?_)
  · exact hnx _ _ _ _ _ _ _ hL2 (by omega) (by omega)
  · exact absurd rfl h1022
theorem la_since (hG : G.2.2.2.2 = (len, xs)) (hlen : len ≤ 3072) (hi : i + 6 ≤ len) (hL : lR n T I L P) (hmc : 10 ≤ mc) (hms : 275 ≤ ms) (hnx : NXL G i mc ms Q) : tkX G mL_law 100 mc ms 1027 [some vS, some (vR 0), some (vR 40), some (vI (nI i))] [] (n, T, I, L, P) Q := by
  have k0 := hL.k0
  obtain ⟨Qc, c1, c2⟩ := p_since (G := G) hL (xs (i + 1))
  refine tk_aload1 dL_law_1027 ?_
  refine tk_sload dL_law_1028 ?_
  refine tk_iload3 dL_law_1029 ?_
  refine tk_iconst dL_law_1030 kc_iconst_1 ?_
  first | refine tk_iaddN dL_law_1031 ?_ | refine tk_iadd dL_law_1031 ?_
  refine tk_sald dL_law_1032 hG (by omega) (by omega) ?_
  refine tk_callV1s dL_law_1033 kL_126 (by first | assumption | exact va_up_self _ _ _ | exact (va_up_ne _ _ (by omega)).trans (by assumption) | exact congrArg Prod.fst (va_up_self _ _ _) | exact (congrArg Prod.fst (va_up_ne _ _ (by omega))).trans (by assumption) | exact (congrFun (va_up_ne _ _ (by omega)) _).trans (by assumption) | exact (va_up_ne _ _ (by omega)).trans (va_up_self _ _ _) | exact (va_up_ne _ _ (by omega)).trans ((va_up_ne _ _ (by omega)).trans (by assumption)) | exact (congrArg Prod.fst ((va_up_ne _ _ (by omega)).trans (va_up_ne _ _ (by omega)))).trans (by assumption) | exact (congrFun ((va_up_ne _ _ (by omega)).trans (va_up_ne _ _ (by omega))) _).trans (by assumption) | (rw [va_up_self, va_up_ne _ _ (by omega)]; assumption)) (c1) (Nat.le_of_ble_eq_true rfl) (by omega) (by omega) (by omega) ?_
  rintro rr hh1 hq
  obtain ⟨x, n1, T1, I1, L1, P1, rfl, rfl, hR, Qr, d1, d2⟩ := c2 _ _ hq
  dsimp only [Option.toList, List.singleton_append]
  refine tk_aload2 dL_law_1036 ?_
  refine tk_sload dL_law_1037 ?_
  refine tk_iload3 dL_law_1038 ?_
  refine tk_iconst dL_law_1039 kc_iconst_1 ?_
  first | refine tk_iaddN dL_law_1040 ?_ | refine tk_iadd dL_law_1040 ?_
  refine tk_sald dL_law_1041 hG (by omega) (by omega) ?_
  refine tk_callV1q dL_law_1042 kL_129 hR.o (d1) (Nat.le_of_ble_eq_true rfl) (by omega) ?_
  rintro rr hh1 hq2
  obtain ⟨I2, L2, rfl, rfl, hL2⟩ := d2 _ _ hq2
  dsimp only [Option.toList, List.singleton_append]
  first | refine tk_icmp_eqN dL_law_1045 (by omega) (by omega) (fun h1045 => ?_) (fun h1045 => ?_) | refine tk_icmp_eq dL_law_1045 (fun h1045 => ?_) (fun h1045 => ?_)
  · exact hnx _ _ _ _ _ _ _ hL2 (by omega) (by omega)
  · exact absurd rfl h1045
theorem la_sheet (hG : G.2.2.2.2 = (len, xs)) (hlen : len ≤ 3072) (hi : i + 6 ≤ len) (hL : lR n T I L P) (hmc : 10 ≤ mc) (hms : 275 ≤ ms) (hnx : NXL G i mc ms Q) : tkX G mL_law 100 mc ms 1050 [some vS, some (vR 0), some (vR 40), some (vI (nI i))] [] (n, T, I, L, P) Q := by
  have k0 := hL.k0
  obtain ⟨Qc, c1, c2⟩ := p_sheet (G := G) hL (xs (i + 1)) (xs (i + 2)) (xs (i + 3))
  refine tk_aload1 dL_law_1050 ?_
  refine tk_sload dL_law_1051 ?_
  refine tk_iload3 dL_law_1052 ?_
  refine tk_iconst dL_law_1053 kc_iconst_1 ?_
  first | refine tk_iaddN dL_law_1054 ?_ | refine tk_iadd dL_law_1054 ?_
  refine tk_sald dL_law_1055 hG (by omega) (by omega) ?_
  refine tk_sload dL_law_1056 ?_
  refine tk_iload3 dL_law_1057 ?_
  refine tk_iconst dL_law_1058 kc_iconst_2 ?_
  first | refine tk_iaddN dL_law_1059 ?_ | refine tk_iadd dL_law_1059 ?_
  refine tk_sald dL_law_1060 hG (by omega) (by omega) ?_
  refine tk_sload dL_law_1061 ?_
  refine tk_iload3 dL_law_1062 ?_
  refine tk_iconst dL_law_1063 kc_iconst_3 ?_
  first | refine tk_iaddN dL_law_1064 ?_ | refine tk_iadd dL_law_1064 ?_
  refine tk_sald dL_law_1065 hG (by omega) (by omega) ?_
  refine tk_callV3s dL_law_1066 kL_130 (by first | assumption | exact va_up_self _ _ _ | exact (va_up_ne _ _ (by omega)).trans (by assumption) | exact congrArg Prod.fst (va_up_self _ _ _) | exact (congrArg Prod.fst (va_up_ne _ _ (by omega))).trans (by assumption) | exact (congrFun (va_up_ne _ _ (by omega)) _).trans (by assumption) | exact (va_up_ne _ _ (by omega)).trans (va_up_self _ _ _) | exact (va_up_ne _ _ (by omega)).trans ((va_up_ne _ _ (by omega)).trans (by assumption)) | exact (congrArg Prod.fst ((va_up_ne _ _ (by omega)).trans (va_up_ne _ _ (by omega)))).trans (by assumption) | exact (congrFun ((va_up_ne _ _ (by omega)).trans (va_up_ne _ _ (by omega))) _).trans (by assumption) | (rw [va_up_self, va_up_ne _ _ (by omega)]; assumption)) (c1) (Nat.le_of_ble_eq_true rfl) (by omega) (by omega) (by omega) ?_
  rintro rr hh1 hq
  obtain ⟨x, n1, T1, I1, L1, P1, rfl, rfl, hR, Qr, d1, d2⟩ := c2 _ _ hq
  dsimp only [Option.toList, List.singleton_append]
  refine tk_aload2 dL_law_1069 ?_
  refine tk_sload dL_law_1070 ?_
  refine tk_iload3 dL_law_1071 ?_
  refine tk_iconst dL_law_1072 kc_iconst_1 ?_
  first | refine tk_iaddN dL_law_1073 ?_ | refine tk_iadd dL_law_1073 ?_
  refine tk_sald dL_law_1074 hG (by omega) (by omega) ?_
  refine tk_sload dL_law_1075 ?_
  refine tk_iload3 dL_law_1076 ?_
  refine tk_iconst dL_law_1077 kc_iconst_2 ?_
  first | refine tk_iaddN dL_law_1078 ?_ | refine tk_iadd dL_law_1078 ?_
  refine tk_sald dL_law_1079 hG (by omega) (by omega) ?_
  refine tk_sload dL_law_1080 ?_
  refine tk_iload3 dL_law_1081 ?_
  refine tk_iconst dL_law_1082 kc_iconst_3 ?_
  first | refine tk_iaddN dL_law_1083 ?_ | refine tk_iadd dL_law_1083 ?_
  refine tk_sald dL_law_1084 hG (by omega) (by omega) ?_
  refine tk_callV3q dL_law_1085 kL_133 hR.o (d1) (Nat.le_of_ble_eq_true rfl) (by omega) ?_
  rintro rr hh1 hq2
  obtain ⟨I2, L2, rfl, rfl, hL2⟩ := d2 _ _ hq2
  dsimp only [Option.toList, List.singleton_append]
  first | refine tk_icmp_eqN dL_law_1088 (by omega) (by omega) (fun h1088 => ?_) (fun h1088 => ?_) | refine tk_icmp_eq dL_law_1088 (fun h1088 => ?_) (fun h1088 => ?_)
  · exact hnx _ _ _ _ _ _ _ hL2 (by omega) (by omega)
  · exact absurd rfl h1088
theorem la_put (hG : G.2.2.2.2 = (len, xs)) (hlen : len ≤ 3072) (hi : i + 6 ≤ len) (hL : lR n T I L P) (hmc : 10 ≤ mc) (hms : 275 ≤ ms) (hnx : NXL G i mc ms Q) : tkX G mL_law 100 mc ms 1093 [some vS, some (vR 0), some (vR 40), some (vI (nI i))] [] (n, T, I, L, P) Q := by
  have k0 := hL.k0
  obtain ⟨Qc, c1, c2⟩ := p_put (G := G) hL (xs (i + 1)) (xs (i + 2)) (xs (i + 3))
  refine tk_aload1 dL_law_1093 ?_
  refine tk_sload dL_law_1094 ?_
  refine tk_iload3 dL_law_1095 ?_
  refine tk_iconst dL_law_1096 kc_iconst_1 ?_
  first | refine tk_iaddN dL_law_1097 ?_ | refine tk_iadd dL_law_1097 ?_
  refine tk_sald dL_law_1098 hG (by omega) (by omega) ?_
  refine tk_sload dL_law_1099 ?_
  refine tk_iload3 dL_law_1100 ?_
  refine tk_iconst dL_law_1101 kc_iconst_2 ?_
  first | refine tk_iaddN dL_law_1102 ?_ | refine tk_iadd dL_law_1102 ?_
  refine tk_sald dL_law_1103 hG (by omega) (by omega) ?_
  refine tk_sload dL_law_1104 ?_
  refine tk_iload3 dL_law_1105 ?_
  refine tk_iconst dL_law_1106 kc_iconst_3 ?_
  first | refine tk_iaddN dL_law_1107 ?_ | refine tk_iadd dL_law_1107 ?_
  refine tk_sald dL_law_1108 hG (by omega) (by omega) ?_
  refine tk_callV3s dL_law_1109 kL_134 (by first | assumption | exact va_up_self _ _ _ | exact (va_up_ne _ _ (by omega)).trans (by assumption) | exact congrArg Prod.fst (va_up_self _ _ _) | exact (congrArg Prod.fst (va_up_ne _ _ (by omega))).trans (by assumption) | exact (congrFun (va_up_ne _ _ (by omega)) _).trans (by assumption) | exact (va_up_ne _ _ (by omega)).trans (va_up_self _ _ _) | exact (va_up_ne _ _ (by omega)).trans ((va_up_ne _ _ (by omega)).trans (by assumption)) | exact (congrArg Prod.fst ((va_up_ne _ _ (by omega)).trans (va_up_ne _ _ (by omega)))).trans (by assumption) | exact (congrFun ((va_up_ne _ _ (by omega)).trans (va_up_ne _ _ (by omega))) _).trans (by assumption) | (rw [va_up_self, va_up_ne _ _ (by omega)]; assumption)) (c1) (Nat.le_of_ble_eq_true rfl) (by omega) (by omega) (by omega) ?_
  rintro rr hh1 hq
  obtain ⟨x, n1, T1, I1, L1, P1, rfl, rfl, hR, Qr, d1, d2⟩ := c2 _ _ hq
  dsimp only [Option.toList, List.singleton_append]
  refine tk_aload2 dL_law_1112 ?_
  refine tk_sload dL_law_1113 ?_
  refine tk_iload3 dL_law_1114 ?_
  refine tk_iconst dL_law_1115 kc_iconst_1 ?_
  first | refine tk_iaddN dL_law_1116 ?_ | refine tk_iadd dL_law_1116 ?_
  refine tk_sald dL_law_1117 hG (by omega) (by omega) ?_
  refine tk_sload dL_law_1118 ?_
  refine tk_iload3 dL_law_1119 ?_
  refine tk_iconst dL_law_1120 kc_iconst_2 ?_
  first | refine tk_iaddN dL_law_1121 ?_ | refine tk_iadd dL_law_1121 ?_
  refine tk_sald dL_law_1122 hG (by omega) (by omega) ?_
  refine tk_sload dL_law_1123 ?_
  refine tk_iload3 dL_law_1124 ?_
  refine tk_iconst dL_law_1125 kc_iconst_3 ?_
  first | refine tk_iaddN dL_law_1126 ?_ | refine tk_iadd dL_law_1126 ?_
  refine tk_sald dL_law_1127 hG (by omega) (by omega) ?_
  refine tk_callV3q dL_law_1128 kL_137 hR.o (d1) (Nat.le_of_ble_eq_true rfl) (by omega) ?_
  rintro rr hh1 hq2
  obtain ⟨I2, L2, rfl, rfl, hL2⟩ := d2 _ _ hq2
  dsimp only [Option.toList, List.singleton_append]
  first | refine tk_icmp_eqN dL_law_1131 (by omega) (by omega) (fun h1131 => ?_) (fun h1131 => ?_) | refine tk_icmp_eq dL_law_1131 (fun h1131 => ?_) (fun h1131 => ?_)
  · exact hnx _ _ _ _ _ _ _ hL2 (by omega) (by omega)
  · exact absurd rfl h1131
theorem la_copy (hG : G.2.2.2.2 = (len, xs)) (hlen : len ≤ 3072) (hi : i + 6 ≤ len) (hL : lR n T I L P) (hmc : 10 ≤ mc) (hms : 275 ≤ ms) (hnx : NXL G i mc ms Q) : tkX G mL_law 100 mc ms 1136 [some vS, some (vR 0), some (vR 40), some (vI (nI i))] [] (n, T, I, L, P) Q := by
  have k0 := hL.k0
  obtain ⟨Qc, c1, c2⟩ := p_copy (G := G) hL (xs (i + 1)) (xs (i + 2)) (xs (i + 3)) (xs (i + 4)) (xs (i + 5))
  refine tk_aload1 dL_law_1136 ?_
  refine tk_sload dL_law_1137 ?_
  refine tk_iload3 dL_law_1138 ?_
  refine tk_iconst dL_law_1139 kc_iconst_1 ?_
  first | refine tk_iaddN dL_law_1140 ?_ | refine tk_iadd dL_law_1140 ?_
  refine tk_sald dL_law_1141 hG (by omega) (by omega) ?_
  refine tk_sload dL_law_1142 ?_
  refine tk_iload3 dL_law_1143 ?_
  refine tk_iconst dL_law_1144 kc_iconst_2 ?_
  first | refine tk_iaddN dL_law_1145 ?_ | refine tk_iadd dL_law_1145 ?_
  refine tk_sald dL_law_1146 hG (by omega) (by omega) ?_
  refine tk_sload dL_law_1147 ?_
  refine tk_iload3 dL_law_1148 ?_
  refine tk_iconst dL_law_1149 kc_iconst_3 ?_
  first | refine tk_iaddN dL_law_1150 ?_ | refine tk_iadd dL_law_1150 ?_
  refine tk_sald dL_law_1151 hG (by omega) (by omega) ?_
  refine tk_sload dL_law_1152 ?_
  refine tk_iload3 dL_law_1153 ?_
  refine tk_iconst dL_law_1154 kc_iconst_4 ?_
  first | refine tk_iaddN dL_law_1155 ?_ | refine tk_iadd dL_law_1155 ?_
  refine tk_sald dL_law_1156 hG (by omega) (by omega) ?_
  refine tk_sload dL_law_1157 ?_
  refine tk_iload3 dL_law_1158 ?_
  refine tk_iconst dL_law_1159 kc_iconst_5 ?_
  first | refine tk_iaddN dL_law_1160 ?_ | refine tk_iadd dL_law_1160 ?_
  refine tk_sald dL_law_1161 hG (by omega) (by omega) ?_
  refine tk_callV5s dL_law_1162 kL_138 (by first | assumption | exact va_up_self _ _ _ | exact (va_up_ne _ _ (by omega)).trans (by assumption) | exact congrArg Prod.fst (va_up_self _ _ _) | exact (congrArg Prod.fst (va_up_ne _ _ (by omega))).trans (by assumption) | exact (congrFun (va_up_ne _ _ (by omega)) _).trans (by assumption) | exact (va_up_ne _ _ (by omega)).trans (va_up_self _ _ _) | exact (va_up_ne _ _ (by omega)).trans ((va_up_ne _ _ (by omega)).trans (by assumption)) | exact (congrArg Prod.fst ((va_up_ne _ _ (by omega)).trans (va_up_ne _ _ (by omega)))).trans (by assumption) | exact (congrFun ((va_up_ne _ _ (by omega)).trans (va_up_ne _ _ (by omega))) _).trans (by assumption) | (rw [va_up_self, va_up_ne _ _ (by omega)]; assumption)) (c1) (Nat.le_of_ble_eq_true rfl) (by omega) (by omega) (by omega) ?_
  rintro rr hh1 hq
  obtain ⟨x, n1, T1, I1, L1, P1, rfl, rfl, hR, Qr, d1, d2⟩ := c2 _ _ hq
  dsimp only [Option.toList, List.singleton_append]
  refine tk_aload2 dL_law_1165 ?_
  refine tk_sload dL_law_1166 ?_
  refine tk_iload3 dL_law_1167 ?_
  refine tk_iconst dL_law_1168 kc_iconst_1 ?_
  first | refine tk_iaddN dL_law_1169 ?_ | refine tk_iadd dL_law_1169 ?_
  refine tk_sald dL_law_1170 hG (by omega) (by omega) ?_
  refine tk_sload dL_law_1171 ?_
  refine tk_iload3 dL_law_1172 ?_
  refine tk_iconst dL_law_1173 kc_iconst_2 ?_
  first | refine tk_iaddN dL_law_1174 ?_ | refine tk_iadd dL_law_1174 ?_
  refine tk_sald dL_law_1175 hG (by omega) (by omega) ?_
  refine tk_sload dL_law_1176 ?_
  refine tk_iload3 dL_law_1177 ?_
  refine tk_iconst dL_law_1178 kc_iconst_3 ?_
  first | refine tk_iaddN dL_law_1179 ?_ | refine tk_iadd dL_law_1179 ?_
  refine tk_sald dL_law_1180 hG (by omega) (by omega) ?_
  refine tk_sload dL_law_1181 ?_
  refine tk_iload3 dL_law_1182 ?_
  refine tk_iconst dL_law_1183 kc_iconst_4 ?_
  first | refine tk_iaddN dL_law_1184 ?_ | refine tk_iadd dL_law_1184 ?_
  refine tk_sald dL_law_1185 hG (by omega) (by omega) ?_
  refine tk_sload dL_law_1186 ?_
  refine tk_iload3 dL_law_1187 ?_
  refine tk_iconst dL_law_1188 kc_iconst_5 ?_
  first | refine tk_iaddN dL_law_1189 ?_ | refine tk_iadd dL_law_1189 ?_
  refine tk_sald dL_law_1190 hG (by omega) (by omega) ?_
  refine tk_callV5q dL_law_1191 kL_142 hR.o (d1) (Nat.le_of_ble_eq_true rfl) (by omega) ?_
  rintro rr hh1 hq2
  obtain ⟨I2, L2, rfl, rfl, hL2⟩ := d2 _ _ hq2
  dsimp only [Option.toList, List.singleton_append]
  first | refine tk_icmp_eqN dL_law_1194 (by omega) (by omega) (fun h1194 => ?_) (fun h1194 => ?_) | refine tk_icmp_eq dL_law_1194 (fun h1194 => ?_) (fun h1194 => ?_)
  · exact hnx _ _ _ _ _ _ _ hL2 (by omega) (by omega)
  · exact absurd rfl h1194
theorem la_undo (hG : G.2.2.2.2 = (len, xs)) (hlen : len ≤ 3072) (hi : i + 6 ≤ len) (hL : lR n T I L P) (hmc : 10 ≤ mc) (hms : 275 ≤ ms) (hnx : NXL G i mc ms Q) : tkX G mL_law 100 mc ms 1199 [some vS, some (vR 0), some (vR 40), some (vI (nI i))] [] (n, T, I, L, P) Q := by
  have k0 := hL.k0
  obtain ⟨Qc, c1, c2⟩ := p_undo (G := G) hL 
  refine tk_aload1 dL_law_1199 ?_
  refine tk_callV0s dL_law_1200 kL_143 (by first | assumption | exact va_up_self _ _ _ | exact (va_up_ne _ _ (by omega)).trans (by assumption) | exact congrArg Prod.fst (va_up_self _ _ _) | exact (congrArg Prod.fst (va_up_ne _ _ (by omega))).trans (by assumption) | exact (congrFun (va_up_ne _ _ (by omega)) _).trans (by assumption) | exact (va_up_ne _ _ (by omega)).trans (va_up_self _ _ _) | exact (va_up_ne _ _ (by omega)).trans ((va_up_ne _ _ (by omega)).trans (by assumption)) | exact (congrArg Prod.fst ((va_up_ne _ _ (by omega)).trans (va_up_ne _ _ (by omega)))).trans (by assumption) | exact (congrFun ((va_up_ne _ _ (by omega)).trans (va_up_ne _ _ (by omega))) _).trans (by assumption) | (rw [va_up_self, va_up_ne _ _ (by omega)]; assumption)) (c1) (Nat.le_of_ble_eq_true rfl) (by omega) (by omega) (by omega) ?_
  rintro rr hh1 hq
  obtain ⟨x, n1, T1, I1, L1, P1, rfl, rfl, hR, Qr, d1, d2⟩ := c2 _ _ hq
  dsimp only [Option.toList, List.singleton_append]
  refine tk_aload2 dL_law_1203 ?_
  refine tk_callV0q dL_law_1204 kL_146 hR.o (d1) (Nat.le_of_ble_eq_true rfl) (by omega) ?_
  rintro rr hh1 hq2
  obtain ⟨I2, L2, rfl, rfl, hL2⟩ := d2 _ _ hq2
  dsimp only [Option.toList, List.singleton_append]
  first | refine tk_icmp_eqN dL_law_1207 (by omega) (by omega) (fun h1207 => ?_) (fun h1207 => ?_) | refine tk_icmp_eq dL_law_1207 (fun h1207 => ?_) (fun h1207 => ?_)
  · exact hnx _ _ _ _ _ _ _ hL2 (by omega) (by omega)
  · exact absurd rfl h1207
theorem la_all (hG : G.2.2.2.2 = (len, xs)) (hlen : len ≤ 3072) (hi : i + 6 ≤ len) (hL : lR n T I L P) (hmc : 10 ≤ mc) (hms : 275 ≤ ms) (hnx : NXL G i mc ms Q) : tkX G mL_law 100 mc ms 1212 [some vS, some (vR 0), some (vR 40), some (vI (nI i))] [] (n, T, I, L, P) Q := by
  have k0 := hL.k0
  obtain ⟨Qc, c1, c2⟩ := p_all (G := G) hL (xs (i + 1))
  refine tk_aload1 dL_law_1212 ?_
  refine tk_sload dL_law_1213 ?_
  refine tk_iload3 dL_law_1214 ?_
  refine tk_iconst dL_law_1215 kc_iconst_1 ?_
  first | refine tk_iaddN dL_law_1216 ?_ | refine tk_iadd dL_law_1216 ?_
  refine tk_sald dL_law_1217 hG (by omega) (by omega) ?_
  refine tk_callV1s dL_law_1218 kL_147 (by first | assumption | exact va_up_self _ _ _ | exact (va_up_ne _ _ (by omega)).trans (by assumption) | exact congrArg Prod.fst (va_up_self _ _ _) | exact (congrArg Prod.fst (va_up_ne _ _ (by omega))).trans (by assumption) | exact (congrFun (va_up_ne _ _ (by omega)) _).trans (by assumption) | exact (va_up_ne _ _ (by omega)).trans (va_up_self _ _ _) | exact (va_up_ne _ _ (by omega)).trans ((va_up_ne _ _ (by omega)).trans (by assumption)) | exact (congrArg Prod.fst ((va_up_ne _ _ (by omega)).trans (va_up_ne _ _ (by omega)))).trans (by assumption) | exact (congrFun ((va_up_ne _ _ (by omega)).trans (va_up_ne _ _ (by omega))) _).trans (by assumption) | (rw [va_up_self, va_up_ne _ _ (by omega)]; assumption)) (c1) (Nat.le_of_ble_eq_true rfl) (by omega) (by omega) (by omega) ?_
  rintro rr hh1 hq
  obtain ⟨x, n1, T1, I1, L1, P1, rfl, rfl, hR, Qr, d1, d2⟩ := c2 _ _ hq
  dsimp only [Option.toList, List.singleton_append]
  refine tk_aload2 dL_law_1221 ?_
  refine tk_sload dL_law_1222 ?_
  refine tk_iload3 dL_law_1223 ?_
  refine tk_iconst dL_law_1224 kc_iconst_1 ?_
  first | refine tk_iaddN dL_law_1225 ?_ | refine tk_iadd dL_law_1225 ?_
  refine tk_sald dL_law_1226 hG (by omega) (by omega) ?_
  refine tk_callV1q dL_law_1227 kL_150 hR.o (d1) (Nat.le_of_ble_eq_true rfl) (by omega) ?_
  rintro rr hh1 hq2
  obtain ⟨I2, L2, rfl, rfl, hL2⟩ := d2 _ _ hq2
  dsimp only [Option.toList, List.singleton_append]
  first | refine tk_icmp_eqN dL_law_1230 (by omega) (by omega) (fun h1230 => ?_) (fun h1230 => ?_) | refine tk_icmp_eq dL_law_1230 (fun h1230 => ?_) (fun h1230 => ?_)
  · exact hnx _ _ _ _ _ _ _ hL2 (by omega) (by omega)
  · exact absurd rfl h1230
end LAWC
