/-! ===== THE LAW: one call of each (written by program) ===== -/
section LawW
variable (L : Nat) {i : Nat} {M : ab_Me} {t : Int} {S0 : Nat → Int} {Q : Option ab_V → ab_Me → Prop}
theorem w_size (hL : i + 6 ≤ L) (hL2 : L ≤ 3072) (hZ : Zm L M) (hI : Inv t M) (h0 : M 0 = S0) (nxt : ∀ N2, Zm L N2 → N2 0 = S0 → Inv (t + 1) N2 → wp L 20 mL_law 962 [some (.inr 0), some (.inr 1), some (.inr 56), some (.inl (i : Int))] [] N2 Q) : wp L 20 mL_law 152 [some (.inr 0), some (.inr 1), some (.inr 56), some (.inl (i : Int))] [] M Q := by
  refine wp_al1 iL_law_152 ?_
  refine wp_al0 iL_law_153 ?_
  refine wp_il3 iL_law_154 ?_
  refine wp_ic iL_law_155 (by decide) ?_
  refine wp_add iL_law_156 (by omega) ?_
  refine wp_ia iL_law_157 rfl (by omega) ?_
  refine wp_al0 iL_law_158 ?_
  refine wp_il3 iL_law_159 ?_
  refine wp_ic iL_law_160 (by decide) ?_
  refine wp_add iL_law_161 (by omega) ?_
  refine wp_ia iL_law_162 rfl (by omega) ?_
  refine wp_v2x iL_law_163 ml_L_13 rfl rfl rfl rfl (p_size hZ hI _ _) (fun r N hx => ?_)
  obtain ⟨n0, v, rfl, hc⟩ := hx
  refine wp_al2 iL_law_166 ?_
  refine wp_al0 iL_law_167 ?_
  refine wp_il3 iL_law_168 ?_
  refine wp_ic iL_law_169 (by decide) ?_
  refine wp_add iL_law_170 (by omega) ?_
  refine wp_ia iL_law_171 rfl (by omega) ?_
  refine wp_al0 iL_law_172 ?_
  refine wp_il3 iL_law_173 ?_
  refine wp_ic iL_law_174 (by decide) ?_
  refine wp_add iL_law_175 (by omega) ?_
  refine wp_ia iL_law_176 rfl (by omega) ?_
  rw [n0]
  refine wp_v2x iL_law_177 ml_L_17 rfl rfl rfl rfl (hc) (fun r2 N2 hx2 => ?_)
  obtain ⟨rfl, z2, n2, I2⟩ := hx2
  refine wp_ceq iL_law_180 (fun _ => ?_) (fun c => absurd rfl c)
  exact nxt N2 z2 (n2.trans h0) I2
theorem w_paint (hL : i + 6 ≤ L) (hL2 : L ≤ 3072) (hZ : Zm L M) (hI : Inv t M) (h0 : M 0 = S0) (hr : ∀ k, M 0 k < 2147483648) (nxt : ∀ N2, Zm L N2 → N2 0 = S0 → Inv (t + 1) N2 → wp L 20 mL_law 962 [some (.inr 0), some (.inr 1), some (.inr 56), some (.inl (i : Int))] [] N2 Q) : wp L 20 mL_law 185 [some (.inr 0), some (.inr 1), some (.inr 56), some (.inl (i : Int))] [] M Q := by
  refine wp_al1 iL_law_185 ?_
  refine wp_al0 iL_law_186 ?_
  refine wp_il3 iL_law_187 ?_
  refine wp_ic iL_law_188 (by decide) ?_
  refine wp_add iL_law_189 (by omega) ?_
  refine wp_ia iL_law_190 rfl (by omega) ?_
  refine wp_al0 iL_law_191 ?_
  refine wp_il3 iL_law_192 ?_
  refine wp_ic iL_law_193 (by decide) ?_
  refine wp_add iL_law_194 (by omega) ?_
  refine wp_ia iL_law_195 rfl (by omega) ?_
  refine wp_al0 iL_law_196 ?_
  refine wp_il3 iL_law_197 ?_
  refine wp_ic iL_law_198 (by decide) ?_
  refine wp_add iL_law_199 (by omega) ?_
  refine wp_ia iL_law_200 rfl (by omega) ?_
  refine wp_al0 iL_law_201 ?_
  refine wp_il3 iL_law_202 ?_
  refine wp_ic iL_law_203 (by decide) ?_
  refine wp_add iL_law_204 (by omega) ?_
  refine wp_ia iL_law_205 rfl (by omega) ?_
  refine wp_al0 iL_law_206 ?_
  refine wp_il3 iL_law_207 ?_
  refine wp_ic iL_law_208 (by decide) ?_
  refine wp_add iL_law_209 (by omega) ?_
  refine wp_ia iL_law_210 rfl (by omega) ?_
  refine wp_v5x iL_law_211 ml_L_18 rfl rfl rfl rfl (p_paint hZ hI _ _ _ _ _ (hr _) (hr _)) (fun r N hx => ?_)
  obtain ⟨n0, v, rfl, hc⟩ := hx
  refine wp_al2 iL_law_214 ?_
  refine wp_al0 iL_law_215 ?_
  refine wp_il3 iL_law_216 ?_
  refine wp_ic iL_law_217 (by decide) ?_
  refine wp_add iL_law_218 (by omega) ?_
  refine wp_ia iL_law_219 rfl (by omega) ?_
  refine wp_al0 iL_law_220 ?_
  refine wp_il3 iL_law_221 ?_
  refine wp_ic iL_law_222 (by decide) ?_
  refine wp_add iL_law_223 (by omega) ?_
  refine wp_ia iL_law_224 rfl (by omega) ?_
  refine wp_al0 iL_law_225 ?_
  refine wp_il3 iL_law_226 ?_
  refine wp_ic iL_law_227 (by decide) ?_
  refine wp_add iL_law_228 (by omega) ?_
  refine wp_ia iL_law_229 rfl (by omega) ?_
  refine wp_al0 iL_law_230 ?_
  refine wp_il3 iL_law_231 ?_
  refine wp_ic iL_law_232 (by decide) ?_
  refine wp_add iL_law_233 (by omega) ?_
  refine wp_ia iL_law_234 rfl (by omega) ?_
  refine wp_al0 iL_law_235 ?_
  refine wp_il3 iL_law_236 ?_
  refine wp_ic iL_law_237 (by decide) ?_
  refine wp_add iL_law_238 (by omega) ?_
  refine wp_ia iL_law_239 rfl (by omega) ?_
  rw [n0]
  refine wp_v5x iL_law_240 ml_L_22 rfl rfl rfl rfl (hc) (fun r2 N2 hx2 => ?_)
  obtain ⟨rfl, z2, n2, I2⟩ := hx2
  refine wp_ceq iL_law_243 (fun _ => ?_) (fun c => absurd rfl c)
  exact nxt N2 z2 (n2.trans h0) I2
theorem w_face (hL : i + 6 ≤ L) (hL2 : L ≤ 3072) (hZ : Zm L M) (hI : Inv t M) (h0 : M 0 = S0) (nxt : ∀ N2, Zm L N2 → N2 0 = S0 → Inv (t + 1) N2 → wp L 20 mL_law 962 [some (.inr 0), some (.inr 1), some (.inr 56), some (.inl (i : Int))] [] N2 Q) : wp L 20 mL_law 248 [some (.inr 0), some (.inr 1), some (.inr 56), some (.inl (i : Int))] [] M Q := by
  refine wp_al1 iL_law_248 ?_
  refine wp_al0 iL_law_249 ?_
  refine wp_il3 iL_law_250 ?_
  refine wp_ic iL_law_251 (by decide) ?_
  refine wp_add iL_law_252 (by omega) ?_
  refine wp_ia iL_law_253 rfl (by omega) ?_
  refine wp_al0 iL_law_254 ?_
  refine wp_il3 iL_law_255 ?_
  refine wp_ic iL_law_256 (by decide) ?_
  refine wp_add iL_law_257 (by omega) ?_
  refine wp_ia iL_law_258 rfl (by omega) ?_
  refine wp_al0 iL_law_259 ?_
  refine wp_il3 iL_law_260 ?_
  refine wp_ic iL_law_261 (by decide) ?_
  refine wp_add iL_law_262 (by omega) ?_
  refine wp_ia iL_law_263 rfl (by omega) ?_
  have key : ∀ zz : Int, (zz = if M 0 ((i : Int) + 3).toNat = 0 then 0 else 1) → wp L 20 mL_law 272 [some (.inr 0), some (.inr 1), some (.inr 56), some (.inl (i : Int))] (.inl zz :: .inl (M 0 ((i : Int) + 2).toNat) :: .inl (M 0 ((i : Int) + 1).toNat) :: .inr 1 :: []) M Q := by
    intro zz hzz
    have hz01 : zz = 0 ∨ zz = 1 := by rw [hzz]; split; exact Or.inl rfl; exact Or.inr rfl
    refine wp_v3x iL_law_272 ml_L_23 rfl rfl rfl rfl (p_face hZ hI _ _ zz hz01) (fun r N hx => ?_)
    obtain ⟨n0, v, rfl, hc⟩ := hx
    refine wp_al2 iL_law_275 ?_
    refine wp_al0 iL_law_276 ?_
    refine wp_il3 iL_law_277 ?_
    refine wp_ic iL_law_278 (by decide) ?_
    refine wp_add iL_law_279 (by omega) ?_
    refine wp_ia iL_law_280 rfl (by omega) ?_
    refine wp_al0 iL_law_281 ?_
    refine wp_il3 iL_law_282 ?_
    refine wp_ic iL_law_283 (by decide) ?_
    refine wp_add iL_law_284 (by omega) ?_
    refine wp_ia iL_law_285 rfl (by omega) ?_
    refine wp_al0 iL_law_286 ?_
    refine wp_il3 iL_law_287 ?_
    refine wp_ic iL_law_288 (by decide) ?_
    refine wp_add iL_law_289 (by omega) ?_
    refine wp_ia iL_law_290 rfl (by omega) ?_
    rw [n0]
    have fin : wp L 20 mL_law 299 [some (.inr 0), some (.inr 1), some (.inr 56), some (.inl (i : Int))] (.inl zz :: .inl (M 0 ((i : Int) + 2).toNat) :: .inl (M 0 ((i : Int) + 1).toNat) :: .inr 56 :: .inl v :: []) N Q := by
      refine wp_v3x iL_law_299 ml_L_27 rfl rfl rfl rfl (hc) (fun r2 N2 hx2 => ?_)
      obtain ⟨rfl, z2, n2, I2⟩ := hx2
      refine wp_ceq iL_law_302 (fun _ => ?_) (fun c => absurd rfl c)
      exact nxt N2 z2 (n2.trans h0) I2
    by_cases w : M 0 ((i : Int) + 3).toNat = 0
    · rw [if_pos w] at hzz
      refine wp_zeq iL_law_291 (fun _ => ?_) (fun c => absurd w c)
      refine wp_ic iL_law_298 (by decide) ?_
      rw [hzz] at fin
      exact fin
    · rw [if_neg w] at hzz
      refine wp_zeq iL_law_291 (fun c => absurd c w) (fun _ => ?_)
      refine wp_ic iL_law_294 (by decide) ?_
      refine wp_goto iL_law_295 ?_
      rw [hzz] at fin
      exact fin
  by_cases w : M 0 ((i : Int) + 3).toNat = 0
  · refine wp_zeq iL_law_264 (fun _ => ?_) (fun c => absurd w c)
    refine wp_ic iL_law_271 (by decide) ?_
    exact key 0 (by rw [if_pos w])
  · refine wp_zeq iL_law_264 (fun c => absurd c w) (fun _ => ?_)
    refine wp_ic iL_law_267 (by decide) ?_
    refine wp_goto iL_law_268 ?_
    exact key 1 (by rw [if_neg w])
theorem w_cartoon (hL : i + 6 ≤ L) (hL2 : L ≤ 3072) (hZ : Zm L M) (hI : Inv t M) (h0 : M 0 = S0) (nxt : ∀ N2, Zm L N2 → N2 0 = S0 → Inv (t + 1) N2 → wp L 20 mL_law 962 [some (.inr 0), some (.inr 1), some (.inr 56), some (.inl (i : Int))] [] N2 Q) : wp L 20 mL_law 307 [some (.inr 0), some (.inr 1), some (.inr 56), some (.inl (i : Int))] [] M Q := by
  refine wp_al1 iL_law_307 ?_
  refine wp_al0 iL_law_308 ?_
  refine wp_il3 iL_law_309 ?_
  refine wp_ic iL_law_310 (by decide) ?_
  refine wp_add iL_law_311 (by omega) ?_
  refine wp_ia iL_law_312 rfl (by omega) ?_
  refine wp_al0 iL_law_313 ?_
  refine wp_il3 iL_law_314 ?_
  refine wp_ic iL_law_315 (by decide) ?_
  refine wp_add iL_law_316 (by omega) ?_
  refine wp_ia iL_law_317 rfl (by omega) ?_
  refine wp_v2x iL_law_318 ml_L_28 rfl rfl rfl rfl (p_cartoon hZ hI _ _) (fun r N hx => ?_)
  obtain ⟨n0, v, rfl, hc⟩ := hx
  refine wp_al2 iL_law_321 ?_
  refine wp_al0 iL_law_322 ?_
  refine wp_il3 iL_law_323 ?_
  refine wp_ic iL_law_324 (by decide) ?_
  refine wp_add iL_law_325 (by omega) ?_
  refine wp_ia iL_law_326 rfl (by omega) ?_
  refine wp_al0 iL_law_327 ?_
  refine wp_il3 iL_law_328 ?_
  refine wp_ic iL_law_329 (by decide) ?_
  refine wp_add iL_law_330 (by omega) ?_
  refine wp_ia iL_law_331 rfl (by omega) ?_
  rw [n0]
  refine wp_v2x iL_law_332 ml_L_31 rfl rfl rfl rfl (hc) (fun r2 N2 hx2 => ?_)
  obtain ⟨rfl, z2, n2, I2⟩ := hx2
  refine wp_ceq iL_law_335 (fun _ => ?_) (fun c => absurd rfl c)
  exact nxt N2 z2 (n2.trans h0) I2
theorem w_loom (hL : i + 6 ≤ L) (hL2 : L ≤ 3072) (hZ : Zm L M) (hI : Inv t M) (h0 : M 0 = S0) (nxt : ∀ N2, Zm L N2 → N2 0 = S0 → Inv (t + 1) N2 → wp L 20 mL_law 962 [some (.inr 0), some (.inr 1), some (.inr 56), some (.inl (i : Int))] [] N2 Q) : wp L 20 mL_law 340 [some (.inr 0), some (.inr 1), some (.inr 56), some (.inl (i : Int))] [] M Q := by
  refine wp_al1 iL_law_340 ?_
  refine wp_al0 iL_law_341 ?_
  refine wp_il3 iL_law_342 ?_
  refine wp_ic iL_law_343 (by decide) ?_
  refine wp_add iL_law_344 (by omega) ?_
  refine wp_ia iL_law_345 rfl (by omega) ?_
  refine wp_al0 iL_law_346 ?_
  refine wp_il3 iL_law_347 ?_
  refine wp_ic iL_law_348 (by decide) ?_
  refine wp_add iL_law_349 (by omega) ?_
  refine wp_ia iL_law_350 rfl (by omega) ?_
  refine wp_v2x iL_law_351 ml_L_32 rfl rfl rfl rfl (p_loom hZ hI _ _) (fun r N hx => ?_)
  obtain ⟨n0, v, rfl, hc⟩ := hx
  refine wp_al2 iL_law_354 ?_
  refine wp_al0 iL_law_355 ?_
  refine wp_il3 iL_law_356 ?_
  refine wp_ic iL_law_357 (by decide) ?_
  refine wp_add iL_law_358 (by omega) ?_
  refine wp_ia iL_law_359 rfl (by omega) ?_
  refine wp_al0 iL_law_360 ?_
  refine wp_il3 iL_law_361 ?_
  refine wp_ic iL_law_362 (by decide) ?_
  refine wp_add iL_law_363 (by omega) ?_
  refine wp_ia iL_law_364 rfl (by omega) ?_
  rw [n0]
  refine wp_v2x iL_law_365 ml_L_35 rfl rfl rfl rfl (hc) (fun r2 N2 hx2 => ?_)
  obtain ⟨rfl, z2, n2, I2⟩ := hx2
  refine wp_ceq iL_law_368 (fun _ => ?_) (fun c => absurd rfl c)
  exact nxt N2 z2 (n2.trans h0) I2
theorem w_rule (hL : i + 6 ≤ L) (hL2 : L ≤ 3072) (hZ : Zm L M) (hI : Inv t M) (h0 : M 0 = S0) (nxt : ∀ N2, Zm L N2 → N2 0 = S0 → Inv (t + 1) N2 → wp L 20 mL_law 962 [some (.inr 0), some (.inr 1), some (.inr 56), some (.inl (i : Int))] [] N2 Q) : wp L 20 mL_law 373 [some (.inr 0), some (.inr 1), some (.inr 56), some (.inl (i : Int))] [] M Q := by
  refine wp_al1 iL_law_373 ?_
  refine wp_al0 iL_law_374 ?_
  refine wp_il3 iL_law_375 ?_
  refine wp_ic iL_law_376 (by decide) ?_
  refine wp_add iL_law_377 (by omega) ?_
  refine wp_ia iL_law_378 rfl (by omega) ?_
  refine wp_al0 iL_law_379 ?_
  refine wp_il3 iL_law_380 ?_
  refine wp_ic iL_law_381 (by decide) ?_
  refine wp_add iL_law_382 (by omega) ?_
  refine wp_ia iL_law_383 rfl (by omega) ?_
  refine wp_v2x iL_law_384 ml_L_36 rfl rfl rfl rfl (p_rule hZ hI _ _) (fun r N hx => ?_)
  obtain ⟨n0, v, rfl, hc⟩ := hx
  refine wp_al2 iL_law_387 ?_
  refine wp_al0 iL_law_388 ?_
  refine wp_il3 iL_law_389 ?_
  refine wp_ic iL_law_390 (by decide) ?_
  refine wp_add iL_law_391 (by omega) ?_
  refine wp_ia iL_law_392 rfl (by omega) ?_
  refine wp_al0 iL_law_393 ?_
  refine wp_il3 iL_law_394 ?_
  refine wp_ic iL_law_395 (by decide) ?_
  refine wp_add iL_law_396 (by omega) ?_
  refine wp_ia iL_law_397 rfl (by omega) ?_
  rw [n0]
  refine wp_v2x iL_law_398 ml_L_39 rfl rfl rfl rfl (hc) (fun r2 N2 hx2 => ?_)
  obtain ⟨rfl, z2, n2, I2⟩ := hx2
  refine wp_ceq iL_law_401 (fun _ => ?_) (fun c => absurd rfl c)
  exact nxt N2 z2 (n2.trans h0) I2
theorem w_slits (hL : i + 6 ≤ L) (hL2 : L ≤ 3072) (hZ : Zm L M) (hI : Inv t M) (h0 : M 0 = S0) (nxt : ∀ N2, Zm L N2 → N2 0 = S0 → Inv (t + 1) N2 → wp L 20 mL_law 962 [some (.inr 0), some (.inr 1), some (.inr 56), some (.inl (i : Int))] [] N2 Q) : wp L 20 mL_law 406 [some (.inr 0), some (.inr 1), some (.inr 56), some (.inl (i : Int))] [] M Q := by
  refine wp_al1 iL_law_406 ?_
  refine wp_al0 iL_law_407 ?_
  refine wp_il3 iL_law_408 ?_
  refine wp_ic iL_law_409 (by decide) ?_
  refine wp_add iL_law_410 (by omega) ?_
  refine wp_ia iL_law_411 rfl (by omega) ?_
  refine wp_v1x iL_law_412 ml_L_40 rfl rfl rfl rfl (p_slits hZ hI _) (fun r N hx => ?_)
  obtain ⟨n0, v, rfl, hc⟩ := hx
  refine wp_al2 iL_law_415 ?_
  refine wp_al0 iL_law_416 ?_
  refine wp_il3 iL_law_417 ?_
  refine wp_ic iL_law_418 (by decide) ?_
  refine wp_add iL_law_419 (by omega) ?_
  refine wp_ia iL_law_420 rfl (by omega) ?_
  rw [n0]
  refine wp_v1x iL_law_421 ml_L_44 rfl rfl rfl rfl (hc) (fun r2 N2 hx2 => ?_)
  obtain ⟨rfl, z2, n2, I2⟩ := hx2
  refine wp_ceq iL_law_424 (fun _ => ?_) (fun c => absurd rfl c)
  exact nxt N2 z2 (n2.trans h0) I2
theorem w_slit (hL : i + 6 ≤ L) (hL2 : L ≤ 3072) (hZ : Zm L M) (hI : Inv t M) (h0 : M 0 = S0) (nxt : ∀ N2, Zm L N2 → N2 0 = S0 → Inv (t + 1) N2 → wp L 20 mL_law 962 [some (.inr 0), some (.inr 1), some (.inr 56), some (.inl (i : Int))] [] N2 Q) : wp L 20 mL_law 429 [some (.inr 0), some (.inr 1), some (.inr 56), some (.inl (i : Int))] [] M Q := by
  refine wp_al1 iL_law_429 ?_
  refine wp_al0 iL_law_430 ?_
  refine wp_il3 iL_law_431 ?_
  refine wp_ic iL_law_432 (by decide) ?_
  refine wp_add iL_law_433 (by omega) ?_
  refine wp_ia iL_law_434 rfl (by omega) ?_
  refine wp_al0 iL_law_435 ?_
  refine wp_il3 iL_law_436 ?_
  refine wp_ic iL_law_437 (by decide) ?_
  refine wp_add iL_law_438 (by omega) ?_
  refine wp_ia iL_law_439 rfl (by omega) ?_
  refine wp_v2x iL_law_440 ml_L_45 rfl rfl rfl rfl (p_slit hZ hI _ _) (fun r N hx => ?_)
  obtain ⟨n0, v, rfl, hc⟩ := hx
  refine wp_al2 iL_law_443 ?_
  refine wp_al0 iL_law_444 ?_
  refine wp_il3 iL_law_445 ?_
  refine wp_ic iL_law_446 (by decide) ?_
  refine wp_add iL_law_447 (by omega) ?_
  refine wp_ia iL_law_448 rfl (by omega) ?_
  refine wp_al0 iL_law_449 ?_
  refine wp_il3 iL_law_450 ?_
  refine wp_ic iL_law_451 (by decide) ?_
  refine wp_add iL_law_452 (by omega) ?_
  refine wp_ia iL_law_453 rfl (by omega) ?_
  rw [n0]
  refine wp_v2x iL_law_454 ml_L_48 rfl rfl rfl rfl (hc) (fun r2 N2 hx2 => ?_)
  obtain ⟨rfl, z2, n2, I2⟩ := hx2
  refine wp_ceq iL_law_457 (fun _ => ?_) (fun c => absurd rfl c)
  exact nxt N2 z2 (n2.trans h0) I2
theorem w_field (hL : i + 6 ≤ L) (hL2 : L ≤ 3072) (hZ : Zm L M) (hI : Inv t M) (h0 : M 0 = S0) (nxt : ∀ N2, Zm L N2 → N2 0 = S0 → Inv (t + 1) N2 → wp L 20 mL_law 962 [some (.inr 0), some (.inr 1), some (.inr 56), some (.inl (i : Int))] [] N2 Q) : wp L 20 mL_law 462 [some (.inr 0), some (.inr 1), some (.inr 56), some (.inl (i : Int))] [] M Q := by
  refine wp_al1 iL_law_462 ?_
  refine wp_al0 iL_law_463 ?_
  refine wp_il3 iL_law_464 ?_
  refine wp_ic iL_law_465 (by decide) ?_
  refine wp_add iL_law_466 (by omega) ?_
  refine wp_ia iL_law_467 rfl (by omega) ?_
  refine wp_al0 iL_law_468 ?_
  refine wp_il3 iL_law_469 ?_
  refine wp_ic iL_law_470 (by decide) ?_
  refine wp_add iL_law_471 (by omega) ?_
  refine wp_ia iL_law_472 rfl (by omega) ?_
  refine wp_v2x iL_law_473 ml_L_49 rfl rfl rfl rfl (p_field hZ hI _ _) (fun r N hx => ?_)
  obtain ⟨n0, v, rfl, hc⟩ := hx
  refine wp_al2 iL_law_476 ?_
  refine wp_al0 iL_law_477 ?_
  refine wp_il3 iL_law_478 ?_
  refine wp_ic iL_law_479 (by decide) ?_
  refine wp_add iL_law_480 (by omega) ?_
  refine wp_ia iL_law_481 rfl (by omega) ?_
  refine wp_al0 iL_law_482 ?_
  refine wp_il3 iL_law_483 ?_
  refine wp_ic iL_law_484 (by decide) ?_
  refine wp_add iL_law_485 (by omega) ?_
  refine wp_ia iL_law_486 rfl (by omega) ?_
  rw [n0]
  refine wp_v2x iL_law_487 ml_L_52 rfl rfl rfl rfl (hc) (fun r2 N2 hx2 => ?_)
  obtain ⟨rfl, z2, n2, I2⟩ := hx2
  refine wp_ceq iL_law_490 (fun _ => ?_) (fun c => absurd rfl c)
  exact nxt N2 z2 (n2.trans h0) I2
theorem w_of (hL : i + 6 ≤ L) (hL2 : L ≤ 3072) (hZ : Zm L M) (hI : Inv t M) (h0 : M 0 = S0) (nxt : ∀ N2, Zm L N2 → N2 0 = S0 → Inv (t + 1) N2 → wp L 20 mL_law 962 [some (.inr 0), some (.inr 1), some (.inr 56), some (.inl (i : Int))] [] N2 Q) : wp L 20 mL_law 495 [some (.inr 0), some (.inr 1), some (.inr 56), some (.inl (i : Int))] [] M Q := by
  refine wp_al1 iL_law_495 ?_
  refine wp_al0 iL_law_496 ?_
  refine wp_il3 iL_law_497 ?_
  refine wp_ic iL_law_498 (by decide) ?_
  refine wp_add iL_law_499 (by omega) ?_
  refine wp_ia iL_law_500 rfl (by omega) ?_
  refine wp_al0 iL_law_501 ?_
  refine wp_il3 iL_law_502 ?_
  refine wp_ic iL_law_503 (by decide) ?_
  refine wp_add iL_law_504 (by omega) ?_
  refine wp_ia iL_law_505 rfl (by omega) ?_
  refine wp_v2x iL_law_506 ml_L_53 rfl rfl rfl rfl (p_of hZ hI _ _) (fun r N hx => ?_)
  obtain ⟨n0, v, rfl, hc⟩ := hx
  refine wp_al2 iL_law_509 ?_
  refine wp_al0 iL_law_510 ?_
  refine wp_il3 iL_law_511 ?_
  refine wp_ic iL_law_512 (by decide) ?_
  refine wp_add iL_law_513 (by omega) ?_
  refine wp_ia iL_law_514 rfl (by omega) ?_
  refine wp_al0 iL_law_515 ?_
  refine wp_il3 iL_law_516 ?_
  refine wp_ic iL_law_517 (by decide) ?_
  refine wp_add iL_law_518 (by omega) ?_
  refine wp_ia iL_law_519 rfl (by omega) ?_
  rw [n0]
  refine wp_v2x iL_law_520 ml_L_56 rfl rfl rfl rfl (hc) (fun r2 N2 hx2 => ?_)
  obtain ⟨rfl, z2, n2, I2⟩ := hx2
  refine wp_ceq iL_law_523 (fun _ => ?_) (fun c => absurd rfl c)
  exact nxt N2 z2 (n2.trans h0) I2
theorem w_dye (hL : i + 6 ≤ L) (hL2 : L ≤ 3072) (hZ : Zm L M) (hI : Inv t M) (h0 : M 0 = S0) (nxt : ∀ N2, Zm L N2 → N2 0 = S0 → Inv (t + 1) N2 → wp L 20 mL_law 962 [some (.inr 0), some (.inr 1), some (.inr 56), some (.inl (i : Int))] [] N2 Q) : wp L 20 mL_law 528 [some (.inr 0), some (.inr 1), some (.inr 56), some (.inl (i : Int))] [] M Q := by
  refine wp_al1 iL_law_528 ?_
  refine wp_al0 iL_law_529 ?_
  refine wp_il3 iL_law_530 ?_
  refine wp_ic iL_law_531 (by decide) ?_
  refine wp_add iL_law_532 (by omega) ?_
  refine wp_ia iL_law_533 rfl (by omega) ?_
  refine wp_al0 iL_law_534 ?_
  refine wp_il3 iL_law_535 ?_
  refine wp_ic iL_law_536 (by decide) ?_
  refine wp_add iL_law_537 (by omega) ?_
  refine wp_ia iL_law_538 rfl (by omega) ?_
  refine wp_v2x iL_law_539 ml_L_57 rfl rfl rfl rfl (p_dye hZ hI _ _) (fun r N hx => ?_)
  obtain ⟨n0, v, rfl, hc⟩ := hx
  refine wp_al2 iL_law_542 ?_
  refine wp_al0 iL_law_543 ?_
  refine wp_il3 iL_law_544 ?_
  refine wp_ic iL_law_545 (by decide) ?_
  refine wp_add iL_law_546 (by omega) ?_
  refine wp_ia iL_law_547 rfl (by omega) ?_
  refine wp_al0 iL_law_548 ?_
  refine wp_il3 iL_law_549 ?_
  refine wp_ic iL_law_550 (by decide) ?_
  refine wp_add iL_law_551 (by omega) ?_
  refine wp_ia iL_law_552 rfl (by omega) ?_
  rw [n0]
  refine wp_v2x iL_law_553 ml_L_60 rfl rfl rfl rfl (hc) (fun r2 N2 hx2 => ?_)
  obtain ⟨rfl, z2, n2, I2⟩ := hx2
  refine wp_ceq iL_law_556 (fun _ => ?_) (fun c => absurd rfl c)
  exact nxt N2 z2 (n2.trans h0) I2
theorem w_lot (hL : i + 6 ≤ L) (hL2 : L ≤ 3072) (hZ : Zm L M) (hI : Inv t M) (h0 : M 0 = S0) (nxt : ∀ N2, Zm L N2 → N2 0 = S0 → Inv (t + 1) N2 → wp L 20 mL_law 962 [some (.inr 0), some (.inr 1), some (.inr 56), some (.inl (i : Int))] [] N2 Q) : wp L 20 mL_law 561 [some (.inr 0), some (.inr 1), some (.inr 56), some (.inl (i : Int))] [] M Q := by
  refine wp_al1 iL_law_561 ?_
  refine wp_al0 iL_law_562 ?_
  refine wp_il3 iL_law_563 ?_
  refine wp_ic iL_law_564 (by decide) ?_
  refine wp_add iL_law_565 (by omega) ?_
  refine wp_ia iL_law_566 rfl (by omega) ?_
  refine wp_al0 iL_law_567 ?_
  refine wp_il3 iL_law_568 ?_
  refine wp_ic iL_law_569 (by decide) ?_
  refine wp_add iL_law_570 (by omega) ?_
  refine wp_ia iL_law_571 rfl (by omega) ?_
  refine wp_v2x iL_law_572 ml_L_61 rfl rfl rfl rfl (p_lot hZ hI _ _) (fun r N hx => ?_)
  obtain ⟨n0, v, rfl, hc⟩ := hx
  refine wp_al2 iL_law_575 ?_
  refine wp_al0 iL_law_576 ?_
  refine wp_il3 iL_law_577 ?_
  refine wp_ic iL_law_578 (by decide) ?_
  refine wp_add iL_law_579 (by omega) ?_
  refine wp_ia iL_law_580 rfl (by omega) ?_
  refine wp_al0 iL_law_581 ?_
  refine wp_il3 iL_law_582 ?_
  refine wp_ic iL_law_583 (by decide) ?_
  refine wp_add iL_law_584 (by omega) ?_
  refine wp_ia iL_law_585 rfl (by omega) ?_
  rw [n0]
  refine wp_v2x iL_law_586 ml_L_64 rfl rfl rfl rfl (hc) (fun r2 N2 hx2 => ?_)
  obtain ⟨rfl, z2, n2, I2⟩ := hx2
  refine wp_ceq iL_law_589 (fun _ => ?_) (fun c => absurd rfl c)
  exact nxt N2 z2 (n2.trans h0) I2
theorem w_deal (hL : i + 6 ≤ L) (hL2 : L ≤ 3072) (hZ : Zm L M) (hI : Inv t M) (h0 : M 0 = S0) (nxt : ∀ N2, Zm L N2 → N2 0 = S0 → Inv (t + 1) N2 → wp L 20 mL_law 962 [some (.inr 0), some (.inr 1), some (.inr 56), some (.inl (i : Int))] [] N2 Q) : wp L 20 mL_law 594 [some (.inr 0), some (.inr 1), some (.inr 56), some (.inl (i : Int))] [] M Q := by
  refine wp_al1 iL_law_594 ?_
  refine wp_al0 iL_law_595 ?_
  refine wp_il3 iL_law_596 ?_
  refine wp_ic iL_law_597 (by decide) ?_
  refine wp_add iL_law_598 (by omega) ?_
  refine wp_ia iL_law_599 rfl (by omega) ?_
  refine wp_v1x iL_law_600 ml_L_65 rfl rfl rfl rfl (p_deal hZ hI _) (fun r N hx => ?_)
  obtain ⟨n0, v, rfl, hc⟩ := hx
  refine wp_al2 iL_law_603 ?_
  refine wp_al0 iL_law_604 ?_
  refine wp_il3 iL_law_605 ?_
  refine wp_ic iL_law_606 (by decide) ?_
  refine wp_add iL_law_607 (by omega) ?_
  refine wp_ia iL_law_608 rfl (by omega) ?_
  rw [n0]
  refine wp_v1x iL_law_609 ml_L_68 rfl rfl rfl rfl (hc) (fun r2 N2 hx2 => ?_)
  obtain ⟨rfl, z2, n2, I2⟩ := hx2
  refine wp_ceq iL_law_612 (fun _ => ?_) (fun c => absurd rfl c)
  exact nxt N2 z2 (n2.trans h0) I2
theorem w_dealt (hL : i + 6 ≤ L) (hL2 : L ≤ 3072) (hZ : Zm L M) (hI : Inv t M) (h0 : M 0 = S0) (nxt : ∀ N2, Zm L N2 → N2 0 = S0 → Inv (t + 1) N2 → wp L 20 mL_law 962 [some (.inr 0), some (.inr 1), some (.inr 56), some (.inl (i : Int))] [] N2 Q) : wp L 20 mL_law 617 [some (.inr 0), some (.inr 1), some (.inr 56), some (.inl (i : Int))] [] M Q := by
  refine wp_al1 iL_law_617 ?_
  refine wp_al0 iL_law_618 ?_
  refine wp_il3 iL_law_619 ?_
  refine wp_ic iL_law_620 (by decide) ?_
  refine wp_add iL_law_621 (by omega) ?_
  refine wp_ia iL_law_622 rfl (by omega) ?_
  refine wp_al0 iL_law_623 ?_
  refine wp_il3 iL_law_624 ?_
  refine wp_ic iL_law_625 (by decide) ?_
  refine wp_add iL_law_626 (by omega) ?_
  refine wp_ia iL_law_627 rfl (by omega) ?_
  refine wp_v2x iL_law_628 ml_L_69 rfl rfl rfl rfl (p_dealt hZ hI _ _) (fun r N hx => ?_)
  obtain ⟨n0, v, rfl, hc⟩ := hx
  refine wp_al2 iL_law_631 ?_
  refine wp_al0 iL_law_632 ?_
  refine wp_il3 iL_law_633 ?_
  refine wp_ic iL_law_634 (by decide) ?_
  refine wp_add iL_law_635 (by omega) ?_
  refine wp_ia iL_law_636 rfl (by omega) ?_
  refine wp_al0 iL_law_637 ?_
  refine wp_il3 iL_law_638 ?_
  refine wp_ic iL_law_639 (by decide) ?_
  refine wp_add iL_law_640 (by omega) ?_
  refine wp_ia iL_law_641 rfl (by omega) ?_
  rw [n0]
  refine wp_v2x iL_law_642 ml_L_72 rfl rfl rfl rfl (hc) (fun r2 N2 hx2 => ?_)
  obtain ⟨rfl, z2, n2, I2⟩ := hx2
  refine wp_ceq iL_law_645 (fun _ => ?_) (fun c => absurd rfl c)
  exact nxt N2 z2 (n2.trans h0) I2
theorem w_weaver (hL : i + 6 ≤ L) (hL2 : L ≤ 3072) (hZ : Zm L M) (hI : Inv t M) (h0 : M 0 = S0) (nxt : ∀ N2, Zm L N2 → N2 0 = S0 → Inv (t + 1) N2 → wp L 20 mL_law 962 [some (.inr 0), some (.inr 1), some (.inr 56), some (.inl (i : Int))] [] N2 Q) : wp L 20 mL_law 650 [some (.inr 0), some (.inr 1), some (.inr 56), some (.inl (i : Int))] [] M Q := by
  refine wp_al1 iL_law_650 ?_
  refine wp_al0 iL_law_651 ?_
  refine wp_il3 iL_law_652 ?_
  refine wp_ic iL_law_653 (by decide) ?_
  refine wp_add iL_law_654 (by omega) ?_
  refine wp_ia iL_law_655 rfl (by omega) ?_
  refine wp_al0 iL_law_656 ?_
  refine wp_il3 iL_law_657 ?_
  refine wp_ic iL_law_658 (by decide) ?_
  refine wp_add iL_law_659 (by omega) ?_
  refine wp_ia iL_law_660 rfl (by omega) ?_
  have key : ∀ zz : Int, (zz = if M 0 ((i : Int) + 2).toNat = 0 then 0 else 1) → wp L 20 mL_law 669 [some (.inr 0), some (.inr 1), some (.inr 56), some (.inl (i : Int))] (.inl zz :: .inl (M 0 ((i : Int) + 1).toNat) :: .inr 1 :: []) M Q := by
    intro zz hzz
    have hz01 : zz = 0 ∨ zz = 1 := by rw [hzz]; split; exact Or.inl rfl; exact Or.inr rfl
    refine wp_v2x iL_law_669 ml_L_73 rfl rfl rfl rfl (p_weaver hZ hI _ zz hz01) (fun r N hx => ?_)
    obtain ⟨n0, v, rfl, hc⟩ := hx
    refine wp_al2 iL_law_672 ?_
    refine wp_al0 iL_law_673 ?_
    refine wp_il3 iL_law_674 ?_
    refine wp_ic iL_law_675 (by decide) ?_
    refine wp_add iL_law_676 (by omega) ?_
    refine wp_ia iL_law_677 rfl (by omega) ?_
    refine wp_al0 iL_law_678 ?_
    refine wp_il3 iL_law_679 ?_
    refine wp_ic iL_law_680 (by decide) ?_
    refine wp_add iL_law_681 (by omega) ?_
    refine wp_ia iL_law_682 rfl (by omega) ?_
    rw [n0]
    have fin : wp L 20 mL_law 691 [some (.inr 0), some (.inr 1), some (.inr 56), some (.inl (i : Int))] (.inl zz :: .inl (M 0 ((i : Int) + 1).toNat) :: .inr 56 :: .inl v :: []) N Q := by
      refine wp_v2x iL_law_691 ml_L_77 rfl rfl rfl rfl (hc) (fun r2 N2 hx2 => ?_)
      obtain ⟨rfl, z2, n2, I2⟩ := hx2
      refine wp_ceq iL_law_694 (fun _ => ?_) (fun c => absurd rfl c)
      exact nxt N2 z2 (n2.trans h0) I2
    by_cases w : M 0 ((i : Int) + 2).toNat = 0
    · rw [if_pos w] at hzz
      refine wp_zeq iL_law_683 (fun _ => ?_) (fun c => absurd w c)
      refine wp_ic iL_law_690 (by decide) ?_
      rw [hzz] at fin
      exact fin
    · rw [if_neg w] at hzz
      refine wp_zeq iL_law_683 (fun c => absurd c w) (fun _ => ?_)
      refine wp_ic iL_law_686 (by decide) ?_
      refine wp_goto iL_law_687 ?_
      rw [hzz] at fin
      exact fin
  by_cases w : M 0 ((i : Int) + 2).toNat = 0
  · refine wp_zeq iL_law_661 (fun _ => ?_) (fun c => absurd w c)
    refine wp_ic iL_law_668 (by decide) ?_
    exact key 0 (by rw [if_pos w])
  · refine wp_zeq iL_law_661 (fun c => absurd c w) (fun _ => ?_)
    refine wp_ic iL_law_664 (by decide) ?_
    refine wp_goto iL_law_665 ?_
    exact key 1 (by rw [if_neg w])
theorem w_speed (hL : i + 6 ≤ L) (hL2 : L ≤ 3072) (hZ : Zm L M) (hI : Inv t M) (h0 : M 0 = S0) (nxt : ∀ N2, Zm L N2 → N2 0 = S0 → Inv (t + 1) N2 → wp L 20 mL_law 962 [some (.inr 0), some (.inr 1), some (.inr 56), some (.inl (i : Int))] [] N2 Q) : wp L 20 mL_law 699 [some (.inr 0), some (.inr 1), some (.inr 56), some (.inl (i : Int))] [] M Q := by
  refine wp_al1 iL_law_699 ?_
  refine wp_al0 iL_law_700 ?_
  refine wp_il3 iL_law_701 ?_
  refine wp_ic iL_law_702 (by decide) ?_
  refine wp_add iL_law_703 (by omega) ?_
  refine wp_ia iL_law_704 rfl (by omega) ?_
  refine wp_al0 iL_law_705 ?_
  refine wp_il3 iL_law_706 ?_
  refine wp_ic iL_law_707 (by decide) ?_
  refine wp_add iL_law_708 (by omega) ?_
  refine wp_ia iL_law_709 rfl (by omega) ?_
  refine wp_v2x iL_law_710 ml_L_78 rfl rfl rfl rfl (p_speed hZ hI _ _) (fun r N hx => ?_)
  obtain ⟨n0, v, rfl, hc⟩ := hx
  refine wp_al2 iL_law_713 ?_
  refine wp_al0 iL_law_714 ?_
  refine wp_il3 iL_law_715 ?_
  refine wp_ic iL_law_716 (by decide) ?_
  refine wp_add iL_law_717 (by omega) ?_
  refine wp_ia iL_law_718 rfl (by omega) ?_
  refine wp_al0 iL_law_719 ?_
  refine wp_il3 iL_law_720 ?_
  refine wp_ic iL_law_721 (by decide) ?_
  refine wp_add iL_law_722 (by omega) ?_
  refine wp_ia iL_law_723 rfl (by omega) ?_
  rw [n0]
  refine wp_v2x iL_law_724 ml_L_81 rfl rfl rfl rfl (hc) (fun r2 N2 hx2 => ?_)
  obtain ⟨rfl, z2, n2, I2⟩ := hx2
  refine wp_ceq iL_law_727 (fun _ => ?_) (fun c => absurd rfl c)
  exact nxt N2 z2 (n2.trans h0) I2
theorem w_share (hL : i + 6 ≤ L) (hL2 : L ≤ 3072) (hZ : Zm L M) (hI : Inv t M) (h0 : M 0 = S0) (nxt : ∀ N2, Zm L N2 → N2 0 = S0 → Inv (t + 1) N2 → wp L 20 mL_law 962 [some (.inr 0), some (.inr 1), some (.inr 56), some (.inl (i : Int))] [] N2 Q) : wp L 20 mL_law 732 [some (.inr 0), some (.inr 1), some (.inr 56), some (.inl (i : Int))] [] M Q := by
  refine wp_al1 iL_law_732 ?_
  refine wp_al0 iL_law_733 ?_
  refine wp_il3 iL_law_734 ?_
  refine wp_ic iL_law_735 (by decide) ?_
  refine wp_add iL_law_736 (by omega) ?_
  refine wp_ia iL_law_737 rfl (by omega) ?_
  refine wp_v1x iL_law_738 ml_L_82 rfl rfl rfl rfl (p_share hZ hI _) (fun r N hx => ?_)
  obtain ⟨n0, v, rfl, hc⟩ := hx
  refine wp_al2 iL_law_741 ?_
  refine wp_al0 iL_law_742 ?_
  refine wp_il3 iL_law_743 ?_
  refine wp_ic iL_law_744 (by decide) ?_
  refine wp_add iL_law_745 (by omega) ?_
  refine wp_ia iL_law_746 rfl (by omega) ?_
  rw [n0]
  refine wp_v1x iL_law_747 ml_L_85 rfl rfl rfl rfl (hc) (fun r2 N2 hx2 => ?_)
  obtain ⟨rfl, z2, n2, I2⟩ := hx2
  refine wp_ceq iL_law_750 (fun _ => ?_) (fun c => absurd rfl c)
  exact nxt N2 z2 (n2.trans h0) I2
theorem w_who (hL : i + 6 ≤ L) (hL2 : L ≤ 3072) (hZ : Zm L M) (hI : Inv t M) (h0 : M 0 = S0) (nxt : ∀ N2, Zm L N2 → N2 0 = S0 → Inv (t + 1) N2 → wp L 20 mL_law 962 [some (.inr 0), some (.inr 1), some (.inr 56), some (.inl (i : Int))] [] N2 Q) : wp L 20 mL_law 755 [some (.inr 0), some (.inr 1), some (.inr 56), some (.inl (i : Int))] [] M Q := by
  refine wp_al1 iL_law_755 ?_
  refine wp_al0 iL_law_756 ?_
  refine wp_il3 iL_law_757 ?_
  refine wp_ic iL_law_758 (by decide) ?_
  refine wp_add iL_law_759 (by omega) ?_
  refine wp_ia iL_law_760 rfl (by omega) ?_
  refine wp_v1x iL_law_761 ml_L_86 rfl rfl rfl rfl (p_who hZ hI _) (fun r N hx => ?_)
  obtain ⟨n0, v, rfl, hc⟩ := hx
  refine wp_al2 iL_law_764 ?_
  refine wp_al0 iL_law_765 ?_
  refine wp_il3 iL_law_766 ?_
  refine wp_ic iL_law_767 (by decide) ?_
  refine wp_add iL_law_768 (by omega) ?_
  refine wp_ia iL_law_769 rfl (by omega) ?_
  rw [n0]
  refine wp_v1x iL_law_770 ml_L_89 rfl rfl rfl rfl (hc) (fun r2 N2 hx2 => ?_)
  obtain ⟨rfl, z2, n2, I2⟩ := hx2
  refine wp_ceq iL_law_773 (fun _ => ?_) (fun c => absurd rfl c)
  exact nxt N2 z2 (n2.trans h0) I2
theorem w_up (hL : i + 6 ≤ L) (hL2 : L ≤ 3072) (hZ : Zm L M) (hI : Inv t M) (h0 : M 0 = S0) (nxt : ∀ N2, Zm L N2 → N2 0 = S0 → Inv (t + 1) N2 → wp L 20 mL_law 962 [some (.inr 0), some (.inr 1), some (.inr 56), some (.inl (i : Int))] [] N2 Q) : wp L 20 mL_law 778 [some (.inr 0), some (.inr 1), some (.inr 56), some (.inl (i : Int))] [] M Q := by
  refine wp_al1 iL_law_778 ?_
  refine wp_v0x iL_law_779 ml_L_90 rfl rfl rfl rfl (p_up hZ hI) (fun r N hx => ?_)
  obtain ⟨n0, v, rfl, hc⟩ := hx
  refine wp_al2 iL_law_782 ?_
  refine wp_v0x iL_law_783 ml_L_94 rfl rfl rfl rfl (hc) (fun r2 N2 hx2 => ?_)
  obtain ⟨rfl, z2, n2, I2⟩ := hx2
  refine wp_ceq iL_law_786 (fun _ => ?_) (fun c => absurd rfl c)
  exact nxt N2 z2 (n2.trans h0) I2
theorem w_days (hL : i + 6 ≤ L) (hL2 : L ≤ 3072) (hZ : Zm L M) (hI : Inv t M) (h0 : M 0 = S0) (ht : t ≤ 5000) (nxt : ∀ N2, Zm L N2 → N2 0 = S0 → Inv (t + 1) N2 → wp L 20 mL_law 962 [some (.inr 0), some (.inr 1), some (.inr 56), some (.inl (i : Int))] [] N2 Q) : wp L 20 mL_law 791 [some (.inr 0), some (.inr 1), some (.inr 56), some (.inl (i : Int))] [] M Q := by
  refine wp_al1 iL_law_791 ?_
  refine wp_al0 iL_law_792 ?_
  refine wp_il3 iL_law_793 ?_
  refine wp_ic iL_law_794 (by decide) ?_
  refine wp_add iL_law_795 (by omega) ?_
  refine wp_ia iL_law_796 rfl (by omega) ?_
  refine wp_v1x iL_law_797 ml_L_95 rfl rfl rfl rfl (p_days hZ hI ht _) (fun r N hx => ?_)
  obtain ⟨n0, v, rfl, hc⟩ := hx
  refine wp_al2 iL_law_800 ?_
  refine wp_al0 iL_law_801 ?_
  refine wp_il3 iL_law_802 ?_
  refine wp_ic iL_law_803 (by decide) ?_
  refine wp_add iL_law_804 (by omega) ?_
  refine wp_ia iL_law_805 rfl (by omega) ?_
  rw [n0]
  refine wp_v1x iL_law_806 ml_L_98 rfl rfl rfl rfl (hc) (fun r2 N2 hx2 => ?_)
  obtain ⟨rfl, z2, n2, I2⟩ := hx2
  refine wp_ceq iL_law_809 (fun _ => ?_) (fun c => absurd rfl c)
  exact nxt N2 z2 (n2.trans h0) I2
theorem w_strip (hL : i + 6 ≤ L) (hL2 : L ≤ 3072) (hZ : Zm L M) (hI : Inv t M) (h0 : M 0 = S0) (nxt : ∀ N2, Zm L N2 → N2 0 = S0 → Inv (t + 1) N2 → wp L 20 mL_law 962 [some (.inr 0), some (.inr 1), some (.inr 56), some (.inl (i : Int))] [] N2 Q) : wp L 20 mL_law 814 [some (.inr 0), some (.inr 1), some (.inr 56), some (.inl (i : Int))] [] M Q := by
  refine wp_al1 iL_law_814 ?_
  refine wp_al0 iL_law_815 ?_
  refine wp_il3 iL_law_816 ?_
  refine wp_ic iL_law_817 (by decide) ?_
  refine wp_add iL_law_818 (by omega) ?_
  refine wp_ia iL_law_819 rfl (by omega) ?_
  refine wp_al0 iL_law_820 ?_
  refine wp_il3 iL_law_821 ?_
  refine wp_ic iL_law_822 (by decide) ?_
  refine wp_add iL_law_823 (by omega) ?_
  refine wp_ia iL_law_824 rfl (by omega) ?_
  refine wp_v2x iL_law_825 ml_L_99 rfl rfl rfl rfl (p_strip hZ hI _ _) (fun r N hx => ?_)
  obtain ⟨n0, v, rfl, hc⟩ := hx
  refine wp_al2 iL_law_828 ?_
  refine wp_al0 iL_law_829 ?_
  refine wp_il3 iL_law_830 ?_
  refine wp_ic iL_law_831 (by decide) ?_
  refine wp_add iL_law_832 (by omega) ?_
  refine wp_ia iL_law_833 rfl (by omega) ?_
  refine wp_al0 iL_law_834 ?_
  refine wp_il3 iL_law_835 ?_
  refine wp_ic iL_law_836 (by decide) ?_
  refine wp_add iL_law_837 (by omega) ?_
  refine wp_ia iL_law_838 rfl (by omega) ?_
  rw [n0]
  refine wp_v2x iL_law_839 ml_L_102 rfl rfl rfl rfl (hc) (fun r2 N2 hx2 => ?_)
  obtain ⟨rfl, z2, n2, I2⟩ := hx2
  refine wp_ceq iL_law_842 (fun _ => ?_) (fun c => absurd rfl c)
  exact nxt N2 z2 (n2.trans h0) I2
theorem w_woven (hL : i + 6 ≤ L) (hL2 : L ≤ 3072) (hZ : Zm L M) (hI : Inv t M) (h0 : M 0 = S0) (nxt : ∀ N2, Zm L N2 → N2 0 = S0 → Inv (t + 1) N2 → wp L 20 mL_law 962 [some (.inr 0), some (.inr 1), some (.inr 56), some (.inl (i : Int))] [] N2 Q) : wp L 20 mL_law 847 [some (.inr 0), some (.inr 1), some (.inr 56), some (.inl (i : Int))] [] M Q := by
  refine wp_al1 iL_law_847 ?_
  refine wp_al0 iL_law_848 ?_
  refine wp_il3 iL_law_849 ?_
  refine wp_ic iL_law_850 (by decide) ?_
  refine wp_add iL_law_851 (by omega) ?_
  refine wp_ia iL_law_852 rfl (by omega) ?_
  refine wp_al0 iL_law_853 ?_
  refine wp_il3 iL_law_854 ?_
  refine wp_ic iL_law_855 (by decide) ?_
  refine wp_add iL_law_856 (by omega) ?_
  refine wp_ia iL_law_857 rfl (by omega) ?_
  refine wp_v2x iL_law_858 ml_L_103 rfl rfl rfl rfl (p_woven hZ hI _ _) (fun r N hx => ?_)
  obtain ⟨n0, v, rfl, hc⟩ := hx
  refine wp_al2 iL_law_861 ?_
  refine wp_al0 iL_law_862 ?_
  refine wp_il3 iL_law_863 ?_
  refine wp_ic iL_law_864 (by decide) ?_
  refine wp_add iL_law_865 (by omega) ?_
  refine wp_ia iL_law_866 rfl (by omega) ?_
  refine wp_al0 iL_law_867 ?_
  refine wp_il3 iL_law_868 ?_
  refine wp_ic iL_law_869 (by decide) ?_
  refine wp_add iL_law_870 (by omega) ?_
  refine wp_ia iL_law_871 rfl (by omega) ?_
  rw [n0]
  refine wp_v2x iL_law_872 ml_L_106 rfl rfl rfl rfl (hc) (fun r2 N2 hx2 => ?_)
  obtain ⟨rfl, z2, n2, I2⟩ := hx2
  refine wp_ceq iL_law_875 (fun _ => ?_) (fun c => absurd rfl c)
  exact nxt N2 z2 (n2.trans h0) I2
theorem w_unweave (hL : i + 6 ≤ L) (hL2 : L ≤ 3072) (hZ : Zm L M) (hI : Inv t M) (h0 : M 0 = S0) (nxt : ∀ N2, Zm L N2 → N2 0 = S0 → Inv (t + 1) N2 → wp L 20 mL_law 962 [some (.inr 0), some (.inr 1), some (.inr 56), some (.inl (i : Int))] [] N2 Q) : wp L 20 mL_law 880 [some (.inr 0), some (.inr 1), some (.inr 56), some (.inl (i : Int))] [] M Q := by
  refine wp_al1 iL_law_880 ?_
  refine wp_al0 iL_law_881 ?_
  refine wp_il3 iL_law_882 ?_
  refine wp_ic iL_law_883 (by decide) ?_
  refine wp_add iL_law_884 (by omega) ?_
  refine wp_ia iL_law_885 rfl (by omega) ?_
  refine wp_al0 iL_law_886 ?_
  refine wp_il3 iL_law_887 ?_
  refine wp_ic iL_law_888 (by decide) ?_
  refine wp_add iL_law_889 (by omega) ?_
  refine wp_ia iL_law_890 rfl (by omega) ?_
  refine wp_v2x iL_law_891 ml_L_107 rfl rfl rfl rfl (p_unweave hZ hI _ _) (fun r N hx => ?_)
  obtain ⟨n0, v, rfl, hc⟩ := hx
  refine wp_al2 iL_law_894 ?_
  refine wp_al0 iL_law_895 ?_
  refine wp_il3 iL_law_896 ?_
  refine wp_ic iL_law_897 (by decide) ?_
  refine wp_add iL_law_898 (by omega) ?_
  refine wp_ia iL_law_899 rfl (by omega) ?_
  refine wp_al0 iL_law_900 ?_
  refine wp_il3 iL_law_901 ?_
  refine wp_ic iL_law_902 (by decide) ?_
  refine wp_add iL_law_903 (by omega) ?_
  refine wp_ia iL_law_904 rfl (by omega) ?_
  rw [n0]
  refine wp_v2x iL_law_905 ml_L_110 rfl rfl rfl rfl (hc) (fun r2 N2 hx2 => ?_)
  obtain ⟨rfl, z2, n2, I2⟩ := hx2
  refine wp_ceq iL_law_908 (fun _ => ?_) (fun c => absurd rfl c)
  exact nxt N2 z2 (n2.trans h0) I2
theorem w_many (hL : i + 6 ≤ L) (hL2 : L ≤ 3072) (hZ : Zm L M) (hI : Inv t M) (h0 : M 0 = S0) (nxt : ∀ N2, Zm L N2 → N2 0 = S0 → Inv (t + 1) N2 → wp L 20 mL_law 962 [some (.inr 0), some (.inr 1), some (.inr 56), some (.inl (i : Int))] [] N2 Q) : wp L 20 mL_law 913 [some (.inr 0), some (.inr 1), some (.inr 56), some (.inl (i : Int))] [] M Q := by
  refine wp_al1 iL_law_913 ?_
  refine wp_al0 iL_law_914 ?_
  refine wp_il3 iL_law_915 ?_
  refine wp_ic iL_law_916 (by decide) ?_
  refine wp_add iL_law_917 (by omega) ?_
  refine wp_ia iL_law_918 rfl (by omega) ?_
  refine wp_v1x iL_law_919 ml_L_111 rfl rfl rfl rfl (p_many hZ hI _) (fun r N hx => ?_)
  obtain ⟨n0, v, rfl, hc⟩ := hx
  refine wp_al2 iL_law_922 ?_
  refine wp_al0 iL_law_923 ?_
  refine wp_il3 iL_law_924 ?_
  refine wp_ic iL_law_925 (by decide) ?_
  refine wp_add iL_law_926 (by omega) ?_
  refine wp_ia iL_law_927 rfl (by omega) ?_
  rw [n0]
  refine wp_v1x iL_law_928 ml_L_114 rfl rfl rfl rfl (hc) (fun r2 N2 hx2 => ?_)
  obtain ⟨rfl, z2, n2, I2⟩ := hx2
  refine wp_ceq iL_law_931 (fun _ => ?_) (fun c => absurd rfl c)
  exact nxt N2 z2 (n2.trans h0) I2
theorem w_keep (hL : i + 6 ≤ L) (hL2 : L ≤ 3072) (hZ : Zm L M) (hI : Inv t M) (h0 : M 0 = S0) (nxt : ∀ N2, Zm L N2 → N2 0 = S0 → Inv (t + 1) N2 → wp L 20 mL_law 962 [some (.inr 0), some (.inr 1), some (.inr 56), some (.inl (i : Int))] [] N2 Q) : wp L 20 mL_law 936 [some (.inr 0), some (.inr 1), some (.inr 56), some (.inl (i : Int))] [] M Q := by
  refine wp_al1 iL_law_936 ?_
  refine wp_v0x iL_law_937 ml_L_115 rfl rfl rfl rfl (p_keep hZ hI) (fun r N hx => ?_)
  obtain ⟨n0, v, rfl, hc⟩ := hx
  refine wp_al2 iL_law_940 ?_
  refine wp_v0x iL_law_941 ml_L_118 rfl rfl rfl rfl (hc) (fun r2 N2 hx2 => ?_)
  obtain ⟨rfl, z2, n2, I2⟩ := hx2
  refine wp_ceq iL_law_944 (fun _ => ?_) (fun c => absurd rfl c)
  exact nxt N2 z2 (n2.trans h0) I2
theorem w_back (hL : i + 6 ≤ L) (hL2 : L ≤ 3072) (hZ : Zm L M) (hI : Inv t M) (h0 : M 0 = S0) (nxt : ∀ N2, Zm L N2 → N2 0 = S0 → Inv (t + 1) N2 → wp L 20 mL_law 962 [some (.inr 0), some (.inr 1), some (.inr 56), some (.inl (i : Int))] [] N2 Q) : wp L 20 mL_law 949 [some (.inr 0), some (.inr 1), some (.inr 56), some (.inl (i : Int))] [] M Q := by
  refine wp_al1 iL_law_949 ?_
  refine wp_v0x iL_law_950 ml_L_119 rfl rfl rfl rfl (p_back hZ hI) (fun r N hx => ?_)
  obtain ⟨n0, v, rfl, hc⟩ := hx
  refine wp_al2 iL_law_953 ?_
  refine wp_v0x iL_law_954 ml_L_122 rfl rfl rfl rfl (hc) (fun r2 N2 hx2 => ?_)
  obtain ⟨rfl, z2, n2, I2⟩ := hx2
  refine wp_ceq iL_law_957 (fun _ => ?_) (fun c => absurd rfl c)
  exact nxt N2 z2 (n2.trans h0) I2
theorem law_loop (hL2 : L ≤ 3072) (hr : ∀ k, S0 k < 2147483648) : ∀ (j i : Nat) (M : ab_Me), L - i = j → Zm L M → Inv ((i / 6 : Nat) : Int) M → M 0 = S0 → i % 6 = 0 → i ≤ L + 6 → wp L 20 mL_law 18 [some (.inr 0), some (.inr 1), some (.inr 56), some (.inl (i : Int))] [] M (fun r N => r = some (.inl 1)) := by
  intro j
  induction j using Nat.strongRecOn with
  | ind j ih =>
    intro i M hj hZ hI h0 h6 hi
    refine wp_il3 iL_law_18 ?_
    refine wp_al0 iL_law_19 ?_
    refine wp_al iL_law_20 rfl (Or.inl rfl) (by omega) ?_
    refine wp_bp iL_law_21 (by decide) ?_
    refine wp_sub iL_law_23 (by omega) ?_
    refine wp_cgt iL_law_24 (fun c_24 => ?_) (fun c_24 => ?_)
    · refine wp_ic iL_law_968 (by decide) ?_
      refine wp_retb iL_law_969 rfl (by decide) ?_
      rfl
    · have hL : i + 6 ≤ L := by omega
      have nxt : ∀ N2, Zm L N2 → N2 0 = S0 → Inv (((i / 6 : Nat) : Int) + 1) N2 → wp L 20 mL_law 962 [some (.inr 0), some (.inr 1), some (.inr 56), some (.inl (i : Int))] [] N2 (fun r N => r = some (.inl 1)) := by
        intro N2 z2 n2 I2
        refine wp_ii3 iL_law_962 (by omega) ?_
        refine wp_goto iL_law_965 ?_
        rw [show (i : Int) + 6 = ((i + 6 : Nat) : Int) by omega]
        refine ih _ (by omega) (i + 6) N2 rfl z2 ?_ n2 (by omega) (by omega)
        rw [show (((i + 6) / 6 : Nat) : Int) = ((i / 6 : Nat) : Int) + 1 by omega]
        exact I2
      refine wp_al0 iL_law_27 ?_
      refine wp_il3 iL_law_28 ?_
      refine wp_ia iL_law_29 rfl (by omega) ?_
      refine wp_bp iL_law_30 (by decide) ?_
      refine wp_and iL_law_32 rfl ?_
      refine wp_t26 (td := 962) (t0 := 152) (t1 := 185) (t2 := 248) (t3 := 307) (t4 := 340) (t5 := 373) (t6 := 406) (t7 := 429) (t8 := 462) (t9 := 495) (t10 := 528) (t11 := 561) (t12 := 594) (t13 := 617) (t14 := 650) (t15 := 699) (t16 := 732) (t17 := 755) (t18 := 778) (t19 := 791) (t20 := 814) (t21 := 847) (t22 := 880) (t23 := 913) (t24 := 936) (t25 := 949) iL_law_33 (by decide) (by decide) (by decide) (by decide) (by decide) (by decide) (by decide) (by decide) (by decide) (by decide) (by decide) (by decide) (by decide) (by decide) (by decide) (by decide) (by decide) (by decide) (by decide) (by decide) (by decide) (by decide) (by decide) (by decide) (by decide) (by decide) (by decide) (fun _ => nxt M hZ h0 ?_) (fun _ => w_size L hL hL2 hZ hI h0 nxt) (fun _ => w_paint L hL hL2 hZ hI h0 (by rw [h0]; exact hr) nxt) (fun _ => w_face L hL hL2 hZ hI h0 nxt) (fun _ => w_cartoon L hL hL2 hZ hI h0 nxt) (fun _ => w_loom L hL hL2 hZ hI h0 nxt) (fun _ => w_rule L hL hL2 hZ hI h0 nxt) (fun _ => w_slits L hL hL2 hZ hI h0 nxt) (fun _ => w_slit L hL hL2 hZ hI h0 nxt) (fun _ => w_field L hL hL2 hZ hI h0 nxt) (fun _ => w_of L hL hL2 hZ hI h0 nxt) (fun _ => w_dye L hL hL2 hZ hI h0 nxt) (fun _ => w_lot L hL hL2 hZ hI h0 nxt) (fun _ => w_deal L hL hL2 hZ hI h0 nxt) (fun _ => w_dealt L hL hL2 hZ hI h0 nxt) (fun _ => w_weaver L hL hL2 hZ hI h0 nxt) (fun _ => w_speed L hL hL2 hZ hI h0 nxt) (fun _ => w_share L hL hL2 hZ hI h0 nxt) (fun _ => w_who L hL hL2 hZ hI h0 nxt) (fun _ => w_up L hL hL2 hZ hI h0 nxt) (fun _ => w_days L hL hL2 hZ hI h0 (by omega) nxt) (fun _ => w_strip L hL hL2 hZ hI h0 nxt) (fun _ => w_woven L hL hL2 hZ hI h0 nxt) (fun _ => w_unweave L hL hL2 hZ hI h0 nxt) (fun _ => w_many L hL hL2 hZ hI h0 nxt) (fun _ => w_keep L hL hL2 hZ hI h0 nxt) (fun _ => w_back L hL hL2 hZ hI h0 nxt)
      exact Inv_fr hI (by omega) (fun _ _ _ _ => rfl) (fun _ _ => rfl) (fun _ _ _ => rfl) hI.2.2.2.2.2.2.2
end LawW
