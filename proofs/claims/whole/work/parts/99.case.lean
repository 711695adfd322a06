/-! the law's cases, out of what the two methods answer -/
abbrev GT (c s : Nat) : GS := (88, fun _ _ => true, c, s)
theorem gT {c s : Nat} : gOK NA (GT c s) := ⟨Nat.le_refl _, fun _ _ _ _ => rfl⟩
abbrev sx (X : Cx) (m : Int) : Int := (yX (cY X) m.toNat).toInt
def LX (X : Cx) : Prop := X.2.2.1.stackTraces = false ∧ XW (cs X) ∧ yLn (cY X) ≤ 3072
abbrev ls9 (i : Int) : List MV := [vP, vA 0, vA 55, vA 87, vI i, vU, vU, vU, vU]
section DST
variable {X : Cx} {own : String} {cc : ByteArray} {nL fr lo : Nat} {G : GS} {pc : Nat} {ls st : List MV} {V : VV}
theorem j_ds5 {a0 a1 a2 a3 a4 b b2 : MV} {x : Int} (hX : Good X own cc nL fr lo) (hd : decode cc pc = .ok (.dstore 5, 2)) (hc : c1 a4 = true) (kk : J X G (pc + 2) (a0 :: a1 :: a2 :: a3 :: a4 :: vD x :: vU :: ls) st V) : J X G pc (a0 :: a1 :: a2 :: a3 :: a4 :: b :: b2 :: ls) (vD x :: st) V := j_dstore (i := 5) hX hd (by simp only [List.length_cons]; omega) (st_hp rfl hc) kk
theorem j_ds7 {a0 a1 a2 a3 a4 a5 a6 b b2 : MV} {x : Int} (hX : Good X own cc nL fr lo) (hd : decode cc pc = .ok (.dstore 7, 2)) (hc : c1 a6 = true) (kk : J X G (pc + 2) (a0 :: a1 :: a2 :: a3 :: a4 :: a5 :: a6 :: vD x :: vU :: ls) st V) : J X G pc (a0 :: a1 :: a2 :: a3 :: a4 :: a5 :: a6 :: b :: b2 :: ls) (vD x :: st) V := j_dstore (i := 7) hX hd (by simp only [List.length_cons]; omega) (st_hp rfl hc) kk
end DST
theorem lw_L_108 : lkC RL 108 yL_append cL_append 8 (some .int) [(0, 16, 19, 13)] 7 := ⟨(inT4 32 (by decide +kernel) rfl), (inT1 0 (by decide +kernel) rfl), (inT4 34 (by decide +kernel) rfl), (inT4 33 (by decide +kernel) rfl), by decide, by decide, by decide +kernel⟩
set_option maxHeartbeats 4000000 in
theorem st_0 {X : Cx} {V : VV} {i : Int} {c s : Nat} {P : Int → VV → Prop} {XP : String → VV → Prop} {Q : Int → VV → Int → VV → Prop} {lo9 fr2 lo2 : Nat} (hX : Good X RL cL_law 9 13 466) (hR9 : LX X) (hi : 0 ≤ i ∧ i + 5 < yLn (cY X)) (hrm : c + 1 ≤ (cR X).cells ∧ s + 6 ≤ (cR X).slots) (hlo9 : lo9 ≤ 200) (h2 : fr2 ≤ 12 ∧ lo2 ≤ 300)
    (hc : OkX yX11_append cX11_append 6 (some .int) 8 lo9 [vA 0, vI (sx X (i + 1)), vI (sx X (i + 2)), vI (sx X (i + 3)), vI (sx X (i + 4)), vI (sx X (i + 5))] V (pI P) XP) (hx : ∀ E V', XP E V' → E = exS)
    (hm : ∀ k V1, ((∃ x V0, P x V0 ∧ V1 = up V0 87 0 x ∧ k = 0) ∨ (XP exS V1 ∧ k = 1)) → Ok NA yX12_append cX12_append 8 (some .int) fr2 lo2 [vA 55, vI (sx X (i + 1)), vI (sx X (i + 2)), vI (sx X (i + 3)), vI (sx X (i + 4)), vI (sx X (i + 5))] V1 (pI (Q k V1)))
    (he : ∀ k V1 b V2, ((∃ x V0, P x V0 ∧ V1 = up V0 87 0 x ∧ k = 0) ∨ (XP exS V1 ∧ k = 1)) → Q k V1 b V2 → V2 55 0 = k ∧ (k = 0 → V2 87 0 = b) ∧ J X (GT (c + 1) (s + 6)) 2097 [vP, vA 0, vA 55, vA 87, vI i, vU, vU, vU, vU] [] V2) : J X (GT c s) 224 [vP, vA 0, vA 55, vA 87, vI i, vU, vU, vU, vU] [] V := by
  have hi9 : 0 ≤ i ∧ i + 5 < 3072 := ⟨hi.1, by have := hR9.2.2; omega⟩
  refine j_al1 hX dL_law_224 rfl ?_
  refine j_al0 hX dL_law_225 rfl ?_
  refine j_il4 hX dL_law_226 ?_
  refine j_iconst hX dL_law_228 ⟨by decide, by decide⟩ ?_
  refine j_iadd hX dL_law_229 (by omega) ?_
  refine j_script hX dL_law_230 (by omega) ?_
  refine j_al0 hX dL_law_231 rfl ?_
  refine j_il4 hX dL_law_232 ?_
  refine j_iconst hX dL_law_234 ⟨by decide, by decide⟩ ?_
  refine j_iadd hX dL_law_235 (by omega) ?_
  refine j_script hX dL_law_236 (by omega) ?_
  refine j_al0 hX dL_law_237 rfl ?_
  refine j_il4 hX dL_law_238 ?_
  refine j_iconst hX dL_law_240 ⟨by decide, by decide⟩ ?_
  refine j_iadd hX dL_law_241 (by omega) ?_
  refine j_script hX dL_law_242 (by omega) ?_
  refine j_al0 hX dL_law_243 rfl ?_
  refine j_il4 hX dL_law_244 ?_
  refine j_iconst hX dL_law_246 ⟨by decide, by decide⟩ ?_
  refine j_iadd hX dL_law_247 (by omega) ?_
  refine j_script hX dL_law_248 (by omega) ?_
  refine j_al0 hX dL_law_249 rfl ?_
  refine j_il4 hX dL_law_250 ?_
  refine j_iconst hX dL_law_252 ⟨by decide, by decide⟩ ?_
  refine j_iadd hX dL_law_253 (by omega) ?_
  refine j_script hX dL_law_254 (by omega) ?_
  refine j_al3 hX dL_law_255 rfl ?_
  refine j_callC (as := [vA 0, vI (sx X (i + 1)), vI (sx X (i + 2)), vI (sx X (i + 3)), vI (sx X (i + 4)), vI (sx X (i + 5)), vA 87]) hX gT hR9.1 hR9.2.1 lw_L_108 (wr_append hlo9 hc hx) rfl (by decide) (by decide) (Nat.le_of_ble_eq_true rfl) rfl hrm dL_law_256 (fun r V1 hr => ?_)
  obtain ⟨k, rfl, hk⟩ := hr
  show J X (GT (c + 1) (s + 6)) 259 [vP, vA 0, vA 55, vA 87, vI i, vU, vU, vU, vU] [vI k] V1
  refine j_is5 hX dL_law_259 rfl ?_
  refine j_al2 hX dL_law_261 rfl ?_
  refine j_al0 hX dL_law_262 rfl ?_
  refine j_il4 hX dL_law_263 ?_
  refine j_iconst hX dL_law_265 ⟨by decide, by decide⟩ ?_
  refine j_iadd hX dL_law_266 (by omega) ?_
  refine j_script hX dL_law_267 (by omega) ?_
  refine j_al0 hX dL_law_268 rfl ?_
  refine j_il4 hX dL_law_269 ?_
  refine j_iconst hX dL_law_271 ⟨by decide, by decide⟩ ?_
  refine j_iadd hX dL_law_272 (by omega) ?_
  refine j_script hX dL_law_273 (by omega) ?_
  refine j_al0 hX dL_law_274 rfl ?_
  refine j_il4 hX dL_law_275 ?_
  refine j_iconst hX dL_law_277 ⟨by decide, by decide⟩ ?_
  refine j_iadd hX dL_law_278 (by omega) ?_
  refine j_script hX dL_law_279 (by omega) ?_
  refine j_al0 hX dL_law_280 rfl ?_
  refine j_il4 hX dL_law_281 ?_
  refine j_iconst hX dL_law_283 ⟨by decide, by decide⟩ ?_
  refine j_iadd hX dL_law_284 (by omega) ?_
  refine j_script hX dL_law_285 (by omega) ?_
  refine j_al0 hX dL_law_286 rfl ?_
  refine j_il4 hX dL_law_287 ?_
  refine j_iconst hX dL_law_289 ⟨by decide, by decide⟩ ?_
  refine j_iadd hX dL_law_290 (by omega) ?_
  refine j_script hX dL_law_291 (by omega) ?_
  refine j_callV (k := 55) (ci := 12) (T := TX12) (N := 55) (as := [vI (sx X (i + 1)), vI (sx X (i + 2)), vI (sx X (i + 3)), vI (sx X (i + 4)), vI (sx X (i + 5))]) hX gT lk_L_113 (hm k V1 hk) ⟨by decide, by decide, rfl⟩ rfl rfl (by omega) (by omega) (Nat.le_of_ble_eq_true rfl) rfl dL_law_292 (fun r V2 hq => ?_)
  obtain ⟨b, rfl, hq⟩ := hq
  obtain ⟨hth, hout, hJ⟩ := he k V1 b V2 hk hq
  show J X (GT (c + 1) (s + 6)) 295 [vP, vA 0, vA 55, vA 87, vI i, vI k, vU, vU, vU] [vI b] V2
  refine j_is6 hX dL_law_295 rfl ?_
  refine j_al2 hX dL_law_297 rfl ?_
  refine j_callV (k := 55) (ci := 12) (T := TX12) (N := 55) (as := []) hX gT lk_L_114 ok_X12_thrown ⟨by decide, by decide, rfl⟩ rfl rfl (by decide) (by decide) (Nat.le_of_ble_eq_true rfl) rfl dL_law_298 (fun r V3 hq3 => ?_)
  obtain ⟨x3, rfl, rfl, rfl⟩ := hq3
  show J X (GT (c + 1) (s + 6)) 301 [vP, vA 0, vA 55, vA 87, vI i, vI k, vI b, vU, vU] [vI (V3 55 0)] V3
  refine j_il5 hX dL_law_301 ?_
  refine j_icmp_eq (tgt := 308) hX dL_law_303 (by decide) (fun _ => ?_) (fun h => absurd hth h)
  refine j_il5 hX dL_law_308 ?_
  have hend : J X (GT (c + 1) (s + 6)) 325 [vP, vA 0, vA 55, vA 87, vI i, vI k, vI b, vU, vU] [] V3 := by
    refine j_goto (tgt := 2097) hX dL_law_325 (by decide) ?_
    refine j_fg5 ?_
    refine j_fg6 ?_
    exact hJ
  refine j_if_ne (tgt := 325) hX dL_law_310 (by decide) (fun _ => hend) (fun h0 => ?_)
  refine j_al3 hX dL_law_313 rfl ?_
  refine j_iconst hX dL_law_314 ⟨by decide, by decide⟩ ?_
  refine j_lald (n := 1) hX gT ⟨by decide, by decide, rfl, rfl⟩ ⟨by decide, by decide⟩ dL_law_315 ?_
  refine j_il6 hX dL_law_316 ?_
  refine j_i2l hX dL_law_318 ?_
  exact j_lcmp_eq (tgt := 325) hX dL_law_319 dL_law_320 (by decide) (fun _ => hend) (fun h => absurd (hout h0) h)
theorem lw_L_117 : lkC RL 117 yL_truncate cL_truncate 4 (some .int) [(0, 9, 12, 19)] 3 := ⟨(inT4 114 (by decide +kernel) rfl), (inT1 0 (by decide +kernel) rfl), (inT4 116 (by decide +kernel) rfl), (inT4 115 (by decide +kernel) rfl), by decide, by decide, by decide +kernel⟩
set_option maxHeartbeats 4000000 in
theorem st_1 {X : Cx} {V : VV} {i : Int} {c s : Nat} {P : Int → VV → Prop} {XP : String → VV → Prop} {Q : Int → VV → Int → VV → Prop} {lo9 fr2 lo2 : Nat} (hX : Good X RL cL_law 9 13 466) (hR9 : LX X) (hi : 0 ≤ i ∧ i + 5 < yLn (cY X)) (hrm : c + 1 ≤ (cR X).cells ∧ s + 6 ≤ (cR X).slots) (hlo9 : lo9 ≤ 200) (h2 : fr2 ≤ 12 ∧ lo2 ≤ 300)
    (hc : OkX yX11_truncate cX11_truncate 2 (some .int) 8 lo9 [vA 0, vI (sx X (i + 1))] V (pI P) XP) (hx : ∀ E V', XP E V' → E = exB)
    (hm : ∀ k V1, ((∃ x V0, P x V0 ∧ V1 = up V0 87 0 x ∧ k = 0) ∨ (XP exB V1 ∧ k = 1)) → Ok NA yX12_truncate cX12_truncate 2 (some .int) fr2 lo2 [vA 55, vI (sx X (i + 1))] V1 (pI (Q k V1)))
    (he : ∀ k V1 b V2, ((∃ x V0, P x V0 ∧ V1 = up V0 87 0 x ∧ k = 0) ∨ (XP exB V1 ∧ k = 1)) → Q k V1 b V2 → V2 55 0 = k ∧ (k = 0 → V2 87 0 = b) ∧ J X (GT (c + 1) (s + 6)) 2097 [vP, vA 0, vA 55, vA 87, vI i, vU, vU, vU, vU] [] V2) : J X (GT c s) 328 [vP, vA 0, vA 55, vA 87, vI i, vU, vU, vU, vU] [] V := by
  have hi9 : 0 ≤ i ∧ i + 5 < 3072 := ⟨hi.1, by have := hR9.2.2; omega⟩
  refine j_al1 hX dL_law_328 rfl ?_
  refine j_al0 hX dL_law_329 rfl ?_
  refine j_il4 hX dL_law_330 ?_
  refine j_iconst hX dL_law_332 ⟨by decide, by decide⟩ ?_
  refine j_iadd hX dL_law_333 (by omega) ?_
  refine j_script hX dL_law_334 (by omega) ?_
  refine j_al3 hX dL_law_335 rfl ?_
  refine j_callC (as := [vA 0, vI (sx X (i + 1)), vA 87]) hX gT hR9.1 hR9.2.1 lw_L_117 (wr_truncate hlo9 hc hx) rfl (by decide) (by decide) (Nat.le_of_ble_eq_true rfl) rfl hrm dL_law_336 (fun r V1 hr => ?_)
  obtain ⟨k, rfl, hk⟩ := hr
  show J X (GT (c + 1) (s + 6)) 339 [vP, vA 0, vA 55, vA 87, vI i, vU, vU, vU, vU] [vI k] V1
  refine j_is5 hX dL_law_339 rfl ?_
  refine j_al2 hX dL_law_341 rfl ?_
  refine j_al0 hX dL_law_342 rfl ?_
  refine j_il4 hX dL_law_343 ?_
  refine j_iconst hX dL_law_345 ⟨by decide, by decide⟩ ?_
  refine j_iadd hX dL_law_346 (by omega) ?_
  refine j_script hX dL_law_347 (by omega) ?_
  refine j_callV (k := 55) (ci := 12) (T := TX12) (N := 55) (as := [vI (sx X (i + 1))]) hX gT lk_L_120 (hm k V1 hk) ⟨by decide, by decide, rfl⟩ rfl rfl (by omega) (by omega) (Nat.le_of_ble_eq_true rfl) rfl dL_law_348 (fun r V2 hq => ?_)
  obtain ⟨b, rfl, hq⟩ := hq
  obtain ⟨hth, hout, hJ⟩ := he k V1 b V2 hk hq
  show J X (GT (c + 1) (s + 6)) 351 [vP, vA 0, vA 55, vA 87, vI i, vI k, vU, vU, vU] [vI b] V2
  refine j_is6 hX dL_law_351 rfl ?_
  refine j_al2 hX dL_law_353 rfl ?_
  refine j_callV (k := 55) (ci := 12) (T := TX12) (N := 55) (as := []) hX gT lk_L_114 ok_X12_thrown ⟨by decide, by decide, rfl⟩ rfl rfl (by decide) (by decide) (Nat.le_of_ble_eq_true rfl) rfl dL_law_354 (fun r V3 hq3 => ?_)
  obtain ⟨x3, rfl, rfl, rfl⟩ := hq3
  show J X (GT (c + 1) (s + 6)) 357 [vP, vA 0, vA 55, vA 87, vI i, vI k, vI b, vU, vU] [vI (V3 55 0)] V3
  refine j_il5 hX dL_law_357 ?_
  refine j_icmp_eq (tgt := 364) hX dL_law_359 (by decide) (fun _ => ?_) (fun h => absurd hth h)
  refine j_il5 hX dL_law_364 ?_
  have hend : J X (GT (c + 1) (s + 6)) 381 [vP, vA 0, vA 55, vA 87, vI i, vI k, vI b, vU, vU] [] V3 := by
    refine j_goto (tgt := 2097) hX dL_law_381 (by decide) ?_
    refine j_fg5 ?_
    refine j_fg6 ?_
    exact hJ
  refine j_if_ne (tgt := 381) hX dL_law_366 (by decide) (fun _ => hend) (fun h0 => ?_)
  refine j_al3 hX dL_law_369 rfl ?_
  refine j_iconst hX dL_law_370 ⟨by decide, by decide⟩ ?_
  refine j_lald (n := 1) hX gT ⟨by decide, by decide, rfl, rfl⟩ ⟨by decide, by decide⟩ dL_law_371 ?_
  refine j_il6 hX dL_law_372 ?_
  refine j_i2l hX dL_law_374 ?_
  exact j_lcmp_eq (tgt := 381) hX dL_law_375 dL_law_376 (by decide) (fun _ => hend) (fun h => absurd (hout h0) h)
theorem lw_L_121 : lkC RL 121 yL_load cL_load 3 (some .int) [(0, 8, 11, 25)] 2 := ⟨(inT4 138 (by decide +kernel) rfl), (inT1 0 (by decide +kernel) rfl), (inT4 140 (by decide +kernel) rfl), (inT4 139 (by decide +kernel) rfl), by decide, by decide, by decide +kernel⟩
set_option maxHeartbeats 4000000 in
theorem st_2 {X : Cx} {V : VV} {i : Int} {c s : Nat} {P : Int → VV → Prop} {XP : String → VV → Prop} {Q : Int → VV → Int → VV → Prop} {lo9 fr2 lo2 : Nat} (hX : Good X RL cL_law 9 13 466) (hR9 : LX X) (hi : 0 ≤ i ∧ i + 5 < yLn (cY X)) (hrm : c + 1 ≤ (cR X).cells ∧ s + 6 ≤ (cR X).slots) (hlo9 : lo9 ≤ 200) (h2 : fr2 ≤ 12 ∧ lo2 ≤ 300)
    (hc : OkX yX11_load cX11_load 2 (some .int) 8 lo9 [vA 0] V (pI P) XP) (hx : ∀ E V', XP E V' → E = exA)
    (hm : ∀ k V1, ((∃ x V0, P x V0 ∧ V1 = up V0 87 0 x ∧ k = 0) ∨ (XP exA V1 ∧ k = 1)) → Ok NA yX12_load cX12_load 3 (some .int) fr2 lo2 [vA 55] V1 (pI (Q k V1)))
    (he : ∀ k V1 b V2, ((∃ x V0, P x V0 ∧ V1 = up V0 87 0 x ∧ k = 0) ∨ (XP exA V1 ∧ k = 1)) → Q k V1 b V2 → V2 55 0 = k ∧ (k = 0 → V2 87 0 = b) ∧ J X (GT (c + 1) (s + 6)) 2097 [vP, vA 0, vA 55, vA 87, vI i, vU, vU, vU, vU] [] V2) : J X (GT c s) 384 [vP, vA 0, vA 55, vA 87, vI i, vU, vU, vU, vU] [] V := by
  have hi9 : 0 ≤ i ∧ i + 5 < 3072 := ⟨hi.1, by have := hR9.2.2; omega⟩
  refine j_al1 hX dL_law_384 rfl ?_
  refine j_al3 hX dL_law_385 rfl ?_
  refine j_callC (as := [vA 0, vA 87]) hX gT hR9.1 hR9.2.1 lw_L_121 (wr_load hlo9 hc hx) rfl (by decide) (by decide) (Nat.le_of_ble_eq_true rfl) rfl hrm dL_law_386 (fun r V1 hr => ?_)
  obtain ⟨k, rfl, hk⟩ := hr
  show J X (GT (c + 1) (s + 6)) 389 [vP, vA 0, vA 55, vA 87, vI i, vU, vU, vU, vU] [vI k] V1
  refine j_is5 hX dL_law_389 rfl ?_
  refine j_al2 hX dL_law_391 rfl ?_
  refine j_callV (k := 55) (ci := 12) (T := TX12) (N := 55) (as := []) hX gT lk_L_124 (hm k V1 hk) ⟨by decide, by decide, rfl⟩ rfl rfl (by omega) (by omega) (Nat.le_of_ble_eq_true rfl) rfl dL_law_392 (fun r V2 hq => ?_)
  obtain ⟨b, rfl, hq⟩ := hq
  obtain ⟨hth, hout, hJ⟩ := he k V1 b V2 hk hq
  show J X (GT (c + 1) (s + 6)) 395 [vP, vA 0, vA 55, vA 87, vI i, vI k, vU, vU, vU] [vI b] V2
  refine j_is6 hX dL_law_395 rfl ?_
  refine j_al2 hX dL_law_397 rfl ?_
  refine j_callV (k := 55) (ci := 12) (T := TX12) (N := 55) (as := []) hX gT lk_L_114 ok_X12_thrown ⟨by decide, by decide, rfl⟩ rfl rfl (by decide) (by decide) (Nat.le_of_ble_eq_true rfl) rfl dL_law_398 (fun r V3 hq3 => ?_)
  obtain ⟨x3, rfl, rfl, rfl⟩ := hq3
  show J X (GT (c + 1) (s + 6)) 401 [vP, vA 0, vA 55, vA 87, vI i, vI k, vI b, vU, vU] [vI (V3 55 0)] V3
  refine j_il5 hX dL_law_401 ?_
  refine j_icmp_eq (tgt := 408) hX dL_law_403 (by decide) (fun _ => ?_) (fun h => absurd hth h)
  refine j_il5 hX dL_law_408 ?_
  have hend : J X (GT (c + 1) (s + 6)) 425 [vP, vA 0, vA 55, vA 87, vI i, vI k, vI b, vU, vU] [] V3 := by
    refine j_goto (tgt := 2097) hX dL_law_425 (by decide) ?_
    refine j_fg5 ?_
    refine j_fg6 ?_
    exact hJ
  refine j_if_ne (tgt := 425) hX dL_law_410 (by decide) (fun _ => hend) (fun h0 => ?_)
  refine j_al3 hX dL_law_413 rfl ?_
  refine j_iconst hX dL_law_414 ⟨by decide, by decide⟩ ?_
  refine j_lald (n := 1) hX gT ⟨by decide, by decide, rfl, rfl⟩ ⟨by decide, by decide⟩ dL_law_415 ?_
  refine j_il6 hX dL_law_416 ?_
  refine j_i2l hX dL_law_418 ?_
  exact j_lcmp_eq (tgt := 425) hX dL_law_419 dL_law_420 (by decide) (fun _ => hend) (fun h => absurd (hout h0) h)
set_option maxHeartbeats 4000000 in
theorem st_3 {X : Cx} {V : VV} {i : Int} {c s : Nat} {P : Int → VV → Prop} {Q : Int → VV → Int → VV → Prop} {fr1 lo1 fr2 lo2 : Nat} (hX : Good X RL cL_law 9 13 466) (hR9 : LX X) (hi : 0 ≤ i ∧ i + 5 < yLn (cY X)) (h1 : fr1 ≤ 12 ∧ lo1 ≤ 300) (h2 : fr2 ≤ 12 ∧ lo2 ≤ 300)
    (hc : Ok NC yX11_errorCode cX11_errorCode 1 (some .int) fr1 lo1 [vA 0] V (pI (P)))
    (hm : ∀ x V1, P x V1 → Ok NA yX12_errorCode cX12_errorCode 1 (some .int) fr2 lo2 [vA 55] V1 (pI (Q x V1)))
    (he : ∀ x V1 y V2, P x V1 → Q x V1 y V2 → x = y ∧ J X (GT c s) 2097 [vP, vA 0, vA 55, vA 87, vI i, vU, vU, vU, vU] [] V2) : J X (GT c s) 428 [vP, vA 0, vA 55, vA 87, vI i, vU, vU, vU, vU] [] V := by
  have hi9 : 0 ≤ i ∧ i + 5 < 3072 := ⟨hi.1, by have := hR9.2.2; omega⟩
  have gC : gOK NC (GT c s) := ⟨(by decide : (55 : Nat) ≤ 88), fun _ _ _ _ => rfl⟩
  refine j_al1 hX dL_law_428 rfl ?_
  refine j_callV (k := 0) (ci := 11) (T := TX11) (N := 15) (as := []) hX gC lk_L_125 hc ⟨by decide, by decide, rfl⟩ rfl rfl (by omega) (by omega) (Nat.le_of_ble_eq_true rfl) rfl dL_law_429 (fun r V1 hr => ?_)
  obtain ⟨x, rfl, hp⟩ := hr
  show J X (GT c s) 432 [vP, vA 0, vA 55, vA 87, vI i, vU, vU, vU, vU] [vI x] V1
  refine j_al2 hX dL_law_432 rfl ?_
  refine j_callV (k := 55) (ci := 12) (T := TX12) (N := 55) (as := []) hX gT lk_L_128 (hm x V1 hp) ⟨by decide, by decide, rfl⟩ rfl rfl (by omega) (by omega) (Nat.le_of_ble_eq_true rfl) rfl dL_law_433 (fun r V2 hq => ?_)
  obtain ⟨y, rfl, hq⟩ := hq
  obtain ⟨hxy, hJ⟩ := he x V1 y V2 hp hq
  show J X (GT c s) 436 [vP, vA 0, vA 55, vA 87, vI i, vU, vU, vU, vU] [vI y, vI x] V2
  exact j_icmp_eq (tgt := 2097) hX dL_law_436 (by decide) (fun _ => hJ) (fun h => absurd hxy h)
set_option maxHeartbeats 4000000 in
theorem st_4 {X : Cx} {V : VV} {i : Int} {c s : Nat} {P : Int → VV → Prop} {Q : Int → VV → Int → VV → Prop} {fr1 lo1 fr2 lo2 : Nat} (hX : Good X RL cL_law 9 13 466) (hR9 : LX X) (hi : 0 ≤ i ∧ i + 5 < yLn (cY X)) (h1 : fr1 ≤ 12 ∧ lo1 ≤ 300) (h2 : fr2 ≤ 12 ∧ lo2 ≤ 300)
    (hc : Ok NC yX11_errorPosition cX11_errorPosition 1 (some .int) fr1 lo1 [vA 0] V (pI (P)))
    (hm : ∀ x V1, P x V1 → Ok NA yX12_errorPosition cX12_errorPosition 1 (some .int) fr2 lo2 [vA 55] V1 (pI (Q x V1)))
    (he : ∀ x V1 y V2, P x V1 → Q x V1 y V2 → x = y ∧ J X (GT c s) 2097 [vP, vA 0, vA 55, vA 87, vI i, vU, vU, vU, vU] [] V2) : J X (GT c s) 441 [vP, vA 0, vA 55, vA 87, vI i, vU, vU, vU, vU] [] V := by
  have hi9 : 0 ≤ i ∧ i + 5 < 3072 := ⟨hi.1, by have := hR9.2.2; omega⟩
  have gC : gOK NC (GT c s) := ⟨(by decide : (55 : Nat) ≤ 88), fun _ _ _ _ => rfl⟩
  refine j_al1 hX dL_law_441 rfl ?_
  refine j_callV (k := 0) (ci := 11) (T := TX11) (N := 15) (as := []) hX gC lk_L_129 hc ⟨by decide, by decide, rfl⟩ rfl rfl (by omega) (by omega) (Nat.le_of_ble_eq_true rfl) rfl dL_law_442 (fun r V1 hr => ?_)
  obtain ⟨x, rfl, hp⟩ := hr
  show J X (GT c s) 445 [vP, vA 0, vA 55, vA 87, vI i, vU, vU, vU, vU] [vI x] V1
  refine j_al2 hX dL_law_445 rfl ?_
  refine j_callV (k := 55) (ci := 12) (T := TX12) (N := 55) (as := []) hX gT lk_L_132 (hm x V1 hp) ⟨by decide, by decide, rfl⟩ rfl rfl (by omega) (by omega) (Nat.le_of_ble_eq_true rfl) rfl dL_law_446 (fun r V2 hq => ?_)
  obtain ⟨y, rfl, hq⟩ := hq
  obtain ⟨hxy, hJ⟩ := he x V1 y V2 hp hq
  show J X (GT c s) 449 [vP, vA 0, vA 55, vA 87, vI i, vU, vU, vU, vU] [vI y, vI x] V2
  exact j_icmp_eq (tgt := 2097) hX dL_law_449 (by decide) (fun _ => hJ) (fun h => absurd hxy h)
set_option maxHeartbeats 4000000 in
theorem st_5 {X : Cx} {V : VV} {i : Int} {c s : Nat} {P : Int → VV → Prop} {Q : Int → VV → Int → VV → Prop} {fr1 lo1 fr2 lo2 : Nat} (hX : Good X RL cL_law 9 13 466) (hR9 : LX X) (hi : 0 ≤ i ∧ i + 5 < yLn (cY X)) (h1 : fr1 ≤ 12 ∧ lo1 ≤ 300) (h2 : fr2 ≤ 12 ∧ lo2 ≤ 300)
    (hc : Ok NC yX11_order cX11_order 1 (some .int) fr1 lo1 [vA 0] V (pI (P)))
    (hm : ∀ x V1, P x V1 → Ok NA yX12_order cX12_order 1 (some .int) fr2 lo2 [vA 55] V1 (pI (Q x V1)))
    (he : ∀ x V1 y V2, P x V1 → Q x V1 y V2 → x = y ∧ J X (GT c s) 2097 [vP, vA 0, vA 55, vA 87, vI i, vU, vU, vU, vU] [] V2) : J X (GT c s) 454 [vP, vA 0, vA 55, vA 87, vI i, vU, vU, vU, vU] [] V := by
  have hi9 : 0 ≤ i ∧ i + 5 < 3072 := ⟨hi.1, by have := hR9.2.2; omega⟩
  have gC : gOK NC (GT c s) := ⟨(by decide : (55 : Nat) ≤ 88), fun _ _ _ _ => rfl⟩
  refine j_al1 hX dL_law_454 rfl ?_
  refine j_callV (k := 0) (ci := 11) (T := TX11) (N := 15) (as := []) hX gC lk_L_133 hc ⟨by decide, by decide, rfl⟩ rfl rfl (by omega) (by omega) (Nat.le_of_ble_eq_true rfl) rfl dL_law_455 (fun r V1 hr => ?_)
  obtain ⟨x, rfl, hp⟩ := hr
  show J X (GT c s) 458 [vP, vA 0, vA 55, vA 87, vI i, vU, vU, vU, vU] [vI x] V1
  refine j_al2 hX dL_law_458 rfl ?_
  refine j_callV (k := 55) (ci := 12) (T := TX12) (N := 55) (as := []) hX gT lk_L_136 (hm x V1 hp) ⟨by decide, by decide, rfl⟩ rfl rfl (by omega) (by omega) (Nat.le_of_ble_eq_true rfl) rfl dL_law_459 (fun r V2 hq => ?_)
  obtain ⟨y, rfl, hq⟩ := hq
  obtain ⟨hxy, hJ⟩ := he x V1 y V2 hp hq
  show J X (GT c s) 462 [vP, vA 0, vA 55, vA 87, vI i, vU, vU, vU, vU] [vI y, vI x] V2
  exact j_icmp_eq (tgt := 2097) hX dL_law_462 (by decide) (fun _ => hJ) (fun h => absurd hxy h)
theorem lw_L_137 : lkC RL 137 yL_product cL_product 5 (some .int) [(0, 10, 13, 19)] 4 := ⟨(inT5 105 (by decide +kernel) rfl), (inT1 0 (by decide +kernel) rfl), (inT5 107 (by decide +kernel) rfl), (inT5 106 (by decide +kernel) rfl), by decide, by decide, by decide +kernel⟩
set_option maxHeartbeats 4000000 in
theorem st_6 {X : Cx} {V : VV} {i : Int} {c s : Nat} {P : Int → VV → Prop} {XP : String → VV → Prop} {Q : Int → VV → Int → VV → Prop} {lo9 fr2 lo2 : Nat} (hX : Good X RL cL_law 9 13 466) (hR9 : LX X) (hi : 0 ≤ i ∧ i + 5 < yLn (cY X)) (hrm : c + 1 ≤ (cR X).cells ∧ s + 6 ≤ (cR X).slots) (hlo9 : lo9 ≤ 200) (h2 : fr2 ≤ 12 ∧ lo2 ≤ 300)
    (hc : OkX yX11_product cX11_product 3 (some .int) 8 lo9 [vA 0, vI (sx X (i + 1)), vI (sx X (i + 2))] V (pI P) XP) (hx : ∀ E V', XP E V' → E = exB)
    (hm : ∀ k V1, ((∃ x V0, P x V0 ∧ V1 = up V0 87 0 x ∧ k = 0) ∨ (XP exB V1 ∧ k = 1)) → Ok NA yX12_product cX12_product 3 (some .int) fr2 lo2 [vA 55, vI (sx X (i + 1)), vI (sx X (i + 2))] V1 (pI (Q k V1)))
    (he : ∀ k V1 b V2, ((∃ x V0, P x V0 ∧ V1 = up V0 87 0 x ∧ k = 0) ∨ (XP exB V1 ∧ k = 1)) → Q k V1 b V2 → V2 55 0 = k ∧ (k = 0 → V2 87 0 = b) ∧ J X (GT (c + 1) (s + 6)) 2097 [vP, vA 0, vA 55, vA 87, vI i, vU, vU, vU, vU] [] V2) : J X (GT c s) 467 [vP, vA 0, vA 55, vA 87, vI i, vU, vU, vU, vU] [] V := by
  have hi9 : 0 ≤ i ∧ i + 5 < 3072 := ⟨hi.1, by have := hR9.2.2; omega⟩
  refine j_al1 hX dL_law_467 rfl ?_
  refine j_al0 hX dL_law_468 rfl ?_
  refine j_il4 hX dL_law_469 ?_
  refine j_iconst hX dL_law_471 ⟨by decide, by decide⟩ ?_
  refine j_iadd hX dL_law_472 (by omega) ?_
  refine j_script hX dL_law_473 (by omega) ?_
  refine j_al0 hX dL_law_474 rfl ?_
  refine j_il4 hX dL_law_475 ?_
  refine j_iconst hX dL_law_477 ⟨by decide, by decide⟩ ?_
  refine j_iadd hX dL_law_478 (by omega) ?_
  refine j_script hX dL_law_479 (by omega) ?_
  refine j_al3 hX dL_law_480 rfl ?_
  refine j_callC (as := [vA 0, vI (sx X (i + 1)), vI (sx X (i + 2)), vA 87]) hX gT hR9.1 hR9.2.1 lw_L_137 (wr_product hlo9 hc hx) rfl (by decide) (by decide) (Nat.le_of_ble_eq_true rfl) rfl hrm dL_law_481 (fun r V1 hr => ?_)
  obtain ⟨k, rfl, hk⟩ := hr
  show J X (GT (c + 1) (s + 6)) 484 [vP, vA 0, vA 55, vA 87, vI i, vU, vU, vU, vU] [vI k] V1
  refine j_is5 hX dL_law_484 rfl ?_
  refine j_al2 hX dL_law_486 rfl ?_
  refine j_al0 hX dL_law_487 rfl ?_
  refine j_il4 hX dL_law_488 ?_
  refine j_iconst hX dL_law_490 ⟨by decide, by decide⟩ ?_
  refine j_iadd hX dL_law_491 (by omega) ?_
  refine j_script hX dL_law_492 (by omega) ?_
  refine j_al0 hX dL_law_493 rfl ?_
  refine j_il4 hX dL_law_494 ?_
  refine j_iconst hX dL_law_496 ⟨by decide, by decide⟩ ?_
  refine j_iadd hX dL_law_497 (by omega) ?_
  refine j_script hX dL_law_498 (by omega) ?_
  refine j_callV (k := 55) (ci := 12) (T := TX12) (N := 55) (as := [vI (sx X (i + 1)), vI (sx X (i + 2))]) hX gT lk_L_140 (hm k V1 hk) ⟨by decide, by decide, rfl⟩ rfl rfl (by omega) (by omega) (Nat.le_of_ble_eq_true rfl) rfl dL_law_499 (fun r V2 hq => ?_)
  obtain ⟨b, rfl, hq⟩ := hq
  obtain ⟨hth, hout, hJ⟩ := he k V1 b V2 hk hq
  show J X (GT (c + 1) (s + 6)) 502 [vP, vA 0, vA 55, vA 87, vI i, vI k, vU, vU, vU] [vI b] V2
  refine j_is6 hX dL_law_502 rfl ?_
  refine j_al2 hX dL_law_504 rfl ?_
  refine j_callV (k := 55) (ci := 12) (T := TX12) (N := 55) (as := []) hX gT lk_L_114 ok_X12_thrown ⟨by decide, by decide, rfl⟩ rfl rfl (by decide) (by decide) (Nat.le_of_ble_eq_true rfl) rfl dL_law_505 (fun r V3 hq3 => ?_)
  obtain ⟨x3, rfl, rfl, rfl⟩ := hq3
  show J X (GT (c + 1) (s + 6)) 508 [vP, vA 0, vA 55, vA 87, vI i, vI k, vI b, vU, vU] [vI (V3 55 0)] V3
  refine j_il5 hX dL_law_508 ?_
  refine j_icmp_eq (tgt := 515) hX dL_law_510 (by decide) (fun _ => ?_) (fun h => absurd hth h)
  refine j_il5 hX dL_law_515 ?_
  have hend : J X (GT (c + 1) (s + 6)) 532 [vP, vA 0, vA 55, vA 87, vI i, vI k, vI b, vU, vU] [] V3 := by
    refine j_goto (tgt := 2097) hX dL_law_532 (by decide) ?_
    refine j_fg5 ?_
    refine j_fg6 ?_
    exact hJ
  refine j_if_ne (tgt := 532) hX dL_law_517 (by decide) (fun _ => hend) (fun h0 => ?_)
  refine j_al3 hX dL_law_520 rfl ?_
  refine j_iconst hX dL_law_521 ⟨by decide, by decide⟩ ?_
  refine j_lald (n := 1) hX gT ⟨by decide, by decide, rfl, rfl⟩ ⟨by decide, by decide⟩ dL_law_522 ?_
  refine j_il6 hX dL_law_523 ?_
  refine j_i2l hX dL_law_525 ?_
  exact j_lcmp_eq (tgt := 532) hX dL_law_526 dL_law_527 (by decide) (fun _ => hend) (fun h => absurd (hout h0) h)
theorem lw_L_141 : lkC RL 141 yL_element cL_element 5 (some .int) [(0, 10, 13, 19), (0, 10, 17, 25)] 4 := ⟨(inT5 118 (by decide +kernel) rfl), (inT1 0 (by decide +kernel) rfl), (inT5 120 (by decide +kernel) rfl), (inT5 119 (by decide +kernel) rfl), by decide, by decide, by decide +kernel⟩
set_option maxHeartbeats 4000000 in
theorem st_7 {X : Cx} {V : VV} {i : Int} {c s : Nat} {P : Int → VV → Prop} {XP : String → VV → Prop} {Q : Int → VV → Int → VV → Prop} {lo9 fr2 lo2 : Nat} (hX : Good X RL cL_law 9 13 466) (hR9 : LX X) (hi : 0 ≤ i ∧ i + 5 < yLn (cY X)) (hrm : c + 1 ≤ (cR X).cells ∧ s + 6 ≤ (cR X).slots) (hlo9 : lo9 ≤ 200) (h2 : fr2 ≤ 12 ∧ lo2 ≤ 300)
    (hc : OkX yX11_element cX11_element 3 (some .int) 8 lo9 [vA 0, vI (sx X (i + 1)), vI (sx X (i + 2))] V (pI P) XP) (hx : ∀ E V', XP E V' → E = exB ∨ E = exA)
    (hm : ∀ k V1, ((∃ x V0, P x V0 ∧ V1 = up V0 87 0 x ∧ k = 0) ∨ (XP exB V1 ∧ k = 1) ∨ (XP exA V1 ∧ k = 2)) → Ok NA yX12_element cX12_element 3 (some .int) fr2 lo2 [vA 55, vI (sx X (i + 1)), vI (sx X (i + 2))] V1 (pI (Q k V1)))
    (he : ∀ k V1 b V2, ((∃ x V0, P x V0 ∧ V1 = up V0 87 0 x ∧ k = 0) ∨ (XP exB V1 ∧ k = 1) ∨ (XP exA V1 ∧ k = 2)) → Q k V1 b V2 → V2 55 0 = k ∧ (k = 0 → V2 87 0 = b) ∧ J X (GT (c + 1) (s + 6)) 2097 [vP, vA 0, vA 55, vA 87, vI i, vU, vU, vU, vU] [] V2) : J X (GT c s) 535 [vP, vA 0, vA 55, vA 87, vI i, vU, vU, vU, vU] [] V := by
  have hi9 : 0 ≤ i ∧ i + 5 < 3072 := ⟨hi.1, by have := hR9.2.2; omega⟩
  refine j_al1 hX dL_law_535 rfl ?_
  refine j_al0 hX dL_law_536 rfl ?_
  refine j_il4 hX dL_law_537 ?_
  refine j_iconst hX dL_law_539 ⟨by decide, by decide⟩ ?_
  refine j_iadd hX dL_law_540 (by omega) ?_
  refine j_script hX dL_law_541 (by omega) ?_
  refine j_al0 hX dL_law_542 rfl ?_
  refine j_il4 hX dL_law_543 ?_
  refine j_iconst hX dL_law_545 ⟨by decide, by decide⟩ ?_
  refine j_iadd hX dL_law_546 (by omega) ?_
  refine j_script hX dL_law_547 (by omega) ?_
  refine j_al3 hX dL_law_548 rfl ?_
  refine j_callC (as := [vA 0, vI (sx X (i + 1)), vI (sx X (i + 2)), vA 87]) hX gT hR9.1 hR9.2.1 lw_L_141 (wr_element hlo9 hc hx) rfl (by decide) (by decide) (Nat.le_of_ble_eq_true rfl) rfl hrm dL_law_549 (fun r V1 hr => ?_)
  obtain ⟨k, rfl, hk⟩ := hr
  show J X (GT (c + 1) (s + 6)) 552 [vP, vA 0, vA 55, vA 87, vI i, vU, vU, vU, vU] [vI k] V1
  refine j_is5 hX dL_law_552 rfl ?_
  refine j_al2 hX dL_law_554 rfl ?_
  refine j_al0 hX dL_law_555 rfl ?_
  refine j_il4 hX dL_law_556 ?_
  refine j_iconst hX dL_law_558 ⟨by decide, by decide⟩ ?_
  refine j_iadd hX dL_law_559 (by omega) ?_
  refine j_script hX dL_law_560 (by omega) ?_
  refine j_al0 hX dL_law_561 rfl ?_
  refine j_il4 hX dL_law_562 ?_
  refine j_iconst hX dL_law_564 ⟨by decide, by decide⟩ ?_
  refine j_iadd hX dL_law_565 (by omega) ?_
  refine j_script hX dL_law_566 (by omega) ?_
  refine j_callV (k := 55) (ci := 12) (T := TX12) (N := 55) (as := [vI (sx X (i + 1)), vI (sx X (i + 2))]) hX gT lk_L_143 (hm k V1 hk) ⟨by decide, by decide, rfl⟩ rfl rfl (by omega) (by omega) (Nat.le_of_ble_eq_true rfl) rfl dL_law_567 (fun r V2 hq => ?_)
  obtain ⟨b, rfl, hq⟩ := hq
  obtain ⟨hth, hout, hJ⟩ := he k V1 b V2 hk hq
  show J X (GT (c + 1) (s + 6)) 570 [vP, vA 0, vA 55, vA 87, vI i, vI k, vU, vU, vU] [vI b] V2
  refine j_is6 hX dL_law_570 rfl ?_
  refine j_al2 hX dL_law_572 rfl ?_
  refine j_callV (k := 55) (ci := 12) (T := TX12) (N := 55) (as := []) hX gT lk_L_114 ok_X12_thrown ⟨by decide, by decide, rfl⟩ rfl rfl (by decide) (by decide) (Nat.le_of_ble_eq_true rfl) rfl dL_law_573 (fun r V3 hq3 => ?_)
  obtain ⟨x3, rfl, rfl, rfl⟩ := hq3
  show J X (GT (c + 1) (s + 6)) 576 [vP, vA 0, vA 55, vA 87, vI i, vI k, vI b, vU, vU] [vI (V3 55 0)] V3
  refine j_il5 hX dL_law_576 ?_
  refine j_icmp_eq (tgt := 583) hX dL_law_578 (by decide) (fun _ => ?_) (fun h => absurd hth h)
  refine j_il5 hX dL_law_583 ?_
  have hend : J X (GT (c + 1) (s + 6)) 600 [vP, vA 0, vA 55, vA 87, vI i, vI k, vI b, vU, vU] [] V3 := by
    refine j_goto (tgt := 2097) hX dL_law_600 (by decide) ?_
    refine j_fg5 ?_
    refine j_fg6 ?_
    exact hJ
  refine j_if_ne (tgt := 600) hX dL_law_585 (by decide) (fun _ => hend) (fun h0 => ?_)
  refine j_al3 hX dL_law_588 rfl ?_
  refine j_iconst hX dL_law_589 ⟨by decide, by decide⟩ ?_
  refine j_lald (n := 1) hX gT ⟨by decide, by decide, rfl, rfl⟩ ⟨by decide, by decide⟩ dL_law_590 ?_
  refine j_il6 hX dL_law_591 ?_
  refine j_i2l hX dL_law_593 ?_
  exact j_lcmp_eq (tgt := 600) hX dL_law_594 dL_law_595 (by decide) (fun _ => hend) (fun h => absurd (hout h0) h)
theorem lw_L_144 : lkC RL 144 yL_generated cL_generated 4 (some .int) [(0, 9, 12, 25)] 3 := ⟨(inT5 140 (by decide +kernel) rfl), (inT1 0 (by decide +kernel) rfl), (inT5 142 (by decide +kernel) rfl), (inT5 141 (by decide +kernel) rfl), by decide, by decide, by decide +kernel⟩
set_option maxHeartbeats 4000000 in
theorem st_8 {X : Cx} {V : VV} {i : Int} {c s : Nat} {P : Int → VV → Prop} {XP : String → VV → Prop} {Q : Int → VV → Int → VV → Prop} {lo9 fr2 lo2 : Nat} (hX : Good X RL cL_law 9 13 466) (hR9 : LX X) (hi : 0 ≤ i ∧ i + 5 < yLn (cY X)) (hrm : c + 1 ≤ (cR X).cells ∧ s + 6 ≤ (cR X).slots) (hlo9 : lo9 ≤ 200) (h2 : fr2 ≤ 12 ∧ lo2 ≤ 300)
    (hc : OkX yX11_generated cX11_generated 2 (some .int) 8 lo9 [vA 0, vI (sx X (i + 1))] V (pI P) XP) (hx : ∀ E V', XP E V' → E = exA)
    (hm : ∀ k V1, ((∃ x V0, P x V0 ∧ V1 = up V0 87 0 x ∧ k = 0) ∨ (XP exA V1 ∧ k = 1)) → Ok NA yX12_generated cX12_generated 2 (some .int) fr2 lo2 [vA 55, vI (sx X (i + 1))] V1 (pI (Q k V1)))
    (he : ∀ k V1 b V2, ((∃ x V0, P x V0 ∧ V1 = up V0 87 0 x ∧ k = 0) ∨ (XP exA V1 ∧ k = 1)) → Q k V1 b V2 → V2 55 0 = k ∧ (k = 0 → V2 87 0 = b) ∧ J X (GT (c + 1) (s + 6)) 2097 [vP, vA 0, vA 55, vA 87, vI i, vU, vU, vU, vU] [] V2) : J X (GT c s) 603 [vP, vA 0, vA 55, vA 87, vI i, vU, vU, vU, vU] [] V := by
  have hi9 : 0 ≤ i ∧ i + 5 < 3072 := ⟨hi.1, by have := hR9.2.2; omega⟩
  refine j_al1 hX dL_law_603 rfl ?_
  refine j_al0 hX dL_law_604 rfl ?_
  refine j_il4 hX dL_law_605 ?_
  refine j_iconst hX dL_law_607 ⟨by decide, by decide⟩ ?_
  refine j_iadd hX dL_law_608 (by omega) ?_
  refine j_script hX dL_law_609 (by omega) ?_
  refine j_al3 hX dL_law_610 rfl ?_
  refine j_callC (as := [vA 0, vI (sx X (i + 1)), vA 87]) hX gT hR9.1 hR9.2.1 lw_L_144 (wr_generated hlo9 hc hx) rfl (by decide) (by decide) (Nat.le_of_ble_eq_true rfl) rfl hrm dL_law_611 (fun r V1 hr => ?_)
  obtain ⟨k, rfl, hk⟩ := hr
  show J X (GT (c + 1) (s + 6)) 614 [vP, vA 0, vA 55, vA 87, vI i, vU, vU, vU, vU] [vI k] V1
  refine j_is5 hX dL_law_614 rfl ?_
  refine j_al2 hX dL_law_616 rfl ?_
  refine j_al0 hX dL_law_617 rfl ?_
  refine j_il4 hX dL_law_618 ?_
  refine j_iconst hX dL_law_620 ⟨by decide, by decide⟩ ?_
  refine j_iadd hX dL_law_621 (by omega) ?_
  refine j_script hX dL_law_622 (by omega) ?_
  refine j_callV (k := 55) (ci := 12) (T := TX12) (N := 55) (as := [vI (sx X (i + 1))]) hX gT lk_L_146 (hm k V1 hk) ⟨by decide, by decide, rfl⟩ rfl rfl (by omega) (by omega) (Nat.le_of_ble_eq_true rfl) rfl dL_law_623 (fun r V2 hq => ?_)
  obtain ⟨b, rfl, hq⟩ := hq
  obtain ⟨hth, hout, hJ⟩ := he k V1 b V2 hk hq
  show J X (GT (c + 1) (s + 6)) 626 [vP, vA 0, vA 55, vA 87, vI i, vI k, vU, vU, vU] [vI b] V2
  refine j_is6 hX dL_law_626 rfl ?_
  refine j_al2 hX dL_law_628 rfl ?_
  refine j_callV (k := 55) (ci := 12) (T := TX12) (N := 55) (as := []) hX gT lk_L_114 ok_X12_thrown ⟨by decide, by decide, rfl⟩ rfl rfl (by decide) (by decide) (Nat.le_of_ble_eq_true rfl) rfl dL_law_629 (fun r V3 hq3 => ?_)
  obtain ⟨x3, rfl, rfl, rfl⟩ := hq3
  show J X (GT (c + 1) (s + 6)) 632 [vP, vA 0, vA 55, vA 87, vI i, vI k, vI b, vU, vU] [vI (V3 55 0)] V3
  refine j_il5 hX dL_law_632 ?_
  refine j_icmp_eq (tgt := 639) hX dL_law_634 (by decide) (fun _ => ?_) (fun h => absurd hth h)
  refine j_il5 hX dL_law_639 ?_
  have hend : J X (GT (c + 1) (s + 6)) 656 [vP, vA 0, vA 55, vA 87, vI i, vI k, vI b, vU, vU] [] V3 := by
    refine j_goto (tgt := 2097) hX dL_law_656 (by decide) ?_
    refine j_fg5 ?_
    refine j_fg6 ?_
    exact hJ
  refine j_if_ne (tgt := 656) hX dL_law_641 (by decide) (fun _ => hend) (fun h0 => ?_)
  refine j_al3 hX dL_law_644 rfl ?_
  refine j_iconst hX dL_law_645 ⟨by decide, by decide⟩ ?_
  refine j_lald (n := 1) hX gT ⟨by decide, by decide, rfl, rfl⟩ ⟨by decide, by decide⟩ dL_law_646 ?_
  refine j_il6 hX dL_law_647 ?_
  refine j_i2l hX dL_law_649 ?_
  exact j_lcmp_eq (tgt := 656) hX dL_law_650 dL_law_651 (by decide) (fun _ => hend) (fun h => absurd (hout h0) h)
set_option maxHeartbeats 4000000 in
theorem st_9 {X : Cx} {V : VV} {i : Int} {c s : Nat} {P : Int → VV → Prop} {Q : Int → VV → Int → VV → Prop} {fr1 lo1 fr2 lo2 : Nat} (hX : Good X RL cL_law 9 13 466) (hR9 : LX X) (hi : 0 ≤ i ∧ i + 5 < yLn (cY X)) (h1 : fr1 ≤ 12 ∧ lo1 ≤ 300) (h2 : fr2 ≤ 12 ∧ lo2 ≤ 300)
    (hc : Ok NC yX11_subgroups cX11_subgroups 1 (some .int) fr1 lo1 [vA 0] V (pI (P)))
    (hm : ∀ x V1, P x V1 → Ok NA yX12_subgroups cX12_subgroups 3 (some .int) fr2 lo2 [vA 55] V1 (pI (Q x V1)))
    (he : ∀ x V1 y V2, P x V1 → Q x V1 y V2 → x = y ∧ J X (GT c s) 2097 [vP, vA 0, vA 55, vA 87, vI i, vU, vU, vU, vU] [] V2) : J X (GT c s) 659 [vP, vA 0, vA 55, vA 87, vI i, vU, vU, vU, vU] [] V := by
  have hi9 : 0 ≤ i ∧ i + 5 < 3072 := ⟨hi.1, by have := hR9.2.2; omega⟩
  have gC : gOK NC (GT c s) := ⟨(by decide : (55 : Nat) ≤ 88), fun _ _ _ _ => rfl⟩
  refine j_al1 hX dL_law_659 rfl ?_
  refine j_callV (k := 0) (ci := 11) (T := TX11) (N := 15) (as := []) hX gC lk_L_147 hc ⟨by decide, by decide, rfl⟩ rfl rfl (by omega) (by omega) (Nat.le_of_ble_eq_true rfl) rfl dL_law_660 (fun r V1 hr => ?_)
  obtain ⟨x, rfl, hp⟩ := hr
  show J X (GT c s) 663 [vP, vA 0, vA 55, vA 87, vI i, vU, vU, vU, vU] [vI x] V1
  refine j_al2 hX dL_law_663 rfl ?_
  refine j_callV (k := 55) (ci := 12) (T := TX12) (N := 55) (as := []) hX gT lk_L_150 (hm x V1 hp) ⟨by decide, by decide, rfl⟩ rfl rfl (by omega) (by omega) (Nat.le_of_ble_eq_true rfl) rfl dL_law_664 (fun r V2 hq => ?_)
  obtain ⟨y, rfl, hq⟩ := hq
  obtain ⟨hxy, hJ⟩ := he x V1 y V2 hp hq
  show J X (GT c s) 667 [vP, vA 0, vA 55, vA 87, vI i, vU, vU, vU, vU] [vI y, vI x] V2
  exact j_icmp_eq (tgt := 2097) hX dL_law_667 (by decide) (fun _ => hJ) (fun h => absurd hxy h)
theorem lw_L_151 : lkC RL 151 yL_rule cL_rule 6 (some .int) [(0, 12, 15, 19)] 5 := ⟨(inT5 149 (by decide +kernel) rfl), (inT1 0 (by decide +kernel) rfl), (inT5 151 (by decide +kernel) rfl), (inT5 150 (by decide +kernel) rfl), by decide, by decide, by decide +kernel⟩
set_option maxHeartbeats 4000000 in
theorem st_10 {X : Cx} {V : VV} {i : Int} {c s : Nat} {P : Int → VV → Prop} {XP : String → VV → Prop} {Q : Int → VV → Int → VV → Prop} {lo9 fr2 lo2 : Nat} (hX : Good X RL cL_law 9 13 466) (hR9 : LX X) (hi : 0 ≤ i ∧ i + 5 < yLn (cY X)) (hrm : c + 1 ≤ (cR X).cells ∧ s + 6 ≤ (cR X).slots) (hlo9 : lo9 ≤ 200) (h2 : fr2 ≤ 12 ∧ lo2 ≤ 300)
    (hc : OkX yX11_rule cX11_rule 4 (some .int) 8 lo9 [vA 0, vI (sx X (i + 1)), vI (sx X (i + 2)), vI (sx X (i + 3))] V (pI P) XP) (hx : ∀ E V', XP E V' → E = exB)
    (hm : ∀ k V1, ((∃ x V0, P x V0 ∧ V1 = up V0 87 0 x ∧ k = 0) ∨ (XP exB V1 ∧ k = 1)) → Ok NA yX12_rule cX12_rule 4 (some .int) fr2 lo2 [vA 55, vI (sx X (i + 1)), vI (sx X (i + 2)), vI (sx X (i + 3))] V1 (pI (Q k V1)))
    (he : ∀ k V1 b V2, ((∃ x V0, P x V0 ∧ V1 = up V0 87 0 x ∧ k = 0) ∨ (XP exB V1 ∧ k = 1)) → Q k V1 b V2 → V2 55 0 = k ∧ (k = 0 → V2 87 0 = b) ∧ J X (GT (c + 1) (s + 6)) 2097 [vP, vA 0, vA 55, vA 87, vI i, vU, vU, vU, vU] [] V2) : J X (GT c s) 672 [vP, vA 0, vA 55, vA 87, vI i, vU, vU, vU, vU] [] V := by
  have hi9 : 0 ≤ i ∧ i + 5 < 3072 := ⟨hi.1, by have := hR9.2.2; omega⟩
  refine j_al1 hX dL_law_672 rfl ?_
  refine j_al0 hX dL_law_673 rfl ?_
  refine j_il4 hX dL_law_674 ?_
  refine j_iconst hX dL_law_676 ⟨by decide, by decide⟩ ?_
  refine j_iadd hX dL_law_677 (by omega) ?_
  refine j_script hX dL_law_678 (by omega) ?_
  refine j_al0 hX dL_law_679 rfl ?_
  refine j_il4 hX dL_law_680 ?_
  refine j_iconst hX dL_law_682 ⟨by decide, by decide⟩ ?_
  refine j_iadd hX dL_law_683 (by omega) ?_
  refine j_script hX dL_law_684 (by omega) ?_
  refine j_al0 hX dL_law_685 rfl ?_
  refine j_il4 hX dL_law_686 ?_
  refine j_iconst hX dL_law_688 ⟨by decide, by decide⟩ ?_
  refine j_iadd hX dL_law_689 (by omega) ?_
  refine j_script hX dL_law_690 (by omega) ?_
  refine j_al3 hX dL_law_691 rfl ?_
  refine j_callC (as := [vA 0, vI (sx X (i + 1)), vI (sx X (i + 2)), vI (sx X (i + 3)), vA 87]) hX gT hR9.1 hR9.2.1 lw_L_151 (wr_rule hlo9 hc hx) rfl (by decide) (by decide) (Nat.le_of_ble_eq_true rfl) rfl hrm dL_law_692 (fun r V1 hr => ?_)
  obtain ⟨k, rfl, hk⟩ := hr
  show J X (GT (c + 1) (s + 6)) 695 [vP, vA 0, vA 55, vA 87, vI i, vU, vU, vU, vU] [vI k] V1
  refine j_is5 hX dL_law_695 rfl ?_
  refine j_al2 hX dL_law_697 rfl ?_
  refine j_al0 hX dL_law_698 rfl ?_
  refine j_il4 hX dL_law_699 ?_
  refine j_iconst hX dL_law_701 ⟨by decide, by decide⟩ ?_
  refine j_iadd hX dL_law_702 (by omega) ?_
  refine j_script hX dL_law_703 (by omega) ?_
  refine j_al0 hX dL_law_704 rfl ?_
  refine j_il4 hX dL_law_705 ?_
  refine j_iconst hX dL_law_707 ⟨by decide, by decide⟩ ?_
  refine j_iadd hX dL_law_708 (by omega) ?_
  refine j_script hX dL_law_709 (by omega) ?_
  refine j_al0 hX dL_law_710 rfl ?_
  refine j_il4 hX dL_law_711 ?_
  refine j_iconst hX dL_law_713 ⟨by decide, by decide⟩ ?_
  refine j_iadd hX dL_law_714 (by omega) ?_
  refine j_script hX dL_law_715 (by omega) ?_
  refine j_callV (k := 55) (ci := 12) (T := TX12) (N := 55) (as := [vI (sx X (i + 1)), vI (sx X (i + 2)), vI (sx X (i + 3))]) hX gT lk_L_154 (hm k V1 hk) ⟨by decide, by decide, rfl⟩ rfl rfl (by omega) (by omega) (Nat.le_of_ble_eq_true rfl) rfl dL_law_716 (fun r V2 hq => ?_)
  obtain ⟨b, rfl, hq⟩ := hq
  obtain ⟨hth, hout, hJ⟩ := he k V1 b V2 hk hq
  show J X (GT (c + 1) (s + 6)) 719 [vP, vA 0, vA 55, vA 87, vI i, vI k, vU, vU, vU] [vI b] V2
  refine j_is6 hX dL_law_719 rfl ?_
  refine j_al2 hX dL_law_721 rfl ?_
  refine j_callV (k := 55) (ci := 12) (T := TX12) (N := 55) (as := []) hX gT lk_L_114 ok_X12_thrown ⟨by decide, by decide, rfl⟩ rfl rfl (by decide) (by decide) (Nat.le_of_ble_eq_true rfl) rfl dL_law_722 (fun r V3 hq3 => ?_)
  obtain ⟨x3, rfl, rfl, rfl⟩ := hq3
  show J X (GT (c + 1) (s + 6)) 725 [vP, vA 0, vA 55, vA 87, vI i, vI k, vI b, vU, vU] [vI (V3 55 0)] V3
  refine j_il5 hX dL_law_725 ?_
  refine j_icmp_eq (tgt := 732) hX dL_law_727 (by decide) (fun _ => ?_) (fun h => absurd hth h)
  refine j_il5 hX dL_law_732 ?_
  have hend : J X (GT (c + 1) (s + 6)) 749 [vP, vA 0, vA 55, vA 87, vI i, vI k, vI b, vU, vU] [] V3 := by
    refine j_goto (tgt := 2097) hX dL_law_749 (by decide) ?_
    refine j_fg5 ?_
    refine j_fg6 ?_
    exact hJ
  refine j_if_ne (tgt := 749) hX dL_law_734 (by decide) (fun _ => hend) (fun h0 => ?_)
  refine j_al3 hX dL_law_737 rfl ?_
  refine j_iconst hX dL_law_738 ⟨by decide, by decide⟩ ?_
  refine j_lald (n := 1) hX gT ⟨by decide, by decide, rfl, rfl⟩ ⟨by decide, by decide⟩ dL_law_739 ?_
  refine j_il6 hX dL_law_740 ?_
  refine j_i2l hX dL_law_742 ?_
  exact j_lcmp_eq (tgt := 749) hX dL_law_743 dL_law_744 (by decide) (fun _ => hend) (fun h => absurd (hout h0) h)
set_option maxHeartbeats 4000000 in
theorem st_11 {X : Cx} {V : VV} {i : Int} {c s : Nat} {P : Int → VV → Prop} {Q : Int → VV → Int → VV → Prop} {fr1 lo1 fr2 lo2 : Nat} (hX : Good X RL cL_law 9 13 466) (hR9 : LX X) (hi : 0 ≤ i ∧ i + 5 < yLn (cY X)) (h1 : fr1 ≤ 12 ∧ lo1 ≤ 300) (h2 : fr2 ≤ 12 ∧ lo2 ≤ 300)
    (hc : Ok NC yX11_width cX11_width 1 (some .int) fr1 lo1 [vA 0] V (pI (P)))
    (hm : ∀ x V1, P x V1 → Ok NA yX12_width cX12_width 1 (some .int) fr2 lo2 [vA 55] V1 (pI (Q x V1)))
    (he : ∀ x V1 y V2, P x V1 → Q x V1 y V2 → x = y ∧ J X (GT c s) 2097 [vP, vA 0, vA 55, vA 87, vI i, vU, vU, vU, vU] [] V2) : J X (GT c s) 752 [vP, vA 0, vA 55, vA 87, vI i, vU, vU, vU, vU] [] V := by
  have hi9 : 0 ≤ i ∧ i + 5 < 3072 := ⟨hi.1, by have := hR9.2.2; omega⟩
  have gC : gOK NC (GT c s) := ⟨(by decide : (55 : Nat) ≤ 88), fun _ _ _ _ => rfl⟩
  refine j_al1 hX dL_law_752 rfl ?_
  refine j_callV (k := 0) (ci := 11) (T := TX11) (N := 15) (as := []) hX gC lk_L_155 hc ⟨by decide, by decide, rfl⟩ rfl rfl (by omega) (by omega) (Nat.le_of_ble_eq_true rfl) rfl dL_law_753 (fun r V1 hr => ?_)
  obtain ⟨x, rfl, hp⟩ := hr
  show J X (GT c s) 756 [vP, vA 0, vA 55, vA 87, vI i, vU, vU, vU, vU] [vI x] V1
  refine j_al2 hX dL_law_756 rfl ?_
  refine j_callV (k := 55) (ci := 12) (T := TX12) (N := 55) (as := []) hX gT lk_L_158 (hm x V1 hp) ⟨by decide, by decide, rfl⟩ rfl rfl (by omega) (by omega) (Nat.le_of_ble_eq_true rfl) rfl dL_law_757 (fun r V2 hq => ?_)
  obtain ⟨y, rfl, hq⟩ := hq
  obtain ⟨hxy, hJ⟩ := he x V1 y V2 hp hq
  show J X (GT c s) 760 [vP, vA 0, vA 55, vA 87, vI i, vU, vU, vU, vU] [vI y, vI x] V2
  exact j_icmp_eq (tgt := 2097) hX dL_law_760 (by decide) (fun _ => hJ) (fun h => absurd hxy h)
theorem lw_L_159 : lkC RL 159 yL_words cL_words 4 (some .int) [(0, 9, 12, 19)] 3 := ⟨(inT5 170 (by decide +kernel) rfl), (inT1 0 (by decide +kernel) rfl), (inT5 172 (by decide +kernel) rfl), (inT5 171 (by decide +kernel) rfl), by decide, by decide, by decide +kernel⟩
set_option maxHeartbeats 4000000 in
theorem st_12 {X : Cx} {V : VV} {i : Int} {c s : Nat} {P : Int → VV → Prop} {XP : String → VV → Prop} {Q : Int → VV → Int → VV → Prop} {lo9 fr2 lo2 : Nat} (hX : Good X RL cL_law 9 13 466) (hR9 : LX X) (hi : 0 ≤ i ∧ i + 5 < yLn (cY X)) (hrm : c + 1 ≤ (cR X).cells ∧ s + 6 ≤ (cR X).slots) (hlo9 : lo9 ≤ 200) (h2 : fr2 ≤ 12 ∧ lo2 ≤ 300)
    (hc : OkX yX11_words cX11_words 2 (some .int) 8 lo9 [vA 0, vI (sx X (i + 1))] V (pI P) XP) (hx : ∀ E V', XP E V' → E = exB)
    (hm : ∀ k V1, ((∃ x V0, P x V0 ∧ V1 = up V0 87 0 x ∧ k = 0) ∨ (XP exB V1 ∧ k = 1)) → Ok NA yX12_words cX12_words 4 (some .int) fr2 lo2 [vA 55, vI (sx X (i + 1))] V1 (pI (Q k V1)))
    (he : ∀ k V1 b V2, ((∃ x V0, P x V0 ∧ V1 = up V0 87 0 x ∧ k = 0) ∨ (XP exB V1 ∧ k = 1)) → Q k V1 b V2 → V2 55 0 = k ∧ (k = 0 → V2 87 0 = b) ∧ J X (GT (c + 1) (s + 6)) 2097 [vP, vA 0, vA 55, vA 87, vI i, vU, vU, vU, vU] [] V2) : J X (GT c s) 765 [vP, vA 0, vA 55, vA 87, vI i, vU, vU, vU, vU] [] V := by
  have hi9 : 0 ≤ i ∧ i + 5 < 3072 := ⟨hi.1, by have := hR9.2.2; omega⟩
  refine j_al1 hX dL_law_765 rfl ?_
  refine j_al0 hX dL_law_766 rfl ?_
  refine j_il4 hX dL_law_767 ?_
  refine j_iconst hX dL_law_769 ⟨by decide, by decide⟩ ?_
  refine j_iadd hX dL_law_770 (by omega) ?_
  refine j_script hX dL_law_771 (by omega) ?_
  refine j_al3 hX dL_law_772 rfl ?_
  refine j_callC (as := [vA 0, vI (sx X (i + 1)), vA 87]) hX gT hR9.1 hR9.2.1 lw_L_159 (wr_words hlo9 hc hx) rfl (by decide) (by decide) (Nat.le_of_ble_eq_true rfl) rfl hrm dL_law_773 (fun r V1 hr => ?_)
  obtain ⟨k, rfl, hk⟩ := hr
  show J X (GT (c + 1) (s + 6)) 776 [vP, vA 0, vA 55, vA 87, vI i, vU, vU, vU, vU] [vI k] V1
  refine j_is5 hX dL_law_776 rfl ?_
  refine j_al2 hX dL_law_778 rfl ?_
  refine j_al0 hX dL_law_779 rfl ?_
  refine j_il4 hX dL_law_780 ?_
  refine j_iconst hX dL_law_782 ⟨by decide, by decide⟩ ?_
  refine j_iadd hX dL_law_783 (by omega) ?_
  refine j_script hX dL_law_784 (by omega) ?_
  refine j_callV (k := 55) (ci := 12) (T := TX12) (N := 55) (as := [vI (sx X (i + 1))]) hX gT lk_L_161 (hm k V1 hk) ⟨by decide, by decide, rfl⟩ rfl rfl (by omega) (by omega) (Nat.le_of_ble_eq_true rfl) rfl dL_law_785 (fun r V2 hq => ?_)
  obtain ⟨b, rfl, hq⟩ := hq
  obtain ⟨hth, hout, hJ⟩ := he k V1 b V2 hk hq
  show J X (GT (c + 1) (s + 6)) 788 [vP, vA 0, vA 55, vA 87, vI i, vI k, vU, vU, vU] [vI b] V2
  refine j_is6 hX dL_law_788 rfl ?_
  refine j_al2 hX dL_law_790 rfl ?_
  refine j_callV (k := 55) (ci := 12) (T := TX12) (N := 55) (as := []) hX gT lk_L_114 ok_X12_thrown ⟨by decide, by decide, rfl⟩ rfl rfl (by decide) (by decide) (Nat.le_of_ble_eq_true rfl) rfl dL_law_791 (fun r V3 hq3 => ?_)
  obtain ⟨x3, rfl, rfl, rfl⟩ := hq3
  show J X (GT (c + 1) (s + 6)) 794 [vP, vA 0, vA 55, vA 87, vI i, vI k, vI b, vU, vU] [vI (V3 55 0)] V3
  refine j_il5 hX dL_law_794 ?_
  refine j_icmp_eq (tgt := 801) hX dL_law_796 (by decide) (fun _ => ?_) (fun h => absurd hth h)
  refine j_il5 hX dL_law_801 ?_
  have hend : J X (GT (c + 1) (s + 6)) 818 [vP, vA 0, vA 55, vA 87, vI i, vI k, vI b, vU, vU] [] V3 := by
    refine j_goto (tgt := 2097) hX dL_law_818 (by decide) ?_
    refine j_fg5 ?_
    refine j_fg6 ?_
    exact hJ
  refine j_if_ne (tgt := 818) hX dL_law_803 (by decide) (fun _ => hend) (fun h0 => ?_)
  refine j_al3 hX dL_law_806 rfl ?_
  refine j_iconst hX dL_law_807 ⟨by decide, by decide⟩ ?_
  refine j_lald (n := 1) hX gT ⟨by decide, by decide, rfl, rfl⟩ ⟨by decide, by decide⟩ dL_law_808 ?_
  refine j_il6 hX dL_law_809 ?_
  refine j_i2l hX dL_law_811 ?_
  exact j_lcmp_eq (tgt := 818) hX dL_law_812 dL_law_813 (by decide) (fun _ => hend) (fun h => absurd (hout h0) h)
set_option maxHeartbeats 4000000 in
theorem st_13 {X : Cx} {V : VV} {i : Int} {c s : Nat} {P : Int → VV → Prop} {Q : Int → VV → Int → VV → Prop} {fr1 lo1 fr2 lo2 : Nat} (hX : Good X RL cL_law 9 13 466) (hR9 : LX X) (hi : 0 ≤ i ∧ i + 5 < yLn (cY X)) (h1 : fr1 ≤ 12 ∧ lo1 ≤ 300) (h2 : fr2 ≤ 12 ∧ lo2 ≤ 300)
    (hc : Ok NC yX11_isHomomorphism cX11_isHomomorphism 1 (some .boolean) fr1 lo1 [vA 0] V (pI (P)))
    (hm : ∀ x V1, P x V1 → Ok NA yX12_isHomomorphism cX12_isHomomorphism 3 (some .boolean) fr2 lo2 [vA 55] V1 (pI (Q x V1)))
    (he : ∀ x V1 y V2, P x V1 → Q x V1 y V2 → x = y ∧ J X (GT c s) 2097 [vP, vA 0, vA 55, vA 87, vI i, vU, vU, vU, vU] [] V2) : J X (GT c s) 821 [vP, vA 0, vA 55, vA 87, vI i, vU, vU, vU, vU] [] V := by
  have hi9 : 0 ≤ i ∧ i + 5 < 3072 := ⟨hi.1, by have := hR9.2.2; omega⟩
  have gC : gOK NC (GT c s) := ⟨(by decide : (55 : Nat) ≤ 88), fun _ _ _ _ => rfl⟩
  refine j_al1 hX dL_law_821 rfl ?_
  refine j_callV (k := 0) (ci := 11) (T := TX11) (N := 15) (as := []) hX gC lk_L_162 hc ⟨by decide, by decide, rfl⟩ rfl rfl (by omega) (by omega) (Nat.le_of_ble_eq_true rfl) rfl dL_law_822 (fun r V1 hr => ?_)
  obtain ⟨x, rfl, hp⟩ := hr
  show J X (GT c s) 825 [vP, vA 0, vA 55, vA 87, vI i, vU, vU, vU, vU] [vI x] V1
  refine j_al2 hX dL_law_825 rfl ?_
  refine j_callV (k := 55) (ci := 12) (T := TX12) (N := 55) (as := []) hX gT lk_L_166 (hm x V1 hp) ⟨by decide, by decide, rfl⟩ rfl rfl (by omega) (by omega) (Nat.le_of_ble_eq_true rfl) rfl dL_law_826 (fun r V2 hq => ?_)
  obtain ⟨y, rfl, hq⟩ := hq
  obtain ⟨hxy, hJ⟩ := he x V1 y V2 hp hq
  show J X (GT c s) 829 [vP, vA 0, vA 55, vA 87, vI i, vU, vU, vU, vU] [vI y, vI x] V2
  exact j_icmp_eq (tgt := 2097) hX dL_law_829 (by decide) (fun _ => hJ) (fun h => absurd hxy h)
set_option maxHeartbeats 4000000 in
theorem st_14 {X : Cx} {V : VV} {i : Int} {c s : Nat} {P : Int → Int → VV → Prop} {Q : Int → Int → VV → Int → VV → Prop} {fr1 lo1 fr2 lo2 : Nat} (hX : Good X RL cL_law 9 13 466) (hR9 : LX X) (hi : 0 ≤ i ∧ i + 5 < yLn (cY X)) (h1 : fr1 ≤ 12 ∧ lo1 ≤ 300) (h2 : fr2 ≤ 12 ∧ lo2 ≤ 300)
    (hc : ∀ b9 : Int, b9 = 0 ∨ b9 = 1 → Ok NC yX11_isPermutive cX11_isPermutive 2 (some .boolean) fr1 lo1 [vA 0, vI b9] V (pI (P b9)))
    (hm : ∀ b9 : Int, b9 = 0 ∨ b9 = 1 → ∀ x V1, P b9 x V1 → Ok NA yX12_isPermutive cX12_isPermutive 5 (some .boolean) fr2 lo2 [vA 55, vI b9] V1 (pI (Q b9 x V1)))
    (he : ∀ b9 : Int, b9 = 0 ∨ b9 = 1 → ∀ x V1 y V2, P b9 x V1 → Q b9 x V1 y V2 → x = y ∧ J X (GT c s) 2097 [vP, vA 0, vA 55, vA 87, vI i, vU, vU, vU, vU] [] V2) : J X (GT c s) 834 [vP, vA 0, vA 55, vA 87, vI i, vU, vU, vU, vU] [] V := by
  have hi9 : 0 ≤ i ∧ i + 5 < 3072 := ⟨hi.1, by have := hR9.2.2; omega⟩
  have gC : gOK NC (GT c s) := ⟨(by decide : (55 : Nat) ≤ 88), fun _ _ _ _ => rfl⟩
  refine j_al1 hX dL_law_834 rfl ?_
  refine j_al0 hX dL_law_835 rfl ?_
  refine j_il4 hX dL_law_836 ?_
  refine j_iconst hX dL_law_838 ⟨by decide, by decide⟩ ?_
  refine j_iadd hX dL_law_839 (by omega) ?_
  refine j_script hX dL_law_840 (by omega) ?_
  refine j_if_eq (tgt := 848) hX dL_law_841 (by decide) (fun h => ?_) (fun h => ?_)
  · skip
    refine j_iconst hX dL_law_848 ⟨by decide, by decide⟩ ?_
    refine j_callV (k := 0) (ci := 11) (T := TX11) (N := 15) (as := [vI 0]) hX gC lk_L_167 (hc 0 (by decide)) ⟨by decide, by decide, rfl⟩ rfl rfl (by omega) (by omega) (Nat.le_of_ble_eq_true rfl) rfl dL_law_849 (fun r V1 hr => ?_)
    obtain ⟨x, rfl, hp⟩ := hr
    show J X (GT c s) 852 [vP, vA 0, vA 55, vA 87, vI i, vU, vU, vU, vU] [vI x] V1
    refine j_al2 hX dL_law_852 rfl ?_
    refine j_al0 hX dL_law_853 rfl ?_
    refine j_il4 hX dL_law_854 ?_
    refine j_iconst hX dL_law_856 ⟨by decide, by decide⟩ ?_
    refine j_iadd hX dL_law_857 (by omega) ?_
    refine j_script hX dL_law_858 (by omega) ?_
    refine j_if_eq (tgt := 866) hX dL_law_859 (by decide) (fun _ => ?_) (fun h9 => absurd h h9)
    refine j_iconst hX dL_law_866 ⟨by decide, by decide⟩ ?_
    refine j_callV (k := 55) (ci := 12) (T := TX12) (N := 55) (as := [vI 0]) hX gT lk_L_171 (hm 0 (by decide) x V1 hp) ⟨by decide, by decide, rfl⟩ rfl rfl (by omega) (by omega) (Nat.le_of_ble_eq_true rfl) rfl dL_law_867 (fun r V2 hq => ?_)
    obtain ⟨y, rfl, hq⟩ := hq
    obtain ⟨hxy, hJ⟩ := he 0 (by decide) x V1 y V2 hp hq
    show J X (GT c s) 870 [vP, vA 0, vA 55, vA 87, vI i, vU, vU, vU, vU] [vI y, vI x] V2
    exact j_icmp_eq (tgt := 2097) hX dL_law_870 (by decide) (fun _ => hJ) (fun h => absurd hxy h)
  · skip
    refine j_iconst hX dL_law_844 ⟨by decide, by decide⟩ ?_
    refine j_goto (tgt := 849) hX dL_law_845 (by decide) ?_
    refine j_callV (k := 0) (ci := 11) (T := TX11) (N := 15) (as := [vI 1]) hX gC lk_L_167 (hc 1 (by decide)) ⟨by decide, by decide, rfl⟩ rfl rfl (by omega) (by omega) (Nat.le_of_ble_eq_true rfl) rfl dL_law_849 (fun r V1 hr => ?_)
    obtain ⟨x, rfl, hp⟩ := hr
    show J X (GT c s) 852 [vP, vA 0, vA 55, vA 87, vI i, vU, vU, vU, vU] [vI x] V1
    refine j_al2 hX dL_law_852 rfl ?_
    refine j_al0 hX dL_law_853 rfl ?_
    refine j_il4 hX dL_law_854 ?_
    refine j_iconst hX dL_law_856 ⟨by decide, by decide⟩ ?_
    refine j_iadd hX dL_law_857 (by omega) ?_
    refine j_script hX dL_law_858 (by omega) ?_
    refine j_if_eq (tgt := 866) hX dL_law_859 (by decide) (fun h9 => absurd h9 h) (fun _ => ?_)
    refine j_iconst hX dL_law_862 ⟨by decide, by decide⟩ ?_
    refine j_goto (tgt := 867) hX dL_law_863 (by decide) ?_
    refine j_callV (k := 55) (ci := 12) (T := TX12) (N := 55) (as := [vI 1]) hX gT lk_L_171 (hm 1 (by decide) x V1 hp) ⟨by decide, by decide, rfl⟩ rfl rfl (by omega) (by omega) (Nat.le_of_ble_eq_true rfl) rfl dL_law_867 (fun r V2 hq => ?_)
    obtain ⟨y, rfl, hq⟩ := hq
    obtain ⟨hxy, hJ⟩ := he 1 (by decide) x V1 y V2 hp hq
    show J X (GT c s) 870 [vP, vA 0, vA 55, vA 87, vI i, vU, vU, vU, vU] [vI y, vI x] V2
    exact j_icmp_eq (tgt := 2097) hX dL_law_870 (by decide) (fun _ => hJ) (fun h => absurd hxy h)
set_option maxHeartbeats 4000000 in
theorem st_15 {X : Cx} {V : VV} {i : Int} {c s : Nat} {P : Int → VV → Prop} {Q : Int → VV → Int → VV → Prop} {fr1 lo1 fr2 lo2 : Nat} (hX : Good X RL cL_law 9 13 466) (hR9 : LX X) (hi : 0 ≤ i ∧ i + 5 < yLn (cY X)) (h1 : fr1 ≤ 12 ∧ lo1 ≤ 300) (h2 : fr2 ≤ 12 ∧ lo2 ≤ 300)
    (hc : Ok NC yX11_closed cX11_closed 3 (some .int) fr1 lo1 [vA 0] V (pI (P)))
    (hm : ∀ x V1, P x V1 → Ok NA yX12_closed cX12_closed 3 (some .int) fr2 lo2 [vA 55] V1 (pI (Q x V1)))
    (he : ∀ x V1 y V2, P x V1 → Q x V1 y V2 → x = y ∧ J X (GT c s) 2097 [vP, vA 0, vA 55, vA 87, vI i, vU, vU, vU, vU] [] V2) : J X (GT c s) 875 [vP, vA 0, vA 55, vA 87, vI i, vU, vU, vU, vU] [] V := by
  have hi9 : 0 ≤ i ∧ i + 5 < 3072 := ⟨hi.1, by have := hR9.2.2; omega⟩
  have gC : gOK NC (GT c s) := ⟨(by decide : (55 : Nat) ≤ 88), fun _ _ _ _ => rfl⟩
  refine j_al1 hX dL_law_875 rfl ?_
  refine j_callV (k := 0) (ci := 11) (T := TX11) (N := 15) (as := []) hX gC lk_L_172 hc ⟨by decide, by decide, rfl⟩ rfl rfl (by omega) (by omega) (Nat.le_of_ble_eq_true rfl) rfl dL_law_876 (fun r V1 hr => ?_)
  obtain ⟨x, rfl, hp⟩ := hr
  show J X (GT c s) 879 [vP, vA 0, vA 55, vA 87, vI i, vU, vU, vU, vU] [vI x] V1
  refine j_al2 hX dL_law_879 rfl ?_
  refine j_callV (k := 55) (ci := 12) (T := TX12) (N := 55) (as := []) hX gT lk_L_175 (hm x V1 hp) ⟨by decide, by decide, rfl⟩ rfl rfl (by omega) (by omega) (Nat.le_of_ble_eq_true rfl) rfl dL_law_880 (fun r V2 hq => ?_)
  obtain ⟨y, rfl, hq⟩ := hq
  obtain ⟨hxy, hJ⟩ := he x V1 y V2 hp hq
  show J X (GT c s) 883 [vP, vA 0, vA 55, vA 87, vI i, vU, vU, vU, vU] [vI y, vI x] V2
  exact j_icmp_eq (tgt := 2097) hX dL_law_883 (by decide) (fun _ => hJ) (fun h => absurd hxy h)
theorem lw_L_176 : lkC RL 176 yL_setCase cL_setCase 7 (some .int) [(0, 14, 17, 19)] 6 := ⟨(inT5 181 (by decide +kernel) rfl), (inT1 0 (by decide +kernel) rfl), (inT5 183 (by decide +kernel) rfl), (inT5 182 (by decide +kernel) rfl), by decide, by decide, by decide +kernel⟩
set_option maxHeartbeats 4000000 in
theorem st_16 {X : Cx} {V : VV} {i : Int} {c s : Nat} {P : Int → VV → Prop} {XP : String → VV → Prop} {Q : Int → VV → Int → VV → Prop} {lo9 fr2 lo2 : Nat} (hX : Good X RL cL_law 9 13 466) (hR9 : LX X) (hi : 0 ≤ i ∧ i + 5 < yLn (cY X)) (hrm : c + 1 ≤ (cR X).cells ∧ s + 6 ≤ (cR X).slots) (hlo9 : lo9 ≤ 200) (h2 : fr2 ≤ 12 ∧ lo2 ≤ 300)
    (hc : OkX yX11_setCase cX11_setCase 7 (some .int) 8 lo9 [vA 0, vI (sx X (i + 1)), vI (sx X (i + 2)), vI (sx X (i + 3)), vI (sx X (i + 4))] V (pI P) XP) (hx : ∀ E V', XP E V' → E = exB)
    (hm : ∀ k V1, ((∃ x V0, P x V0 ∧ V1 = up V0 87 0 x ∧ k = 0) ∨ (XP exB V1 ∧ k = 1)) → Ok NA yX12_setCase cX12_setCase 7 (some .int) fr2 lo2 [vA 55, vI (sx X (i + 1)), vI (sx X (i + 2)), vI (sx X (i + 3)), vI (sx X (i + 4))] V1 (pI (Q k V1)))
    (he : ∀ k V1 b V2, ((∃ x V0, P x V0 ∧ V1 = up V0 87 0 x ∧ k = 0) ∨ (XP exB V1 ∧ k = 1)) → Q k V1 b V2 → V2 55 0 = k ∧ (k = 0 → V2 87 0 = b) ∧ J X (GT (c + 1) (s + 6)) 2097 [vP, vA 0, vA 55, vA 87, vI i, vU, vU, vU, vU] [] V2) : J X (GT c s) 888 [vP, vA 0, vA 55, vA 87, vI i, vU, vU, vU, vU] [] V := by
  have hi9 : 0 ≤ i ∧ i + 5 < 3072 := ⟨hi.1, by have := hR9.2.2; omega⟩
  refine j_al1 hX dL_law_888 rfl ?_
  refine j_al0 hX dL_law_889 rfl ?_
  refine j_il4 hX dL_law_890 ?_
  refine j_iconst hX dL_law_892 ⟨by decide, by decide⟩ ?_
  refine j_iadd hX dL_law_893 (by omega) ?_
  refine j_script hX dL_law_894 (by omega) ?_
  refine j_al0 hX dL_law_895 rfl ?_
  refine j_il4 hX dL_law_896 ?_
  refine j_iconst hX dL_law_898 ⟨by decide, by decide⟩ ?_
  refine j_iadd hX dL_law_899 (by omega) ?_
  refine j_script hX dL_law_900 (by omega) ?_
  refine j_al0 hX dL_law_901 rfl ?_
  refine j_il4 hX dL_law_902 ?_
  refine j_iconst hX dL_law_904 ⟨by decide, by decide⟩ ?_
  refine j_iadd hX dL_law_905 (by omega) ?_
  refine j_script hX dL_law_906 (by omega) ?_
  refine j_al0 hX dL_law_907 rfl ?_
  refine j_il4 hX dL_law_908 ?_
  refine j_iconst hX dL_law_910 ⟨by decide, by decide⟩ ?_
  refine j_iadd hX dL_law_911 (by omega) ?_
  refine j_script hX dL_law_912 (by omega) ?_
  refine j_al3 hX dL_law_913 rfl ?_
  refine j_callC (as := [vA 0, vI (sx X (i + 1)), vI (sx X (i + 2)), vI (sx X (i + 3)), vI (sx X (i + 4)), vA 87]) hX gT hR9.1 hR9.2.1 lw_L_176 (wr_setCase hlo9 hc hx) rfl (by decide) (by decide) (Nat.le_of_ble_eq_true rfl) rfl hrm dL_law_914 (fun r V1 hr => ?_)
  obtain ⟨k, rfl, hk⟩ := hr
  show J X (GT (c + 1) (s + 6)) 917 [vP, vA 0, vA 55, vA 87, vI i, vU, vU, vU, vU] [vI k] V1
  refine j_is5 hX dL_law_917 rfl ?_
  refine j_al2 hX dL_law_919 rfl ?_
  refine j_al0 hX dL_law_920 rfl ?_
  refine j_il4 hX dL_law_921 ?_
  refine j_iconst hX dL_law_923 ⟨by decide, by decide⟩ ?_
  refine j_iadd hX dL_law_924 (by omega) ?_
  refine j_script hX dL_law_925 (by omega) ?_
  refine j_al0 hX dL_law_926 rfl ?_
  refine j_il4 hX dL_law_927 ?_
  refine j_iconst hX dL_law_929 ⟨by decide, by decide⟩ ?_
  refine j_iadd hX dL_law_930 (by omega) ?_
  refine j_script hX dL_law_931 (by omega) ?_
  refine j_al0 hX dL_law_932 rfl ?_
  refine j_il4 hX dL_law_933 ?_
  refine j_iconst hX dL_law_935 ⟨by decide, by decide⟩ ?_
  refine j_iadd hX dL_law_936 (by omega) ?_
  refine j_script hX dL_law_937 (by omega) ?_
  refine j_al0 hX dL_law_938 rfl ?_
  refine j_il4 hX dL_law_939 ?_
  refine j_iconst hX dL_law_941 ⟨by decide, by decide⟩ ?_
  refine j_iadd hX dL_law_942 (by omega) ?_
  refine j_script hX dL_law_943 (by omega) ?_
  refine j_callV (k := 55) (ci := 12) (T := TX12) (N := 55) (as := [vI (sx X (i + 1)), vI (sx X (i + 2)), vI (sx X (i + 3)), vI (sx X (i + 4))]) hX gT lk_L_179 (hm k V1 hk) ⟨by decide, by decide, rfl⟩ rfl rfl (by omega) (by omega) (Nat.le_of_ble_eq_true rfl) rfl dL_law_944 (fun r V2 hq => ?_)
  obtain ⟨b, rfl, hq⟩ := hq
  obtain ⟨hth, hout, hJ⟩ := he k V1 b V2 hk hq
  show J X (GT (c + 1) (s + 6)) 947 [vP, vA 0, vA 55, vA 87, vI i, vI k, vU, vU, vU] [vI b] V2
  refine j_is6 hX dL_law_947 rfl ?_
  refine j_al2 hX dL_law_949 rfl ?_
  refine j_callV (k := 55) (ci := 12) (T := TX12) (N := 55) (as := []) hX gT lk_L_114 ok_X12_thrown ⟨by decide, by decide, rfl⟩ rfl rfl (by decide) (by decide) (Nat.le_of_ble_eq_true rfl) rfl dL_law_950 (fun r V3 hq3 => ?_)
  obtain ⟨x3, rfl, rfl, rfl⟩ := hq3
  show J X (GT (c + 1) (s + 6)) 953 [vP, vA 0, vA 55, vA 87, vI i, vI k, vI b, vU, vU] [vI (V3 55 0)] V3
  refine j_il5 hX dL_law_953 ?_
  refine j_icmp_eq (tgt := 960) hX dL_law_955 (by decide) (fun _ => ?_) (fun h => absurd hth h)
  refine j_il5 hX dL_law_960 ?_
  have hend : J X (GT (c + 1) (s + 6)) 977 [vP, vA 0, vA 55, vA 87, vI i, vI k, vI b, vU, vU] [] V3 := by
    refine j_goto (tgt := 2097) hX dL_law_977 (by decide) ?_
    refine j_fg5 ?_
    refine j_fg6 ?_
    exact hJ
  refine j_if_ne (tgt := 977) hX dL_law_962 (by decide) (fun _ => hend) (fun h0 => ?_)
  refine j_al3 hX dL_law_965 rfl ?_
  refine j_iconst hX dL_law_966 ⟨by decide, by decide⟩ ?_
  refine j_lald (n := 1) hX gT ⟨by decide, by decide, rfl, rfl⟩ ⟨by decide, by decide⟩ dL_law_967 ?_
  refine j_il6 hX dL_law_968 ?_
  refine j_i2l hX dL_law_970 ?_
  exact j_lcmp_eq (tgt := 977) hX dL_law_971 dL_law_972 (by decide) (fun _ => hend) (fun h => absurd (hout h0) h)
set_option maxHeartbeats 4000000 in
theorem st_17 {X : Cx} {V : VV} {i : Int} {c s : Nat} {P : Int → VV → Prop} {Q : Int → VV → Int → VV → Prop} {fr1 lo1 fr2 lo2 : Nat} (hX : Good X RL cL_law 9 13 466) (hR9 : LX X) (hi : 0 ≤ i ∧ i + 5 < yLn (cY X)) (h1 : fr1 ≤ 12 ∧ lo1 ≤ 300) (h2 : fr2 ≤ 12 ∧ lo2 ≤ 300)
    (hc : Ok NC yX11_isSurjective cX11_isSurjective 1 (some .boolean) fr1 lo1 [vA 0] V (pI (P)))
    (hm : ∀ x V1, P x V1 → Ok NA yX12_isSurjective cX12_isSurjective 1 (some .boolean) fr2 lo2 [vA 55] V1 (pI (Q x V1)))
    (he : ∀ x V1 y V2, P x V1 → Q x V1 y V2 → x = y ∧ J X (GT c s) 2097 [vP, vA 0, vA 55, vA 87, vI i, vU, vU, vU, vU] [] V2) : J X (GT c s) 980 [vP, vA 0, vA 55, vA 87, vI i, vU, vU, vU, vU] [] V := by
  have hi9 : 0 ≤ i ∧ i + 5 < 3072 := ⟨hi.1, by have := hR9.2.2; omega⟩
  have gC : gOK NC (GT c s) := ⟨(by decide : (55 : Nat) ≤ 88), fun _ _ _ _ => rfl⟩
  refine j_al1 hX dL_law_980 rfl ?_
  refine j_callV (k := 0) (ci := 11) (T := TX11) (N := 15) (as := []) hX gC lk_L_180 hc ⟨by decide, by decide, rfl⟩ rfl rfl (by omega) (by omega) (Nat.le_of_ble_eq_true rfl) rfl dL_law_981 (fun r V1 hr => ?_)
  obtain ⟨x, rfl, hp⟩ := hr
  show J X (GT c s) 984 [vP, vA 0, vA 55, vA 87, vI i, vU, vU, vU, vU] [vI x] V1
  refine j_al2 hX dL_law_984 rfl ?_
  refine j_callV (k := 55) (ci := 12) (T := TX12) (N := 55) (as := []) hX gT lk_L_183 (hm x V1 hp) ⟨by decide, by decide, rfl⟩ rfl rfl (by omega) (by omega) (Nat.le_of_ble_eq_true rfl) rfl dL_law_985 (fun r V2 hq => ?_)
  obtain ⟨y, rfl, hq⟩ := hq
  obtain ⟨hxy, hJ⟩ := he x V1 y V2 hp hq
  show J X (GT c s) 988 [vP, vA 0, vA 55, vA 87, vI i, vU, vU, vU, vU] [vI y, vI x] V2
  exact j_icmp_eq (tgt := 2097) hX dL_law_988 (by decide) (fun _ => hJ) (fun h => absurd hxy h)
set_option maxHeartbeats 4000000 in
theorem st_18 {X : Cx} {V : VV} {i : Int} {c s : Nat} {P : Int → VV → Prop} {Q : Int → VV → Int → VV → Prop} {fr1 lo1 fr2 lo2 : Nat} (hX : Good X RL cL_law 9 13 466) (hR9 : LX X) (hi : 0 ≤ i ∧ i + 5 < yLn (cY X)) (h1 : fr1 ≤ 12 ∧ lo1 ≤ 300) (h2 : fr2 ≤ 12 ∧ lo2 ≤ 300)
    (hc : Ok NC yX11_isInjective cX11_isInjective 1 (some .boolean) fr1 lo1 [vA 0] V (pI (P)))
    (hm : ∀ x V1, P x V1 → Ok NA yX12_isInjective cX12_isInjective 2 (some .boolean) fr2 lo2 [vA 55] V1 (pI (Q x V1)))
    (he : ∀ x V1 y V2, P x V1 → Q x V1 y V2 → x = y ∧ J X (GT c s) 2097 [vP, vA 0, vA 55, vA 87, vI i, vU, vU, vU, vU] [] V2) : J X (GT c s) 993 [vP, vA 0, vA 55, vA 87, vI i, vU, vU, vU, vU] [] V := by
  have hi9 : 0 ≤ i ∧ i + 5 < 3072 := ⟨hi.1, by have := hR9.2.2; omega⟩
  have gC : gOK NC (GT c s) := ⟨(by decide : (55 : Nat) ≤ 88), fun _ _ _ _ => rfl⟩
  refine j_al1 hX dL_law_993 rfl ?_
  refine j_callV (k := 0) (ci := 11) (T := TX11) (N := 15) (as := []) hX gC lk_L_184 hc ⟨by decide, by decide, rfl⟩ rfl rfl (by omega) (by omega) (Nat.le_of_ble_eq_true rfl) rfl dL_law_994 (fun r V1 hr => ?_)
  obtain ⟨x, rfl, hp⟩ := hr
  show J X (GT c s) 997 [vP, vA 0, vA 55, vA 87, vI i, vU, vU, vU, vU] [vI x] V1
  refine j_al2 hX dL_law_997 rfl ?_
  refine j_callV (k := 55) (ci := 12) (T := TX12) (N := 55) (as := []) hX gT lk_L_187 (hm x V1 hp) ⟨by decide, by decide, rfl⟩ rfl rfl (by omega) (by omega) (Nat.le_of_ble_eq_true rfl) rfl dL_law_998 (fun r V2 hq => ?_)
  obtain ⟨y, rfl, hq⟩ := hq
  obtain ⟨hxy, hJ⟩ := he x V1 y V2 hp hq
  show J X (GT c s) 1001 [vP, vA 0, vA 55, vA 87, vI i, vU, vU, vU, vU] [vI y, vI x] V2
  exact j_icmp_eq (tgt := 2097) hX dL_law_1001 (by decide) (fun _ => hJ) (fun h => absurd hxy h)
theorem lw_L_188 : lkC RL 188 yL_diamond cL_diamond 3 (some .int) [(0, 8, 11, 51)] 2 := ⟨(inT5 188 (by decide +kernel) rfl), (inT1 0 (by decide +kernel) rfl), (inT5 190 (by decide +kernel) rfl), (inT5 189 (by decide +kernel) rfl), by decide, by decide, by decide +kernel⟩
set_option maxHeartbeats 4000000 in
theorem st_19 {X : Cx} {V : VV} {i : Int} {c s : Nat} {P : Int → VV → Prop} {XP : String → VV → Prop} {Q : Int → VV → Int → VV → Prop} {lo9 fr2 lo2 : Nat} (hX : Good X RL cL_law 9 13 466) (hR9 : LX X) (hi : 0 ≤ i ∧ i + 5 < yLn (cY X)) (hrm : c + 1 ≤ (cR X).cells ∧ s + 6 ≤ (cR X).slots) (hlo9 : lo9 ≤ 200) (h2 : fr2 ≤ 12 ∧ lo2 ≤ 300)
    (hc : OkX yX11_diamond cX11_diamond 1 (some .int) 8 lo9 [vA 0] V (pI P) XP) (hx : ∀ E V', XP E V' → E = exN)
    (hm : ∀ k V1, ((∃ x V0, P x V0 ∧ V1 = up V0 87 0 x ∧ k = 0) ∨ (XP exN V1 ∧ k = 1)) → Ok NA yX12_diamond cX12_diamond 2 (some .int) fr2 lo2 [vA 55] V1 (pI (Q k V1)))
    (he : ∀ k V1 b V2, ((∃ x V0, P x V0 ∧ V1 = up V0 87 0 x ∧ k = 0) ∨ (XP exN V1 ∧ k = 1)) → Q k V1 b V2 → V2 55 0 = k ∧ (k = 0 → V2 87 0 = b) ∧ J X (GT (c + 1) (s + 6)) 2097 [vP, vA 0, vA 55, vA 87, vI i, vU, vU, vU, vU] [] V2) : J X (GT c s) 1006 [vP, vA 0, vA 55, vA 87, vI i, vU, vU, vU, vU] [] V := by
  have hi9 : 0 ≤ i ∧ i + 5 < 3072 := ⟨hi.1, by have := hR9.2.2; omega⟩
  refine j_al1 hX dL_law_1006 rfl ?_
  refine j_al3 hX dL_law_1007 rfl ?_
  refine j_callC (as := [vA 0, vA 87]) hX gT hR9.1 hR9.2.1 lw_L_188 (wr_diamond hlo9 hc hx) rfl (by decide) (by decide) (Nat.le_of_ble_eq_true rfl) rfl hrm dL_law_1008 (fun r V1 hr => ?_)
  obtain ⟨k, rfl, hk⟩ := hr
  show J X (GT (c + 1) (s + 6)) 1011 [vP, vA 0, vA 55, vA 87, vI i, vU, vU, vU, vU] [vI k] V1
  refine j_is5 hX dL_law_1011 rfl ?_
  refine j_al2 hX dL_law_1013 rfl ?_
  refine j_callV (k := 55) (ci := 12) (T := TX12) (N := 55) (as := []) hX gT lk_L_190 (hm k V1 hk) ⟨by decide, by decide, rfl⟩ rfl rfl (by omega) (by omega) (Nat.le_of_ble_eq_true rfl) rfl dL_law_1014 (fun r V2 hq => ?_)
  obtain ⟨b, rfl, hq⟩ := hq
  obtain ⟨hth, hout, hJ⟩ := he k V1 b V2 hk hq
  show J X (GT (c + 1) (s + 6)) 1017 [vP, vA 0, vA 55, vA 87, vI i, vI k, vU, vU, vU] [vI b] V2
  refine j_is6 hX dL_law_1017 rfl ?_
  refine j_al2 hX dL_law_1019 rfl ?_
  refine j_callV (k := 55) (ci := 12) (T := TX12) (N := 55) (as := []) hX gT lk_L_114 ok_X12_thrown ⟨by decide, by decide, rfl⟩ rfl rfl (by decide) (by decide) (Nat.le_of_ble_eq_true rfl) rfl dL_law_1020 (fun r V3 hq3 => ?_)
  obtain ⟨x3, rfl, rfl, rfl⟩ := hq3
  show J X (GT (c + 1) (s + 6)) 1023 [vP, vA 0, vA 55, vA 87, vI i, vI k, vI b, vU, vU] [vI (V3 55 0)] V3
  refine j_il5 hX dL_law_1023 ?_
  refine j_icmp_eq (tgt := 1030) hX dL_law_1025 (by decide) (fun _ => ?_) (fun h => absurd hth h)
  refine j_il5 hX dL_law_1030 ?_
  have hend : J X (GT (c + 1) (s + 6)) 1047 [vP, vA 0, vA 55, vA 87, vI i, vI k, vI b, vU, vU] [] V3 := by
    refine j_goto (tgt := 2097) hX dL_law_1047 (by decide) ?_
    refine j_fg5 ?_
    refine j_fg6 ?_
    exact hJ
  refine j_if_ne (tgt := 1047) hX dL_law_1032 (by decide) (fun _ => hend) (fun h0 => ?_)
  refine j_al3 hX dL_law_1035 rfl ?_
  refine j_iconst hX dL_law_1036 ⟨by decide, by decide⟩ ?_
  refine j_lald (n := 1) hX gT ⟨by decide, by decide, rfl, rfl⟩ ⟨by decide, by decide⟩ dL_law_1037 ?_
  refine j_il6 hX dL_law_1038 ?_
  refine j_i2l hX dL_law_1040 ?_
  exact j_lcmp_eq (tgt := 1047) hX dL_law_1041 dL_law_1042 (by decide) (fun _ => hend) (fun h => absurd (hout h0) h)
theorem lw_L_191 : lkC RL 191 yL_inverse cL_inverse 4 (some .int) [(0, 9, 12, 25), (0, 9, 15, 51)] 3 := ⟨(inT5 212 (by decide +kernel) rfl), (inT1 0 (by decide +kernel) rfl), (inT5 214 (by decide +kernel) rfl), (inT5 213 (by decide +kernel) rfl), by decide, by decide, by decide +kernel⟩
set_option maxHeartbeats 4000000 in
theorem st_20 {X : Cx} {V : VV} {i : Int} {c s : Nat} {P : Int → VV → Prop} {XP : String → VV → Prop} {Q : Int → VV → Int → VV → Prop} {lo9 fr2 lo2 : Nat} (hX : Good X RL cL_law 9 13 466) (hR9 : LX X) (hi : 0 ≤ i ∧ i + 5 < yLn (cY X)) (hrm : c + 1 ≤ (cR X).cells ∧ s + 6 ≤ (cR X).slots) (hlo9 : lo9 ≤ 200) (h2 : fr2 ≤ 12 ∧ lo2 ≤ 300)
    (hc : OkX yX11_inverse cX11_inverse 2 (some .int) 8 lo9 [vA 0, vI (sx X (i + 1))] V (pI P) XP) (hx : ∀ E V', XP E V' → E = exA ∨ E = exN)
    (hm : ∀ k V1, ((∃ x V0, P x V0 ∧ V1 = up V0 87 0 x ∧ k = 0) ∨ (XP exA V1 ∧ k = 1) ∨ (XP exN V1 ∧ k = 2)) → Ok NA yX12_inverse cX12_inverse 4 (some .int) fr2 lo2 [vA 55, vI (sx X (i + 1))] V1 (pI (Q k V1)))
    (he : ∀ k V1 b V2, ((∃ x V0, P x V0 ∧ V1 = up V0 87 0 x ∧ k = 0) ∨ (XP exA V1 ∧ k = 1) ∨ (XP exN V1 ∧ k = 2)) → Q k V1 b V2 → V2 55 0 = k ∧ (k = 0 → V2 87 0 = b) ∧ J X (GT (c + 1) (s + 6)) 2097 [vP, vA 0, vA 55, vA 87, vI i, vU, vU, vU, vU] [] V2) : J X (GT c s) 1050 [vP, vA 0, vA 55, vA 87, vI i, vU, vU, vU, vU] [] V := by
  have hi9 : 0 ≤ i ∧ i + 5 < 3072 := ⟨hi.1, by have := hR9.2.2; omega⟩
  refine j_al1 hX dL_law_1050 rfl ?_
  refine j_al0 hX dL_law_1051 rfl ?_
  refine j_il4 hX dL_law_1052 ?_
  refine j_iconst hX dL_law_1054 ⟨by decide, by decide⟩ ?_
  refine j_iadd hX dL_law_1055 (by omega) ?_
  refine j_script hX dL_law_1056 (by omega) ?_
  refine j_al3 hX dL_law_1057 rfl ?_
  refine j_callC (as := [vA 0, vI (sx X (i + 1)), vA 87]) hX gT hR9.1 hR9.2.1 lw_L_191 (wr_inverse hlo9 hc hx) rfl (by decide) (by decide) (Nat.le_of_ble_eq_true rfl) rfl hrm dL_law_1058 (fun r V1 hr => ?_)
  obtain ⟨k, rfl, hk⟩ := hr
  show J X (GT (c + 1) (s + 6)) 1061 [vP, vA 0, vA 55, vA 87, vI i, vU, vU, vU, vU] [vI k] V1
  refine j_is5 hX dL_law_1061 rfl ?_
  refine j_al2 hX dL_law_1063 rfl ?_
  refine j_al0 hX dL_law_1064 rfl ?_
  refine j_il4 hX dL_law_1065 ?_
  refine j_iconst hX dL_law_1067 ⟨by decide, by decide⟩ ?_
  refine j_iadd hX dL_law_1068 (by omega) ?_
  refine j_script hX dL_law_1069 (by omega) ?_
  refine j_callV (k := 55) (ci := 12) (T := TX12) (N := 55) (as := [vI (sx X (i + 1))]) hX gT lk_L_193 (hm k V1 hk) ⟨by decide, by decide, rfl⟩ rfl rfl (by omega) (by omega) (Nat.le_of_ble_eq_true rfl) rfl dL_law_1070 (fun r V2 hq => ?_)
  obtain ⟨b, rfl, hq⟩ := hq
  obtain ⟨hth, hout, hJ⟩ := he k V1 b V2 hk hq
  show J X (GT (c + 1) (s + 6)) 1073 [vP, vA 0, vA 55, vA 87, vI i, vI k, vU, vU, vU] [vI b] V2
  refine j_is6 hX dL_law_1073 rfl ?_
  refine j_al2 hX dL_law_1075 rfl ?_
  refine j_callV (k := 55) (ci := 12) (T := TX12) (N := 55) (as := []) hX gT lk_L_114 ok_X12_thrown ⟨by decide, by decide, rfl⟩ rfl rfl (by decide) (by decide) (Nat.le_of_ble_eq_true rfl) rfl dL_law_1076 (fun r V3 hq3 => ?_)
  obtain ⟨x3, rfl, rfl, rfl⟩ := hq3
  show J X (GT (c + 1) (s + 6)) 1079 [vP, vA 0, vA 55, vA 87, vI i, vI k, vI b, vU, vU] [vI (V3 55 0)] V3
  refine j_il5 hX dL_law_1079 ?_
  refine j_icmp_eq (tgt := 1086) hX dL_law_1081 (by decide) (fun _ => ?_) (fun h => absurd hth h)
  refine j_il5 hX dL_law_1086 ?_
  have hend : J X (GT (c + 1) (s + 6)) 1103 [vP, vA 0, vA 55, vA 87, vI i, vI k, vI b, vU, vU] [] V3 := by
    refine j_goto (tgt := 2097) hX dL_law_1103 (by decide) ?_
    refine j_fg5 ?_
    refine j_fg6 ?_
    exact hJ
  refine j_if_ne (tgt := 1103) hX dL_law_1088 (by decide) (fun _ => hend) (fun h0 => ?_)
  refine j_al3 hX dL_law_1091 rfl ?_
  refine j_iconst hX dL_law_1092 ⟨by decide, by decide⟩ ?_
  refine j_lald (n := 1) hX gT ⟨by decide, by decide, rfl, rfl⟩ ⟨by decide, by decide⟩ dL_law_1093 ?_
  refine j_il6 hX dL_law_1094 ?_
  refine j_i2l hX dL_law_1096 ?_
  exact j_lcmp_eq (tgt := 1103) hX dL_law_1097 dL_law_1098 (by decide) (fun _ => hend) (fun h => absurd (hout h0) h)
theorem lw_L_194 : lkC RL 194 yL_inverseOf cL_inverseOf 4 (some .int) [(0, 9, 12, 51), (0, 9, 15, 25)] 3 := ⟨(inT6 15 (by decide +kernel) rfl), (inT1 0 (by decide +kernel) rfl), (inT6 17 (by decide +kernel) rfl), (inT6 16 (by decide +kernel) rfl), by decide, by decide, by decide +kernel⟩
set_option maxHeartbeats 4000000 in
theorem st_21 {X : Cx} {V : VV} {i : Int} {c s : Nat} {P : Int → VV → Prop} {XP : String → VV → Prop} {Q : Int → VV → Int → VV → Prop} {lo9 fr2 lo2 : Nat} (hX : Good X RL cL_law 9 13 466) (hR9 : LX X) (hi : 0 ≤ i ∧ i + 5 < yLn (cY X)) (hrm : c + 1 ≤ (cR X).cells ∧ s + 6 ≤ (cR X).slots) (hlo9 : lo9 ≤ 200) (h2 : fr2 ≤ 12 ∧ lo2 ≤ 300)
    (hc : OkX yX11_inverseOf cX11_inverseOf 3 (some .int) 8 lo9 [vA 0, vI (sx X (i + 1))] V (pI P) XP) (hx : ∀ E V', XP E V' → E = exN ∨ E = exA)
    (hm : ∀ k V1, ((∃ x V0, P x V0 ∧ V1 = up V0 87 0 x ∧ k = 0) ∨ (XP exN V1 ∧ k = 1) ∨ (XP exA V1 ∧ k = 2)) → Ok NA yX12_inverseOf cX12_inverseOf 3 (some .int) fr2 lo2 [vA 55, vI (sx X (i + 1))] V1 (pI (Q k V1)))
    (he : ∀ k V1 b V2, ((∃ x V0, P x V0 ∧ V1 = up V0 87 0 x ∧ k = 0) ∨ (XP exN V1 ∧ k = 1) ∨ (XP exA V1 ∧ k = 2)) → Q k V1 b V2 → V2 55 0 = k ∧ (k = 0 → V2 87 0 = b) ∧ J X (GT (c + 1) (s + 6)) 2097 [vP, vA 0, vA 55, vA 87, vI i, vU, vU, vU, vU] [] V2) : J X (GT c s) 1106 [vP, vA 0, vA 55, vA 87, vI i, vU, vU, vU, vU] [] V := by
  have hi9 : 0 ≤ i ∧ i + 5 < 3072 := ⟨hi.1, by have := hR9.2.2; omega⟩
  refine j_al1 hX dL_law_1106 rfl ?_
  refine j_al0 hX dL_law_1107 rfl ?_
  refine j_il4 hX dL_law_1108 ?_
  refine j_iconst hX dL_law_1110 ⟨by decide, by decide⟩ ?_
  refine j_iadd hX dL_law_1111 (by omega) ?_
  refine j_script hX dL_law_1112 (by omega) ?_
  refine j_al3 hX dL_law_1113 rfl ?_
  refine j_callC (as := [vA 0, vI (sx X (i + 1)), vA 87]) hX gT hR9.1 hR9.2.1 lw_L_194 (wr_inverseOf hlo9 hc hx) rfl (by decide) (by decide) (Nat.le_of_ble_eq_true rfl) rfl hrm dL_law_1114 (fun r V1 hr => ?_)
  obtain ⟨k, rfl, hk⟩ := hr
  show J X (GT (c + 1) (s + 6)) 1117 [vP, vA 0, vA 55, vA 87, vI i, vU, vU, vU, vU] [vI k] V1
  refine j_is5 hX dL_law_1117 rfl ?_
  refine j_al2 hX dL_law_1119 rfl ?_
  refine j_al0 hX dL_law_1120 rfl ?_
  refine j_il4 hX dL_law_1121 ?_
  refine j_iconst hX dL_law_1123 ⟨by decide, by decide⟩ ?_
  refine j_iadd hX dL_law_1124 (by omega) ?_
  refine j_script hX dL_law_1125 (by omega) ?_
  refine j_callV (k := 55) (ci := 12) (T := TX12) (N := 55) (as := [vI (sx X (i + 1))]) hX gT lk_L_196 (hm k V1 hk) ⟨by decide, by decide, rfl⟩ rfl rfl (by omega) (by omega) (Nat.le_of_ble_eq_true rfl) rfl dL_law_1126 (fun r V2 hq => ?_)
  obtain ⟨b, rfl, hq⟩ := hq
  obtain ⟨hth, hout, hJ⟩ := he k V1 b V2 hk hq
  show J X (GT (c + 1) (s + 6)) 1129 [vP, vA 0, vA 55, vA 87, vI i, vI k, vU, vU, vU] [vI b] V2
  refine j_is6 hX dL_law_1129 rfl ?_
  refine j_al2 hX dL_law_1131 rfl ?_
  refine j_callV (k := 55) (ci := 12) (T := TX12) (N := 55) (as := []) hX gT lk_L_114 ok_X12_thrown ⟨by decide, by decide, rfl⟩ rfl rfl (by decide) (by decide) (Nat.le_of_ble_eq_true rfl) rfl dL_law_1132 (fun r V3 hq3 => ?_)
  obtain ⟨x3, rfl, rfl, rfl⟩ := hq3
  show J X (GT (c + 1) (s + 6)) 1135 [vP, vA 0, vA 55, vA 87, vI i, vI k, vI b, vU, vU] [vI (V3 55 0)] V3
  refine j_il5 hX dL_law_1135 ?_
  refine j_icmp_eq (tgt := 1142) hX dL_law_1137 (by decide) (fun _ => ?_) (fun h => absurd hth h)
  refine j_il5 hX dL_law_1142 ?_
  have hend : J X (GT (c + 1) (s + 6)) 1159 [vP, vA 0, vA 55, vA 87, vI i, vI k, vI b, vU, vU] [] V3 := by
    refine j_goto (tgt := 2097) hX dL_law_1159 (by decide) ?_
    refine j_fg5 ?_
    refine j_fg6 ?_
    exact hJ
  refine j_if_ne (tgt := 1159) hX dL_law_1144 (by decide) (fun _ => hend) (fun h0 => ?_)
  refine j_al3 hX dL_law_1147 rfl ?_
  refine j_iconst hX dL_law_1148 ⟨by decide, by decide⟩ ?_
  refine j_lald (n := 1) hX gT ⟨by decide, by decide, rfl, rfl⟩ ⟨by decide, by decide⟩ dL_law_1149 ?_
  refine j_il6 hX dL_law_1150 ?_
  refine j_i2l hX dL_law_1152 ?_
  exact j_lcmp_eq (tgt := 1159) hX dL_law_1153 dL_law_1154 (by decide) (fun _ => hend) (fun h => absurd (hout h0) h)
set_option maxHeartbeats 4000000 in
theorem st_22 {X : Cx} {V : VV} {i : Int} {c s : Nat} {P : Int → VV → Prop} {Q : Int → VV → Int → VV → Prop} {fr1 lo1 fr2 lo2 : Nat} (hX : Good X RL cL_law 9 13 466) (hR9 : LX X) (hi : 0 ≤ i ∧ i + 5 < yLn (cY X)) (h1 : fr1 ≤ 12 ∧ lo1 ≤ 300) (h2 : fr2 ≤ 12 ∧ lo2 ≤ 300)
    (hc : Ok NC yX11_sums cX11_sums 1 (some .int) fr1 lo1 [vA 0] V (pI (P)))
    (hm : ∀ x V1, P x V1 → Ok NA yX12_sums cX12_sums 1 (some .int) fr2 lo2 [vA 55] V1 (pI (Q x V1)))
    (he : ∀ x V1 y V2, P x V1 → Q x V1 y V2 → x = y ∧ J X (GT c s) 2097 [vP, vA 0, vA 55, vA 87, vI i, vU, vU, vU, vU] [] V2) : J X (GT c s) 1162 [vP, vA 0, vA 55, vA 87, vI i, vU, vU, vU, vU] [] V := by
  have hi9 : 0 ≤ i ∧ i + 5 < 3072 := ⟨hi.1, by have := hR9.2.2; omega⟩
  have gC : gOK NC (GT c s) := ⟨(by decide : (55 : Nat) ≤ 88), fun _ _ _ _ => rfl⟩
  refine j_al1 hX dL_law_1162 rfl ?_
  refine j_callV (k := 0) (ci := 11) (T := TX11) (N := 15) (as := []) hX gC lk_L_197 hc ⟨by decide, by decide, rfl⟩ rfl rfl (by omega) (by omega) (Nat.le_of_ble_eq_true rfl) rfl dL_law_1163 (fun r V1 hr => ?_)
  obtain ⟨x, rfl, hp⟩ := hr
  show J X (GT c s) 1166 [vP, vA 0, vA 55, vA 87, vI i, vU, vU, vU, vU] [vI x] V1
  refine j_al2 hX dL_law_1166 rfl ?_
  refine j_callV (k := 55) (ci := 12) (T := TX12) (N := 55) (as := []) hX gT lk_L_200 (hm x V1 hp) ⟨by decide, by decide, rfl⟩ rfl rfl (by omega) (by omega) (Nat.le_of_ble_eq_true rfl) rfl dL_law_1167 (fun r V2 hq => ?_)
  obtain ⟨y, rfl, hq⟩ := hq
  obtain ⟨hxy, hJ⟩ := he x V1 y V2 hp hq
  show J X (GT c s) 1170 [vP, vA 0, vA 55, vA 87, vI i, vU, vU, vU, vU] [vI y, vI x] V2
  exact j_icmp_eq (tgt := 2097) hX dL_law_1170 (by decide) (fun _ => hJ) (fun h => absurd hxy h)
theorem lw_L_201 : lkC RL 201 yL_sum cL_sum 6 (some .int) [(0, 11, 14, 19), (0, 11, 18, 25)] 5 := ⟨(inT6 31 (by decide +kernel) rfl), (inT1 0 (by decide +kernel) rfl), (inT6 33 (by decide +kernel) rfl), (inT6 32 (by decide +kernel) rfl), by decide, by decide, by decide +kernel⟩
set_option maxHeartbeats 4000000 in
theorem st_23 {X : Cx} {V : VV} {i : Int} {c s : Nat} {P : Int → VV → Prop} {XP : String → VV → Prop} {Q : Int → VV → Int → VV → Prop} {lo9 fr2 lo2 : Nat} (hX : Good X RL cL_law 9 13 466) (hR9 : LX X) (hi : 0 ≤ i ∧ i + 5 < yLn (cY X)) (hrm : c + 1 ≤ (cR X).cells ∧ s + 6 ≤ (cR X).slots) (hlo9 : lo9 ≤ 200) (h2 : fr2 ≤ 12 ∧ lo2 ≤ 300)
    (hc : OkX yX11_sum cX11_sum 4 (some .long) 8 lo9 [vA 0, vI (sx X (i + 1)), vI (sx X (i + 2)), vI (sx X (i + 3))] V (pL P) XP) (hx : ∀ E V', XP E V' → E = exB ∨ E = exA)
    (hm : ∀ k V1, ((∃ x V0, P x V0 ∧ V1 = up V0 87 0 x ∧ k = 0) ∨ (XP exB V1 ∧ k = 1) ∨ (XP exA V1 ∧ k = 2)) → Ok NA yX12_sum cX12_sum 4 (some .long) fr2 lo2 [vA 55, vI (sx X (i + 1)), vI (sx X (i + 2)), vI (sx X (i + 3))] V1 (pL (Q k V1)))
    (he : ∀ k V1 b V2, ((∃ x V0, P x V0 ∧ V1 = up V0 87 0 x ∧ k = 0) ∨ (XP exB V1 ∧ k = 1) ∨ (XP exA V1 ∧ k = 2)) → Q k V1 b V2 → V2 55 0 = k ∧ (k = 0 → V2 87 0 = b) ∧ J X (GT (c + 1) (s + 6)) 2097 [vP, vA 0, vA 55, vA 87, vI i, vU, vU, vU, vU] [] V2) : J X (GT c s) 1175 [vP, vA 0, vA 55, vA 87, vI i, vU, vU, vU, vU] [] V := by
  have hi9 : 0 ≤ i ∧ i + 5 < 3072 := ⟨hi.1, by have := hR9.2.2; omega⟩
  refine j_al1 hX dL_law_1175 rfl ?_
  refine j_al0 hX dL_law_1176 rfl ?_
  refine j_il4 hX dL_law_1177 ?_
  refine j_iconst hX dL_law_1179 ⟨by decide, by decide⟩ ?_
  refine j_iadd hX dL_law_1180 (by omega) ?_
  refine j_script hX dL_law_1181 (by omega) ?_
  refine j_al0 hX dL_law_1182 rfl ?_
  refine j_il4 hX dL_law_1183 ?_
  refine j_iconst hX dL_law_1185 ⟨by decide, by decide⟩ ?_
  refine j_iadd hX dL_law_1186 (by omega) ?_
  refine j_script hX dL_law_1187 (by omega) ?_
  refine j_al0 hX dL_law_1188 rfl ?_
  refine j_il4 hX dL_law_1189 ?_
  refine j_iconst hX dL_law_1191 ⟨by decide, by decide⟩ ?_
  refine j_iadd hX dL_law_1192 (by omega) ?_
  refine j_script hX dL_law_1193 (by omega) ?_
  refine j_al3 hX dL_law_1194 rfl ?_
  refine j_callC (as := [vA 0, vI (sx X (i + 1)), vI (sx X (i + 2)), vI (sx X (i + 3)), vA 87]) hX gT hR9.1 hR9.2.1 lw_L_201 (wr_sum hlo9 hc hx) rfl (by decide) (by decide) (Nat.le_of_ble_eq_true rfl) rfl hrm dL_law_1195 (fun r V1 hr => ?_)
  obtain ⟨k, rfl, hk⟩ := hr
  show J X (GT (c + 1) (s + 6)) 1198 [vP, vA 0, vA 55, vA 87, vI i, vU, vU, vU, vU] [vI k] V1
  refine j_is5 hX dL_law_1198 rfl ?_
  refine j_al2 hX dL_law_1200 rfl ?_
  refine j_al0 hX dL_law_1201 rfl ?_
  refine j_il4 hX dL_law_1202 ?_
  refine j_iconst hX dL_law_1204 ⟨by decide, by decide⟩ ?_
  refine j_iadd hX dL_law_1205 (by omega) ?_
  refine j_script hX dL_law_1206 (by omega) ?_
  refine j_al0 hX dL_law_1207 rfl ?_
  refine j_il4 hX dL_law_1208 ?_
  refine j_iconst hX dL_law_1210 ⟨by decide, by decide⟩ ?_
  refine j_iadd hX dL_law_1211 (by omega) ?_
  refine j_script hX dL_law_1212 (by omega) ?_
  refine j_al0 hX dL_law_1213 rfl ?_
  refine j_il4 hX dL_law_1214 ?_
  refine j_iconst hX dL_law_1216 ⟨by decide, by decide⟩ ?_
  refine j_iadd hX dL_law_1217 (by omega) ?_
  refine j_script hX dL_law_1218 (by omega) ?_
  refine j_callV (k := 55) (ci := 12) (T := TX12) (N := 55) (as := [vI (sx X (i + 1)), vI (sx X (i + 2)), vI (sx X (i + 3))]) hX gT lk_L_203 (hm k V1 hk) ⟨by decide, by decide, rfl⟩ rfl rfl (by omega) (by omega) (Nat.le_of_ble_eq_true rfl) rfl dL_law_1219 (fun r V2 hq => ?_)
  obtain ⟨b, rfl, hq⟩ := hq
  obtain ⟨hth, hout, hJ⟩ := he k V1 b V2 hk hq
  show J X (GT (c + 1) (s + 6)) 1222 [vP, vA 0, vA 55, vA 87, vI i, vI k, vU, vU, vU] [vL b] V2
  refine j_ls6 hX dL_law_1222 rfl ?_
  refine j_al2 hX dL_law_1224 rfl ?_
  refine j_callV (k := 55) (ci := 12) (T := TX12) (N := 55) (as := []) hX gT lk_L_114 ok_X12_thrown ⟨by decide, by decide, rfl⟩ rfl rfl (by decide) (by decide) (Nat.le_of_ble_eq_true rfl) rfl dL_law_1225 (fun r V3 hq3 => ?_)
  obtain ⟨x3, rfl, rfl, rfl⟩ := hq3
  show J X (GT (c + 1) (s + 6)) 1228 [vP, vA 0, vA 55, vA 87, vI i, vI k, vL b, vU, vU] [vI (V3 55 0)] V3
  refine j_il5 hX dL_law_1228 ?_
  refine j_icmp_eq (tgt := 1235) hX dL_law_1230 (by decide) (fun _ => ?_) (fun h => absurd hth h)
  refine j_il5 hX dL_law_1235 ?_
  have hend : J X (GT (c + 1) (s + 6)) 1251 [vP, vA 0, vA 55, vA 87, vI i, vI k, vL b, vU, vU] [] V3 := by
    refine j_goto (tgt := 2097) hX dL_law_1251 (by decide) ?_
    refine j_fg5 ?_
    refine j_fg6 ?_
    exact hJ
  refine j_if_ne (tgt := 1251) hX dL_law_1237 (by decide) (fun _ => hend) (fun h0 => ?_)
  refine j_al3 hX dL_law_1240 rfl ?_
  refine j_iconst hX dL_law_1241 ⟨by decide, by decide⟩ ?_
  refine j_lald (n := 1) hX gT ⟨by decide, by decide, rfl, rfl⟩ ⟨by decide, by decide⟩ dL_law_1242 ?_
  refine j_ll6 hX dL_law_1243 ?_
  exact j_lcmp_eq (tgt := 1251) hX dL_law_1245 dL_law_1246 (by decide) (fun _ => hend) (fun h => absurd (hout h0) h)
theorem lw_L_204 : lkC RL 204 yL_value cL_value 5 (some .int) [(0, 9, 12, 19), (0, 9, 16, 25)] 4 := ⟨(inT6 44 (by decide +kernel) rfl), (inT1 0 (by decide +kernel) rfl), (inT6 46 (by decide +kernel) rfl), (inT6 45 (by decide +kernel) rfl), by decide, by decide, by decide +kernel⟩
set_option maxHeartbeats 4000000 in
theorem st_24 {X : Cx} {V : VV} {i : Int} {c s : Nat} {P : Int → VV → Prop} {XP : String → VV → Prop} {Q : Int → VV → Int → VV → Prop} {lo9 fr2 lo2 : Nat} (hX : Good X RL cL_law 9 13 466) (hR9 : LX X) (hi : 0 ≤ i ∧ i + 5 < yLn (cY X)) (hrm : c + 1 ≤ (cR X).cells ∧ s + 6 ≤ (cR X).slots) (hlo9 : lo9 ≤ 200) (h2 : fr2 ≤ 12 ∧ lo2 ≤ 300)
    (hc : OkX yX11_value cX11_value 3 (some .long) 8 lo9 [vA 0, vI (sx X (i + 1)), vI (sx X (i + 2))] V (pL P) XP) (hx : ∀ E V', XP E V' → E = exB ∨ E = exA)
    (hm : ∀ k V1, ((∃ x V0, P x V0 ∧ V1 = up V0 87 0 x ∧ k = 0) ∨ (XP exB V1 ∧ k = 1) ∨ (XP exA V1 ∧ k = 2)) → Ok NA yX12_value cX12_value 11 (some .long) fr2 lo2 [vA 55, vI (sx X (i + 1)), vI (sx X (i + 2))] V1 (pL (Q k V1)))
    (he : ∀ k V1 b V2, ((∃ x V0, P x V0 ∧ V1 = up V0 87 0 x ∧ k = 0) ∨ (XP exB V1 ∧ k = 1) ∨ (XP exA V1 ∧ k = 2)) → Q k V1 b V2 → V2 55 0 = k ∧ (k = 0 → V2 87 0 = b) ∧ J X (GT (c + 1) (s + 6)) 2097 [vP, vA 0, vA 55, vA 87, vI i, vU, vU, vU, vU] [] V2) : J X (GT c s) 1254 [vP, vA 0, vA 55, vA 87, vI i, vU, vU, vU, vU] [] V := by
  have hi9 : 0 ≤ i ∧ i + 5 < 3072 := ⟨hi.1, by have := hR9.2.2; omega⟩
  refine j_al1 hX dL_law_1254 rfl ?_
  refine j_al0 hX dL_law_1255 rfl ?_
  refine j_il4 hX dL_law_1256 ?_
  refine j_iconst hX dL_law_1258 ⟨by decide, by decide⟩ ?_
  refine j_iadd hX dL_law_1259 (by omega) ?_
  refine j_script hX dL_law_1260 (by omega) ?_
  refine j_al0 hX dL_law_1261 rfl ?_
  refine j_il4 hX dL_law_1262 ?_
  refine j_iconst hX dL_law_1264 ⟨by decide, by decide⟩ ?_
  refine j_iadd hX dL_law_1265 (by omega) ?_
  refine j_script hX dL_law_1266 (by omega) ?_
  refine j_al3 hX dL_law_1267 rfl ?_
  refine j_callC (as := [vA 0, vI (sx X (i + 1)), vI (sx X (i + 2)), vA 87]) hX gT hR9.1 hR9.2.1 lw_L_204 (wr_value hlo9 hc hx) rfl (by decide) (by decide) (Nat.le_of_ble_eq_true rfl) rfl hrm dL_law_1268 (fun r V1 hr => ?_)
  obtain ⟨k, rfl, hk⟩ := hr
  show J X (GT (c + 1) (s + 6)) 1271 [vP, vA 0, vA 55, vA 87, vI i, vU, vU, vU, vU] [vI k] V1
  refine j_is5 hX dL_law_1271 rfl ?_
  refine j_al2 hX dL_law_1273 rfl ?_
  refine j_al0 hX dL_law_1274 rfl ?_
  refine j_il4 hX dL_law_1275 ?_
  refine j_iconst hX dL_law_1277 ⟨by decide, by decide⟩ ?_
  refine j_iadd hX dL_law_1278 (by omega) ?_
  refine j_script hX dL_law_1279 (by omega) ?_
  refine j_al0 hX dL_law_1280 rfl ?_
  refine j_il4 hX dL_law_1281 ?_
  refine j_iconst hX dL_law_1283 ⟨by decide, by decide⟩ ?_
  refine j_iadd hX dL_law_1284 (by omega) ?_
  refine j_script hX dL_law_1285 (by omega) ?_
  refine j_callV (k := 55) (ci := 12) (T := TX12) (N := 55) (as := [vI (sx X (i + 1)), vI (sx X (i + 2))]) hX gT lk_L_206 (hm k V1 hk) ⟨by decide, by decide, rfl⟩ rfl rfl (by omega) (by omega) (Nat.le_of_ble_eq_true rfl) rfl dL_law_1286 (fun r V2 hq => ?_)
  obtain ⟨b, rfl, hq⟩ := hq
  obtain ⟨hth, hout, hJ⟩ := he k V1 b V2 hk hq
  show J X (GT (c + 1) (s + 6)) 1289 [vP, vA 0, vA 55, vA 87, vI i, vI k, vU, vU, vU] [vL b] V2
  refine j_ls6 hX dL_law_1289 rfl ?_
  refine j_al2 hX dL_law_1291 rfl ?_
  refine j_callV (k := 55) (ci := 12) (T := TX12) (N := 55) (as := []) hX gT lk_L_114 ok_X12_thrown ⟨by decide, by decide, rfl⟩ rfl rfl (by decide) (by decide) (Nat.le_of_ble_eq_true rfl) rfl dL_law_1292 (fun r V3 hq3 => ?_)
  obtain ⟨x3, rfl, rfl, rfl⟩ := hq3
  show J X (GT (c + 1) (s + 6)) 1295 [vP, vA 0, vA 55, vA 87, vI i, vI k, vL b, vU, vU] [vI (V3 55 0)] V3
  refine j_il5 hX dL_law_1295 ?_
  refine j_icmp_eq (tgt := 1302) hX dL_law_1297 (by decide) (fun _ => ?_) (fun h => absurd hth h)
  refine j_il5 hX dL_law_1302 ?_
  have hend : J X (GT (c + 1) (s + 6)) 1318 [vP, vA 0, vA 55, vA 87, vI i, vI k, vL b, vU, vU] [] V3 := by
    refine j_goto (tgt := 2097) hX dL_law_1318 (by decide) ?_
    refine j_fg5 ?_
    refine j_fg6 ?_
    exact hJ
  refine j_if_ne (tgt := 1318) hX dL_law_1304 (by decide) (fun _ => hend) (fun h0 => ?_)
  refine j_al3 hX dL_law_1307 rfl ?_
  refine j_iconst hX dL_law_1308 ⟨by decide, by decide⟩ ?_
  refine j_lald (n := 1) hX gT ⟨by decide, by decide, rfl, rfl⟩ ⟨by decide, by decide⟩ dL_law_1309 ?_
  refine j_ll6 hX dL_law_1310 ?_
  exact j_lcmp_eq (tgt := 1318) hX dL_law_1312 dL_law_1313 (by decide) (fun _ => hend) (fun h => absurd (hout h0) h)
set_option maxHeartbeats 4000000 in
theorem st_25 {X : Cx} {V : VV} {i : Int} {c s : Nat} {P : Int → VV → Prop} {Q : Int → VV → Int → VV → Prop} {fr1 lo1 fr2 lo2 : Nat} (hX : Good X RL cL_law 9 13 466) (hR9 : LX X) (hi : 0 ≤ i ∧ i + 5 < yLn (cY X)) (h1 : fr1 ≤ 12 ∧ lo1 ≤ 300) (h2 : fr2 ≤ 12 ∧ lo2 ≤ 300)
    (hc : Ok NC yX11_size cX11_size 1 (some .int) fr1 lo1 [vA 0] V (pI (P)))
    (hm : ∀ x V1, P x V1 → Ok NA yX12_size cX12_size 1 (some .int) fr2 lo2 [vA 55] V1 (pI (Q x V1)))
    (he : ∀ x V1 y V2, P x V1 → Q x V1 y V2 → x = y ∧ J X (GT c s) 2097 [vP, vA 0, vA 55, vA 87, vI i, vU, vU, vU, vU] [] V2) : J X (GT c s) 1321 [vP, vA 0, vA 55, vA 87, vI i, vU, vU, vU, vU] [] V := by
  have hi9 : 0 ≤ i ∧ i + 5 < 3072 := ⟨hi.1, by have := hR9.2.2; omega⟩
  have gC : gOK NC (GT c s) := ⟨(by decide : (55 : Nat) ≤ 88), fun _ _ _ _ => rfl⟩
  refine j_al1 hX dL_law_1321 rfl ?_
  refine j_callV (k := 0) (ci := 11) (T := TX11) (N := 15) (as := []) hX gC lk_L_207 hc ⟨by decide, by decide, rfl⟩ rfl rfl (by omega) (by omega) (Nat.le_of_ble_eq_true rfl) rfl dL_law_1322 (fun r V1 hr => ?_)
  obtain ⟨x, rfl, hp⟩ := hr
  show J X (GT c s) 1325 [vP, vA 0, vA 55, vA 87, vI i, vU, vU, vU, vU] [vI x] V1
  refine j_al2 hX dL_law_1325 rfl ?_
  refine j_callV (k := 55) (ci := 12) (T := TX12) (N := 55) (as := []) hX gT lk_L_210 (hm x V1 hp) ⟨by decide, by decide, rfl⟩ rfl rfl (by omega) (by omega) (Nat.le_of_ble_eq_true rfl) rfl dL_law_1326 (fun r V2 hq => ?_)
  obtain ⟨y, rfl, hq⟩ := hq
  obtain ⟨hxy, hJ⟩ := he x V1 y V2 hp hq
  show J X (GT c s) 1329 [vP, vA 0, vA 55, vA 87, vI i, vU, vU, vU, vU] [vI y, vI x] V2
  exact j_icmp_eq (tgt := 2097) hX dL_law_1329 (by decide) (fun _ => hJ) (fun h => absurd hxy h)
theorem lw_L_211 : lkC RL 211 yL_cell cL_cell 4 (some .int) [(0, 9, 12, 19)] 3 := ⟨(inT6 58 (by decide +kernel) rfl), (inT1 0 (by decide +kernel) rfl), (inT6 60 (by decide +kernel) rfl), (inT6 59 (by decide +kernel) rfl), by decide, by decide, by decide +kernel⟩
set_option maxHeartbeats 4000000 in
theorem st_26 {X : Cx} {V : VV} {i : Int} {c s : Nat} {P : Int → VV → Prop} {XP : String → VV → Prop} {Q : Int → VV → Int → VV → Prop} {lo9 fr2 lo2 : Nat} (hX : Good X RL cL_law 9 13 466) (hR9 : LX X) (hi : 0 ≤ i ∧ i + 5 < yLn (cY X)) (hrm : c + 1 ≤ (cR X).cells ∧ s + 6 ≤ (cR X).slots) (hlo9 : lo9 ≤ 200) (h2 : fr2 ≤ 12 ∧ lo2 ≤ 300)
    (hc : OkX yX11_cell cX11_cell 2 (some .int) 8 lo9 [vA 0, vI (sx X (i + 1))] V (pI P) XP) (hx : ∀ E V', XP E V' → E = exB)
    (hm : ∀ k V1, ((∃ x V0, P x V0 ∧ V1 = up V0 87 0 x ∧ k = 0) ∨ (XP exB V1 ∧ k = 1)) → Ok NA yX12_cell cX12_cell 2 (some .int) fr2 lo2 [vA 55, vI (sx X (i + 1))] V1 (pI (Q k V1)))
    (he : ∀ k V1 b V2, ((∃ x V0, P x V0 ∧ V1 = up V0 87 0 x ∧ k = 0) ∨ (XP exB V1 ∧ k = 1)) → Q k V1 b V2 → V2 55 0 = k ∧ (k = 0 → V2 87 0 = b) ∧ J X (GT (c + 1) (s + 6)) 2097 [vP, vA 0, vA 55, vA 87, vI i, vU, vU, vU, vU] [] V2) : J X (GT c s) 1334 [vP, vA 0, vA 55, vA 87, vI i, vU, vU, vU, vU] [] V := by
  have hi9 : 0 ≤ i ∧ i + 5 < 3072 := ⟨hi.1, by have := hR9.2.2; omega⟩
  refine j_al1 hX dL_law_1334 rfl ?_
  refine j_al0 hX dL_law_1335 rfl ?_
  refine j_il4 hX dL_law_1336 ?_
  refine j_iconst hX dL_law_1338 ⟨by decide, by decide⟩ ?_
  refine j_iadd hX dL_law_1339 (by omega) ?_
  refine j_script hX dL_law_1340 (by omega) ?_
  refine j_al3 hX dL_law_1341 rfl ?_
  refine j_callC (as := [vA 0, vI (sx X (i + 1)), vA 87]) hX gT hR9.1 hR9.2.1 lw_L_211 (wr_cell hlo9 hc hx) rfl (by decide) (by decide) (Nat.le_of_ble_eq_true rfl) rfl hrm dL_law_1342 (fun r V1 hr => ?_)
  obtain ⟨k, rfl, hk⟩ := hr
  show J X (GT (c + 1) (s + 6)) 1345 [vP, vA 0, vA 55, vA 87, vI i, vU, vU, vU, vU] [vI k] V1
  refine j_is5 hX dL_law_1345 rfl ?_
  refine j_al2 hX dL_law_1347 rfl ?_
  refine j_al0 hX dL_law_1348 rfl ?_
  refine j_il4 hX dL_law_1349 ?_
  refine j_iconst hX dL_law_1351 ⟨by decide, by decide⟩ ?_
  refine j_iadd hX dL_law_1352 (by omega) ?_
  refine j_script hX dL_law_1353 (by omega) ?_
  refine j_callV (k := 55) (ci := 12) (T := TX12) (N := 55) (as := [vI (sx X (i + 1))]) hX gT lk_L_213 (hm k V1 hk) ⟨by decide, by decide, rfl⟩ rfl rfl (by omega) (by omega) (Nat.le_of_ble_eq_true rfl) rfl dL_law_1354 (fun r V2 hq => ?_)
  obtain ⟨b, rfl, hq⟩ := hq
  obtain ⟨hth, hout, hJ⟩ := he k V1 b V2 hk hq
  show J X (GT (c + 1) (s + 6)) 1357 [vP, vA 0, vA 55, vA 87, vI i, vI k, vU, vU, vU] [vI b] V2
  refine j_is6 hX dL_law_1357 rfl ?_
  refine j_al2 hX dL_law_1359 rfl ?_
  refine j_callV (k := 55) (ci := 12) (T := TX12) (N := 55) (as := []) hX gT lk_L_114 ok_X12_thrown ⟨by decide, by decide, rfl⟩ rfl rfl (by decide) (by decide) (Nat.le_of_ble_eq_true rfl) rfl dL_law_1360 (fun r V3 hq3 => ?_)
  obtain ⟨x3, rfl, rfl, rfl⟩ := hq3
  show J X (GT (c + 1) (s + 6)) 1363 [vP, vA 0, vA 55, vA 87, vI i, vI k, vI b, vU, vU] [vI (V3 55 0)] V3
  refine j_il5 hX dL_law_1363 ?_
  refine j_icmp_eq (tgt := 1370) hX dL_law_1365 (by decide) (fun _ => ?_) (fun h => absurd hth h)
  refine j_il5 hX dL_law_1370 ?_
  have hend : J X (GT (c + 1) (s + 6)) 1387 [vP, vA 0, vA 55, vA 87, vI i, vI k, vI b, vU, vU] [] V3 := by
    refine j_goto (tgt := 2097) hX dL_law_1387 (by decide) ?_
    refine j_fg5 ?_
    refine j_fg6 ?_
    exact hJ
  refine j_if_ne (tgt := 1387) hX dL_law_1372 (by decide) (fun _ => hend) (fun h0 => ?_)
  refine j_al3 hX dL_law_1375 rfl ?_
  refine j_iconst hX dL_law_1376 ⟨by decide, by decide⟩ ?_
  refine j_lald (n := 1) hX gT ⟨by decide, by decide, rfl, rfl⟩ ⟨by decide, by decide⟩ dL_law_1377 ?_
  refine j_il6 hX dL_law_1378 ?_
  refine j_i2l hX dL_law_1380 ?_
  exact j_lcmp_eq (tgt := 1387) hX dL_law_1381 dL_law_1382 (by decide) (fun _ => hend) (fun h => absurd (hout h0) h)
set_option maxHeartbeats 4000000 in
theorem st_27 {X : Cx} {V : VV} {i : Int} {c s : Nat} {P : Int → VV → Prop} {Q : Int → VV → Int → VV → Prop} {fr1 lo1 fr2 lo2 : Nat} (hX : Good X RL cL_law 9 13 466) (hR9 : LX X) (hi : 0 ≤ i ∧ i + 5 < yLn (cY X)) (h1 : fr1 ≤ 12 ∧ lo1 ≤ 300) (h2 : fr2 ≤ 12 ∧ lo2 ≤ 300)
    (hc : Ok NC yX11_total cX11_total 1 (some .int) fr1 lo1 [vA 0] V (pI (P)))
    (hm : ∀ x V1, P x V1 → Ok NA yX12_total cX12_total 1 (some .int) fr2 lo2 [vA 55] V1 (pI (Q x V1)))
    (he : ∀ x V1 y V2, P x V1 → Q x V1 y V2 → x = y ∧ J X (GT c s) 2097 [vP, vA 0, vA 55, vA 87, vI i, vU, vU, vU, vU] [] V2) : J X (GT c s) 1390 [vP, vA 0, vA 55, vA 87, vI i, vU, vU, vU, vU] [] V := by
  have hi9 : 0 ≤ i ∧ i + 5 < 3072 := ⟨hi.1, by have := hR9.2.2; omega⟩
  have gC : gOK NC (GT c s) := ⟨(by decide : (55 : Nat) ≤ 88), fun _ _ _ _ => rfl⟩
  refine j_al1 hX dL_law_1390 rfl ?_
  refine j_callV (k := 0) (ci := 11) (T := TX11) (N := 15) (as := []) hX gC lk_L_214 hc ⟨by decide, by decide, rfl⟩ rfl rfl (by omega) (by omega) (Nat.le_of_ble_eq_true rfl) rfl dL_law_1391 (fun r V1 hr => ?_)
  obtain ⟨x, rfl, hp⟩ := hr
  show J X (GT c s) 1394 [vP, vA 0, vA 55, vA 87, vI i, vU, vU, vU, vU] [vI x] V1
  refine j_al2 hX dL_law_1394 rfl ?_
  refine j_callV (k := 55) (ci := 12) (T := TX12) (N := 55) (as := []) hX gT lk_L_217 (hm x V1 hp) ⟨by decide, by decide, rfl⟩ rfl rfl (by omega) (by omega) (Nat.le_of_ble_eq_true rfl) rfl dL_law_1395 (fun r V2 hq => ?_)
  obtain ⟨y, rfl, hq⟩ := hq
  obtain ⟨hxy, hJ⟩ := he x V1 y V2 hp hq
  show J X (GT c s) 1398 [vP, vA 0, vA 55, vA 87, vI i, vU, vU, vU, vU] [vI y, vI x] V2
  exact j_icmp_eq (tgt := 2097) hX dL_law_1398 (by decide) (fun _ => hJ) (fun h => absurd hxy h)
set_option maxHeartbeats 4000000 in
theorem st_28 {X : Cx} {V : VV} {i : Int} {c s : Nat} {P : Int → VV → Prop} {Q : Int → VV → Int → VV → Prop} {fr1 lo1 fr2 lo2 : Nat} (hX : Good X RL cL_law 9 13 466) (hR9 : LX X) (hi : 0 ≤ i ∧ i + 5 < yLn (cY X)) (h1 : fr1 ≤ 12 ∧ lo1 ≤ 300) (h2 : fr2 ≤ 12 ∧ lo2 ≤ 300)
    (hc : Ok NC yX11_density cX11_density 1 (some .double) fr1 lo1 [vA 0] V (pD (P)))
    (hm : ∀ x V1, P x V1 → Ok NA yX12_density cX12_density 3 (some .double) fr2 lo2 [vA 55] V1 (pD (Q x V1)))
    (he : ∀ x V1 y V2, P x V1 → Q x V1 y V2 → x = y ∧ J X (GT c s) 2097 [vP, vA 0, vA 55, vA 87, vI i, vU, vU, vU, vU] [] V2) : J X (GT c s) 1403 [vP, vA 0, vA 55, vA 87, vI i, vU, vU, vU, vU] [] V := by
  have hi9 : 0 ≤ i ∧ i + 5 < 3072 := ⟨hi.1, by have := hR9.2.2; omega⟩
  have gC : gOK NC (GT c s) := ⟨(by decide : (55 : Nat) ≤ 88), fun _ _ _ _ => rfl⟩
  refine j_al1 hX dL_law_1403 rfl ?_
  refine j_callV (k := 0) (ci := 11) (T := TX11) (N := 15) (as := []) hX gC lk_L_218 hc ⟨by decide, by decide, rfl⟩ rfl rfl (by omega) (by omega) (Nat.le_of_ble_eq_true rfl) rfl dL_law_1404 (fun r V1 hr => ?_)
  obtain ⟨x, rfl, hp⟩ := hr
  show J X (GT c s) 1407 [vP, vA 0, vA 55, vA 87, vI i, vU, vU, vU, vU] [vD x] V1
  refine j_ds5 hX dL_law_1407 rfl ?_
  show J X (GT c s) 1409 [vP, vA 0, vA 55, vA 87, vI i, vD x, vU, vU, vU] [] V1
  refine j_al2 hX dL_law_1409 rfl ?_
  refine j_callV (k := 55) (ci := 12) (T := TX12) (N := 55) (as := []) hX gT lk_L_222 (hm x V1 hp) ⟨by decide, by decide, rfl⟩ rfl rfl (by omega) (by omega) (Nat.le_of_ble_eq_true rfl) rfl dL_law_1410 (fun r V2 hq => ?_)
  obtain ⟨y, rfl, hq⟩ := hq
  obtain ⟨hxy, hJ⟩ := he x V1 y V2 hp hq
  subst hxy
  show J X (GT c s) 1413 [vP, vA 0, vA 55, vA 87, vI i, vD x, vU, vU, vU] [vD x] V2
  refine j_ds7 hX dL_law_1413 rfl ?_
  show J X (GT c s) 1415 [vP, vA 0, vA 55, vA 87, vI i, vD x, vU, vD x, vU] [] V2
  have hend : J X (GT c s) 1441 [vP, vA 0, vA 55, vA 87, vI i, vD x, vU, vD x, vU] [] V2 := by
    refine j_goto (tgt := 2097) hX dL_law_1441 (by decide) ?_
    refine j_fg5 ?_
    refine j_fg7 ?_
    exact hJ
  refine j_dload hX dL_law_1415 rfl ?_
  refine j_dload hX dL_law_1417 rfl ?_
  refine j_dcmpS hX dL_law_1419 ?_
  refine j_if_eq (tgt := 1441) hX dL_law_1420 (by decide) (fun _ => hend) (fun h => ?_)
  refine j_dload hX dL_law_1423 rfl ?_
  refine j_dload hX dL_law_1425 rfl ?_
  refine j_dcmpS hX dL_law_1427 ?_
  refine j_if_eq (tgt := 1439) hX dL_law_1428 (by decide) (fun h3 => absurd h3 h) (fun _ => ?_)
  refine j_dload hX dL_law_1431 rfl ?_
  refine j_dload hX dL_law_1433 rfl ?_
  refine j_dcmpS hX dL_law_1435 ?_
  exact j_if_ne (tgt := 1441) hX dL_law_1436 (by decide) (fun _ => hend) (fun h3 => absurd h3 h)
set_option maxHeartbeats 4000000 in
theorem st_29 {X : Cx} {V : VV} {i : Int} {c s : Nat} {P : Int → VV → Prop} {Q : Int → VV → Int → VV → Prop} {fr1 lo1 fr2 lo2 : Nat} (hX : Good X RL cL_law 9 13 466) (hR9 : LX X) (hi : 0 ≤ i ∧ i + 5 < yLn (cY X)) (h1 : fr1 ≤ 12 ∧ lo1 ≤ 300) (h2 : fr2 ≤ 12 ∧ lo2 ≤ 300)
    (hc : Ok NC yX11_preimages cX11_preimages 1 (some .long) fr1 lo1 [vA 0] V (pL (P)))
    (hm : ∀ x V1, P x V1 → Ok NA yX12_preimages cX12_preimages 1 (some .long) fr2 lo2 [vA 55] V1 (pL (Q x V1)))
    (he : ∀ x V1 y V2, P x V1 → Q x V1 y V2 → x = y ∧ J X (GT c s) 2097 [vP, vA 0, vA 55, vA 87, vI i, vU, vU, vU, vU] [] V2) : J X (GT c s) 1444 [vP, vA 0, vA 55, vA 87, vI i, vU, vU, vU, vU] [] V := by
  have hi9 : 0 ≤ i ∧ i + 5 < 3072 := ⟨hi.1, by have := hR9.2.2; omega⟩
  have gC : gOK NC (GT c s) := ⟨(by decide : (55 : Nat) ≤ 88), fun _ _ _ _ => rfl⟩
  refine j_al1 hX dL_law_1444 rfl ?_
  refine j_callV (k := 0) (ci := 11) (T := TX11) (N := 15) (as := []) hX gC lk_L_223 hc ⟨by decide, by decide, rfl⟩ rfl rfl (by omega) (by omega) (Nat.le_of_ble_eq_true rfl) rfl dL_law_1445 (fun r V1 hr => ?_)
  obtain ⟨x, rfl, hp⟩ := hr
  show J X (GT c s) 1448 [vP, vA 0, vA 55, vA 87, vI i, vU, vU, vU, vU] [vL x] V1
  refine j_al2 hX dL_law_1448 rfl ?_
  refine j_callV (k := 55) (ci := 12) (T := TX12) (N := 55) (as := []) hX gT lk_L_227 (hm x V1 hp) ⟨by decide, by decide, rfl⟩ rfl rfl (by omega) (by omega) (Nat.le_of_ble_eq_true rfl) rfl dL_law_1449 (fun r V2 hq => ?_)
  obtain ⟨y, rfl, hq⟩ := hq
  obtain ⟨hxy, hJ⟩ := he x V1 y V2 hp hq
  show J X (GT c s) 1452 [vP, vA 0, vA 55, vA 87, vI i, vU, vU, vU, vU] [vL y, vL x] V2
  exact j_lcmp_eq (tgt := 2097) hX dL_law_1452 dL_law_1453 (by decide) (fun _ => hJ) (fun h => absurd hxy h)
theorem lw_L_228 : lkC RL 228 yL_preimage cL_preimage 4 (some .int) [(0, 9, 12, 19), (0, 9, 15, 51)] 3 := ⟨(inT6 70 (by decide +kernel) rfl), (inT1 0 (by decide +kernel) rfl), (inT6 72 (by decide +kernel) rfl), (inT6 71 (by decide +kernel) rfl), by decide, by decide, by decide +kernel⟩
set_option maxHeartbeats 4000000 in
theorem st_30 {X : Cx} {V : VV} {i : Int} {c s : Nat} {P : Int → VV → Prop} {XP : String → VV → Prop} {Q : Int → VV → Int → VV → Prop} {lo9 fr2 lo2 : Nat} (hX : Good X RL cL_law 9 13 466) (hR9 : LX X) (hi : 0 ≤ i ∧ i + 5 < yLn (cY X)) (hrm : c + 1 ≤ (cR X).cells ∧ s + 6 ≤ (cR X).slots) (hlo9 : lo9 ≤ 200) (h2 : fr2 ≤ 12 ∧ lo2 ≤ 300)
    (hc : OkX yX11_preimage cX11_preimage 2 (some .int) 8 lo9 [vA 0, vI (sx X (i + 1))] V (pI P) XP) (hx : ∀ E V', XP E V' → E = exB ∨ E = exN)
    (hm : ∀ k V1, ((∃ x V0, P x V0 ∧ V1 = up V0 87 0 x ∧ k = 0) ∨ (XP exB V1 ∧ k = 1) ∨ (XP exN V1 ∧ k = 2)) → Ok NA yX12_preimage cX12_preimage 3 (some .int) fr2 lo2 [vA 55, vI (sx X (i + 1))] V1 (pI (Q k V1)))
    (he : ∀ k V1 b V2, ((∃ x V0, P x V0 ∧ V1 = up V0 87 0 x ∧ k = 0) ∨ (XP exB V1 ∧ k = 1) ∨ (XP exN V1 ∧ k = 2)) → Q k V1 b V2 → V2 55 0 = k ∧ (k = 0 → V2 87 0 = b) ∧ J X (GT (c + 1) (s + 6)) 2097 [vP, vA 0, vA 55, vA 87, vI i, vU, vU, vU, vU] [] V2) : J X (GT c s) 1458 [vP, vA 0, vA 55, vA 87, vI i, vU, vU, vU, vU] [] V := by
  have hi9 : 0 ≤ i ∧ i + 5 < 3072 := ⟨hi.1, by have := hR9.2.2; omega⟩
  refine j_al1 hX dL_law_1458 rfl ?_
  refine j_al0 hX dL_law_1459 rfl ?_
  refine j_il4 hX dL_law_1460 ?_
  refine j_iconst hX dL_law_1462 ⟨by decide, by decide⟩ ?_
  refine j_iadd hX dL_law_1463 (by omega) ?_
  refine j_script hX dL_law_1464 (by omega) ?_
  refine j_al3 hX dL_law_1465 rfl ?_
  refine j_callC (as := [vA 0, vI (sx X (i + 1)), vA 87]) hX gT hR9.1 hR9.2.1 lw_L_228 (wr_preimage hlo9 hc hx) rfl (by decide) (by decide) (Nat.le_of_ble_eq_true rfl) rfl hrm dL_law_1466 (fun r V1 hr => ?_)
  obtain ⟨k, rfl, hk⟩ := hr
  show J X (GT (c + 1) (s + 6)) 1469 [vP, vA 0, vA 55, vA 87, vI i, vU, vU, vU, vU] [vI k] V1
  refine j_is5 hX dL_law_1469 rfl ?_
  refine j_al2 hX dL_law_1471 rfl ?_
  refine j_al0 hX dL_law_1472 rfl ?_
  refine j_il4 hX dL_law_1473 ?_
  refine j_iconst hX dL_law_1475 ⟨by decide, by decide⟩ ?_
  refine j_iadd hX dL_law_1476 (by omega) ?_
  refine j_script hX dL_law_1477 (by omega) ?_
  refine j_callV (k := 55) (ci := 12) (T := TX12) (N := 55) (as := [vI (sx X (i + 1))]) hX gT lk_L_230 (hm k V1 hk) ⟨by decide, by decide, rfl⟩ rfl rfl (by omega) (by omega) (Nat.le_of_ble_eq_true rfl) rfl dL_law_1478 (fun r V2 hq => ?_)
  obtain ⟨b, rfl, hq⟩ := hq
  obtain ⟨hth, hout, hJ⟩ := he k V1 b V2 hk hq
  show J X (GT (c + 1) (s + 6)) 1481 [vP, vA 0, vA 55, vA 87, vI i, vI k, vU, vU, vU] [vI b] V2
  refine j_is6 hX dL_law_1481 rfl ?_
  refine j_al2 hX dL_law_1483 rfl ?_
  refine j_callV (k := 55) (ci := 12) (T := TX12) (N := 55) (as := []) hX gT lk_L_114 ok_X12_thrown ⟨by decide, by decide, rfl⟩ rfl rfl (by decide) (by decide) (Nat.le_of_ble_eq_true rfl) rfl dL_law_1484 (fun r V3 hq3 => ?_)
  obtain ⟨x3, rfl, rfl, rfl⟩ := hq3
  show J X (GT (c + 1) (s + 6)) 1487 [vP, vA 0, vA 55, vA 87, vI i, vI k, vI b, vU, vU] [vI (V3 55 0)] V3
  refine j_il5 hX dL_law_1487 ?_
  refine j_icmp_eq (tgt := 1494) hX dL_law_1489 (by decide) (fun _ => ?_) (fun h => absurd hth h)
  refine j_il5 hX dL_law_1494 ?_
  have hend : J X (GT (c + 1) (s + 6)) 1511 [vP, vA 0, vA 55, vA 87, vI i, vI k, vI b, vU, vU] [] V3 := by
    refine j_goto (tgt := 2097) hX dL_law_1511 (by decide) ?_
    refine j_fg5 ?_
    refine j_fg6 ?_
    exact hJ
  refine j_if_ne (tgt := 1511) hX dL_law_1496 (by decide) (fun _ => hend) (fun h0 => ?_)
  refine j_al3 hX dL_law_1499 rfl ?_
  refine j_iconst hX dL_law_1500 ⟨by decide, by decide⟩ ?_
  refine j_lald (n := 1) hX gT ⟨by decide, by decide, rfl, rfl⟩ ⟨by decide, by decide⟩ dL_law_1501 ?_
  refine j_il6 hX dL_law_1502 ?_
  refine j_i2l hX dL_law_1504 ?_
  exact j_lcmp_eq (tgt := 1511) hX dL_law_1505 dL_law_1506 (by decide) (fun _ => hend) (fun h => absurd (hout h0) h)
theorem lw_L_231 : lkC RL 231 yL_cycle cL_cycle 4 (some .int) [(0, 9, 12, 25), (0, 9, 15, 51)] 3 := ⟨(inT6 95 (by decide +kernel) rfl), (inT1 0 (by decide +kernel) rfl), (inT6 97 (by decide +kernel) rfl), (inT6 96 (by decide +kernel) rfl), by decide, by decide, by decide +kernel⟩
set_option maxHeartbeats 4000000 in
theorem st_31 {X : Cx} {V : VV} {i : Int} {c s : Nat} {P : Int → VV → Prop} {XP : String → VV → Prop} {Q : Int → VV → Int → VV → Prop} {lo9 fr2 lo2 : Nat} (hX : Good X RL cL_law 9 13 466) (hR9 : LX X) (hi : 0 ≤ i ∧ i + 5 < yLn (cY X)) (hrm : c + 1 ≤ (cR X).cells ∧ s + 6 ≤ (cR X).slots) (hlo9 : lo9 ≤ 200) (h2 : fr2 ≤ 12 ∧ lo2 ≤ 300)
    (hc : OkX yX11_cycle cX11_cycle 2 (some .int) 8 lo9 [vA 0, vI (sx X (i + 1))] V (pI P) XP) (hx : ∀ E V', XP E V' → E = exA ∨ E = exN)
    (hm : ∀ k V1, ((∃ x V0, P x V0 ∧ V1 = up V0 87 0 x ∧ k = 0) ∨ (XP exA V1 ∧ k = 1) ∨ (XP exN V1 ∧ k = 2)) → Ok NA yX12_cycle cX12_cycle 5 (some .int) fr2 lo2 [vA 55, vI (sx X (i + 1))] V1 (pI (Q k V1)))
    (he : ∀ k V1 b V2, ((∃ x V0, P x V0 ∧ V1 = up V0 87 0 x ∧ k = 0) ∨ (XP exA V1 ∧ k = 1) ∨ (XP exN V1 ∧ k = 2)) → Q k V1 b V2 → V2 55 0 = k ∧ (k = 0 → V2 87 0 = b) ∧ J X (GT (c + 1) (s + 6)) 2097 [vP, vA 0, vA 55, vA 87, vI i, vU, vU, vU, vU] [] V2) : J X (GT c s) 1514 [vP, vA 0, vA 55, vA 87, vI i, vU, vU, vU, vU] [] V := by
  have hi9 : 0 ≤ i ∧ i + 5 < 3072 := ⟨hi.1, by have := hR9.2.2; omega⟩
  refine j_al1 hX dL_law_1514 rfl ?_
  refine j_al0 hX dL_law_1515 rfl ?_
  refine j_il4 hX dL_law_1516 ?_
  refine j_iconst hX dL_law_1518 ⟨by decide, by decide⟩ ?_
  refine j_iadd hX dL_law_1519 (by omega) ?_
  refine j_script hX dL_law_1520 (by omega) ?_
  refine j_al3 hX dL_law_1521 rfl ?_
  refine j_callC (as := [vA 0, vI (sx X (i + 1)), vA 87]) hX gT hR9.1 hR9.2.1 lw_L_231 (wr_cycle hlo9 hc hx) rfl (by decide) (by decide) (Nat.le_of_ble_eq_true rfl) rfl hrm dL_law_1522 (fun r V1 hr => ?_)
  obtain ⟨k, rfl, hk⟩ := hr
  show J X (GT (c + 1) (s + 6)) 1525 [vP, vA 0, vA 55, vA 87, vI i, vU, vU, vU, vU] [vI k] V1
  refine j_is5 hX dL_law_1525 rfl ?_
  refine j_al2 hX dL_law_1527 rfl ?_
  refine j_al0 hX dL_law_1528 rfl ?_
  refine j_il4 hX dL_law_1529 ?_
  refine j_iconst hX dL_law_1531 ⟨by decide, by decide⟩ ?_
  refine j_iadd hX dL_law_1532 (by omega) ?_
  refine j_script hX dL_law_1533 (by omega) ?_
  refine j_callV (k := 55) (ci := 12) (T := TX12) (N := 55) (as := [vI (sx X (i + 1))]) hX gT lk_L_233 (hm k V1 hk) ⟨by decide, by decide, rfl⟩ rfl rfl (by omega) (by omega) (Nat.le_of_ble_eq_true rfl) rfl dL_law_1534 (fun r V2 hq => ?_)
  obtain ⟨b, rfl, hq⟩ := hq
  obtain ⟨hth, hout, hJ⟩ := he k V1 b V2 hk hq
  show J X (GT (c + 1) (s + 6)) 1537 [vP, vA 0, vA 55, vA 87, vI i, vI k, vU, vU, vU] [vI b] V2
  refine j_is6 hX dL_law_1537 rfl ?_
  refine j_al2 hX dL_law_1539 rfl ?_
  refine j_callV (k := 55) (ci := 12) (T := TX12) (N := 55) (as := []) hX gT lk_L_114 ok_X12_thrown ⟨by decide, by decide, rfl⟩ rfl rfl (by decide) (by decide) (Nat.le_of_ble_eq_true rfl) rfl dL_law_1540 (fun r V3 hq3 => ?_)
  obtain ⟨x3, rfl, rfl, rfl⟩ := hq3
  show J X (GT (c + 1) (s + 6)) 1543 [vP, vA 0, vA 55, vA 87, vI i, vI k, vI b, vU, vU] [vI (V3 55 0)] V3
  refine j_il5 hX dL_law_1543 ?_
  refine j_icmp_eq (tgt := 1550) hX dL_law_1545 (by decide) (fun _ => ?_) (fun h => absurd hth h)
  refine j_il5 hX dL_law_1550 ?_
  have hend : J X (GT (c + 1) (s + 6)) 1567 [vP, vA 0, vA 55, vA 87, vI i, vI k, vI b, vU, vU] [] V3 := by
    refine j_goto (tgt := 2097) hX dL_law_1567 (by decide) ?_
    refine j_fg5 ?_
    refine j_fg6 ?_
    exact hJ
  refine j_if_ne (tgt := 1567) hX dL_law_1552 (by decide) (fun _ => hend) (fun h0 => ?_)
  refine j_al3 hX dL_law_1555 rfl ?_
  refine j_iconst hX dL_law_1556 ⟨by decide, by decide⟩ ?_
  refine j_lald (n := 1) hX gT ⟨by decide, by decide, rfl, rfl⟩ ⟨by decide, by decide⟩ dL_law_1557 ?_
  refine j_il6 hX dL_law_1558 ?_
  refine j_i2l hX dL_law_1560 ?_
  exact j_lcmp_eq (tgt := 1567) hX dL_law_1561 dL_law_1562 (by decide) (fun _ => hend) (fun h => absurd (hout h0) h)
theorem lw_L_234 : lkC RL 234 yL_fixed cL_fixed 4 (some .int) [(0, 8, 11, 25)] 3 := ⟨(inT6 130 (by decide +kernel) rfl), (inT1 0 (by decide +kernel) rfl), (inT6 132 (by decide +kernel) rfl), (inT6 131 (by decide +kernel) rfl), by decide, by decide, by decide +kernel⟩
set_option maxHeartbeats 4000000 in
theorem st_32 {X : Cx} {V : VV} {i : Int} {c s : Nat} {P : Int → VV → Prop} {XP : String → VV → Prop} {Q : Int → VV → Int → VV → Prop} {lo9 fr2 lo2 : Nat} (hX : Good X RL cL_law 9 13 466) (hR9 : LX X) (hi : 0 ≤ i ∧ i + 5 < yLn (cY X)) (hrm : c + 1 ≤ (cR X).cells ∧ s + 6 ≤ (cR X).slots) (hlo9 : lo9 ≤ 200) (h2 : fr2 ≤ 12 ∧ lo2 ≤ 300)
    (hc : OkX yX11_fixed cX11_fixed 2 (some .long) 8 lo9 [vA 0, vI (sx X (i + 1))] V (pL P) XP) (hx : ∀ E V', XP E V' → E = exA)
    (hm : ∀ k V1, ((∃ x V0, P x V0 ∧ V1 = up V0 87 0 x ∧ k = 0) ∨ (XP exA V1 ∧ k = 1)) → Ok NA yX12_fixed cX12_fixed 2 (some .long) fr2 lo2 [vA 55, vI (sx X (i + 1))] V1 (pL (Q k V1)))
    (he : ∀ k V1 b V2, ((∃ x V0, P x V0 ∧ V1 = up V0 87 0 x ∧ k = 0) ∨ (XP exA V1 ∧ k = 1)) → Q k V1 b V2 → V2 55 0 = k ∧ (k = 0 → V2 87 0 = b) ∧ J X (GT (c + 1) (s + 6)) 2097 [vP, vA 0, vA 55, vA 87, vI i, vU, vU, vU, vU] [] V2) : J X (GT c s) 1570 [vP, vA 0, vA 55, vA 87, vI i, vU, vU, vU, vU] [] V := by
  have hi9 : 0 ≤ i ∧ i + 5 < 3072 := ⟨hi.1, by have := hR9.2.2; omega⟩
  refine j_al1 hX dL_law_1570 rfl ?_
  refine j_al0 hX dL_law_1571 rfl ?_
  refine j_il4 hX dL_law_1572 ?_
  refine j_iconst hX dL_law_1574 ⟨by decide, by decide⟩ ?_
  refine j_iadd hX dL_law_1575 (by omega) ?_
  refine j_script hX dL_law_1576 (by omega) ?_
  refine j_al3 hX dL_law_1577 rfl ?_
  refine j_callC (as := [vA 0, vI (sx X (i + 1)), vA 87]) hX gT hR9.1 hR9.2.1 lw_L_234 (wr_fixed hlo9 hc hx) rfl (by decide) (by decide) (Nat.le_of_ble_eq_true rfl) rfl hrm dL_law_1578 (fun r V1 hr => ?_)
  obtain ⟨k, rfl, hk⟩ := hr
  show J X (GT (c + 1) (s + 6)) 1581 [vP, vA 0, vA 55, vA 87, vI i, vU, vU, vU, vU] [vI k] V1
  refine j_is5 hX dL_law_1581 rfl ?_
  refine j_al2 hX dL_law_1583 rfl ?_
  refine j_al0 hX dL_law_1584 rfl ?_
  refine j_il4 hX dL_law_1585 ?_
  refine j_iconst hX dL_law_1587 ⟨by decide, by decide⟩ ?_
  refine j_iadd hX dL_law_1588 (by omega) ?_
  refine j_script hX dL_law_1589 (by omega) ?_
  refine j_callV (k := 55) (ci := 12) (T := TX12) (N := 55) (as := [vI (sx X (i + 1))]) hX gT lk_L_236 (hm k V1 hk) ⟨by decide, by decide, rfl⟩ rfl rfl (by omega) (by omega) (Nat.le_of_ble_eq_true rfl) rfl dL_law_1590 (fun r V2 hq => ?_)
  obtain ⟨b, rfl, hq⟩ := hq
  obtain ⟨hth, hout, hJ⟩ := he k V1 b V2 hk hq
  show J X (GT (c + 1) (s + 6)) 1593 [vP, vA 0, vA 55, vA 87, vI i, vI k, vU, vU, vU] [vL b] V2
  refine j_ls6 hX dL_law_1593 rfl ?_
  refine j_al2 hX dL_law_1595 rfl ?_
  refine j_callV (k := 55) (ci := 12) (T := TX12) (N := 55) (as := []) hX gT lk_L_114 ok_X12_thrown ⟨by decide, by decide, rfl⟩ rfl rfl (by decide) (by decide) (Nat.le_of_ble_eq_true rfl) rfl dL_law_1596 (fun r V3 hq3 => ?_)
  obtain ⟨x3, rfl, rfl, rfl⟩ := hq3
  show J X (GT (c + 1) (s + 6)) 1599 [vP, vA 0, vA 55, vA 87, vI i, vI k, vL b, vU, vU] [vI (V3 55 0)] V3
  refine j_il5 hX dL_law_1599 ?_
  refine j_icmp_eq (tgt := 1606) hX dL_law_1601 (by decide) (fun _ => ?_) (fun h => absurd hth h)
  refine j_il5 hX dL_law_1606 ?_
  have hend : J X (GT (c + 1) (s + 6)) 1622 [vP, vA 0, vA 55, vA 87, vI i, vI k, vL b, vU, vU] [] V3 := by
    refine j_goto (tgt := 2097) hX dL_law_1622 (by decide) ?_
    refine j_fg5 ?_
    refine j_fg6 ?_
    exact hJ
  refine j_if_ne (tgt := 1622) hX dL_law_1608 (by decide) (fun _ => hend) (fun h0 => ?_)
  refine j_al3 hX dL_law_1611 rfl ?_
  refine j_iconst hX dL_law_1612 ⟨by decide, by decide⟩ ?_
  refine j_lald (n := 1) hX gT ⟨by decide, by decide, rfl, rfl⟩ ⟨by decide, by decide⟩ dL_law_1613 ?_
  refine j_ll6 hX dL_law_1614 ?_
  exact j_lcmp_eq (tgt := 1622) hX dL_law_1616 dL_law_1617 (by decide) (fun _ => hend) (fun h => absurd (hout h0) h)
theorem lw_L_237 : lkC RL 237 yL_kernel cL_kernel 4 (some .int) [(0, 8, 11, 25)] 3 := ⟨(inT6 147 (by decide +kernel) rfl), (inT1 0 (by decide +kernel) rfl), (inT6 149 (by decide +kernel) rfl), (inT6 148 (by decide +kernel) rfl), by decide, by decide, by decide +kernel⟩
set_option maxHeartbeats 4000000 in
theorem st_33 {X : Cx} {V : VV} {i : Int} {c s : Nat} {P : Int → VV → Prop} {XP : String → VV → Prop} {Q : Int → VV → Int → VV → Prop} {lo9 fr2 lo2 : Nat} (hX : Good X RL cL_law 9 13 466) (hR9 : LX X) (hi : 0 ≤ i ∧ i + 5 < yLn (cY X)) (hrm : c + 1 ≤ (cR X).cells ∧ s + 6 ≤ (cR X).slots) (hlo9 : lo9 ≤ 200) (h2 : fr2 ≤ 12 ∧ lo2 ≤ 300)
    (hc : OkX yX11_kernel cX11_kernel 2 (some .long) 8 lo9 [vA 0, vI (sx X (i + 1))] V (pL P) XP) (hx : ∀ E V', XP E V' → E = exA)
    (hm : ∀ k V1, ((∃ x V0, P x V0 ∧ V1 = up V0 87 0 x ∧ k = 0) ∨ (XP exA V1 ∧ k = 1)) → Ok NA yX12_kernel cX12_kernel 2 (some .long) fr2 lo2 [vA 55, vI (sx X (i + 1))] V1 (pL (Q k V1)))
    (he : ∀ k V1 b V2, ((∃ x V0, P x V0 ∧ V1 = up V0 87 0 x ∧ k = 0) ∨ (XP exA V1 ∧ k = 1)) → Q k V1 b V2 → V2 55 0 = k ∧ (k = 0 → V2 87 0 = b) ∧ J X (GT (c + 1) (s + 6)) 2097 [vP, vA 0, vA 55, vA 87, vI i, vU, vU, vU, vU] [] V2) : J X (GT c s) 1625 [vP, vA 0, vA 55, vA 87, vI i, vU, vU, vU, vU] [] V := by
  have hi9 : 0 ≤ i ∧ i + 5 < 3072 := ⟨hi.1, by have := hR9.2.2; omega⟩
  refine j_al1 hX dL_law_1625 rfl ?_
  refine j_al0 hX dL_law_1626 rfl ?_
  refine j_il4 hX dL_law_1627 ?_
  refine j_iconst hX dL_law_1629 ⟨by decide, by decide⟩ ?_
  refine j_iadd hX dL_law_1630 (by omega) ?_
  refine j_script hX dL_law_1631 (by omega) ?_
  refine j_al3 hX dL_law_1632 rfl ?_
  refine j_callC (as := [vA 0, vI (sx X (i + 1)), vA 87]) hX gT hR9.1 hR9.2.1 lw_L_237 (wr_kernel hlo9 hc hx) rfl (by decide) (by decide) (Nat.le_of_ble_eq_true rfl) rfl hrm dL_law_1633 (fun r V1 hr => ?_)
  obtain ⟨k, rfl, hk⟩ := hr
  show J X (GT (c + 1) (s + 6)) 1636 [vP, vA 0, vA 55, vA 87, vI i, vU, vU, vU, vU] [vI k] V1
  refine j_is5 hX dL_law_1636 rfl ?_
  refine j_al2 hX dL_law_1638 rfl ?_
  refine j_al0 hX dL_law_1639 rfl ?_
  refine j_il4 hX dL_law_1640 ?_
  refine j_iconst hX dL_law_1642 ⟨by decide, by decide⟩ ?_
  refine j_iadd hX dL_law_1643 (by omega) ?_
  refine j_script hX dL_law_1644 (by omega) ?_
  refine j_callV (k := 55) (ci := 12) (T := TX12) (N := 55) (as := [vI (sx X (i + 1))]) hX gT lk_L_239 (hm k V1 hk) ⟨by decide, by decide, rfl⟩ rfl rfl (by omega) (by omega) (Nat.le_of_ble_eq_true rfl) rfl dL_law_1645 (fun r V2 hq => ?_)
  obtain ⟨b, rfl, hq⟩ := hq
  obtain ⟨hth, hout, hJ⟩ := he k V1 b V2 hk hq
  show J X (GT (c + 1) (s + 6)) 1648 [vP, vA 0, vA 55, vA 87, vI i, vI k, vU, vU, vU] [vL b] V2
  refine j_ls6 hX dL_law_1648 rfl ?_
  refine j_al2 hX dL_law_1650 rfl ?_
  refine j_callV (k := 55) (ci := 12) (T := TX12) (N := 55) (as := []) hX gT lk_L_114 ok_X12_thrown ⟨by decide, by decide, rfl⟩ rfl rfl (by decide) (by decide) (Nat.le_of_ble_eq_true rfl) rfl dL_law_1651 (fun r V3 hq3 => ?_)
  obtain ⟨x3, rfl, rfl, rfl⟩ := hq3
  show J X (GT (c + 1) (s + 6)) 1654 [vP, vA 0, vA 55, vA 87, vI i, vI k, vL b, vU, vU] [vI (V3 55 0)] V3
  refine j_il5 hX dL_law_1654 ?_
  refine j_icmp_eq (tgt := 1661) hX dL_law_1656 (by decide) (fun _ => ?_) (fun h => absurd hth h)
  refine j_il5 hX dL_law_1661 ?_
  have hend : J X (GT (c + 1) (s + 6)) 1677 [vP, vA 0, vA 55, vA 87, vI i, vI k, vL b, vU, vU] [] V3 := by
    refine j_goto (tgt := 2097) hX dL_law_1677 (by decide) ?_
    refine j_fg5 ?_
    refine j_fg6 ?_
    exact hJ
  refine j_if_ne (tgt := 1677) hX dL_law_1663 (by decide) (fun _ => hend) (fun h0 => ?_)
  refine j_al3 hX dL_law_1666 rfl ?_
  refine j_iconst hX dL_law_1667 ⟨by decide, by decide⟩ ?_
  refine j_lald (n := 1) hX gT ⟨by decide, by decide, rfl, rfl⟩ ⟨by decide, by decide⟩ dL_law_1668 ?_
  refine j_ll6 hX dL_law_1669 ?_
  exact j_lcmp_eq (tgt := 1677) hX dL_law_1671 dL_law_1672 (by decide) (fun _ => hend) (fun h => absurd (hout h0) h)
theorem lw_L_240 : lkC RL 240 yL_step cL_step 4 (some .int) [(0, 9, 12, 25)] 3 := ⟨(inT6 154 (by decide +kernel) rfl), (inT1 0 (by decide +kernel) rfl), (inT6 156 (by decide +kernel) rfl), (inT6 155 (by decide +kernel) rfl), by decide, by decide, by decide +kernel⟩
set_option maxHeartbeats 4000000 in
theorem st_34 {X : Cx} {V : VV} {i : Int} {c s : Nat} {P : Int → VV → Prop} {XP : String → VV → Prop} {Q : Int → VV → Int → VV → Prop} {lo9 fr2 lo2 : Nat} (hX : Good X RL cL_law 9 13 466) (hR9 : LX X) (hi : 0 ≤ i ∧ i + 5 < yLn (cY X)) (hrm : c + 1 ≤ (cR X).cells ∧ s + 6 ≤ (cR X).slots) (hlo9 : lo9 ≤ 200) (h2 : fr2 ≤ 12 ∧ lo2 ≤ 300)
    (hc : OkX yX11_step cX11_step 3 (some .int) 8 lo9 [vA 0, vI (sx X (i + 1))] V (pI P) XP) (hx : ∀ E V', XP E V' → E = exA)
    (hm : ∀ k V1, ((∃ x V0, P x V0 ∧ V1 = up V0 87 0 x ∧ k = 0) ∨ (XP exA V1 ∧ k = 1)) → Ok NA yX12_step cX12_step 3 (some .int) fr2 lo2 [vA 55, vI (sx X (i + 1))] V1 (pI (Q k V1)))
    (he : ∀ k V1 b V2, ((∃ x V0, P x V0 ∧ V1 = up V0 87 0 x ∧ k = 0) ∨ (XP exA V1 ∧ k = 1)) → Q k V1 b V2 → V2 55 0 = k ∧ (k = 0 → V2 87 0 = b) ∧ J X (GT (c + 1) (s + 6)) 2097 [vP, vA 0, vA 55, vA 87, vI i, vU, vU, vU, vU] [] V2) : J X (GT c s) 1680 [vP, vA 0, vA 55, vA 87, vI i, vU, vU, vU, vU] [] V := by
  have hi9 : 0 ≤ i ∧ i + 5 < 3072 := ⟨hi.1, by have := hR9.2.2; omega⟩
  refine j_al1 hX dL_law_1680 rfl ?_
  refine j_al0 hX dL_law_1681 rfl ?_
  refine j_il4 hX dL_law_1682 ?_
  refine j_iconst hX dL_law_1684 ⟨by decide, by decide⟩ ?_
  refine j_iadd hX dL_law_1685 (by omega) ?_
  refine j_script hX dL_law_1686 (by omega) ?_
  refine j_al3 hX dL_law_1687 rfl ?_
  refine j_callC (as := [vA 0, vI (sx X (i + 1)), vA 87]) hX gT hR9.1 hR9.2.1 lw_L_240 (wr_step hlo9 hc hx) rfl (by decide) (by decide) (Nat.le_of_ble_eq_true rfl) rfl hrm dL_law_1688 (fun r V1 hr => ?_)
  obtain ⟨k, rfl, hk⟩ := hr
  show J X (GT (c + 1) (s + 6)) 1691 [vP, vA 0, vA 55, vA 87, vI i, vU, vU, vU, vU] [vI k] V1
  refine j_is5 hX dL_law_1691 rfl ?_
  refine j_al2 hX dL_law_1693 rfl ?_
  refine j_al0 hX dL_law_1694 rfl ?_
  refine j_il4 hX dL_law_1695 ?_
  refine j_iconst hX dL_law_1697 ⟨by decide, by decide⟩ ?_
  refine j_iadd hX dL_law_1698 (by omega) ?_
  refine j_script hX dL_law_1699 (by omega) ?_
  refine j_callV (k := 55) (ci := 12) (T := TX12) (N := 55) (as := [vI (sx X (i + 1))]) hX gT lk_L_242 (hm k V1 hk) ⟨by decide, by decide, rfl⟩ rfl rfl (by omega) (by omega) (Nat.le_of_ble_eq_true rfl) rfl dL_law_1700 (fun r V2 hq => ?_)
  obtain ⟨b, rfl, hq⟩ := hq
  obtain ⟨hth, hout, hJ⟩ := he k V1 b V2 hk hq
  show J X (GT (c + 1) (s + 6)) 1703 [vP, vA 0, vA 55, vA 87, vI i, vI k, vU, vU, vU] [vI b] V2
  refine j_is6 hX dL_law_1703 rfl ?_
  refine j_al2 hX dL_law_1705 rfl ?_
  refine j_callV (k := 55) (ci := 12) (T := TX12) (N := 55) (as := []) hX gT lk_L_114 ok_X12_thrown ⟨by decide, by decide, rfl⟩ rfl rfl (by decide) (by decide) (Nat.le_of_ble_eq_true rfl) rfl dL_law_1706 (fun r V3 hq3 => ?_)
  obtain ⟨x3, rfl, rfl, rfl⟩ := hq3
  show J X (GT (c + 1) (s + 6)) 1709 [vP, vA 0, vA 55, vA 87, vI i, vI k, vI b, vU, vU] [vI (V3 55 0)] V3
  refine j_il5 hX dL_law_1709 ?_
  refine j_icmp_eq (tgt := 1716) hX dL_law_1711 (by decide) (fun _ => ?_) (fun h => absurd hth h)
  refine j_il5 hX dL_law_1716 ?_
  have hend : J X (GT (c + 1) (s + 6)) 1733 [vP, vA 0, vA 55, vA 87, vI i, vI k, vI b, vU, vU] [] V3 := by
    refine j_goto (tgt := 2097) hX dL_law_1733 (by decide) ?_
    refine j_fg5 ?_
    refine j_fg6 ?_
    exact hJ
  refine j_if_ne (tgt := 1733) hX dL_law_1718 (by decide) (fun _ => hend) (fun h0 => ?_)
  refine j_al3 hX dL_law_1721 rfl ?_
  refine j_iconst hX dL_law_1722 ⟨by decide, by decide⟩ ?_
  refine j_lald (n := 1) hX gT ⟨by decide, by decide, rfl, rfl⟩ ⟨by decide, by decide⟩ dL_law_1723 ?_
  refine j_il6 hX dL_law_1724 ?_
  refine j_i2l hX dL_law_1726 ?_
  exact j_lcmp_eq (tgt := 1733) hX dL_law_1727 dL_law_1728 (by decide) (fun _ => hend) (fun h => absurd (hout h0) h)
theorem lw_L_243 : lkC RL 243 yL_back cL_back 4 (some .int) [(0, 9, 12, 25), (0, 9, 15, 51), (0, 9, 18, 13)] 3 := ⟨(inT6 171 (by decide +kernel) rfl), (inT1 0 (by decide +kernel) rfl), (inT6 173 (by decide +kernel) rfl), (inT6 172 (by decide +kernel) rfl), by decide, by decide, by decide +kernel⟩
set_option maxHeartbeats 4000000 in
theorem st_35 {X : Cx} {V : VV} {i : Int} {c s : Nat} {P : Int → VV → Prop} {XP : String → VV → Prop} {Q : Int → VV → Int → VV → Prop} {lo9 fr2 lo2 : Nat} (hX : Good X RL cL_law 9 13 466) (hR9 : LX X) (hi : 0 ≤ i ∧ i + 5 < yLn (cY X)) (hrm : c + 1 ≤ (cR X).cells ∧ s + 6 ≤ (cR X).slots) (hlo9 : lo9 ≤ 200) (h2 : fr2 ≤ 12 ∧ lo2 ≤ 300)
    (hc : OkX yX11_back cX11_back 3 (some .int) 8 lo9 [vA 0, vI (sx X (i + 1))] V (pI P) XP) (hx : ∀ E V', XP E V' → E = exA ∨ E = exN ∨ E = exS)
    (hm : ∀ k V1, ((∃ x V0, P x V0 ∧ V1 = up V0 87 0 x ∧ k = 0) ∨ (XP exA V1 ∧ k = 1) ∨ (XP exN V1 ∧ k = 2) ∨ (XP exS V1 ∧ k = 3)) → Ok NA yX12_back cX12_back 5 (some .int) fr2 lo2 [vA 55, vI (sx X (i + 1))] V1 (pI (Q k V1)))
    (he : ∀ k V1 b V2, ((∃ x V0, P x V0 ∧ V1 = up V0 87 0 x ∧ k = 0) ∨ (XP exA V1 ∧ k = 1) ∨ (XP exN V1 ∧ k = 2) ∨ (XP exS V1 ∧ k = 3)) → Q k V1 b V2 → V2 55 0 = k ∧ (k = 0 → V2 87 0 = b) ∧ J X (GT (c + 1) (s + 6)) 2097 [vP, vA 0, vA 55, vA 87, vI i, vU, vU, vU, vU] [] V2) : J X (GT c s) 1736 [vP, vA 0, vA 55, vA 87, vI i, vU, vU, vU, vU] [] V := by
  have hi9 : 0 ≤ i ∧ i + 5 < 3072 := ⟨hi.1, by have := hR9.2.2; omega⟩
  refine j_al1 hX dL_law_1736 rfl ?_
  refine j_al0 hX dL_law_1737 rfl ?_
  refine j_il4 hX dL_law_1738 ?_
  refine j_iconst hX dL_law_1740 ⟨by decide, by decide⟩ ?_
  refine j_iadd hX dL_law_1741 (by omega) ?_
  refine j_script hX dL_law_1742 (by omega) ?_
  refine j_al3 hX dL_law_1743 rfl ?_
  refine j_callC (as := [vA 0, vI (sx X (i + 1)), vA 87]) hX gT hR9.1 hR9.2.1 lw_L_243 (wr_back hlo9 hc hx) rfl (by decide) (by decide) (Nat.le_of_ble_eq_true rfl) rfl hrm dL_law_1744 (fun r V1 hr => ?_)
  obtain ⟨k, rfl, hk⟩ := hr
  show J X (GT (c + 1) (s + 6)) 1747 [vP, vA 0, vA 55, vA 87, vI i, vU, vU, vU, vU] [vI k] V1
  refine j_is5 hX dL_law_1747 rfl ?_
  refine j_al2 hX dL_law_1749 rfl ?_
  refine j_al0 hX dL_law_1750 rfl ?_
  refine j_il4 hX dL_law_1751 ?_
  refine j_iconst hX dL_law_1753 ⟨by decide, by decide⟩ ?_
  refine j_iadd hX dL_law_1754 (by omega) ?_
  refine j_script hX dL_law_1755 (by omega) ?_
  refine j_callV (k := 55) (ci := 12) (T := TX12) (N := 55) (as := [vI (sx X (i + 1))]) hX gT lk_L_245 (hm k V1 hk) ⟨by decide, by decide, rfl⟩ rfl rfl (by omega) (by omega) (Nat.le_of_ble_eq_true rfl) rfl dL_law_1756 (fun r V2 hq => ?_)
  obtain ⟨b, rfl, hq⟩ := hq
  obtain ⟨hth, hout, hJ⟩ := he k V1 b V2 hk hq
  show J X (GT (c + 1) (s + 6)) 1759 [vP, vA 0, vA 55, vA 87, vI i, vI k, vU, vU, vU] [vI b] V2
  refine j_is6 hX dL_law_1759 rfl ?_
  refine j_al2 hX dL_law_1761 rfl ?_
  refine j_callV (k := 55) (ci := 12) (T := TX12) (N := 55) (as := []) hX gT lk_L_114 ok_X12_thrown ⟨by decide, by decide, rfl⟩ rfl rfl (by decide) (by decide) (Nat.le_of_ble_eq_true rfl) rfl dL_law_1762 (fun r V3 hq3 => ?_)
  obtain ⟨x3, rfl, rfl, rfl⟩ := hq3
  show J X (GT (c + 1) (s + 6)) 1765 [vP, vA 0, vA 55, vA 87, vI i, vI k, vI b, vU, vU] [vI (V3 55 0)] V3
  refine j_il5 hX dL_law_1765 ?_
  refine j_icmp_eq (tgt := 1772) hX dL_law_1767 (by decide) (fun _ => ?_) (fun h => absurd hth h)
  refine j_il5 hX dL_law_1772 ?_
  have hend : J X (GT (c + 1) (s + 6)) 1789 [vP, vA 0, vA 55, vA 87, vI i, vI k, vI b, vU, vU] [] V3 := by
    refine j_goto (tgt := 2097) hX dL_law_1789 (by decide) ?_
    refine j_fg5 ?_
    refine j_fg6 ?_
    exact hJ
  refine j_if_ne (tgt := 1789) hX dL_law_1774 (by decide) (fun _ => hend) (fun h0 => ?_)
  refine j_al3 hX dL_law_1777 rfl ?_
  refine j_iconst hX dL_law_1778 ⟨by decide, by decide⟩ ?_
  refine j_lald (n := 1) hX gT ⟨by decide, by decide, rfl, rfl⟩ ⟨by decide, by decide⟩ dL_law_1779 ?_
  refine j_il6 hX dL_law_1780 ?_
  refine j_i2l hX dL_law_1782 ?_
  exact j_lcmp_eq (tgt := 1789) hX dL_law_1783 dL_law_1784 (by decide) (fun _ => hend) (fun h => absurd (hout h0) h)
theorem lw_L_246 : lkC RL 246 yL_set cL_set 5 (some .int) [(0, 10, 13, 19)] 4 := ⟨(inT6 190 (by decide +kernel) rfl), (inT1 0 (by decide +kernel) rfl), (inT6 192 (by decide +kernel) rfl), (inT6 191 (by decide +kernel) rfl), by decide, by decide, by decide +kernel⟩
set_option maxHeartbeats 4000000 in
theorem st_36 {X : Cx} {V : VV} {i : Int} {c s : Nat} {P : Int → VV → Prop} {XP : String → VV → Prop} {Q : Int → VV → Int → VV → Prop} {lo9 fr2 lo2 : Nat} (hX : Good X RL cL_law 9 13 466) (hR9 : LX X) (hi : 0 ≤ i ∧ i + 5 < yLn (cY X)) (hrm : c + 1 ≤ (cR X).cells ∧ s + 6 ≤ (cR X).slots) (hlo9 : lo9 ≤ 200) (h2 : fr2 ≤ 12 ∧ lo2 ≤ 300)
    (hc : OkX yX11_set cX11_set 4 (some .int) 8 lo9 [vA 0, vI (sx X (i + 1)), vI (sx X (i + 2))] V (pI P) XP) (hx : ∀ E V', XP E V' → E = exB)
    (hm : ∀ k V1, ((∃ x V0, P x V0 ∧ V1 = up V0 87 0 x ∧ k = 0) ∨ (XP exB V1 ∧ k = 1)) → Ok NA yX12_set cX12_set 4 (some .int) fr2 lo2 [vA 55, vI (sx X (i + 1)), vI (sx X (i + 2))] V1 (pI (Q k V1)))
    (he : ∀ k V1 b V2, ((∃ x V0, P x V0 ∧ V1 = up V0 87 0 x ∧ k = 0) ∨ (XP exB V1 ∧ k = 1)) → Q k V1 b V2 → V2 55 0 = k ∧ (k = 0 → V2 87 0 = b) ∧ J X (GT (c + 1) (s + 6)) 2097 [vP, vA 0, vA 55, vA 87, vI i, vU, vU, vU, vU] [] V2) : J X (GT c s) 1792 [vP, vA 0, vA 55, vA 87, vI i, vU, vU, vU, vU] [] V := by
  have hi9 : 0 ≤ i ∧ i + 5 < 3072 := ⟨hi.1, by have := hR9.2.2; omega⟩
  refine j_al1 hX dL_law_1792 rfl ?_
  refine j_al0 hX dL_law_1793 rfl ?_
  refine j_il4 hX dL_law_1794 ?_
  refine j_iconst hX dL_law_1796 ⟨by decide, by decide⟩ ?_
  refine j_iadd hX dL_law_1797 (by omega) ?_
  refine j_script hX dL_law_1798 (by omega) ?_
  refine j_al0 hX dL_law_1799 rfl ?_
  refine j_il4 hX dL_law_1800 ?_
  refine j_iconst hX dL_law_1802 ⟨by decide, by decide⟩ ?_
  refine j_iadd hX dL_law_1803 (by omega) ?_
  refine j_script hX dL_law_1804 (by omega) ?_
  refine j_al3 hX dL_law_1805 rfl ?_
  refine j_callC (as := [vA 0, vI (sx X (i + 1)), vI (sx X (i + 2)), vA 87]) hX gT hR9.1 hR9.2.1 lw_L_246 (wr_set hlo9 hc hx) rfl (by decide) (by decide) (Nat.le_of_ble_eq_true rfl) rfl hrm dL_law_1806 (fun r V1 hr => ?_)
  obtain ⟨k, rfl, hk⟩ := hr
  show J X (GT (c + 1) (s + 6)) 1809 [vP, vA 0, vA 55, vA 87, vI i, vU, vU, vU, vU] [vI k] V1
  refine j_is5 hX dL_law_1809 rfl ?_
  refine j_al2 hX dL_law_1811 rfl ?_
  refine j_al0 hX dL_law_1812 rfl ?_
  refine j_il4 hX dL_law_1813 ?_
  refine j_iconst hX dL_law_1815 ⟨by decide, by decide⟩ ?_
  refine j_iadd hX dL_law_1816 (by omega) ?_
  refine j_script hX dL_law_1817 (by omega) ?_
  refine j_al0 hX dL_law_1818 rfl ?_
  refine j_il4 hX dL_law_1819 ?_
  refine j_iconst hX dL_law_1821 ⟨by decide, by decide⟩ ?_
  refine j_iadd hX dL_law_1822 (by omega) ?_
  refine j_script hX dL_law_1823 (by omega) ?_
  refine j_callV (k := 55) (ci := 12) (T := TX12) (N := 55) (as := [vI (sx X (i + 1)), vI (sx X (i + 2))]) hX gT lk_L_248 (hm k V1 hk) ⟨by decide, by decide, rfl⟩ rfl rfl (by omega) (by omega) (Nat.le_of_ble_eq_true rfl) rfl dL_law_1824 (fun r V2 hq => ?_)
  obtain ⟨b, rfl, hq⟩ := hq
  obtain ⟨hth, hout, hJ⟩ := he k V1 b V2 hk hq
  show J X (GT (c + 1) (s + 6)) 1827 [vP, vA 0, vA 55, vA 87, vI i, vI k, vU, vU, vU] [vI b] V2
  refine j_is6 hX dL_law_1827 rfl ?_
  refine j_al2 hX dL_law_1829 rfl ?_
  refine j_callV (k := 55) (ci := 12) (T := TX12) (N := 55) (as := []) hX gT lk_L_114 ok_X12_thrown ⟨by decide, by decide, rfl⟩ rfl rfl (by decide) (by decide) (Nat.le_of_ble_eq_true rfl) rfl dL_law_1830 (fun r V3 hq3 => ?_)
  obtain ⟨x3, rfl, rfl, rfl⟩ := hq3
  show J X (GT (c + 1) (s + 6)) 1833 [vP, vA 0, vA 55, vA 87, vI i, vI k, vI b, vU, vU] [vI (V3 55 0)] V3
  refine j_il5 hX dL_law_1833 ?_
  refine j_icmp_eq (tgt := 1840) hX dL_law_1835 (by decide) (fun _ => ?_) (fun h => absurd hth h)
  refine j_il5 hX dL_law_1840 ?_
  have hend : J X (GT (c + 1) (s + 6)) 1857 [vP, vA 0, vA 55, vA 87, vI i, vI k, vI b, vU, vU] [] V3 := by
    refine j_goto (tgt := 2097) hX dL_law_1857 (by decide) ?_
    refine j_fg5 ?_
    refine j_fg6 ?_
    exact hJ
  refine j_if_ne (tgt := 1857) hX dL_law_1842 (by decide) (fun _ => hend) (fun h0 => ?_)
  refine j_al3 hX dL_law_1845 rfl ?_
  refine j_iconst hX dL_law_1846 ⟨by decide, by decide⟩ ?_
  refine j_lald (n := 1) hX gT ⟨by decide, by decide, rfl, rfl⟩ ⟨by decide, by decide⟩ dL_law_1847 ?_
  refine j_il6 hX dL_law_1848 ?_
  refine j_i2l hX dL_law_1850 ?_
  exact j_lcmp_eq (tgt := 1857) hX dL_law_1851 dL_law_1852 (by decide) (fun _ => hend) (fun h => absurd (hout h0) h)
theorem lw_L_249 : lkC RL 249 yL_grow cL_grow 4 (some .int) [(0, 9, 12, 19), (0, 9, 15, 13)] 3 := ⟨(inT6 198 (by decide +kernel) rfl), (inT1 0 (by decide +kernel) rfl), (inT6 200 (by decide +kernel) rfl), (inT6 199 (by decide +kernel) rfl), by decide, by decide, by decide +kernel⟩
set_option maxHeartbeats 4000000 in
theorem st_37 {X : Cx} {V : VV} {i : Int} {c s : Nat} {P : Int → VV → Prop} {XP : String → VV → Prop} {Q : Int → VV → Int → VV → Prop} {lo9 fr2 lo2 : Nat} (hX : Good X RL cL_law 9 13 466) (hR9 : LX X) (hi : 0 ≤ i ∧ i + 5 < yLn (cY X)) (hrm : c + 1 ≤ (cR X).cells ∧ s + 6 ≤ (cR X).slots) (hlo9 : lo9 ≤ 200) (h2 : fr2 ≤ 12 ∧ lo2 ≤ 300)
    (hc : OkX yX11_grow cX11_grow 2 (some .int) 8 lo9 [vA 0, vI (sx X (i + 1))] V (pI P) XP) (hx : ∀ E V', XP E V' → E = exB ∨ E = exS)
    (hm : ∀ k V1, ((∃ x V0, P x V0 ∧ V1 = up V0 87 0 x ∧ k = 0) ∨ (XP exB V1 ∧ k = 1) ∨ (XP exS V1 ∧ k = 2)) → Ok NA yX12_grow cX12_grow 2 (some .int) fr2 lo2 [vA 55, vI (sx X (i + 1))] V1 (pI (Q k V1)))
    (he : ∀ k V1 b V2, ((∃ x V0, P x V0 ∧ V1 = up V0 87 0 x ∧ k = 0) ∨ (XP exB V1 ∧ k = 1) ∨ (XP exS V1 ∧ k = 2)) → Q k V1 b V2 → V2 55 0 = k ∧ (k = 0 → V2 87 0 = b) ∧ J X (GT (c + 1) (s + 6)) 2097 [vP, vA 0, vA 55, vA 87, vI i, vU, vU, vU, vU] [] V2) : J X (GT c s) 1860 [vP, vA 0, vA 55, vA 87, vI i, vU, vU, vU, vU] [] V := by
  have hi9 : 0 ≤ i ∧ i + 5 < 3072 := ⟨hi.1, by have := hR9.2.2; omega⟩
  refine j_al1 hX dL_law_1860 rfl ?_
  refine j_al0 hX dL_law_1861 rfl ?_
  refine j_il4 hX dL_law_1862 ?_
  refine j_iconst hX dL_law_1864 ⟨by decide, by decide⟩ ?_
  refine j_iadd hX dL_law_1865 (by omega) ?_
  refine j_script hX dL_law_1866 (by omega) ?_
  refine j_al3 hX dL_law_1867 rfl ?_
  refine j_callC (as := [vA 0, vI (sx X (i + 1)), vA 87]) hX gT hR9.1 hR9.2.1 lw_L_249 (wr_grow hlo9 hc hx) rfl (by decide) (by decide) (Nat.le_of_ble_eq_true rfl) rfl hrm dL_law_1868 (fun r V1 hr => ?_)
  obtain ⟨k, rfl, hk⟩ := hr
  show J X (GT (c + 1) (s + 6)) 1871 [vP, vA 0, vA 55, vA 87, vI i, vU, vU, vU, vU] [vI k] V1
  refine j_is5 hX dL_law_1871 rfl ?_
  refine j_al2 hX dL_law_1873 rfl ?_
  refine j_al0 hX dL_law_1874 rfl ?_
  refine j_il4 hX dL_law_1875 ?_
  refine j_iconst hX dL_law_1877 ⟨by decide, by decide⟩ ?_
  refine j_iadd hX dL_law_1878 (by omega) ?_
  refine j_script hX dL_law_1879 (by omega) ?_
  refine j_callV (k := 55) (ci := 12) (T := TX12) (N := 55) (as := [vI (sx X (i + 1))]) hX gT lk_L_251 (hm k V1 hk) ⟨by decide, by decide, rfl⟩ rfl rfl (by omega) (by omega) (Nat.le_of_ble_eq_true rfl) rfl dL_law_1880 (fun r V2 hq => ?_)
  obtain ⟨b, rfl, hq⟩ := hq
  obtain ⟨hth, hout, hJ⟩ := he k V1 b V2 hk hq
  show J X (GT (c + 1) (s + 6)) 1883 [vP, vA 0, vA 55, vA 87, vI i, vI k, vU, vU, vU] [vI b] V2
  refine j_is6 hX dL_law_1883 rfl ?_
  refine j_al2 hX dL_law_1885 rfl ?_
  refine j_callV (k := 55) (ci := 12) (T := TX12) (N := 55) (as := []) hX gT lk_L_114 ok_X12_thrown ⟨by decide, by decide, rfl⟩ rfl rfl (by decide) (by decide) (Nat.le_of_ble_eq_true rfl) rfl dL_law_1886 (fun r V3 hq3 => ?_)
  obtain ⟨x3, rfl, rfl, rfl⟩ := hq3
  show J X (GT (c + 1) (s + 6)) 1889 [vP, vA 0, vA 55, vA 87, vI i, vI k, vI b, vU, vU] [vI (V3 55 0)] V3
  refine j_il5 hX dL_law_1889 ?_
  refine j_icmp_eq (tgt := 1896) hX dL_law_1891 (by decide) (fun _ => ?_) (fun h => absurd hth h)
  refine j_il5 hX dL_law_1896 ?_
  have hend : J X (GT (c + 1) (s + 6)) 1913 [vP, vA 0, vA 55, vA 87, vI i, vI k, vI b, vU, vU] [] V3 := by
    refine j_goto (tgt := 2097) hX dL_law_1913 (by decide) ?_
    refine j_fg5 ?_
    refine j_fg6 ?_
    exact hJ
  refine j_if_ne (tgt := 1913) hX dL_law_1898 (by decide) (fun _ => hend) (fun h0 => ?_)
  refine j_al3 hX dL_law_1901 rfl ?_
  refine j_iconst hX dL_law_1902 ⟨by decide, by decide⟩ ?_
  refine j_lald (n := 1) hX gT ⟨by decide, by decide, rfl, rfl⟩ ⟨by decide, by decide⟩ dL_law_1903 ?_
  refine j_il6 hX dL_law_1904 ?_
  refine j_i2l hX dL_law_1906 ?_
  exact j_lcmp_eq (tgt := 1913) hX dL_law_1907 dL_law_1908 (by decide) (fun _ => hend) (fun h => absurd (hout h0) h)
set_option maxHeartbeats 4000000 in
theorem st_38 {X : Cx} {V : VV} {i : Int} {c s : Nat} {P : Int → VV → Prop} {Q : Int → VV → Int → VV → Prop} {fr1 lo1 fr2 lo2 : Nat} (hX : Good X RL cL_law 9 13 466) (hR9 : LX X) (hi : 0 ≤ i ∧ i + 5 < yLn (cY X)) (h1 : fr1 ≤ 12 ∧ lo1 ≤ 300) (h2 : fr2 ≤ 12 ∧ lo2 ≤ 300)
    (hc : Ok NC yX11_rotate cX11_rotate 4 (some .int) fr1 lo1 [vA 0, vI (sx X (i + 1))] V (pI (P)))
    (hm : ∀ x V1, P x V1 → Ok NA yX12_rotate cX12_rotate 4 (some .int) fr2 lo2 [vA 55, vI (sx X (i + 1))] V1 (pI (Q x V1)))
    (he : ∀ x V1 y V2, P x V1 → Q x V1 y V2 → x = y ∧ J X (GT c s) 2097 [vP, vA 0, vA 55, vA 87, vI i, vU, vU, vU, vU] [] V2) : J X (GT c s) 1916 [vP, vA 0, vA 55, vA 87, vI i, vU, vU, vU, vU] [] V := by
  have hi9 : 0 ≤ i ∧ i + 5 < 3072 := ⟨hi.1, by have := hR9.2.2; omega⟩
  have gC : gOK NC (GT c s) := ⟨(by decide : (55 : Nat) ≤ 88), fun _ _ _ _ => rfl⟩
  refine j_al1 hX dL_law_1916 rfl ?_
  refine j_al0 hX dL_law_1917 rfl ?_
  refine j_il4 hX dL_law_1918 ?_
  refine j_iconst hX dL_law_1920 ⟨by decide, by decide⟩ ?_
  refine j_iadd hX dL_law_1921 (by omega) ?_
  refine j_script hX dL_law_1922 (by omega) ?_
  refine j_callV (k := 0) (ci := 11) (T := TX11) (N := 15) (as := [vI (sx X (i + 1))]) hX gC lk_L_252 hc ⟨by decide, by decide, rfl⟩ rfl rfl (by omega) (by omega) (Nat.le_of_ble_eq_true rfl) rfl dL_law_1923 (fun r V1 hr => ?_)
  obtain ⟨x, rfl, hp⟩ := hr
  show J X (GT c s) 1926 [vP, vA 0, vA 55, vA 87, vI i, vU, vU, vU, vU] [vI x] V1
  refine j_al2 hX dL_law_1926 rfl ?_
  refine j_al0 hX dL_law_1927 rfl ?_
  refine j_il4 hX dL_law_1928 ?_
  refine j_iconst hX dL_law_1930 ⟨by decide, by decide⟩ ?_
  refine j_iadd hX dL_law_1931 (by omega) ?_
  refine j_script hX dL_law_1932 (by omega) ?_
  refine j_callV (k := 55) (ci := 12) (T := TX12) (N := 55) (as := [vI (sx X (i + 1))]) hX gT lk_L_255 (hm x V1 hp) ⟨by decide, by decide, rfl⟩ rfl rfl (by omega) (by omega) (Nat.le_of_ble_eq_true rfl) rfl dL_law_1933 (fun r V2 hq => ?_)
  obtain ⟨y, rfl, hq⟩ := hq
  obtain ⟨hxy, hJ⟩ := he x V1 y V2 hp hq
  show J X (GT c s) 1936 [vP, vA 0, vA 55, vA 87, vI i, vU, vU, vU, vU] [vI y, vI x] V2
  exact j_icmp_eq (tgt := 2097) hX dL_law_1936 (by decide) (fun _ => hJ) (fun h => absurd hxy h)
theorem lw_L_256 : lkC RL 256 yL_keep cL_keep 4 (some .int) [(0, 9, 12, 19)] 3 := ⟨(inT6 206 (by decide +kernel) rfl), (inT1 0 (by decide +kernel) rfl), (inT6 208 (by decide +kernel) rfl), (inT6 207 (by decide +kernel) rfl), by decide, by decide, by decide +kernel⟩
set_option maxHeartbeats 4000000 in
theorem st_39 {X : Cx} {V : VV} {i : Int} {c s : Nat} {P : Int → VV → Prop} {XP : String → VV → Prop} {Q : Int → VV → Int → VV → Prop} {lo9 fr2 lo2 : Nat} (hX : Good X RL cL_law 9 13 466) (hR9 : LX X) (hi : 0 ≤ i ∧ i + 5 < yLn (cY X)) (hrm : c + 1 ≤ (cR X).cells ∧ s + 6 ≤ (cR X).slots) (hlo9 : lo9 ≤ 200) (h2 : fr2 ≤ 12 ∧ lo2 ≤ 300)
    (hc : OkX yX11_keep cX11_keep 2 (some .int) 8 lo9 [vA 0, vI (sx X (i + 1))] V (pI P) XP) (hx : ∀ E V', XP E V' → E = exB)
    (hm : ∀ k V1, ((∃ x V0, P x V0 ∧ V1 = up V0 87 0 x ∧ k = 0) ∨ (XP exB V1 ∧ k = 1)) → Ok NA yX12_keep cX12_keep 3 (some .int) fr2 lo2 [vA 55, vI (sx X (i + 1))] V1 (pI (Q k V1)))
    (he : ∀ k V1 b V2, ((∃ x V0, P x V0 ∧ V1 = up V0 87 0 x ∧ k = 0) ∨ (XP exB V1 ∧ k = 1)) → Q k V1 b V2 → V2 55 0 = k ∧ (k = 0 → V2 87 0 = b) ∧ J X (GT (c + 1) (s + 6)) 2097 [vP, vA 0, vA 55, vA 87, vI i, vU, vU, vU, vU] [] V2) : J X (GT c s) 1941 [vP, vA 0, vA 55, vA 87, vI i, vU, vU, vU, vU] [] V := by
  have hi9 : 0 ≤ i ∧ i + 5 < 3072 := ⟨hi.1, by have := hR9.2.2; omega⟩
  refine j_al1 hX dL_law_1941 rfl ?_
  refine j_al0 hX dL_law_1942 rfl ?_
  refine j_il4 hX dL_law_1943 ?_
  refine j_iconst hX dL_law_1945 ⟨by decide, by decide⟩ ?_
  refine j_iadd hX dL_law_1946 (by omega) ?_
  refine j_script hX dL_law_1947 (by omega) ?_
  refine j_al3 hX dL_law_1948 rfl ?_
  refine j_callC (as := [vA 0, vI (sx X (i + 1)), vA 87]) hX gT hR9.1 hR9.2.1 lw_L_256 (wr_keep hlo9 hc hx) rfl (by decide) (by decide) (Nat.le_of_ble_eq_true rfl) rfl hrm dL_law_1949 (fun r V1 hr => ?_)
  obtain ⟨k, rfl, hk⟩ := hr
  show J X (GT (c + 1) (s + 6)) 1952 [vP, vA 0, vA 55, vA 87, vI i, vU, vU, vU, vU] [vI k] V1
  refine j_is5 hX dL_law_1952 rfl ?_
  refine j_al2 hX dL_law_1954 rfl ?_
  refine j_al0 hX dL_law_1955 rfl ?_
  refine j_il4 hX dL_law_1956 ?_
  refine j_iconst hX dL_law_1958 ⟨by decide, by decide⟩ ?_
  refine j_iadd hX dL_law_1959 (by omega) ?_
  refine j_script hX dL_law_1960 (by omega) ?_
  refine j_callV (k := 55) (ci := 12) (T := TX12) (N := 55) (as := [vI (sx X (i + 1))]) hX gT lk_L_258 (hm k V1 hk) ⟨by decide, by decide, rfl⟩ rfl rfl (by omega) (by omega) (Nat.le_of_ble_eq_true rfl) rfl dL_law_1961 (fun r V2 hq => ?_)
  obtain ⟨b, rfl, hq⟩ := hq
  obtain ⟨hth, hout, hJ⟩ := he k V1 b V2 hk hq
  show J X (GT (c + 1) (s + 6)) 1964 [vP, vA 0, vA 55, vA 87, vI i, vI k, vU, vU, vU] [vI b] V2
  refine j_is6 hX dL_law_1964 rfl ?_
  refine j_al2 hX dL_law_1966 rfl ?_
  refine j_callV (k := 55) (ci := 12) (T := TX12) (N := 55) (as := []) hX gT lk_L_114 ok_X12_thrown ⟨by decide, by decide, rfl⟩ rfl rfl (by decide) (by decide) (Nat.le_of_ble_eq_true rfl) rfl dL_law_1967 (fun r V3 hq3 => ?_)
  obtain ⟨x3, rfl, rfl, rfl⟩ := hq3
  show J X (GT (c + 1) (s + 6)) 1970 [vP, vA 0, vA 55, vA 87, vI i, vI k, vI b, vU, vU] [vI (V3 55 0)] V3
  refine j_il5 hX dL_law_1970 ?_
  refine j_icmp_eq (tgt := 1977) hX dL_law_1972 (by decide) (fun _ => ?_) (fun h => absurd hth h)
  refine j_il5 hX dL_law_1977 ?_
  have hend : J X (GT (c + 1) (s + 6)) 1994 [vP, vA 0, vA 55, vA 87, vI i, vI k, vI b, vU, vU] [] V3 := by
    refine j_goto (tgt := 2097) hX dL_law_1994 (by decide) ?_
    refine j_fg5 ?_
    refine j_fg6 ?_
    exact hJ
  refine j_if_ne (tgt := 1994) hX dL_law_1979 (by decide) (fun _ => hend) (fun h0 => ?_)
  refine j_al3 hX dL_law_1982 rfl ?_
  refine j_iconst hX dL_law_1983 ⟨by decide, by decide⟩ ?_
  refine j_lald (n := 1) hX gT ⟨by decide, by decide, rfl, rfl⟩ ⟨by decide, by decide⟩ dL_law_1984 ?_
  refine j_il6 hX dL_law_1985 ?_
  refine j_i2l hX dL_law_1987 ?_
  exact j_lcmp_eq (tgt := 1994) hX dL_law_1988 dL_law_1989 (by decide) (fun _ => hend) (fun h => absurd (hout h0) h)
theorem lw_L_259 : lkC RL 259 yL_multiply cL_multiply 4 (some .int) [(0, 9, 12, 19), (0, 9, 15, 51), (0, 9, 18, 13)] 3 := ⟨(inT6 218 (by decide +kernel) rfl), (inT1 0 (by decide +kernel) rfl), (inT6 220 (by decide +kernel) rfl), (inT6 219 (by decide +kernel) rfl), by decide, by decide, by decide +kernel⟩
set_option maxHeartbeats 4000000 in
theorem st_40 {X : Cx} {V : VV} {i : Int} {c s : Nat} {P : Int → VV → Prop} {XP : String → VV → Prop} {Q : Int → VV → Int → VV → Prop} {lo9 fr2 lo2 : Nat} (hX : Good X RL cL_law 9 13 466) (hR9 : LX X) (hi : 0 ≤ i ∧ i + 5 < yLn (cY X)) (hrm : c + 1 ≤ (cR X).cells ∧ s + 6 ≤ (cR X).slots) (hlo9 : lo9 ≤ 200) (h2 : fr2 ≤ 12 ∧ lo2 ≤ 300)
    (hc : OkX yX11_multiply cX11_multiply 4 (some .int) 8 lo9 [vA 0, vI (sx X (i + 1))] V (pI P) XP) (hx : ∀ E V', XP E V' → E = exB ∨ E = exN ∨ E = exS)
    (hm : ∀ k V1, ((∃ x V0, P x V0 ∧ V1 = up V0 87 0 x ∧ k = 0) ∨ (XP exB V1 ∧ k = 1) ∨ (XP exN V1 ∧ k = 2) ∨ (XP exS V1 ∧ k = 3)) → Ok NA yX12_multiply cX12_multiply 4 (some .int) fr2 lo2 [vA 55, vI (sx X (i + 1))] V1 (pI (Q k V1)))
    (he : ∀ k V1 b V2, ((∃ x V0, P x V0 ∧ V1 = up V0 87 0 x ∧ k = 0) ∨ (XP exB V1 ∧ k = 1) ∨ (XP exN V1 ∧ k = 2) ∨ (XP exS V1 ∧ k = 3)) → Q k V1 b V2 → V2 55 0 = k ∧ (k = 0 → V2 87 0 = b) ∧ J X (GT (c + 1) (s + 6)) 2097 [vP, vA 0, vA 55, vA 87, vI i, vU, vU, vU, vU] [] V2) : J X (GT c s) 1997 [vP, vA 0, vA 55, vA 87, vI i, vU, vU, vU, vU] [] V := by
  have hi9 : 0 ≤ i ∧ i + 5 < 3072 := ⟨hi.1, by have := hR9.2.2; omega⟩
  refine j_al1 hX dL_law_1997 rfl ?_
  refine j_al0 hX dL_law_1998 rfl ?_
  refine j_il4 hX dL_law_1999 ?_
  refine j_iconst hX dL_law_2001 ⟨by decide, by decide⟩ ?_
  refine j_iadd hX dL_law_2002 (by omega) ?_
  refine j_script hX dL_law_2003 (by omega) ?_
  refine j_al3 hX dL_law_2004 rfl ?_
  refine j_callC (as := [vA 0, vI (sx X (i + 1)), vA 87]) hX gT hR9.1 hR9.2.1 lw_L_259 (wr_multiply hlo9 hc hx) rfl (by decide) (by decide) (Nat.le_of_ble_eq_true rfl) rfl hrm dL_law_2005 (fun r V1 hr => ?_)
  obtain ⟨k, rfl, hk⟩ := hr
  show J X (GT (c + 1) (s + 6)) 2008 [vP, vA 0, vA 55, vA 87, vI i, vU, vU, vU, vU] [vI k] V1
  refine j_is5 hX dL_law_2008 rfl ?_
  refine j_al2 hX dL_law_2010 rfl ?_
  refine j_al0 hX dL_law_2011 rfl ?_
  refine j_il4 hX dL_law_2012 ?_
  refine j_iconst hX dL_law_2014 ⟨by decide, by decide⟩ ?_
  refine j_iadd hX dL_law_2015 (by omega) ?_
  refine j_script hX dL_law_2016 (by omega) ?_
  refine j_callV (k := 55) (ci := 12) (T := TX12) (N := 55) (as := [vI (sx X (i + 1))]) hX gT lk_L_261 (hm k V1 hk) ⟨by decide, by decide, rfl⟩ rfl rfl (by omega) (by omega) (Nat.le_of_ble_eq_true rfl) rfl dL_law_2017 (fun r V2 hq => ?_)
  obtain ⟨b, rfl, hq⟩ := hq
  obtain ⟨hth, hout, hJ⟩ := he k V1 b V2 hk hq
  show J X (GT (c + 1) (s + 6)) 2020 [vP, vA 0, vA 55, vA 87, vI i, vI k, vU, vU, vU] [vI b] V2
  refine j_is6 hX dL_law_2020 rfl ?_
  refine j_al2 hX dL_law_2022 rfl ?_
  refine j_callV (k := 55) (ci := 12) (T := TX12) (N := 55) (as := []) hX gT lk_L_114 ok_X12_thrown ⟨by decide, by decide, rfl⟩ rfl rfl (by decide) (by decide) (Nat.le_of_ble_eq_true rfl) rfl dL_law_2023 (fun r V3 hq3 => ?_)
  obtain ⟨x3, rfl, rfl, rfl⟩ := hq3
  show J X (GT (c + 1) (s + 6)) 2026 [vP, vA 0, vA 55, vA 87, vI i, vI k, vI b, vU, vU] [vI (V3 55 0)] V3
  refine j_il5 hX dL_law_2026 ?_
  refine j_icmp_eq (tgt := 2033) hX dL_law_2028 (by decide) (fun _ => ?_) (fun h => absurd hth h)
  refine j_il5 hX dL_law_2033 ?_
  have hend : J X (GT (c + 1) (s + 6)) 2050 [vP, vA 0, vA 55, vA 87, vI i, vI k, vI b, vU, vU] [] V3 := by
    refine j_goto (tgt := 2097) hX dL_law_2050 (by decide) ?_
    refine j_fg5 ?_
    refine j_fg6 ?_
    exact hJ
  refine j_if_ne (tgt := 2050) hX dL_law_2035 (by decide) (fun _ => hend) (fun h0 => ?_)
  refine j_al3 hX dL_law_2038 rfl ?_
  refine j_iconst hX dL_law_2039 ⟨by decide, by decide⟩ ?_
  refine j_lald (n := 1) hX gT ⟨by decide, by decide, rfl, rfl⟩ ⟨by decide, by decide⟩ dL_law_2040 ?_
  refine j_il6 hX dL_law_2041 ?_
  refine j_i2l hX dL_law_2043 ?_
  exact j_lcmp_eq (tgt := 2050) hX dL_law_2044 dL_law_2045 (by decide) (fun _ => hend) (fun h => absurd (hout h0) h)
theorem lw_L_262 : lkC RL 262 yL_undo cL_undo 3 (some .int) [(0, 8, 11, 13)] 2 := ⟨(inT6 227 (by decide +kernel) rfl), (inT1 0 (by decide +kernel) rfl), (inT6 229 (by decide +kernel) rfl), (inT6 228 (by decide +kernel) rfl), by decide, by decide, by decide +kernel⟩
set_option maxHeartbeats 4000000 in
theorem st_41 {X : Cx} {V : VV} {i : Int} {c s : Nat} {P : Int → VV → Prop} {XP : String → VV → Prop} {Q : Int → VV → Int → VV → Prop} {lo9 fr2 lo2 : Nat} (hX : Good X RL cL_law 9 13 466) (hR9 : LX X) (hi : 0 ≤ i ∧ i + 5 < yLn (cY X)) (hrm : c + 1 ≤ (cR X).cells ∧ s + 6 ≤ (cR X).slots) (hlo9 : lo9 ≤ 200) (h2 : fr2 ≤ 12 ∧ lo2 ≤ 300)
    (hc : OkX yX11_undo cX11_undo 1 (some .int) 8 lo9 [vA 0] V (pI P) XP) (hx : ∀ E V', XP E V' → E = exS)
    (hm : ∀ k V1, ((∃ x V0, P x V0 ∧ V1 = up V0 87 0 x ∧ k = 0) ∨ (XP exS V1 ∧ k = 1)) → Ok NA yX12_undo cX12_undo 3 (some .int) fr2 lo2 [vA 55] V1 (pI (Q k V1)))
    (he : ∀ k V1 b V2, ((∃ x V0, P x V0 ∧ V1 = up V0 87 0 x ∧ k = 0) ∨ (XP exS V1 ∧ k = 1)) → Q k V1 b V2 → V2 55 0 = k ∧ (k = 0 → V2 87 0 = b) ∧ J X (GT (c + 1) (s + 6)) 2097 [vP, vA 0, vA 55, vA 87, vI i, vU, vU, vU, vU] [] V2) : J X (GT c s) 2053 [vP, vA 0, vA 55, vA 87, vI i, vU, vU, vU, vU] [] V := by
  have hi9 : 0 ≤ i ∧ i + 5 < 3072 := ⟨hi.1, by have := hR9.2.2; omega⟩
  refine j_al1 hX dL_law_2053 rfl ?_
  refine j_al3 hX dL_law_2054 rfl ?_
  refine j_callC (as := [vA 0, vA 87]) hX gT hR9.1 hR9.2.1 lw_L_262 (wr_undo hlo9 hc hx) rfl (by decide) (by decide) (Nat.le_of_ble_eq_true rfl) rfl hrm dL_law_2055 (fun r V1 hr => ?_)
  obtain ⟨k, rfl, hk⟩ := hr
  show J X (GT (c + 1) (s + 6)) 2058 [vP, vA 0, vA 55, vA 87, vI i, vU, vU, vU, vU] [vI k] V1
  refine j_is5 hX dL_law_2058 rfl ?_
  refine j_al2 hX dL_law_2060 rfl ?_
  refine j_callV (k := 55) (ci := 12) (T := TX12) (N := 55) (as := []) hX gT lk_L_264 (hm k V1 hk) ⟨by decide, by decide, rfl⟩ rfl rfl (by omega) (by omega) (Nat.le_of_ble_eq_true rfl) rfl dL_law_2061 (fun r V2 hq => ?_)
  obtain ⟨b, rfl, hq⟩ := hq
  obtain ⟨hth, hout, hJ⟩ := he k V1 b V2 hk hq
  show J X (GT (c + 1) (s + 6)) 2064 [vP, vA 0, vA 55, vA 87, vI i, vI k, vU, vU, vU] [vI b] V2
  refine j_is6 hX dL_law_2064 rfl ?_
  refine j_al2 hX dL_law_2066 rfl ?_
  refine j_callV (k := 55) (ci := 12) (T := TX12) (N := 55) (as := []) hX gT lk_L_114 ok_X12_thrown ⟨by decide, by decide, rfl⟩ rfl rfl (by decide) (by decide) (Nat.le_of_ble_eq_true rfl) rfl dL_law_2067 (fun r V3 hq3 => ?_)
  obtain ⟨x3, rfl, rfl, rfl⟩ := hq3
  show J X (GT (c + 1) (s + 6)) 2070 [vP, vA 0, vA 55, vA 87, vI i, vI k, vI b, vU, vU] [vI (V3 55 0)] V3
  refine j_il5 hX dL_law_2070 ?_
  refine j_icmp_eq (tgt := 2077) hX dL_law_2072 (by decide) (fun _ => ?_) (fun h => absurd hth h)
  refine j_il5 hX dL_law_2077 ?_
  have hend : J X (GT (c + 1) (s + 6)) 2094 [vP, vA 0, vA 55, vA 87, vI i, vI k, vI b, vU, vU] [] V3 := by
    refine j_goto (tgt := 2097) hX dL_law_2094 (by decide) ?_
    refine j_fg5 ?_
    refine j_fg6 ?_
    exact hJ
  refine j_if_ne (tgt := 2094) hX dL_law_2079 (by decide) (fun _ => hend) (fun h0 => ?_)
  refine j_al3 hX dL_law_2082 rfl ?_
  refine j_iconst hX dL_law_2083 ⟨by decide, by decide⟩ ?_
  refine j_lald (n := 1) hX gT ⟨by decide, by decide, rfl, rfl⟩ ⟨by decide, by decide⟩ dL_law_2084 ?_
  refine j_il6 hX dL_law_2085 ?_
  refine j_i2l hX dL_law_2087 ?_
  exact j_lcmp_eq (tgt := 2094) hX dL_law_2088 dL_law_2089 (by decide) (fun _ => hend) (fun h => absurd (hout h0) h)
