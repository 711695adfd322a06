/-! the law's cases, out of what the two methods answer -/
abbrev GT (c s : Nat) : GS := (88, fun _ _ => true, c, s)
theorem gT {c s : Nat} : gOK NA (GT c s) := ⟨Nat.le_refl _, fun _ _ _ _ => rfl⟩
abbrev sx (X : Cx) (m : Int) : Int := (yX (cY X) m.toNat).toInt
def LX (X : Cx) : Prop := X.2.2.1.stackTraces = false ∧ XW (cs X) ∧ yLn (cY X) ≤ 3072
abbrev ls9 (i : Int) : List MV := [vP, vA 0, vA 55, vA 87, vI i, vU, vU, vU, vU]
theorem lw_L_108 : lkC RL 108 yL_append cL_append 8 (some .int) [(0, 16, 19, 13)] 7 := ⟨(inT4 32 (by decide +kernel) rfl), (inT1 0 (by decide +kernel) rfl), (inT4 34 (by decide +kernel) rfl), (inT4 33 (by decide +kernel) rfl), by decide, by decide, by decide +kernel⟩
theorem lw_L_117 : lkC RL 117 yL_truncate cL_truncate 4 (some .int) [(0, 9, 12, 19)] 3 := ⟨(inT4 114 (by decide +kernel) rfl), (inT1 0 (by decide +kernel) rfl), (inT4 116 (by decide +kernel) rfl), (inT4 115 (by decide +kernel) rfl), by decide, by decide, by decide +kernel⟩
theorem lw_L_121 : lkC RL 121 yL_load cL_load 3 (some .int) [(0, 8, 11, 25)] 2 := ⟨(inT4 138 (by decide +kernel) rfl), (inT1 0 (by decide +kernel) rfl), (inT4 140 (by decide +kernel) rfl), (inT4 139 (by decide +kernel) rfl), by decide, by decide, by decide +kernel⟩
theorem lw_L_137 : lkC RL 137 yL_product cL_product 5 (some .int) [(0, 10, 13, 19)] 4 := ⟨(inT5 105 (by decide +kernel) rfl), (inT1 0 (by decide +kernel) rfl), (inT5 107 (by decide +kernel) rfl), (inT5 106 (by decide +kernel) rfl), by decide, by decide, by decide +kernel⟩
theorem lw_L_141 : lkC RL 141 yL_element cL_element 5 (some .int) [(0, 10, 13, 19), (0, 10, 17, 25)] 4 := ⟨(inT5 118 (by decide +kernel) rfl), (inT1 0 (by decide +kernel) rfl), (inT5 120 (by decide +kernel) rfl), (inT5 119 (by decide +kernel) rfl), by decide, by decide, by decide +kernel⟩
theorem lw_L_144 : lkC RL 144 yL_generated cL_generated 4 (some .int) [(0, 9, 12, 25)] 3 := ⟨(inT5 140 (by decide +kernel) rfl), (inT1 0 (by decide +kernel) rfl), (inT5 142 (by decide +kernel) rfl), (inT5 141 (by decide +kernel) rfl), by decide, by decide, by decide +kernel⟩
theorem lw_L_151 : lkC RL 151 yL_rule cL_rule 6 (some .int) [(0, 12, 15, 19)] 5 := ⟨(inT5 149 (by decide +kernel) rfl), (inT1 0 (by decide +kernel) rfl), (inT5 151 (by decide +kernel) rfl), (inT5 150 (by decide +kernel) rfl), by decide, by decide, by decide +kernel⟩
theorem lw_L_159 : lkC RL 159 yL_words cL_words 4 (some .int) [(0, 9, 12, 19)] 3 := ⟨(inT5 170 (by decide +kernel) rfl), (inT1 0 (by decide +kernel) rfl), (inT5 172 (by decide +kernel) rfl), (inT5 171 (by decide +kernel) rfl), by decide, by decide, by decide +kernel⟩
theorem lw_L_176 : lkC RL 176 yL_setCase cL_setCase 7 (some .int) [(0, 14, 17, 19)] 6 := ⟨(inT5 181 (by decide +kernel) rfl), (inT1 0 (by decide +kernel) rfl), (inT5 183 (by decide +kernel) rfl), (inT5 182 (by decide +kernel) rfl), by decide, by decide, by decide +kernel⟩
theorem lw_L_188 : lkC RL 188 yL_diamond cL_diamond 3 (some .int) [(0, 8, 11, 51)] 2 := ⟨(inT5 188 (by decide +kernel) rfl), (inT1 0 (by decide +kernel) rfl), (inT5 190 (by decide +kernel) rfl), (inT5 189 (by decide +kernel) rfl), by decide, by decide, by decide +kernel⟩
theorem lw_L_191 : lkC RL 191 yL_inverse cL_inverse 4 (some .int) [(0, 9, 12, 25), (0, 9, 15, 51)] 3 := ⟨(inT5 212 (by decide +kernel) rfl), (inT1 0 (by decide +kernel) rfl), (inT5 214 (by decide +kernel) rfl), (inT5 213 (by decide +kernel) rfl), by decide, by decide, by decide +kernel⟩
theorem lw_L_194 : lkC RL 194 yL_inverseOf cL_inverseOf 4 (some .int) [(0, 9, 12, 51), (0, 9, 15, 25)] 3 := ⟨(inT6 15 (by decide +kernel) rfl), (inT1 0 (by decide +kernel) rfl), (inT6 17 (by decide +kernel) rfl), (inT6 16 (by decide +kernel) rfl), by decide, by decide, by decide +kernel⟩
theorem lw_L_201 : lkC RL 201 yL_sum cL_sum 6 (some .int) [(0, 11, 14, 19), (0, 11, 18, 25)] 5 := ⟨(inT6 31 (by decide +kernel) rfl), (inT1 0 (by decide +kernel) rfl), (inT6 33 (by decide +kernel) rfl), (inT6 32 (by decide +kernel) rfl), by decide, by decide, by decide +kernel⟩
theorem lw_L_204 : lkC RL 204 yL_value cL_value 5 (some .int) [(0, 9, 12, 19), (0, 9, 16, 25)] 4 := ⟨(inT6 44 (by decide +kernel) rfl), (inT1 0 (by decide +kernel) rfl), (inT6 46 (by decide +kernel) rfl), (inT6 45 (by decide +kernel) rfl), by decide, by decide, by decide +kernel⟩
theorem lw_L_211 : lkC RL 211 yL_cell cL_cell 4 (some .int) [(0, 9, 12, 19)] 3 := ⟨(inT6 58 (by decide +kernel) rfl), (inT1 0 (by decide +kernel) rfl), (inT6 60 (by decide +kernel) rfl), (inT6 59 (by decide +kernel) rfl), by decide, by decide, by decide +kernel⟩
theorem lw_L_228 : lkC RL 228 yL_preimage cL_preimage 4 (some .int) [(0, 9, 12, 19), (0, 9, 15, 51)] 3 := ⟨(inT6 70 (by decide +kernel) rfl), (inT1 0 (by decide +kernel) rfl), (inT6 72 (by decide +kernel) rfl), (inT6 71 (by decide +kernel) rfl), by decide, by decide, by decide +kernel⟩
theorem lw_L_231 : lkC RL 231 yL_cycle cL_cycle 4 (some .int) [(0, 9, 12, 25), (0, 9, 15, 51)] 3 := ⟨(inT6 95 (by decide +kernel) rfl), (inT1 0 (by decide +kernel) rfl), (inT6 97 (by decide +kernel) rfl), (inT6 96 (by decide +kernel) rfl), by decide, by decide, by decide +kernel⟩
theorem lw_L_234 : lkC RL 234 yL_fixed cL_fixed 4 (some .int) [(0, 8, 11, 25)] 3 := ⟨(inT6 130 (by decide +kernel) rfl), (inT1 0 (by decide +kernel) rfl), (inT6 132 (by decide +kernel) rfl), (inT6 131 (by decide +kernel) rfl), by decide, by decide, by decide +kernel⟩
theorem lw_L_237 : lkC RL 237 yL_kernel cL_kernel 4 (some .int) [(0, 8, 11, 25)] 3 := ⟨(inT6 147 (by decide +kernel) rfl), (inT1 0 (by decide +kernel) rfl), (inT6 149 (by decide +kernel) rfl), (inT6 148 (by decide +kernel) rfl), by decide, by decide, by decide +kernel⟩
theorem lw_L_240 : lkC RL 240 yL_step cL_step 4 (some .int) [(0, 9, 12, 25)] 3 := ⟨(inT6 154 (by decide +kernel) rfl), (inT1 0 (by decide +kernel) rfl), (inT6 156 (by decide +kernel) rfl), (inT6 155 (by decide +kernel) rfl), by decide, by decide, by decide +kernel⟩
theorem lw_L_243 : lkC RL 243 yL_back cL_back 4 (some .int) [(0, 9, 12, 25), (0, 9, 15, 51), (0, 9, 18, 13)] 3 := ⟨(inT6 171 (by decide +kernel) rfl), (inT1 0 (by decide +kernel) rfl), (inT6 173 (by decide +kernel) rfl), (inT6 172 (by decide +kernel) rfl), by decide, by decide, by decide +kernel⟩
theorem lw_L_246 : lkC RL 246 yL_set cL_set 5 (some .int) [(0, 10, 13, 19)] 4 := ⟨(inT6 190 (by decide +kernel) rfl), (inT1 0 (by decide +kernel) rfl), (inT6 192 (by decide +kernel) rfl), (inT6 191 (by decide +kernel) rfl), by decide, by decide, by decide +kernel⟩
theorem lw_L_249 : lkC RL 249 yL_grow cL_grow 4 (some .int) [(0, 9, 12, 19), (0, 9, 15, 13)] 3 := ⟨(inT6 198 (by decide +kernel) rfl), (inT1 0 (by decide +kernel) rfl), (inT6 200 (by decide +kernel) rfl), (inT6 199 (by decide +kernel) rfl), by decide, by decide, by decide +kernel⟩
theorem lw_L_256 : lkC RL 256 yL_keep cL_keep 4 (some .int) [(0, 9, 12, 19)] 3 := ⟨(inT6 206 (by decide +kernel) rfl), (inT1 0 (by decide +kernel) rfl), (inT6 208 (by decide +kernel) rfl), (inT6 207 (by decide +kernel) rfl), by decide, by decide, by decide +kernel⟩
theorem lw_L_259 : lkC RL 259 yL_multiply cL_multiply 4 (some .int) [(0, 9, 12, 19), (0, 9, 15, 51), (0, 9, 18, 13)] 3 := ⟨(inT6 218 (by decide +kernel) rfl), (inT1 0 (by decide +kernel) rfl), (inT6 220 (by decide +kernel) rfl), (inT6 219 (by decide +kernel) rfl), by decide, by decide, by decide +kernel⟩
theorem lw_L_262 : lkC RL 262 yL_undo cL_undo 3 (some .int) [(0, 8, 11, 13)] 2 := ⟨(inT6 227 (by decide +kernel) rfl), (inT1 0 (by decide +kernel) rfl), (inT6 229 (by decide +kernel) rfl), (inT6 228 (by decide +kernel) rfl), by decide, by decide, by decide +kernel⟩
set_option maxHeartbeats 4000000 in
theorem st_6 {X : Cx} {V : VV} {i : Int} {c s : Nat} {P : Int → VV → Prop} {XP : String → VV → Prop} {Q : Int → VV → Int → VV → Prop} {lo9 fr2 lo2 : Nat} (hX : Good X RL cL_law 9 13 466) (hR9 : LX X) (hi : 0 ≤ i ∧ i + 5 < yLn (cY X)) (hrm : c + 1 ≤ (cR X).cells ∧ s + 6 ≤ (cR X).slots) (hlo9 : lo9 ≤ 200) (h2 : fr2 ≤ 12 ∧ lo2 ≤ 300)
    (hc : OkX yX11_product cX11_product 3 (some .int) 8 lo9 [vA 0, vI (sx X (i + 1)), vI (sx X (i + 2))] V (pI P) XP) (hx : ∀ E V', XP E V' → E = exB)
    (hm : ∀ k V1, ((∃ x V0, P x V0 ∧ V1 = up V0 87 0 x ∧ k = 0) ∨ (XP exB V1 ∧ k = 1)) → Ok NA yX12_product cX12_product 3 (some .int) fr2 lo2 [vA 55, vI (sx X (i + 1)), vI (sx X (i + 2))] V1 (pI (Q k V1)))
    (he : ∀ k V1 b V2, ((∃ x V0, P x V0 ∧ V1 = up V0 87 0 x ∧ k = 0) ∨ (XP exB V1 ∧ k = 1)) → Q k V1 b V2 → V2 55 0 = k ∧ (k = 0 → V2 87 0 = b) ∧ J X (GT (c + 1) (s + 6)) 2097 [vP, vA 0, vA 55, vA 87, vI i, vU, vU, vU, vU] [] V2) : J X (GT c s) 467 [vP, vA 0, vA 55, vA 87, vI i, vU, vU, vU, vU] [] V := by
  have hi9 : 0 ≤ i ∧ i + 5 < 3072 := ⟨hi.1, by have := hR9.2.2; omega⟩
  refine j_al1 hX dL_law_467 rfl ?_
  refine j_al0 hX dL_law_468 rfl ?_
  refine j_il4 hX dL_law_469 ?_
  refine j_iconst hX dL_law_471 ⟨by decide, by decide⟩ ?_
  refine j_iadd hX dL_law_472 (by omega) ?_
  refine j_script hX dL_law_473 (by omega) ?_
  refine j_al0 hX dL_law_474 rfl ?_
  refine j_il4 hX dL_law_475 ?_
  refine j_iconst hX dL_law_477 ⟨by decide, by decide⟩ ?_
  refine j_iadd hX dL_law_478 (by omega) ?_
  refine j_script hX dL_law_479 (by omega) ?_
  refine j_al3 hX dL_law_480 rfl ?_
  refine j_callC (as := [vA 0, vI (sx X (i + 1)), vI (sx X (i + 2)), vA 87]) hX gT hR9.1 hR9.2.1 lw_L_137 (wr_product hlo9 hc hx) rfl (by decide) (by decide) (Nat.le_of_ble_eq_true rfl) rfl hrm dL_law_481 (fun r V1 hr => ?_)
  obtain ⟨k, rfl, hk⟩ := hr
  show J X (GT (c + 1) (s + 6)) 484 [vP, vA 0, vA 55, vA 87, vI i, vU, vU, vU, vU] [vI k] V1
  refine j_is5 hX dL_law_484 rfl ?_
  refine j_al2 hX dL_law_486 rfl ?_
  refine j_al0 hX dL_law_487 rfl ?_
  refine j_il4 hX dL_law_488 ?_
  refine j_iconst hX dL_law_490 ⟨by decide, by decide⟩ ?_
  refine j_iadd hX dL_law_491 (by omega) ?_
  refine j_script hX dL_law_492 (by omega) ?_
  refine j_al0 hX dL_law_493 rfl ?_
  refine j_il4 hX dL_law_494 ?_
  refine j_iconst hX dL_law_496 ⟨by decide, by decide⟩ ?_
  refine j_iadd hX dL_law_497 (by omega) ?_
  refine j_script hX dL_law_498 (by omega) ?_
  refine j_callV (k := 55) (ci := 12) (T := TX12) (N := 55) (as := [vI (sx X (i + 1)), vI (sx X (i + 2))]) hX gT lk_L_140 (hm k V1 hk) ⟨by decide, by decide, rfl⟩ rfl rfl (by omega) (by omega) (Nat.le_of_ble_eq_true rfl) rfl dL_law_499 (fun r V2 hq => ?_)
  obtain ⟨b, rfl, hq⟩ := hq
  obtain ⟨hth, hout, hJ⟩ := he k V1 b V2 hk hq
  show J X (GT (c + 1) (s + 6)) 502 [vP, vA 0, vA 55, vA 87, vI i, vI k, vU, vU, vU] [vI b] V2
  refine j_is6 hX dL_law_502 rfl ?_
  refine j_al2 hX dL_law_504 rfl ?_
  refine j_callV (k := 55) (ci := 12) (T := TX12) (N := 55) (as := []) hX gT lk_L_114 ok_X12_thrown ⟨by decide, by decide, rfl⟩ rfl rfl (by decide) (by decide) (Nat.le_of_ble_eq_true rfl) rfl dL_law_505 (fun r V3 hq3 => ?_)
  obtain ⟨x3, rfl, rfl, rfl⟩ := hq3
  show J X (GT (c + 1) (s + 6)) 508 [vP, vA 0, vA 55, vA 87, vI i, vI k, vI b, vU, vU] [vI (V3 55 0)] V3
  refine j_il5 hX dL_law_508 ?_
  refine j_icmp_eq (tgt := 515) hX dL_law_510 (by decide) (fun _ => ?_) (fun h => absurd hth h)
  refine j_il5 hX dL_law_515 ?_
  have hend : J X (GT (c + 1) (s + 6)) 532 [vP, vA 0, vA 55, vA 87, vI i, vI k, vI b, vU, vU] [] V3 := by
    refine j_goto (tgt := 2097) hX dL_law_532 (by decide) ?_
    refine j_fg5 ?_
    refine j_fg6 ?_
    exact hJ
  refine j_if_ne (tgt := 532) hX dL_law_517 (by decide) (fun _ => hend) (fun h0 => ?_)
  refine j_al3 hX dL_law_520 rfl ?_
  refine j_iconst hX dL_law_521 ⟨by decide, by decide⟩ ?_
  refine j_lald (n := 1) hX gT ⟨by decide, by decide, rfl, rfl⟩ ⟨by decide, by decide⟩ dL_law_522 ?_
  refine j_il6 hX dL_law_523 ?_
  refine j_i2l hX dL_law_525 ?_
  exact j_lcmp_eq (tgt := 532) hX dL_law_526 dL_law_527 (by decide) (fun _ => hend) (fun h => absurd (hout h0) h)
