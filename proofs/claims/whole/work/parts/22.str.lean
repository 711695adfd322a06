/-! strings: constants, their bytes -/
theorem gNC {G : GS} (h : gOK NA G) : gOK NC G := ⟨Nat.le_trans (by decide) h.1, fun k j h0 h1 => h.2 k j h0 (Int.lt_trans h1 (by decide))⟩
theorem strs_r : ∀ q ∈ strs, q.2.2.2.length < 20 ∧ ∀ b ∈ q.2.2.2, 97 ≤ b ∧ b < 123 := by decide +kernel
theorem strs_l {k : Int} {q : String × Nat × String × List Int} (h : strs[k.toNat]? = some q) : (q.2.2.2.length : Int) < 20 := by
  have := (strs_r q (List.mem_of_getElem? h)).1
  omega
theorem strs_b {k : Int} {q : String × Nat × String × List Int} (h : strs[k.toNat]? = some q) {i : Int} (h0 : 0 ≤ i) (h1 : i < q.2.2.2.length) : 97 ≤ q.2.2.2.getD i.toNat 0 ∧ q.2.2.2.getD i.toNat 0 < 123 := by
  rw [List.getD_eq_getElem?_getD, List.getElem?_eq_getElem (h := by omega)]
  exact (strs_r q (List.mem_of_getElem? h)).2 _ (List.getElem_mem _)
section STRS
variable {X : Cx} {own : String} {cc : ByteArray} {nL fr lo nx : Nat} {G : GS} {pc : Nat} {ls st : List MV} {V : VV}
theorem j_str_value {k : Int} {q : String × Nat × String × List Int} {idx : Nat} (hX : Good X own cc nL fr lo) (hd : decode cc pc = .ok (.getfield idx, 3)) (hl : Cond.fieldLink own idx "java/lang/String" "value" "[B" ∈ Gw) (hq : strs[k.toNat]? = some q) (kk : J X G (pc + 3) ls (vB k :: st) V) : J X G pc ls (vS k :: st) V := fun h1 h2 h3 H locs lsr hW hS hL =>
  vk_getf hX.1 hX.2.1 (hX.kk.2.2.1 _ _ hq).2.2.2.1 hS hX.own (hX.ts _ hl) (fun _ h => h) hd (kk h1 (okl_cons (okO (by decide) (by decide)) (okl_tl h2)) h3 H locs lsr hW hS hL)
theorem j_str_coder {k : Int} {q : String × Nat × String × List Int} {idx : Nat} (hX : Good X own cc nL fr lo) (hd : decode cc pc = .ok (.getfield idx, 3)) (hl : Cond.fieldLink own idx "java/lang/String" "coder" "B" ∈ Gw) (hq : strs[k.toNat]? = some q) (kk : J X G (pc + 3) ls (vI 0 :: st) V) : J X G pc ls (vS k :: st) V := fun h1 h2 h3 H locs lsr hW hS hL =>
  vk_getf hX.1 hX.2.1 (hX.kk.2.2.1 _ _ hq).2.2.1 hS hX.own (hX.ts _ hl) (fun _ h => h) hd (kk h1 (okl_cons (okI ⟨by decide, by decide⟩) (okl_tl h2)) h3 H locs lsr hW hS hL)
theorem j_bytes {k i : Int} {q : String × Nat × String × List Int} (hX : Good X own cc nL fr lo) (hd : decode cc pc = .ok (.baload, 1)) (hq : strs[k.toNat]? = some q) (hi : 0 ≤ i ∧ i < q.2.2.2.length) (kk : J X G (pc + 1) ls (vI (q.2.2.2.getD i.toNat 0) :: st) V) : J X G pc ls (vI i :: vB k :: st) V := fun h1 h2 h3 H locs lsr hW hS hL => by
  have hri := okIr (okl_hd h2)
  have hb := strs_b hq hi.1 hi.2
  exact va_tb hX.1 hX.2.1 (hX.kk.2.2.1 _ _ hq).2.2.2.2 hS (in_r hri hi rfl) (by rw [cl_r hri hi.1]; rfl) hd (kk h1 (okl_cons (okI ⟨by omega, by omega⟩) (okl_tl (okl_tl h2))) h3 H locs lsr hW hS hL)
theorem j_byteslen {k : Int} {q : String × Nat × String × List Int} (hX : Good X own cc nL fr lo) (hd : decode cc pc = .ok (.arraylength, 1)) (hq : strs[k.toNat]? = some q) (kk : J X G (pc + 1) ls (vI (q.2.2.2.length : Int) :: st) V) : J X G pc ls (vB k :: st) V := fun h1 h2 h3 H locs lsr hW hS hL => by
  have hl := strs_l hq
  exact va_tlen hX.1 hX.2.1 (hX.kk.2.2.1 _ _ hq).2.2.2.2 hS (v := Int32.ofInt (q.2.2.2.length : Int)) rfl hd (kk h1 (okl_cons (okI ⟨by omega, by omega⟩) (okl_tl h2)) h3 H locs lsr hW hS hL)
theorem j_ldcS {k : Int} {idx : Nat} {tx : String} {b : List Int} (hX : Good X own cc nL fr lo) (hd : decode cc pc = .ok (.ldc idx, 2)) (hq : strs[k.toNat]? = some (own, idx, tx, b)) (kk : J X G (pc + 2) ls (vS k :: st) V) : J X G pc ls st V := fun h1 h2 h3 H locs lsr hW hS hL =>
  va_ldcS hX.1 hX.2.1 hX.own (hX.kk.2.2.1 _ _ hq).1 hd (kk h1 (okl_cons (okO (by decide) (by decide)) h2) h3 H locs lsr hW hS hL)
theorem j_static_COMPACT_STRINGS {idx : Nat} (hX : Good X own cc nL fr lo) (hd : decode cc pc = .ok (.getstatic idx, 3)) (hl : Cond.fieldLink own idx "java/lang/String" "COMPACT_STRINGS" "Z" ∈ Gw) (kk : J X G (pc + 3) ls (vI 1 :: st) V) : J X G pc ls st V := fun h1 h2 h3 H locs lsr hW hS hL =>
  va_gets hX.1 hX.2.1 hX.kk.2.2.2.1.1 hS hX.own (hX.ts _ hl) (fun _ h => h) hd (kk h1 (okl_cons (okI ⟨by decide, by decide⟩) h2) h3 H locs lsr hW hS hL)
theorem j_static_SIOOBE_FORMATTER {idx : Nat} (hX : Good X own cc nL fr lo) (hd : decode cc pc = .ok (.getstatic idx, 3)) (hl : Cond.fieldLink own idx "jdk/internal/util/Preconditions" "SIOOBE_FORMATTER" "Ljava/util/function/BiFunction;" ∈ Gw) (kk : ∀ k : Int, J X G (pc + 3) ls (vN k :: st) V) : J X G pc ls st V := fun h1 h2 h3 H locs lsr hW hS hL => by
  rcases hX.kk.2.2.2.1.2 with h | ⟨t, h⟩
  · exact va_gets hX.1 hX.2.1 h hS hX.own (hX.ts _ hl) (fun _ h => h) hd (kk 0 h1 (okl_cons (okO (by decide) (by decide)) h2) h3 H locs lsr hW hS hL)
  · have g := kk ((t : Int) + 1) h1 (okl_cons (okO (by decide) (by decide)) h2) h3 H locs lsr hW hS hL
    have e : mvv (cY X) (vN ((t : Int) + 1)) = .ref t := by
      show (if (t : Int) + 1 = 0 then Value.null else .ref ((t : Int) + 1 - 1).toNat) = _
      rw [if_neg (by omega), show ((t : Int) + 1 - 1).toNat = t by omega]
    rw [List.map_cons, e] at g
    exact va_gets hX.1 hX.2.1 h hS hX.own (hX.ts _ hl) (fun _ h => h) hd g
theorem i2c_n : ∀ n : Nat, n < 256 → ((Int32.ofInt (n : Int)).toUInt32 % 65536).toInt32 = Int32.ofInt (n : Int) := by decide +kernel
theorem nar_c : ∀ n : Nat, n < 256 → narrow .char (.int (Int32.ofInt (n : Int))) = .int (Int32.ofInt (n : Int)) := by decide +kernel
theorem band_b : ∀ n : Nat, n < 256 → band 32 (n : Int) 255 = (n : Int) := by decide +kernel
theorem nar_char {x : Int} (h : 0 ≤ x ∧ x < 256) : narrow .char (.int (Int32.ofInt x)) = .int (Int32.ofInt x) := by
  have := nar_c x.toNat (by omega)
  rwa [show ((x.toNat : Nat) : Int) = x by omega] at this
theorem band_255 {x : Int} (h : 0 ≤ x ∧ x < 256) : band 32 x 255 = x := by
  have := band_b x.toNat (by omega)
  rwa [show ((x.toNat : Nat) : Int) = x by omega] at this
theorem j_i2c {x : Int} (hX : Good X own cc nL fr lo) (hd : decode cc pc = .ok (.i2c, 1)) (ho : 0 ≤ x ∧ x < 256) (kk : J X G (pc + 1) ls (vI x :: st) V) : J X G pc ls (vI x :: st) V := fun h1 h2 h3 H locs lsr hW hS hL =>
  lv_i2c hX.1 hX.2.1 hd (by have := i2c_n x.toNat (by omega); rwa [show ((x.toNat : Nat) : Int) = x by omega] at this) (kk h1 h2 h3 H locs lsr hW hS hL)
theorem j_slen (hX : Good X own cc nL fr lo) (hd : decode cc pc = .ok (.arraylength, 1)) (hn : yLn (cY X) < 2147483648) (kk : J X G (pc + 1) ls (vI (yLn (cY X) : Int) :: st) V) : J X G pc ls (vP :: st) V := fun h1 h2 h3 H locs lsr hW hS hL =>
  va_slen hX.1 hX.2.1 hX.kk.2.2.2.2.2.2.2.2.1 (Nat.lt_of_lt_of_le hX.kk.2.2.2.2.2.2.2.2.2.1 hX.kk.2.2.2.2.2.2.2.2.2.2) (Nat.not_le.mpr hX.kk.2.2.2.2.2.2.2.2.2.1) hS hd (kk h1 (okl_cons (okI ⟨by omega, by omega⟩) (okl_tl h2)) h3 H locs lsr hW hS hL)
theorem j_script {i : Int} (hX : Good X own cc nL fr lo) (hd : decode cc pc = .ok (.iaload, 1)) (hi : 0 ≤ i ∧ i < yLn (cY X)) (kk : J X G (pc + 1) ls (vI (yX (cY X) i.toNat).toInt :: st) V) : J X G pc ls (vI i :: vP :: st) V := fun h1 h2 h3 H locs lsr hW hS hL => by
  have hri := okIr (okl_hd h2)
  refine va_sld hX.1 hX.2.1 hX.kk.2.2.2.2.2.2.2.2.1 (Nat.lt_of_lt_of_le hX.kk.2.2.2.2.2.2.2.2.2.1 hX.kk.2.2.2.2.2.2.2.2.2.2) (Nat.not_le.mpr hX.kk.2.2.2.2.2.2.2.2.2.1) hS (in_r hri hi rfl) hd ?_
  have g := kk h1 (okl_cons (okI ⟨(yX (cY X) i.toNat).le_toInt, (yX (cY X) i.toNat).toInt_le⟩) (okl_tl (okl_tl h2))) h3 H locs lsr hW hS hL
  rw [List.map_cons, show mvv (cY X) (vI (yX (cY X) i.toNat).toInt) = .int (yX (cY X) i.toNat) by show Value.int (Int32.ofInt _) = _; rw [Int32.ofInt_toInt]] at g
  rw [cl_r hri hi.1]
  exact g
end STRS

theorem fs_J0_9 : Cond.fieldLink RJ0 9 "java/lang/String" "value" "[B" ∈ Gw := (inT9 172 (by decide +kernel) rfl)
theorem fs_J0_15 : Cond.fieldLink RJ0 15 "java/lang/String" "coder" "B" ∈ Gw := (inT9 173 (by decide +kernel) rfl)
theorem lk_J0_335 : lkV RJ0 335 yJ0_coder_7d493 cJ0_coder_7d493 1 (some .byte) 0 := ⟨⟨Or.inl (inT4 182 (by decide +kernel) rfl), (inT1 20 (by decide +kernel) rfl), (inT4 185 (by decide +kernel) rfl), by decide, by decide, by decide +kernel⟩, (inT4 183 (by decide +kernel) rfl), (inT4 184 (by decide +kernel) rfl)⟩
theorem lk_J0_492 : lkV RJ0 492 yJ0_isLatin1_aae02 cJ0_isLatin1_aae02 1 (some .boolean) 0 := ⟨⟨Or.inl (inT4 192 (by decide +kernel) rfl), (inT1 20 (by decide +kernel) rfl), (inT4 195 (by decide +kernel) rfl), by decide, by decide, by decide +kernel⟩, (inT4 193 (by decide +kernel) rfl), (inT4 194 (by decide +kernel) rfl)⟩
theorem lk_J0_495 : lkS RJ0 495 yJ1_charAt_3b067 cJ1_charAt_3b067 2 (some .char) 2 := ⟨⟨Or.inl (inT4 196 (by decide +kernel) rfl), (inT1 21 (by decide +kernel) rfl), (inT4 198 (by decide +kernel) rfl), by decide, by decide, by decide +kernel⟩, (inT4 197 (by decide +kernel) rfl)⟩
theorem lk_J1_9 : lkS RJ1 9 yJ0_checkIndex_df160 cJ0_checkIndex_df160 2 none 2 := ⟨⟨Or.inl (inT4 199 (by decide +kernel) rfl), (inT1 20 (by decide +kernel) rfl), (inT4 201 (by decide +kernel) rfl), by decide, by decide, by decide +kernel⟩, (inT4 200 (by decide +kernel) rfl)⟩
theorem lk_J0_1059 : lkS RJ0 1059 yJ3_checkIndex_8e157 cJ3_checkIndex_8e157 3 (some .int) 3 := ⟨⟨Or.inl (inT4 204 (by decide +kernel) rfl), (inT1 22 (by decide +kernel) rfl), (inT4 206 (by decide +kernel) rfl), by decide, by decide, by decide +kernel⟩, (inT4 205 (by decide +kernel) rfl)⟩
set_option maxHeartbeats 4000000 in
theorem ok_J3_checkIndex_8e157 {V : VV} {i n k : Int} (hi : 0 ≤ i ∧ i < n) : Ok NC yJ3_checkIndex_8e157 cJ3_checkIndex_8e157 3 (some .int) 0 0 [vI i, vI n, vN k] V (pI (fun x9 V' => x9 = i ∧ V' = V)) := by
  refine Ok.intro (by decide +kernel) (Nat.le_of_ble_eq_true rfl) (fun X G hX hG hR hoa hoV => ?_)
  show J X G 0 [vI i, vI n, vN k] [] V
  refine j_il0 hX dJ3_checkIndex_8e157_0 ?_
  refine j_if_lt (tgt := 9) hX dJ3_checkIndex_8e157_1 (by decide) (fun h_1 => ?_) (fun h_1 => ?_)
  · skip
    exfalso; omega
  · skip
    refine j_il0 hX dJ3_checkIndex_8e157_4 ?_
    refine j_il1 hX dJ3_checkIndex_8e157_5 ?_
    refine j_icmp_lt (tgt := 16) hX dJ3_checkIndex_8e157_6 (by decide) (fun h_6 => ?_) (fun h_6 => ?_)
    · skip
      refine j_il0 hX dJ3_checkIndex_8e157_16 ?_
      exact j_retI hR dJ3_checkIndex_8e157_17 ⟨by first | rfl | omega | (exfalso; omega), rfl⟩
    · skip
      exfalso; omega
set_option maxHeartbeats 4000000 in
theorem ok_J0_checkIndex_df160 {V : VV} {i n : Int} (hi : 0 ≤ i ∧ i < n) : Ok NC yJ0_checkIndex_df160 cJ0_checkIndex_df160 2 none 1 22 [vI i, vI n] V (pV (fun V' => V' = V)) := by
  refine Ok.intro (by decide +kernel) (Nat.le_of_ble_eq_true rfl) (fun X G hX hG hR hoa hoV => ?_)
  show J X G 0 [vI i, vI n] [] V
  refine j_il0 hX dJ0_checkIndex_df160_0 ?_
  refine j_il1 hX dJ0_checkIndex_df160_1 ?_
  refine j_static_SIOOBE_FORMATTER hX dJ0_checkIndex_df160_2 fz_J0_1053 (fun k_2 => ?_)
  refine j_pSI3 hX hG lk_J0_1059 (ok_J3_checkIndex_8e157 (by first | assumption | omega | decide)) (Nat.le_of_ble_eq_true rfl) (Nat.le_of_ble_eq_true rfl) (Nat.le_of_ble_eq_true rfl) rfl dJ0_checkIndex_df160_5 ?_
  refine j_pop hX dJ0_checkIndex_df160_8 rfl ?_
  exact j_ret hR dJ0_checkIndex_df160_9 rfl
set_option maxHeartbeats 4000000 in
theorem ok_J1_charAt_3b067 {V : VV} {k i : Int} {q : String × Nat × String × List Int} (hq : strs[k.toNat]? = some q) (hi : 0 ≤ i ∧ i < q.2.2.2.length) : Ok NC yJ1_charAt_3b067 cJ1_charAt_3b067 2 (some .char) 2 43 [vB k, vI i] V (pI (fun x9 V' => x9 = q.2.2.2.getD i.toNat 0 ∧ V' = V)) := by
  refine Ok.intro (by decide +kernel) (Nat.le_of_ble_eq_true rfl) (fun X G hX hG hR hoa hoV => ?_)
  show J X G 0 [vB k, vI i] [] V
  have hb9 := strs_b hq hi.1 hi.2
  refine j_il1 hX dJ1_charAt_3b067_0 ?_
  refine j_al0 hX dJ1_charAt_3b067_1 rfl ?_
  refine j_byteslen hX dJ1_charAt_3b067_2 (by assumption) ?_
  refine j_cSV2 hX hG lk_J1_9 (ok_J0_checkIndex_df160 (by first | assumption | omega | decide)) (Nat.le_of_ble_eq_true rfl) (Nat.le_of_ble_eq_true rfl) (Nat.le_of_ble_eq_true rfl) rfl dJ1_charAt_3b067_3 (fun V_3 h_3 => ?_)
  subst h_3
  refine j_al0 hX dJ1_charAt_3b067_6 rfl ?_
  refine j_il1 hX dJ1_charAt_3b067_7 ?_
  refine j_bytes hX dJ1_charAt_3b067_8 (by assumption) (by omega) ?_
  refine j_sipush hX dJ1_charAt_3b067_9 (by decide) ⟨by decide, by decide⟩ ?_
  refine j_iand hX dJ1_charAt_3b067_12 ?_
  refine j_eqS (by rw [band_255 (x := q.2.2.2.getD i.toNat 0) (by omega)]) ?_
  refine j_i2c hX dJ1_charAt_3b067_13 (by omega) ?_
  exact j_retN hR dJ1_charAt_3b067_14 (nar_char (by omega)) ⟨by first | rfl | omega | (exfalso; omega), rfl⟩
set_option maxHeartbeats 4000000 in
theorem ok_J0_isLatin1_aae02 {V : VV} {k : Int} {q : String × Nat × String × List Int} (hq : strs[k.toNat]? = some q) : Ok NC yJ0_isLatin1_aae02 cJ0_isLatin1_aae02 1 (some .boolean) 0 0 [vS k] V (pI (fun x9 V' => x9 = 1 ∧ V' = V)) := by
  refine Ok.intro (by decide +kernel) (Nat.le_of_ble_eq_true rfl) (fun X G hX hG hR hoa hoV => ?_)
  show J X G 0 [vS k] [] V
  refine j_static_COMPACT_STRINGS hX dJ0_isLatin1_aae02_0 fz_J0_38 ?_
  refine j_if_eq (tgt := 17) hX dJ0_isLatin1_aae02_3 (by decide) (fun h_3 => ?_) (fun h_3 => ?_)
  · skip
    exfalso; omega
  · skip
    refine j_al0 hX dJ0_isLatin1_aae02_6 rfl ?_
    refine j_str_coder hX dJ0_isLatin1_aae02_7 fs_J0_15 (by assumption) ?_
    refine j_if_ne (tgt := 17) hX dJ0_isLatin1_aae02_10 (by decide) (fun h_10 => ?_) (fun h_10 => ?_)
    · skip
      exfalso; omega
    · skip
      refine j_iconst hX dJ0_isLatin1_aae02_13 ⟨by decide, by decide⟩ ?_
      refine j_goto (tgt := 18) hX dJ0_isLatin1_aae02_14 (by decide) ?_
      exact j_retZ hR dJ0_isLatin1_aae02_18 (by omega) ⟨by first | rfl | omega | (exfalso; omega), rfl⟩
set_option maxHeartbeats 4000000 in
theorem ok_J0_coder_7d493 {V : VV} {k : Int} {q : String × Nat × String × List Int} (hq : strs[k.toNat]? = some q) : Ok NC yJ0_coder_7d493 cJ0_coder_7d493 1 (some .byte) 0 0 [vS k] V (pI (fun x9 V' => x9 = 0 ∧ V' = V)) := by
  refine Ok.intro (by decide +kernel) (Nat.le_of_ble_eq_true rfl) (fun X G hX hG hR hoa hoV => ?_)
  show J X G 0 [vS k] [] V
  refine j_static_COMPACT_STRINGS hX dJ0_coder_7d493_0 fz_J0_38 ?_
  refine j_if_eq (tgt := 13) hX dJ0_coder_7d493_3 (by decide) (fun h_3 => ?_) (fun h_3 => ?_)
  · skip
    exfalso; omega
  · skip
    refine j_al0 hX dJ0_coder_7d493_6 rfl ?_
    refine j_str_coder hX dJ0_coder_7d493_7 fs_J0_15 (by assumption) ?_
    refine j_goto (tgt := 14) hX dJ0_coder_7d493_10 (by decide) ?_
    exact j_retN hR dJ0_coder_7d493_14 rfl ⟨by first | rfl | omega | (exfalso; omega), rfl⟩
set_option maxHeartbeats 4000000 in
theorem ok_J0_length_8abf5 {V : VV} {k : Int} {q : String × Nat × String × List Int} (hq : strs[k.toNat]? = some q) : Ok NC yJ0_length_8abf5 cJ0_length_8abf5 1 (some .int) 1 20 [vS k] V (pI (fun x9 V' => x9 = (q.2.2.2.length : Int) ∧ V' = V)) := by
  refine Ok.intro (by decide +kernel) (Nat.le_of_ble_eq_true rfl) (fun X G hX hG hR hoa hoV => ?_)
  show J X G 0 [vS k] [] V
  refine j_al0 hX dJ0_length_8abf5_0 rfl ?_
  refine j_str_value hX dJ0_length_8abf5_1 fs_J0_9 (by assumption) ?_
  refine j_byteslen hX dJ0_length_8abf5_4 (by assumption) ?_
  refine j_al0 hX dJ0_length_8abf5_5 rfl ?_
  refine j_pTI0 hX hG lk_J0_335 (ok_J0_coder_7d493 (by first | assumption | rfl)) (by assumption) rfl (Nat.le_of_ble_eq_true rfl) (Nat.le_of_ble_eq_true rfl) (Nat.le_of_ble_eq_true rfl) rfl dJ0_length_8abf5_6 ?_
  refine j_ishr hX dJ0_length_8abf5_9 (by omega) ?_
  exact j_retI hR dJ0_length_8abf5_10 ⟨by simp, rfl⟩
set_option maxHeartbeats 4000000 in
theorem ok_J0_charAt_5068e {V : VV} {k i : Int} {q : String × Nat × String × List Int} (hq : strs[k.toNat]? = some q) (hi : 0 ≤ i ∧ i < q.2.2.2.length) : Ok NC yJ0_charAt_5068e cJ0_charAt_5068e 2 (some .char) 3 64 [vS k, vI i] V (pI (fun x9 V' => x9 = q.2.2.2.getD i.toNat 0 ∧ V' = V)) := by
  refine Ok.intro (by decide +kernel) (Nat.le_of_ble_eq_true rfl) (fun X G hX hG hR hoa hoV => ?_)
  show J X G 0 [vS k, vI i] [] V
  have hb9 := strs_b hq hi.1 hi.2
  refine j_al0 hX dJ0_charAt_5068e_0 rfl ?_
  refine j_pTI0 hX hG lk_J0_492 (ok_J0_isLatin1_aae02 (by first | assumption | rfl)) (by assumption) rfl (Nat.le_of_ble_eq_true rfl) (Nat.le_of_ble_eq_true rfl) (Nat.le_of_ble_eq_true rfl) rfl dJ0_charAt_5068e_1 ?_
  refine j_if_eq (tgt := 16) hX dJ0_charAt_5068e_4 (by decide) (fun h_4 => ?_) (fun h_4 => ?_)
  · skip
    exfalso; omega
  · skip
    refine j_al0 hX dJ0_charAt_5068e_7 rfl ?_
    refine j_str_value hX dJ0_charAt_5068e_8 fs_J0_9 (by assumption) ?_
    refine j_il1 hX dJ0_charAt_5068e_11 ?_
    refine j_pSI2 hX hG lk_J0_495 (ok_J1_charAt_3b067 (by first | assumption | rfl) (by first | assumption | omega | decide)) (Nat.le_of_ble_eq_true rfl) (Nat.le_of_ble_eq_true rfl) (Nat.le_of_ble_eq_true rfl) rfl dJ0_charAt_5068e_12 ?_
    exact j_retN hR dJ0_charAt_5068e_15 (nar_char (by omega)) ⟨by first | rfl | omega | (exfalso; omega), rfl⟩
