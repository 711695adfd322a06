/-! statics and the static row -/
section STAT
variable {X : Cx} {own : String} {cc : ByteArray} {nL fr lo nx : Nat} {G : GS} {pc : Nat} {ls st : List MV} {V : VV}
theorem j_static_IMAGES {idx : Nat} (hX : Good X own cc nL fr lo) (hd : decode cc pc = .ok (.getstatic idx, 3)) (hl : Cond.fieldLink own idx "GroupAutomaton$Group" "IMAGES" "[I" ∈ Gw) (kk : J X G (pc + 3) ls (vM :: st) V) : J X G pc ls st V := fun h1 h2 h3 H locs lsr hW hS hL =>
  va_gets hX.1 hX.2.1 hX.kk.2.2.2.2.1.1 hS hX.own (hX.ts _ hl) (fun _ h => h) hd (kk h1 (okl_cons (okO (by decide) (by decide)) h2) h3 H locs lsr hW hS hL)
theorem j_imgslen (hX : Good X own cc nL fr lo) (hd : decode cc pc = .ok (.arraylength, 1)) (kk : J X G (pc + 1) ls (vI 18 :: st) V) : J X G pc ls (vM :: st) V := fun h1 h2 h3 H locs lsr hW hS hL =>
  va_tlen hX.1 hX.2.1 hX.kk.2.2.2.2.1.2 hS (v := Int32.ofInt 18) rfl hd (kk h1 (okl_cons (okI ⟨by decide, by decide⟩) (okl_tl h2)) h3 H locs lsr hW hS hL)
theorem imgs_r (i : Nat) : r32 (imgs.getD i 0) := by
  by_cases h : i < 18
  · have : ∀ i, i < 18 → r32 (imgs.getD i 0) := by decide +kernel
    exact this i h
  · rw [show imgs.getD i 0 = 0 by simp [imgs, List.getD_eq_getElem?_getD]; rw [List.getElem?_eq_none (by simpa using h)]; rfl]
    exact ⟨by decide, by decide⟩
theorem j_images {i : Int} (hX : Good X own cc nL fr lo) (hd : decode cc pc = .ok (.iaload, 1)) (hi : 0 ≤ i ∧ i < 18) (kk : J X G (pc + 1) ls (vI (imgs.getD i.toNat 0) :: st) V) : J X G pc ls (vI i :: vM :: st) V := fun h1 h2 h3 H locs lsr hW hS hL => by
  have hri := okIr (okl_hd h2)
  exact va_ti hX.1 hX.2.1 hX.kk.2.2.2.2.1.2 hS (in_r hri hi rfl) (by rw [cl_r hri hi.1]; rfl) hd (kk h1 (okl_cons (okI (imgs_r _)) (okl_tl (okl_tl h2))) h3 H locs lsr hW hS hL)
end STAT
section LDC
variable {X : Cx} {own : String} {cc : ByteArray} {nL fr lo nx : Nat} {G : GS} {pc : Nat} {ls st : List MV} {V : VV}
theorem j_ldc {x : Int} {idx : Nat} (hX : Good X own cc nL fr lo) (hd : decode cc pc = .ok (.ldc idx, 2)) (hc : Cond.constant own idx (Int32.ofInt x) ∈ Gw) (ho : r32 x) (kk : J X G (pc + 2) ls (vI x :: st) V) : J X G pc ls st V := fun h1 h2 h3 H locs lsr hW hS hL =>
  lv_ldc hX.1 hX.2.1 hX.own (hX.ts _ hc) hd (kk h1 (okl_cons (okI ho) h2) h3 H locs lsr hW hS hL)
theorem j_ldc2 {x : Int} {idx : Nat} (hX : Good X own cc nL fr lo) (hd : decode cc pc = .ok (.ldc2_w idx, 3)) (hc : Cond.constantLong own idx (Int64.ofInt x) ∈ Gw) (ho : r64 x) (kk : J X G (pc + 3) ls (vL x :: st) V) : J X G pc ls st V := fun h1 h2 h3 H locs lsr hW hS hL =>
  lv_ldc2 hX.1 hX.2.1 hX.own (hX.ts _ hc) hd (kk h1 (okl_cons (okL ho) h2) h3 H locs lsr hW hS hL)
theorem j_ifz_eq {P : Prop} [Decidable P] {off : Int} {tgt : Nat} (hX : Good X own cc nL fr lo) (hd : decode cc pc = .ok (.ifCond .eq off, 3)) (ht : (pc : Int) + off = (tgt : Int)) (kt : ¬ P → J X G tgt ls st V) (kf : P → J X G (pc + 3) ls st V) : J X G pc ls (vI (if P then 1 else 0) :: st) V :=
  j_if_eq hX hd ht (fun q => kt (fun z => by rw [if_pos z] at q; exact absurd q (by decide))) (fun q => kf (Classical.byContradiction fun z => q (by rw [if_neg z])))
theorem j_ifz_ne {P : Prop} [Decidable P] {off : Int} {tgt : Nat} (hX : Good X own cc nL fr lo) (hd : decode cc pc = .ok (.ifCond .ne off, 3)) (ht : (pc : Int) + off = (tgt : Int)) (kt : P → J X G tgt ls st V) (kf : ¬ P → J X G (pc + 3) ls st V) : J X G pc ls (vI (if P then 1 else 0) :: st) V :=
  j_if_ne hX hd ht (fun q => kt (Classical.byContradiction fun z => q (by rw [if_neg z]))) (fun q => kf (fun z => by rw [if_pos z] at q; exact absurd q (by decide)))
end LDC

theorem fz_X2_33 : Cond.fieldLink RX2 33 "GroupAutomaton$Group" "IMAGES" "[I" ∈ Gw := (inT4 238 (by decide +kernel) rfl)
theorem fz_J0_38 : Cond.fieldLink RJ0 38 "java/lang/String" "COMPACT_STRINGS" "Z" ∈ Gw := (inT4 186 (by decide +kernel) rfl)
theorem fz_J0_1053 : Cond.fieldLink RJ0 1053 "jdk/internal/util/Preconditions" "SIOOBE_FORMATTER" "Ljava/util/function/BiFunction;" ∈ Gw := (inT4 202 (by decide +kernel) rfl)
theorem lc_X6_95 : Cond.constantLong RX6 95 (Int64.ofInt (-1)) ∈ Gw := (inT3 80 (by decide +kernel) rfl)
theorem lc_X3_42 : Cond.constant RX3 42 (Int32.ofInt (50000)) ∈ Gw := (inT5 228 (by decide +kernel) rfl)
theorem lc_X7_65 : Cond.constantLong RX7 65 (Int64.ofInt (6)) ∈ Gw := (inT6 111 (by decide +kernel) rfl)
theorem lc_X12_66 : Cond.constant RX12 66 (Int32.ofInt (50000)) ∈ Gw := (inT7 8 (by decide +kernel) rfl)
theorem lc_X12_395 : Cond.constantLong RX12 395 (Int64.ofInt (-1)) ∈ Gw := (inT9 27 (by decide +kernel) rfl)
