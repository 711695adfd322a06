set_option maxHeartbeats 4000000 in
theorem ok_X11_at {V : VV} {k i n : Int} (ha : ar NC k 1 n) (hn : n < 100000) : Ok NC yX11_at cX11_at 2 (some .int) 0 0 [vA k, vI i] V (pI (fun x9 V' => x9 = (if 0 ≤ i ∧ i < n then V k i else 0) ∧ V' = V)) := by
  refine Ok.intro (by decide +kernel) (Nat.le_of_ble_eq_true rfl) (fun X G hX hG hR hoa hoV => ?_)
  show J X G 0 [vA k, vI i] [] V
  refine j_il1 hX dX11_at_0 ?_
  refine j_if_lt (tgt := 16) hX dX11_at_1 (by decide) (fun h_1 => ?_) (fun h_1 => ?_)
  · skip
    refine j_iconst hX dX11_at_16 ⟨by decide, by decide⟩ ?_
    exact j_retI hR dX11_at_17 ⟨by first | rw [if_pos (by omega)] | rw [if_neg (by omega)], rfl⟩
  · skip
    refine j_il1 hX dX11_at_4 ?_
    refine j_al0 hX dX11_at_5 rfl ?_
    refine j_alen hX hG (by first | assumption | decide | exact ar8a (by assumption) | exact ar8b (by assumption) | exact ar8c (by assumption) | exact ar7 (by assumption) | exact ar2 (by assumption)) (by decide) (by omega) dX11_at_6 ?_
    refine j_icmp_ge (tgt := 16) hX dX11_at_7 (by decide) (fun h_7 => ?_) (fun h_7 => ?_)
    · skip
      refine j_iconst hX dX11_at_16 ⟨by decide, by decide⟩ ?_
      exact j_retI hR dX11_at_17 ⟨by first | rw [if_pos (by omega)] | rw [if_neg (by omega)], rfl⟩
    · skip
      refine j_al0 hX dX11_at_10 rfl ?_
      refine j_il1 hX dX11_at_11 ?_
      refine j_iald hX hG (by first | assumption | decide | exact ar8a (by assumption) | exact ar8b (by assumption) | exact ar8c (by assumption) | exact ar7 (by assumption) | exact ar2 (by assumption)) (by omega) dX11_at_12 ?_
      refine j_goto (tgt := 17) hX dX11_at_13 (by decide) ?_
      exact j_retI hR dX11_at_17 ⟨by first | rw [if_pos (by omega)] | rw [if_neg (by omega)], rfl⟩
set_option maxHeartbeats 4000000 in
theorem ok_X11_put {V : VV} {k i n x : Int} (ha : ar NC k 1 n) (hn : n < 100000) : Ok NC yX11_put cX11_put 3 none 0 0 [vA k, vI i, vI x] V (pV (fun V' => V' = if 0 ≤ i ∧ i < n then up V k i x else V)) := by
  refine Ok.intro (by decide +kernel) (Nat.le_of_ble_eq_true rfl) (fun X G hX hG hR hoa hoV => ?_)
  show J X G 0 [vA k, vI i, vI x] [] V
  refine j_il1 hX dX11_put_0 ?_
  refine j_if_lt (tgt := 14) hX dX11_put_1 (by decide) (fun h_1 => ?_) (fun h_1 => ?_)
  · skip
    exact j_ret hR dX11_put_14 (by first | rw [if_pos (by omega)] | rw [if_neg (by omega)])
  · skip
    refine j_il1 hX dX11_put_4 ?_
    refine j_al0 hX dX11_put_5 rfl ?_
    refine j_alen hX hG (by first | assumption | decide | exact ar8a (by assumption) | exact ar8b (by assumption) | exact ar8c (by assumption) | exact ar7 (by assumption) | exact ar2 (by assumption)) (by decide) (by omega) dX11_put_6 ?_
    refine j_icmp_ge (tgt := 14) hX dX11_put_7 (by decide) (fun h_7 => ?_) (fun h_7 => ?_)
    · skip
      exact j_ret hR dX11_put_14 (by first | rw [if_pos (by omega)] | rw [if_neg (by omega)])
    · skip
      refine j_al0 hX dX11_put_10 rfl ?_
      refine j_il1 hX dX11_put_11 ?_
      refine j_il2 hX dX11_put_12 ?_
      refine j_iast hX hG (by first | assumption | decide | exact ar8a (by assumption) | exact ar8b (by assumption) | exact ar8c (by assumption) | exact ar7 (by assumption) | exact ar2 (by assumption)) (by omega) dX11_put_13 ?_
      exact j_ret hR dX11_put_14 (by first | rw [if_pos (by omega)] | rw [if_neg (by omega)])
set_option maxHeartbeats 4000000 in
theorem ok_X11_bitsAt {V : VV} {k i n : Int} (ha : ar NC k 2 n) (hn : n < 100000) : Ok NC yX11_bitsAt cX11_bitsAt 2 (some .long) 0 0 [vA k, vI i] V (pL (fun x9 V' => x9 = (if 0 ≤ i ∧ i < n then V k i else 0) ∧ V' = V)) := by
  refine Ok.intro (by decide +kernel) (Nat.le_of_ble_eq_true rfl) (fun X G hX hG hR hoa hoV => ?_)
  show J X G 0 [vA k, vI i] [] V
  refine j_il1 hX dX11_bitsAt_0 ?_
  refine j_if_lt (tgt := 16) hX dX11_bitsAt_1 (by decide) (fun h_1 => ?_) (fun h_1 => ?_)
  · skip
    refine j_lconst (x := 0) hX dX11_bitsAt_16 rfl ⟨by decide, by decide⟩ ?_
    exact j_retL hR dX11_bitsAt_17 ⟨by first | rw [if_pos (by omega)] | rw [if_neg (by omega)], rfl⟩
  · skip
    refine j_il1 hX dX11_bitsAt_4 ?_
    refine j_al0 hX dX11_bitsAt_5 rfl ?_
    refine j_alen hX hG (by first | assumption | decide | exact ar8a (by assumption) | exact ar8b (by assumption) | exact ar8c (by assumption) | exact ar7 (by assumption) | exact ar2 (by assumption)) (by decide) (by omega) dX11_bitsAt_6 ?_
    refine j_icmp_ge (tgt := 16) hX dX11_bitsAt_7 (by decide) (fun h_7 => ?_) (fun h_7 => ?_)
    · skip
      refine j_lconst (x := 0) hX dX11_bitsAt_16 rfl ⟨by decide, by decide⟩ ?_
      exact j_retL hR dX11_bitsAt_17 ⟨by first | rw [if_pos (by omega)] | rw [if_neg (by omega)], rfl⟩
    · skip
      refine j_al0 hX dX11_bitsAt_10 rfl ?_
      refine j_il1 hX dX11_bitsAt_11 ?_
      refine j_lald hX hG (by first | assumption | decide | exact ar8a (by assumption) | exact ar8b (by assumption) | exact ar8c (by assumption) | exact ar7 (by assumption) | exact ar2 (by assumption)) (by omega) dX11_bitsAt_12 ?_
      refine j_goto (tgt := 17) hX dX11_bitsAt_13 (by decide) ?_
      exact j_retL hR dX11_bitsAt_17 ⟨by first | rw [if_pos (by omega)] | rw [if_neg (by omega)], rfl⟩
set_option maxHeartbeats 4000000 in
theorem ok_X11_putBits {V : VV} {k i n x : Int} (ha : ar NC k 2 n) (hn : n < 100000) : Ok NC yX11_putBits cX11_putBits 4 none 0 0 [vA k, vI i, vL x] V (pV (fun V' => V' = if 0 ≤ i ∧ i < n then up V k i x else V)) := by
  refine Ok.intro (by decide +kernel) (Nat.le_of_ble_eq_true rfl) (fun X G hX hG hR hoa hoV => ?_)
  show J X G 0 [vA k, vI i, vL x, vU] [] V
  refine j_il1 hX dX11_putBits_0 ?_
  refine j_if_lt (tgt := 14) hX dX11_putBits_1 (by decide) (fun h_1 => ?_) (fun h_1 => ?_)
  · skip
    exact j_ret hR dX11_putBits_14 (by first | rw [if_pos (by omega)] | rw [if_neg (by omega)])
  · skip
    refine j_il1 hX dX11_putBits_4 ?_
    refine j_al0 hX dX11_putBits_5 rfl ?_
    refine j_alen hX hG (by first | assumption | decide | exact ar8a (by assumption) | exact ar8b (by assumption) | exact ar8c (by assumption) | exact ar7 (by assumption) | exact ar2 (by assumption)) (by decide) (by omega) dX11_putBits_6 ?_
    refine j_icmp_ge (tgt := 14) hX dX11_putBits_7 (by decide) (fun h_7 => ?_) (fun h_7 => ?_)
    · skip
      exact j_ret hR dX11_putBits_14 (by first | rw [if_pos (by omega)] | rw [if_neg (by omega)])
    · skip
      refine j_al0 hX dX11_putBits_10 rfl ?_
      refine j_il1 hX dX11_putBits_11 ?_
      refine j_ll2 hX dX11_putBits_12 ?_
      refine j_last hX hG (by first | assumption | decide | exact ar8a (by assumption) | exact ar8b (by assumption) | exact ar8c (by assumption) | exact ar7 (by assumption) | exact ar2 (by assumption)) (by omega) dX11_putBits_13 ?_
      exact j_ret hR dX11_putBits_14 (by first | rw [if_pos (by omega)] | rw [if_neg (by omega)])
set_option maxHeartbeats 4000000 in
theorem ok_X11_quotient {V : VV} {a b : Int} (h0 : 0 ≤ a) : Ok NC yX11_quotient cX11_quotient 2 (some .int) 0 0 [vI a, vI b] V (pI (fun x9 V' => x9 = (if 0 < b then a / b else 0) ∧ V' = V)) := by
  refine Ok.intro (by decide +kernel) (Nat.le_of_ble_eq_true rfl) (fun X G hX hG hR hoa hoV => ?_)
  show J X G 0 [vI a, vI b] [] V
  refine j_il1 hX dX11_quotient_0 ?_
  refine j_if_le (tgt := 10) hX dX11_quotient_1 (by decide) (fun h_1 => ?_) (fun h_1 => ?_)
  · skip
    refine j_iconst hX dX11_quotient_10 ⟨by decide, by decide⟩ ?_
    exact j_retI hR dX11_quotient_11 ⟨by first | rw [if_pos (by omega)] | rw [if_neg (by omega)], rfl⟩
  · skip
    refine j_il0 hX dX11_quotient_4 ?_
    refine j_il1 hX dX11_quotient_5 ?_
    refine j_idiv hX dX11_quotient_6 (by omega) (by omega) ?_
    refine j_goto (tgt := 11) hX dX11_quotient_7 (by decide) ?_
    exact j_retI hR dX11_quotient_11 ⟨by first | rw [if_pos (by omega)] | rw [if_neg (by omega)], rfl⟩
set_option maxHeartbeats 4000000 in
theorem ok_X11_remainder {V : VV} {a b : Int} (h0 : 0 ≤ a) : Ok NC yX11_remainder cX11_remainder 2 (some .int) 0 0 [vI a, vI b] V (pI (fun x9 V' => x9 = (if 0 < b then a % b else 0) ∧ V' = V)) := by
  refine Ok.intro (by decide +kernel) (Nat.le_of_ble_eq_true rfl) (fun X G hX hG hR hoa hoV => ?_)
  show J X G 0 [vI a, vI b] [] V
  refine j_il1 hX dX11_remainder_0 ?_
  refine j_if_le (tgt := 10) hX dX11_remainder_1 (by decide) (fun h_1 => ?_) (fun h_1 => ?_)
  · skip
    refine j_iconst hX dX11_remainder_10 ⟨by decide, by decide⟩ ?_
    exact j_retI hR dX11_remainder_11 ⟨by first | rw [if_pos (by omega)] | rw [if_neg (by omega)], rfl⟩
  · skip
    refine j_il0 hX dX11_remainder_4 ?_
    refine j_il1 hX dX11_remainder_5 ?_
    refine j_irem hX dX11_remainder_6 (by omega) (by omega) ?_
    refine j_goto (tgt := 11) hX dX11_remainder_7 (by decide) ?_
    exact j_retI hR dX11_remainder_11 ⟨by first | rw [if_pos (by omega)] | rw [if_neg (by omega)], rfl⟩
set_option maxHeartbeats 4000000 in
theorem ok_X11_power {V : VV} {b e : Int} (hb : 1 ≤ b ∧ b ≤ 10) (he : 0 ≤ e ∧ e ≤ 8) : Ok NC yX11_power cX11_power 4 (some .int) 0 0 [vI b, vI e] V (pI (fun x9 V' => x9 = b ^ e.toNat ∧ V' = V)) := by
  refine Ok.intro (by decide +kernel) (Nat.le_of_ble_eq_true rfl) (fun X G hX hG hR hoa hoV => ?_)
  show J X G 0 [vI b, vI e, vU, vU] [] V
  refine j_iconst hX dX11_power_0 ⟨by decide, by decide⟩ ?_
  refine j_is2 hX dX11_power_1 rfl ?_
  refine j_iconst hX dX11_power_2 ⟨by decide, by decide⟩ ?_
  refine j_is3 hX dX11_power_3 rfl ?_
  have lp_4 : ∀ (f9 : Nat) (x k : Int), (0 ≤ k ∧ k ≤ e) → (x = b ^ k.toNat) → ((e - k).toNat) < f9 → J X G 4 [vI b, vI e, vI x, vI k] [] V := by
    intro f9
    induction f9 with
    | zero => intro x k _ _ hm; exact absurd hm (Nat.not_lt_zero _)
    | succ f9 ih_4 =>
      intro x k hk hx hm
      refine j_il3 hX dX11_power_4 ?_
      refine j_il1 hX dX11_power_5 ?_
      refine j_icmp_ge (tgt := 19) hX dX11_power_6 (by decide) (fun h_6 => ?_) (fun h_6 => ?_)
      · skip
        refine j_il2 hX dX11_power_19 ?_
        exact j_retI hR dX11_power_20 ⟨by rw [hx, show k = e by omega], rfl⟩
      · skip
        refine j_il2 hX dX11_power_9 ?_
        refine j_il0 hX dX11_power_10 ?_
        refine j_imul hX dX11_power_11 (by have := pw_7 hb (n := (k + 1).toNat) (by omega); rw [pwS b hk.1, ← hx] at this; omega) ?_
        refine j_is2 hX dX11_power_12 rfl ?_
        refine j_inc3 hX dX11_power_13 rfl (by omega) ?_
        refine j_goto (tgt := 4) hX dX11_power_16 (by decide) ?_
        exact ih_4 _ _ (by omega) (by rw [hx, pwS b hk.1]) (by omega)
  exact lp_4 _ _ _ (by omega) (by simp) (Nat.lt_succ_self _)
set_option maxHeartbeats 4000000 in
theorem ok_X11_over {V : VV} {a b : Int}  : Ok NC yX11_over cX11_over 4 (some .long) 0 0 [vL a, vL b] V (pL (fun x9 V' => x9 = (if 0 < b then a.tdiv b else 0) ∧ V' = V)) := by
  refine Ok.intro (by decide +kernel) (Nat.le_of_ble_eq_true rfl) (fun X G hX hG hR hoa hoV => ?_)
  show J X G 0 [vL a, vU, vL b, vU] [] V
  refine j_ll2 hX dX11_over_0 ?_
  refine j_lconst (x := 0) hX dX11_over_1 rfl ⟨by decide, by decide⟩ ?_
  refine j_lcmp_le (tgt := 12) hX dX11_over_2 dX11_over_3 (by decide) (fun h_3 => ?_) (fun h_3 => ?_)
  · skip
    refine j_lconst (x := 0) hX dX11_over_12 rfl ⟨by decide, by decide⟩ ?_
    exact j_retL hR dX11_over_13 ⟨by first | rw [if_pos (by omega)] | rw [if_neg (by omega)], rfl⟩
  · skip
    refine j_ll0 hX dX11_over_6 ?_
    refine j_ll2 hX dX11_over_7 ?_
    refine j_ldivT hX dX11_over_8 (by omega) ?_
    refine j_goto (tgt := 13) hX dX11_over_9 (by decide) ?_
    exact j_retL hR dX11_over_13 ⟨by first | rw [if_pos (by omega)] | rw [if_neg (by omega)], rfl⟩
set_option maxHeartbeats 4000000 in
theorem ok_J9_floorMod_7cf53 {V : VV} {a b : Int} (hb : 0 < b) : Ok NC yJ9_floorMod_7cf53 cJ9_floorMod_7cf53 3 (some .int) 0 0 [vI a, vI b] V (pI (fun x9 V' => x9 = a % b ∧ V' = V)) := by
  refine Ok.intro (by decide +kernel) (Nat.le_of_ble_eq_true rfl) (fun X G hX hG hR hoa hoV => ?_)
  show J X G 0 [vI a, vI b, vU] [] V
  refine j_il0 hX dJ9_floorMod_7cf53_0 ?_
  refine j_il1 hX dJ9_floorMod_7cf53_1 ?_
  refine j_iremT hX dJ9_floorMod_7cf53_2 (by omega) ?_
  refine j_is2 hX dJ9_floorMod_7cf53_3 rfl ?_
  refine j_il0 hX dJ9_floorMod_7cf53_4 ?_
  refine j_il1 hX dJ9_floorMod_7cf53_5 ?_
  refine j_ixor hX dJ9_floorMod_7cf53_6 ?_
  have ha9 := okIr (hoa (vI a) (by simp))
  have hb9 := okIr (hoa (vI b) (by simp))
  have hx9 := xor_neg ha9 hb9 hb
  have ht9 := tm_em a hb
  have h91 := Int.emod_nonneg a (show b ≠ 0 by omega)
  have h92 := Int.emod_lt_of_pos a hb
  refine j_if_ge (tgt := 18) hX dJ9_floorMod_7cf53_7 (by decide) (fun h_7 => ?_) (fun h_7 => ?_)
  · skip
    refine j_il2 hX dJ9_floorMod_7cf53_18 ?_
    exact j_retI hR dJ9_floorMod_7cf53_19 ⟨by omega, rfl⟩
  · skip
    refine j_il2 hX dJ9_floorMod_7cf53_10 ?_
    refine j_if_eq (tgt := 18) hX dJ9_floorMod_7cf53_11 (by decide) (fun h_11 => ?_) (fun h_11 => ?_)
    · skip
      refine j_il2 hX dJ9_floorMod_7cf53_18 ?_
      exact j_retI hR dJ9_floorMod_7cf53_19 ⟨by omega, rfl⟩
    · skip
      refine j_il2 hX dJ9_floorMod_7cf53_14 ?_
      refine j_il1 hX dJ9_floorMod_7cf53_15 ?_
      refine j_iadd hX dJ9_floorMod_7cf53_16 (by omega) ?_
      exact j_retI hR dJ9_floorMod_7cf53_17 ⟨by omega, rfl⟩
set_option maxHeartbeats 4000000 in
theorem ok_X11_around {V : VV} {a b : Int}  : Ok NC yX11_around cX11_around 2 (some .int) 1 22 [vI a, vI b] V (pI (fun x9 V' => x9 = (if 0 < b then a % b else 0) ∧ V' = V)) := by
  refine Ok.intro (by decide +kernel) (Nat.le_of_ble_eq_true rfl) (fun X G hX hG hR hoa hoV => ?_)
  show J X G 0 [vI a, vI b] [] V
  refine j_il1 hX dX11_around_0 ?_
  refine j_if_le (tgt := 12) hX dX11_around_1 (by decide) (fun h_1 => ?_) (fun h_1 => ?_)
  · skip
    refine j_iconst hX dX11_around_12 ⟨by decide, by decide⟩ ?_
    exact j_retI hR dX11_around_13 ⟨by first | rw [if_pos (by omega)] | rw [if_neg (by omega)], rfl⟩
  · skip
    refine j_il0 hX dX11_around_4 ?_
    refine j_il1 hX dX11_around_5 ?_
    refine j_pSI2 hX hG lk_X11_384 (ok_J9_floorMod_7cf53 (by first | assumption | omega | decide)) (Nat.le_of_ble_eq_true rfl) (Nat.le_of_ble_eq_true rfl) (Nat.le_of_ble_eq_true rfl) rfl dX11_around_6 ?_
    refine j_goto (tgt := 13) hX dX11_around_9 (by decide) ?_
    exact j_retI hR dX11_around_13 ⟨by first | rw [if_pos (by omega)] | rw [if_neg (by omega)], rfl⟩
set_option maxHeartbeats 4000000 in
theorem ok_J9_abs_067f4 {V : VV} {a : Int} (h : -9223372036854775808 < a) : Ok NC yJ9_abs_067f4 cJ9_abs_067f4 2 (some .long) 0 0 [vL a] V (pL (fun x9 V' => x9 = (a.natAbs : Int) ∧ V' = V)) := by
  refine Ok.intro (by decide +kernel) (Nat.le_of_ble_eq_true rfl) (fun X G hX hG hR hoa hoV => ?_)
  show J X G 0 [vL a, vU] [] V
  refine j_ll0 hX dJ9_abs_067f4_0 ?_
  refine j_lconst (x := 0) hX dJ9_abs_067f4_1 rfl ⟨by decide, by decide⟩ ?_
  refine j_lcmp_ge (tgt := 11) hX dJ9_abs_067f4_2 dJ9_abs_067f4_3 (by decide) (fun h_3 => ?_) (fun h_3 => ?_)
  · skip
    refine j_ll0 hX dJ9_abs_067f4_11 ?_
    exact j_retL hR dJ9_abs_067f4_12 ⟨by omega, rfl⟩
  · skip
    refine j_ll0 hX dJ9_abs_067f4_6 ?_
    refine j_rngL (fun hr9 => ?_)
    refine j_lneg hX dJ9_abs_067f4_7 (by omega) ?_
    refine j_goto (tgt := 12) hX dJ9_abs_067f4_8 (by decide) ?_
    exact j_retL hR dJ9_abs_067f4_12 ⟨by omega, rfl⟩
set_option maxHeartbeats 4000000 in
theorem ok_J9_min_7cf53 {V : VV} {a b : Int}  : Ok NC yJ9_min_7cf53 cJ9_min_7cf53 2 (some .int) 0 0 [vI a, vI b] V (pI (fun x9 V' => x9 = (if a ≤ b then a else b) ∧ V' = V)) := by
  refine Ok.intro (by decide +kernel) (Nat.le_of_ble_eq_true rfl) (fun X G hX hG hR hoa hoV => ?_)
  show J X G 0 [vI a, vI b] [] V
  refine j_il0 hX dJ9_min_7cf53_0 ?_
  refine j_il1 hX dJ9_min_7cf53_1 ?_
  refine j_icmp_gt (tgt := 9) hX dJ9_min_7cf53_2 (by decide) (fun h_2 => ?_) (fun h_2 => ?_)
  · skip
    refine j_il1 hX dJ9_min_7cf53_9 ?_
    exact j_retI hR dJ9_min_7cf53_10 ⟨by first | rw [if_pos (by omega)] | rw [if_neg (by omega)], rfl⟩
  · skip
    refine j_il0 hX dJ9_min_7cf53_5 ?_
    refine j_goto (tgt := 10) hX dJ9_min_7cf53_6 (by decide) ?_
    exact j_retI hR dJ9_min_7cf53_10 ⟨by first | rw [if_pos (by omega)] | rw [if_neg (by omega)], rfl⟩
set_option maxHeartbeats 4000000 in
theorem ok_J7_fill_d0a16 {V : VV} {k x n : Int} (ha : ar NC k 2 n) (hn : n < 100000) : Ok NC yJ7_fill_d0a16 cJ7_fill_d0a16 5 none 0 0 [vA k, vL x] V (pV (fun V' => V' = fillV V k n x)) := by
  refine Ok.intro (by decide +kernel) (Nat.le_of_ble_eq_true rfl) (fun X G hX hG hR hoa hoV => ?_)
  show J X G 0 [vA k, vL x, vU, vU, vU] [] V
  refine j_iconst hX dJ7_fill_d0a16_0 ⟨by decide, by decide⟩ ?_
  refine j_is3 hX dJ7_fill_d0a16_1 rfl ?_
  refine j_al0 hX dJ7_fill_d0a16_2 rfl ?_
  refine j_alen hX hG (by first | assumption | decide | exact ar8a (by assumption) | exact ar8b (by assumption) | exact ar8c (by assumption) | exact ar7 (by assumption) | exact ar2 (by assumption)) (by decide) (by omega) dJ7_fill_d0a16_3 ?_
  refine j_is4 hX dJ7_fill_d0a16_4 rfl ?_
  have lp_6 : ∀ (f9 : Nat) (i : Int), (0 ≤ i ∧ i ≤ n) → ((n - i).toNat) < f9 → J X G 6 [vA k, vL x, vU, vI i, vI n] [] (fillV V k i x) := by
    intro f9
    induction f9 with
    | zero => intro i _ hm; exact absurd hm (Nat.not_lt_zero _)
    | succ f9 ih_6 =>
      intro i hi hm
      refine j_il3 hX dJ7_fill_d0a16_6 ?_
      refine j_il4 hX dJ7_fill_d0a16_7 ?_
      refine j_icmp_ge (tgt := 22) hX dJ7_fill_d0a16_9 (by decide) (fun h_9 => ?_) (fun h_9 => ?_)
      · skip
        exact j_ret hR dJ7_fill_d0a16_22 (by rw [show i = n by omega])
      · skip
        refine j_al0 hX dJ7_fill_d0a16_12 rfl ?_
        refine j_il3 hX dJ7_fill_d0a16_13 ?_
        refine j_ll1 hX dJ7_fill_d0a16_14 ?_
        refine j_last hX hG (by first | assumption | decide | exact ar8a (by assumption) | exact ar8b (by assumption) | exact ar8c (by assumption) | exact ar7 (by assumption) | exact ar2 (by assumption)) (by omega) dJ7_fill_d0a16_15 ?_
        refine j_inc3 hX dJ7_fill_d0a16_16 rfl (by omega) ?_
        refine j_goto (tgt := 6) hX dJ7_fill_d0a16_19 (by decide) ?_
        refine j_eqV (fill_S V k x hi.1).symm ?_
        exact ih_6 _ (by omega) (by omega)
  refine j_eqV (fill_0 V k x) ?_
  exact lp_6 _ _ (by have := ha.2.2.2; omega) (Nat.lt_succ_self _)
set_option maxHeartbeats 4000000 in
theorem ok_J7_fill_53178 {V : VV} {k x n : Int} (ha : ar NC k 1 n) (hn : n < 100000) : Ok NC yJ7_fill_53178 cJ7_fill_53178 4 none 0 0 [vA k, vI x] V (pV (fun V' => V' = fillV V k n x)) := by
  refine Ok.intro (by decide +kernel) (Nat.le_of_ble_eq_true rfl) (fun X G hX hG hR hoa hoV => ?_)
  show J X G 0 [vA k, vI x, vU, vU] [] V
  refine j_iconst hX dJ7_fill_53178_0 ⟨by decide, by decide⟩ ?_
  refine j_is2 hX dJ7_fill_53178_1 rfl ?_
  refine j_al0 hX dJ7_fill_53178_2 rfl ?_
  refine j_alen hX hG (by first | assumption | decide | exact ar8a (by assumption) | exact ar8b (by assumption) | exact ar8c (by assumption) | exact ar7 (by assumption) | exact ar2 (by assumption)) (by decide) (by omega) dJ7_fill_53178_3 ?_
  refine j_is3 hX dJ7_fill_53178_4 rfl ?_
  have lp_5 : ∀ (f9 : Nat) (i : Int), (0 ≤ i ∧ i ≤ n) → ((n - i).toNat) < f9 → J X G 5 [vA k, vI x, vI i, vI n] [] (fillV V k i x) := by
    intro f9
    induction f9 with
    | zero => intro i _ hm; exact absurd hm (Nat.not_lt_zero _)
    | succ f9 ih_5 =>
      intro i hi hm
      refine j_il2 hX dJ7_fill_53178_5 ?_
      refine j_il3 hX dJ7_fill_53178_6 ?_
      refine j_icmp_ge (tgt := 20) hX dJ7_fill_53178_7 (by decide) (fun h_7 => ?_) (fun h_7 => ?_)
      · skip
        exact j_ret hR dJ7_fill_53178_20 (by rw [show i = n by omega])
      · skip
        refine j_al0 hX dJ7_fill_53178_10 rfl ?_
        refine j_il2 hX dJ7_fill_53178_11 ?_
        refine j_il1 hX dJ7_fill_53178_12 ?_
        refine j_iast hX hG (by first | assumption | decide | exact ar8a (by assumption) | exact ar8b (by assumption) | exact ar8c (by assumption) | exact ar7 (by assumption) | exact ar2 (by assumption)) (by omega) dJ7_fill_53178_13 ?_
        refine j_inc2 hX dJ7_fill_53178_14 rfl (by omega) ?_
        refine j_goto (tgt := 5) hX dJ7_fill_53178_17 (by decide) ?_
        refine j_eqV (fill_S V k x hi.1).symm ?_
        exact ih_5 _ (by omega) (by omega)
  refine j_eqV (fill_0 V k x) ?_
  exact lp_5 _ _ (by have := ha.2.2.2; omega) (Nat.lt_succ_self _)
set_option maxHeartbeats 4000000 in
theorem ok_X11_leastOf {V : VV} {s : Int}  : Ok NC yX11_leastOf cX11_leastOf 3 (some .int) 0 0 [vL s] V (pI (fun x9 V' => x9 = leastB s ∧ V' = V)) := by
  refine Ok.intro (by decide +kernel) (Nat.le_of_ble_eq_true rfl) (fun X G hX hG hR hoa hoV => ?_)
  show J X G 0 [vL s, vU, vU] [] V
  have hs9 := okLr (hoa (vL s) (by simp))
  refine j_iconst hX dX11_leastOf_0 ⟨by decide, by decide⟩ ?_
  refine j_is2 hX dX11_leastOf_1 rfl ?_
  have lp_2 : ∀ (f9 : Nat) (k : Int), (0 ≤ k ∧ k ≤ 64) → (∀ j : Nat, (j : Int) < k → bt 64 s j = false) → ((64 - k).toNat) < f9 → J X G 2 [vL s, vU, vI k] [] V := by
    intro f9
    induction f9 with
    | zero => intro k _ _ hm; exact absurd hm (Nat.not_lt_zero _)
    | succ f9 ih_2 =>
      intro k hk hf hm
      refine j_il2 hX dX11_leastOf_2 ?_
      refine j_bipush hX dX11_leastOf_3 (by decide) ⟨by decide, by decide⟩ ?_
      refine j_icmp_ge (tgt := 26) hX dX11_leastOf_5 (by decide) (fun h_5 => ?_) (fun h_5 => ?_)
      · skip
        refine j_iconst hX dX11_leastOf_26 ⟨by decide, by decide⟩ ?_
        exact j_retI hR dX11_leastOf_27 ⟨by rw [leastB_no (fun j hj => hf j (by omega))], rfl⟩
      · skip
        refine j_ll0 hX dX11_leastOf_8 ?_
        refine j_il2 hX dX11_leastOf_9 ?_
        refine j_lshr hX dX11_leastOf_10 (by omega) ?_
        refine j_lconst (x := 1) hX dX11_leastOf_11 rfl ⟨by decide, by decide⟩ ?_
        refine j_land hX dX11_leastOf_12 ?_
        refine j_lconst (x := 0) hX dX11_leastOf_13 rfl ⟨by decide, by decide⟩ ?_
        refine j_lcmp_eq (tgt := 20) hX dX11_leastOf_14 dX11_leastOf_15 (by decide) (fun h_15 => ?_) (fun h_15 => ?_)
        · skip
          have hnot : bt 64 s k.toNat = false := by
            rw [has64 hs9 (by omega)] at h_15
            cases q : bt 64 s k.toNat
            · rfl
            · rw [q] at h_15; exact absurd h_15 (by decide)
          refine j_inc2 hX dX11_leastOf_20 rfl (by omega) ?_
          refine j_goto (tgt := 2) hX dX11_leastOf_23 (by decide) ?_
          exact ih_2 _ (by omega) (by intro j hj; by_cases q : (j : Int) < k; exact hf j q; rw [← show k.toNat = j by omega]; exact hnot) (by omega)
        · skip
          have h9 : bt 64 s k.toNat = true := by
            rw [has64 hs9 (by omega)] at h_15
            cases q : bt 64 s k.toNat
            · rw [q] at h_15; exact absurd rfl h_15
            · rfl
          refine j_il2 hX dX11_leastOf_18 ?_
          exact j_retI hR dX11_leastOf_19 ⟨by rw [leastB_of (k := k.toNat) (by omega) h9 (fun j hj => hf j (by omega))]; omega, rfl⟩
  exact lp_2 _ _ (by omega) (by omega) (Nat.lt_succ_self _)
set_option maxHeartbeats 4000000 in
theorem ok_X11_at_img {V : VV} {i : Int} (hi : 0 ≤ i ∧ i < 18) : Ok NC yX11_at cX11_at 2 (some .int) 0 0 [vM, vI i] V (pI (fun x9 V' => x9 = imgs.getD i.toNat 0 ∧ V' = V)) := by
  refine Ok.intro (by decide +kernel) (Nat.le_of_ble_eq_true rfl) (fun X G hX hG hR hoa hoV => ?_)
  show J X G 0 [vM, vI i] [] V
  refine j_il1 hX dX11_at_0 ?_
  refine j_if_lt (tgt := 16) hX dX11_at_1 (by decide) (fun h_1 => ?_) (fun h_1 => ?_)
  · skip
    refine j_iconst hX dX11_at_16 ⟨by decide, by decide⟩ ?_
    exact j_retI hR dX11_at_17 ⟨by first | rfl | omega | (exfalso; omega), rfl⟩
  · skip
    refine j_il1 hX dX11_at_4 ?_
    refine j_al0 hX dX11_at_5 rfl ?_
    refine j_imgslen hX dX11_at_6 ?_
    refine j_icmp_ge (tgt := 16) hX dX11_at_7 (by decide) (fun h_7 => ?_) (fun h_7 => ?_)
    · skip
      refine j_iconst hX dX11_at_16 ⟨by decide, by decide⟩ ?_
      exact j_retI hR dX11_at_17 ⟨by first | rfl | omega | (exfalso; omega), rfl⟩
    · skip
      refine j_al0 hX dX11_at_10 rfl ?_
      refine j_il1 hX dX11_at_11 ?_
      refine j_images hX dX11_at_12 (by omega) ?_
      refine j_goto (tgt := 17) hX dX11_at_13 (by decide) ?_
      exact j_retI hR dX11_at_17 ⟨by first | rfl | omega | (exfalso; omega), rfl⟩
theorem ok_X11_at_in {V : VV} {k i n : Int} (ha : ar NC k 1 n) (hn : n < 100000) (hi : 0 ≤ i ∧ i < n) : Ok NC yX11_at cX11_at 2 (some .int) 0 0 [vA k, vI i] V (pI (fun x V' => x = V k i ∧ V' = V)) := by
  have h := ok_X11_at (V := V) (i := i) ha hn
  rw [if_pos hi] at h
  exact h
theorem ok_X11_bitsAt_in {V : VV} {k i n : Int} (ha : ar NC k 2 n) (hn : n < 100000) (hi : 0 ≤ i ∧ i < n) : Ok NC yX11_bitsAt cX11_bitsAt 2 (some .long) 0 0 [vA k, vI i] V (pL (fun x V' => x = V k i ∧ V' = V)) := by
  have h := ok_X11_bitsAt (V := V) (i := i) ha hn
  rw [if_pos hi] at h
  exact h
theorem ok_X11_put_in {V : VV} {k i n x : Int} (ha : ar NC k 1 n) (hn : n < 100000) (hi : 0 ≤ i ∧ i < n) : Ok NC yX11_put cX11_put 3 none 0 0 [vA k, vI i, vI x] V (pV (fun V' => V' = up V k i x)) := by
  have h := ok_X11_put (V := V) (i := i) (x := x) ha hn
  rw [if_pos hi] at h
  exact h
theorem ok_X11_putBits_in {V : VV} {k i n x : Int} (ha : ar NC k 2 n) (hn : n < 100000) (hi : 0 ≤ i ∧ i < n) : Ok NC yX11_putBits cX11_putBits 4 none 0 0 [vA k, vI i, vL x] V (pV (fun V' => V' = up V k i x)) := by
  have h := ok_X11_putBits (V := V) (i := i) (x := x) ha hn
  rw [if_pos hi] at h
  exact h
theorem ok_X11_quotient_in {V : VV} {a b : Int} (h0 : 0 ≤ a) (hb : 0 < b) : Ok NC yX11_quotient cX11_quotient 2 (some .int) 0 0 [vI a, vI b] V (pI (fun x V' => x = a / b ∧ V' = V)) := by
  have h := ok_X11_quotient (V := V) (b := b) h0
  rw [if_pos hb] at h
  exact h
theorem ok_X11_remainder_in {V : VV} {a b : Int} (h0 : 0 ≤ a) (hb : 0 < b) : Ok NC yX11_remainder cX11_remainder 2 (some .int) 0 0 [vI a, vI b] V (pI (fun x V' => x = a % b ∧ V' = V)) := by
  have h := ok_X11_remainder (V := V) (b := b) h0
  rw [if_pos hb] at h
  exact h
theorem ok_X11_around_in {V : VV} {a b : Int} (hb : 0 < b) : Ok NC yX11_around cX11_around 2 (some .int) 1 22 [vI a, vI b] V (pI (fun x V' => x = a % b ∧ V' = V)) := by
  have h := ok_X11_around (V := V) (a := a) (b := b)
  rw [if_pos hb] at h
  exact h
