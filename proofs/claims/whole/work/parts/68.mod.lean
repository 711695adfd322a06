theorem MG.g {V W : VV} {q : Nat} (h : MG V q) (e : W 55 1 = V 55 1) (e' : ∀ b, W 56 b = V 56 b) (e2 : ∀ b, W 57 b = V 57 b) : MG W q := by
  obtain ⟨h1, h2, h3, h4⟩ := h
  exact ⟨h1, e.trans h2, fun x y a b c d => by rw [e']; exact h3 x y a b c d, fun x a b => by rw [e2]; exact h4 x a b⟩
def goF (T : Int → Int) (g N p x y : Int) : Int := if T (g * (p / N) + x) = T (g * (p % N) + y) then N * ((g * (p / N) + x) % N) + (g * (p % N) + y) % N else -1
theorem go_b {V : VV} {p x y : Int} (ho : MO V) (hp : 0 ≤ p ∧ p < V 55 4 * V 55 4) (hx : 0 ≤ x ∧ x < V 55 1) (hy : 0 ≤ y ∧ y < V 55 1) : (0 ≤ V 55 1 * (p / V 55 4) ∧ V 55 1 * (p / V 55 4) + x < V 55 3) ∧ (0 ≤ V 55 1 * (p % V 55 4) ∧ V 55 1 * (p % V 55 4) + y < V 55 3) ∧ (0 ≤ V 55 4 * ((V 55 1 * (p / V 55 4) + x) % V 55 4) ∧ V 55 4 * ((V 55 1 * (p / V 55 4) + x) % V 55 4) ≤ 1260) ∧ (0 ≤ (V 55 1 * (p % V 55 4) + y) % V 55 4 ∧ (V 55 1 * (p % V 55 4) + y) % V 55 4 < V 55 4) := by
  have hb := ho.b
  have q1 : 0 ≤ p / V 55 4 ∧ p / V 55 4 < V 55 4 := ⟨Int.ediv_nonneg hp.1 (by omega), Int.ediv_lt_of_lt_mul (by omega) hp.2⟩
  have q2 := md_b p (n := V 55 4) (by omega)
  have i1 := (ix_pm ho q1 hx).2
  have i2 := (ix_pm ho q2 hy).2
  have m1 := md_b (V 55 1 * (p / V 55 4) + x) (n := V 55 4) (by omega)
  have m2 := md_b (V 55 1 * (p % V 55 4) + y) (n := V 55 4) (by omega)
  have n1 : 0 ≤ V 55 4 * ((V 55 1 * (p / V 55 4) + x) % V 55 4) := Int.mul_nonneg (by omega) m1.1
  have n2 : V 55 4 * ((V 55 1 * (p / V 55 4) + x) % V 55 4) ≤ 36 * 35 := Int.mul_le_mul (by omega) (by omega) m1.1 (by decide)
  exact ⟨⟨Int.mul_nonneg (by omega) q1.1, i1.2⟩, ⟨Int.mul_nonneg (by omega) q2.1, i2.2⟩, ⟨n1, n2⟩, m2⟩
theorem pw_8 {b : Int} {k : Nat} (hb : 1 ≤ b ∧ b ≤ 10) (hk : k < 8) : 1 ≤ b ^ k ∧ 0 ≤ b ^ k * b ∧ b ^ k * b ≤ 100000000 := by
  have h1 : 0 < b ^ k := Int.pow_pos (by omega)
  have h2 : b ^ k ≤ 10000000 := by
    have a1 : b.toNat ^ k ≤ 10 ^ 7 := Nat.le_trans (Nat.pow_le_pow_left (by omega) _) (Nat.pow_le_pow_right (by decide) (by omega))
    have e : ((b.toNat ^ k : Nat) : Int) = b ^ k := by push_cast; rw [show ((b.toNat : Nat) : Int) = b by omega]
    rw [← e]
    exact Int.ofNat_le.mpr a1
  have h3 : b ^ k * b ≤ 10000000 * 10 := Int.mul_le_mul h2 hb.2 (by omega) (by decide)
  exact ⟨h1, Int.mul_nonneg (by omega) (by omega), h3⟩
set_option maxHeartbeats 4000000 in
theorem ok_X12_isAlike {V : VV} {p : Int} (hmo : MO V) (hp : 0 ≤ p ∧ p < V 55 4 * V 55 4) : Ok NA yX12_isAlike cX12_isAlike 2 (some .boolean) 0 0 [vA 55, vI p] V (pI (fun x9 V' => x9 = (if p / V 55 4 = p % V 55 4 then 1 else 0) ∧ V' = V)) := by
  refine Ok.intro (by decide +kernel) (Nat.le_of_ble_eq_true rfl) (fun X G hX hG hR hoa hoV => ?_)
  show J X G 0 [vA 55, vI p] [] V
  have hb9 := hmo.b
  refine j_il1 hX dX12_isAlike_0 ?_
  refine j_al0 hX dX12_isAlike_1 rfl ?_
  refine j_getI hX hG fl_X12_145 (Or.inl rfl) (by decide) dX12_isAlike_2 ?_
  refine j_idiv hX dX12_isAlike_5 (by omega) hp.1 ?_
  refine j_il1 hX dX12_isAlike_6 ?_
  refine j_al0 hX dX12_isAlike_7 rfl ?_
  refine j_getI hX hG fl_X12_145 (Or.inl rfl) (by decide) dX12_isAlike_8 ?_
  refine j_irem hX dX12_isAlike_11 (by omega) hp.1 ?_
  refine j_icmp_ne (tgt := 19) hX dX12_isAlike_12 (by decide) (fun h_12 => ?_) (fun h_12 => ?_)
  · skip
    refine j_iconst hX dX12_isAlike_19 ⟨by decide, by decide⟩ ?_
    exact j_retZ hR dX12_isAlike_20 (by omega) ⟨by first | exact (if_pos h_12).symm | exact (if_neg h_12).symm, rfl⟩
  · skip
    refine j_iconst hX dX12_isAlike_15 ⟨by decide, by decide⟩ ?_
    refine j_goto (tgt := 20) hX dX12_isAlike_16 (by decide) ?_
    exact j_retZ hR dX12_isAlike_20 (by omega) ⟨by first | exact (if_pos h_12).symm | exact (if_neg h_12).symm, rfl⟩
set_option maxHeartbeats 4000000 in
theorem ok_X12_goes {V : VV} {p x y : Int} (hmo : MO V) (hp : 0 ≤ p ∧ p < V 55 4 * V 55 4) (hx : 0 ≤ x ∧ x < V 55 1) (hy : 0 ≤ y ∧ y < V 55 1) : Ok NA yX12_goes cX12_goes 6 (some .int) 0 0 [vA 55, vI p, vI x, vI y] V (pI (fun x9 V' => x9 = goF (V 58) (V 55 1) (V 55 4) p x y ∧ V' = V)) := by
  refine Ok.intro (by decide +kernel) (Nat.le_of_ble_eq_true rfl) (fun X G hX hG hR hoa hoV => ?_)
  show J X G 0 [vA 55, vI p, vI x, vI y, vU, vU] [] V
  have hb9 := hmo.b
  have gb := go_b hmo hp hx hy
  refine j_al0 hX dX12_goes_0 rfl ?_
  refine j_getI hX hG fl_X12_136 (Or.inl rfl) (by decide) dX12_goes_1 ?_
  refine j_il1 hX dX12_goes_4 ?_
  refine j_al0 hX dX12_goes_5 rfl ?_
  refine j_getI hX hG fl_X12_145 (Or.inl rfl) (by decide) dX12_goes_6 ?_
  refine j_idiv hX dX12_goes_9 (by omega) hp.1 ?_
  refine j_imul hX dX12_goes_10 (by omega) ?_
  refine j_il2 hX dX12_goes_11 ?_
  refine j_iadd hX dX12_goes_12 (by omega) ?_
  refine j_is4 hX dX12_goes_13 rfl ?_
  refine j_al0 hX dX12_goes_15 rfl ?_
  refine j_getI hX hG fl_X12_136 (Or.inl rfl) (by decide) dX12_goes_16 ?_
  refine j_il1 hX dX12_goes_19 ?_
  refine j_al0 hX dX12_goes_20 rfl ?_
  refine j_getI hX hG fl_X12_145 (Or.inl rfl) (by decide) dX12_goes_21 ?_
  refine j_irem hX dX12_goes_24 (by omega) hp.1 ?_
  refine j_imul hX dX12_goes_25 (by omega) ?_
  refine j_il3 hX dX12_goes_26 ?_
  refine j_iadd hX dX12_goes_27 (by omega) ?_
  refine j_is5 hX dX12_goes_28 rfl ?_
  refine j_al0 hX dX12_goes_30 rfl ?_
  refine j_getR (q := 58) hX hG fl_X12_16 rfl rfl (by decide) dX12_goes_31 ?_
  refine j_il4 hX dX12_goes_34 ?_
  refine j_iald (n := 216) hX hG (by decide) (by omega) dX12_goes_36 ?_
  refine j_al0 hX dX12_goes_37 rfl ?_
  refine j_getR (q := 58) hX hG fl_X12_16 rfl rfl (by decide) dX12_goes_38 ?_
  refine j_il5 hX dX12_goes_41 ?_
  refine j_iald (n := 216) hX hG (by decide) (by omega) dX12_goes_43 ?_
  refine j_icmp_ne (tgt := 70) hX dX12_goes_44 (by decide) (fun h_44 => ?_) (fun h_44 => ?_)
  · skip
    refine j_iconst hX dX12_goes_70 ⟨by decide, by decide⟩ ?_
    exact j_retI hR dX12_goes_71 ⟨by unfold goF; first | exact (if_pos h_44).symm | exact (if_neg h_44).symm, rfl⟩
  · skip
    refine j_al0 hX dX12_goes_47 rfl ?_
    refine j_getI hX hG fl_X12_145 (Or.inl rfl) (by decide) dX12_goes_48 ?_
    refine j_il4 hX dX12_goes_51 ?_
    refine j_al0 hX dX12_goes_53 rfl ?_
    refine j_getI hX hG fl_X12_145 (Or.inl rfl) (by decide) dX12_goes_54 ?_
    refine j_irem hX dX12_goes_57 (by omega) (by omega) ?_
    refine j_imul hX dX12_goes_58 (by omega) ?_
    refine j_il5 hX dX12_goes_59 ?_
    refine j_al0 hX dX12_goes_61 rfl ?_
    refine j_getI hX hG fl_X12_145 (Or.inl rfl) (by decide) dX12_goes_62 ?_
    refine j_irem hX dX12_goes_65 (by omega) (by omega) ?_
    refine j_iadd hX dX12_goes_66 (by omega) ?_
    refine j_goto (tgt := 71) hX dX12_goes_67 (by decide) ?_
    exact j_retI hR dX12_goes_71 ⟨by unfold goF; first | exact (if_pos h_44).symm | exact (if_neg h_44).symm, rfl⟩
set_option maxHeartbeats 4000000 in
theorem ok_X12_power {V : VV} {b e : Int} (hb : 1 ≤ b ∧ b ≤ 10) (he : 0 ≤ e ∧ e ≤ 8) : Ok NA yX12_power cX12_power 4 (some .int) 0 0 [vI b, vI e] V (pI (fun x9 V' => x9 = b ^ e.toNat ∧ V' = V)) := by
  refine Ok.intro (by decide +kernel) (Nat.le_of_ble_eq_true rfl) (fun X G hX hG hR hoa hoV => ?_)
  show J X G 0 [vI b, vI e, vU, vU] [] V
  refine j_iconst hX dX12_power_0 ⟨by decide, by decide⟩ ?_
  refine j_is2 hX dX12_power_1 rfl ?_
  refine j_iconst hX dX12_power_2 ⟨by decide, by decide⟩ ?_
  refine j_is3 hX dX12_power_3 rfl ?_
  have lp_4 : ∀ (f9 : Nat) (k : Int), (0 ≤ k ∧ k ≤ e) → ((e - k).toNat) < f9 → J X G 4 [vI b, vI e, vI (b ^ k.toNat), vI k] [] V := by
    intro f9
    induction f9 with
    | zero => intro k _ hm; exact absurd hm (Nat.not_lt_zero _)
    | succ f9 ih_4 =>
      intro k hk hm
      refine j_il3 hX dX12_power_4 ?_
      refine j_il1 hX dX12_power_5 ?_
      refine j_icmp_ge (tgt := 19) hX dX12_power_6 (by decide) (fun h_6 => ?_) (fun h_6 => ?_)
      · skip
        refine j_il2 hX dX12_power_19 ?_
        exact j_retI hR dX12_power_20 ⟨by rw [show k = e by omega], rfl⟩
      · skip
        have pb := pw_8 hb (k := k.toNat) (by omega)
        refine j_il2 hX dX12_power_9 ?_
        refine j_il0 hX dX12_power_10 ?_
        refine j_imul hX dX12_power_11 (by omega) ?_
        refine j_is2 hX dX12_power_12 rfl ?_
        refine j_inc3 hX dX12_power_13 rfl (by omega) ?_
        refine j_goto (tgt := 4) hX dX12_power_16 (by decide) ?_
        refine j_eqL (ls' := [vI b, vI e, vI (b ^ (k + 1).toNat), vI (k + 1)]) (by rw [show (k + 1).toNat = k.toNat + 1 by omega, Int.pow_succ]) ?_
        exact ih_4 _ (by omega) (by omega)
  refine j_eqL (ls' := [vI b, vI e, vI (b ^ (0 : Int).toNat), vI 0]) (by simp) ?_
  exact lp_4 _ _ (by omega) (Nat.lt_succ_self _)
set_option maxHeartbeats 4000000 in
theorem ok_X12_multiply {V : VV} {a : Int} {q : Nat} (hmg : MG V q) (hmo : MO V) (hnm : 1 ≤ V 55 5 ∧ V 55 5 ≤ 16) (hpm : 0 ≤ V 55 21 ∧ V 55 21 ≤ 10) (hrm : ∀ k, 0 ≤ k → k < V 55 5 → 0 ≤ V 59 k ∧ V 59 k < gO q) (hsm : ∀ z, 0 ≤ z → z ≤ 1 → V 66 z ≠ 0 → ∀ k, 0 ≤ k → k < V 66 z → 0 ≤ V 65 (16 * z + k) ∧ V 65 (16 * z + k) < gO q) : Ok NA yX12_multiply cX12_multiply 4 (some .int) 2 44 [vA 55, vI a] V (pI (fun x9 V' => ((0 ≤ a ∧ a ≤ 1) ∧ 0 < V 66 a ∧ V 66 a = V 55 5 ∧ x9 = prodF q (V' 59) (V 55 5).toNat ∧ V' 55 0 = 0 ∧ KPS V V' ∧ (∀ k, 0 ≤ k → k < V 55 5 → V' 59 k = gM q (V 59 k) (V 65 (16 * a + k))) ∧ (∀ b, b ≠ 0 → b ≠ 21 → V' 55 b = V 55 b) ∧ ∀ a b, a ≠ 55 → a ≠ 67 → a ≠ 59 → V' a b = V a b) ∨ (¬ (0 ≤ a ∧ a ≤ 1) ∧ x9 = 0 ∧ V' = up (up V 55 0 0) 55 0 1) ∨ ((0 ≤ a ∧ a ≤ 1) ∧ V 66 a ≤ 0 ∧ x9 = 0 ∧ V' = up (up V 55 0 0) 55 0 2) ∨ ((0 ≤ a ∧ a ≤ 1) ∧ 0 < V 66 a ∧ V 66 a ≠ V 55 5 ∧ x9 = 0 ∧ V' = up (up V 55 0 0) 55 0 3))) := by
  refine Ok.intro (by decide +kernel) (Nat.le_of_ble_eq_true rfl) (fun X G hX hG hR hoa hoV => ?_)
  show J X G 0 [vA 55, vI a, vU, vU] [] V
  have hq9 := hmg.1
  have hq6 := gO_le hq9
  have e9 : V 55 1 = gO q := hmg.2.1
  refine j_al0 hX dX12_multiply_0 rfl ?_
  refine j_iconst hX dX12_multiply_1 ⟨by decide, by decide⟩ ?_
  refine j_putI hX hG fp_X12_126 rfl (by decide) dX12_multiply_2 ?_
  obtain ⟨U, hU⟩ : ∃ U, U = up V 55 0 0 := ⟨_, rfl⟩
  rw [← hU]
  have u0 : U 55 0 = 0 := by rw [hU]; exact up_s ..
  have uF : ∀ b, b ≠ 0 → U 55 b = V 55 b := fun b hb => by rw [hU]; exact up_n _ (fun q => hb q.2)
  have uC : ∀ a b, a ≠ 55 → U a b = V a b := fun a b ha => by rw [hU]; exact up_n _ (fun q => ha q.1)
  have moU : MO U := hmo.t uF
  have u1 := uF 1 (by decide)
  have u5 := uF 5 (by decide)
  have u21 := uF 21 (by decide)
  have u66 : U 66 a = V 66 a := uC 66 a (by decide)
  refine j_il1 hX dX12_multiply_5 ?_
  refine j_iconst hX dX12_multiply_6 ⟨by decide, by decide⟩ ?_
  refine j_iconst hX dX12_multiply_7 ⟨by decide, by decide⟩ ?_
  refine j_pSI3 hX hG lk_X12_172 (ok_X12_isIn ) (Nat.le_of_ble_eq_true rfl) (Nat.le_of_ble_eq_true rfl) (Nat.le_of_ble_eq_true rfl) rfl dX12_multiply_8 ?_
  refine j_is2 hX dX12_multiply_11 rfl ?_
  refine j_al0 hX dX12_multiply_12 rfl ?_
  refine j_il2 hX dX12_multiply_13 ?_
  refine j_iconst hX dX12_multiply_14 ⟨by decide, by decide⟩ ?_
  refine j_cVI2 (ci := 12) hX hG lk_X12_168 (ok_X12_may u0 (by decide)) (by decide) rfl (Nat.le_of_ble_eq_true rfl) (Nat.le_of_ble_eq_true rfl) (Nat.le_of_ble_eq_true rfl) rfl dX12_multiply_15 (fun x_15 V_15 h_15 => ?_)
  skip
  refine j_if_eq (tgt := 69) hX dX12_multiply_18 (by decide) (fun h_18 => ?_) (fun h_18 => ?_)
  · skip
    refine j_iconst hX dX12_multiply_69 ⟨by decide, by decide⟩ ?_
    exact j_retI hR dX12_multiply_70 (by first
      | (obtain ⟨c, -, w9⟩ := h_63.elim (fun q => absurd q.2.1 (by omega)) id
         exact Or.inr (Or.inr (Or.inr ⟨c9, d9, fun y => by rw [hs8, if_pos y] at c; exact absurd c (by decide), rfl, by rw [w9, hU]⟩)))
      | (obtain ⟨c, -, w9⟩ := h_37.elim (fun q => absurd q.2.1 (by omega)) id
         exact Or.inr (Or.inr (Or.inl ⟨c9, Classical.byContradiction fun y => by rw [hs9, if_pos (by omega)] at c; exact absurd c (by decide), rfl, by rw [w9, hU]⟩)))
      | (obtain ⟨c, -, w9⟩ := h_15.elim (fun q => absurd q.2.1 (by omega)) id
         exact Or.inr (Or.inl ⟨fun y => by rw [if_pos y] at c; exact absurd c (by decide), rfl, by rw [w9, hU]⟩)))
  · skip
    obtain ⟨c_15, -, w_15⟩ := h_15.elim id (fun q => absurd q.2.1 (by omega))
    have w2_15 := w_15.symm
    subst w2_15
    have c9 : 0 ≤ a ∧ a ≤ 1 := Classical.byContradiction fun y => c_15 (if_neg y)
    have jn_36 : ∀ (z : Int), (z = if 0 < V 66 a then 1 else 0) → J X G 36 [vA 55, vI a, vU, vU] [vI z, vA 55] U := by
      intro z hs9
      refine j_iconst hX dX12_multiply_36 ⟨by decide, by decide⟩ ?_
      refine j_cVI2 (ci := 12) hX hG lk_X12_168 (ok_X12_may u0 (by decide)) (by decide) rfl (Nat.le_of_ble_eq_true rfl) (Nat.le_of_ble_eq_true rfl) (Nat.le_of_ble_eq_true rfl) rfl dX12_multiply_37 (fun x_37 V_37 h_37 => ?_)
      skip
      refine j_if_eq (tgt := 69) hX dX12_multiply_40 (by decide) (fun h_40 => ?_) (fun h_40 => ?_)
      · skip
        refine j_iconst hX dX12_multiply_69 ⟨by decide, by decide⟩ ?_
        exact j_retI hR dX12_multiply_70 (by first
      | (obtain ⟨c, -, w9⟩ := h_63.elim (fun q => absurd q.2.1 (by omega)) id
         exact Or.inr (Or.inr (Or.inr ⟨c9, d9, fun y => by rw [hs8, if_pos y] at c; exact absurd c (by decide), rfl, by rw [w9, hU]⟩)))
      | (obtain ⟨c, -, w9⟩ := h_37.elim (fun q => absurd q.2.1 (by omega)) id
         exact Or.inr (Or.inr (Or.inl ⟨c9, Classical.byContradiction fun y => by rw [hs9, if_pos (by omega)] at c; exact absurd c (by decide), rfl, by rw [w9, hU]⟩)))
      | (obtain ⟨c, -, w9⟩ := h_15.elim (fun q => absurd q.2.1 (by omega)) id
         exact Or.inr (Or.inl ⟨fun y => by rw [if_pos y] at c; exact absurd c (by decide), rfl, by rw [w9, hU]⟩)))
      · skip
        obtain ⟨c_37, -, w_37⟩ := h_37.elim id (fun q => absurd q.2.1 (by omega))
        have w2_37 := w_37.symm
        subst w2_37
        have d9 : 0 < V 66 a := Classical.byContradiction fun y => c_37 (by rw [hs9, if_neg y])
        have jn_62 : ∀ (y : Int), (y = if V 66 a = V 55 5 then 1 else 0) → J X G 62 [vA 55, vI a, vU, vU] [vI y, vA 55] U := by
          intro y hs8
          refine j_iconst hX dX12_multiply_62 ⟨by decide, by decide⟩ ?_
          refine j_cVI2 (ci := 12) hX hG lk_X12_168 (ok_X12_may u0 (by decide)) (by decide) rfl (Nat.le_of_ble_eq_true rfl) (Nat.le_of_ble_eq_true rfl) (Nat.le_of_ble_eq_true rfl) rfl dX12_multiply_63 (fun x_63 V_63 h_63 => ?_)
          skip
          refine j_if_ne (tgt := 71) hX dX12_multiply_66 (by decide) (fun h_66 => ?_) (fun h_66 => ?_)
          · skip
            obtain ⟨c_63, -, w_63⟩ := h_63.elim id (fun q => absurd q.2.1 (by omega))
            have w2_63 := w_63.symm
            subst w2_63
            have e0 : V 66 a = V 55 5 := Classical.byContradiction fun y => c_63 (by rw [hs8, if_neg y])
            have hbk : ∀ k, 0 ≤ k → k < V 55 5 → 0 ≤ V 65 (16 * a + k) ∧ V 65 (16 * a + k) < gO q := fun k k0 k1 => hsm a c9.1 c9.2 (by omega) k k0 (by omega)
            refine j_al0 hX dX12_multiply_71 rfl ?_
            refine j_cVV0 (ci := 12) hX hG lk_X12_328 (ok_X12_keeps moU (by omega) (by omega)) (by decide) rfl (Nat.le_of_ble_eq_true rfl) (Nat.le_of_ble_eq_true rfl) (Nat.le_of_ble_eq_true rfl) rfl dX12_multiply_72 (fun V_72 h_72 => ?_)
            obtain ⟨k_72, f_72⟩ := h_72
            have n5 : V_72 55 5 = V 55 5 := (f_72.1 5 (by decide)).trans u5
            refine j_iconst hX dX12_multiply_75 ⟨by decide, by decide⟩ ?_
            refine j_is3 hX dX12_multiply_76 rfl ?_
            have lp_77 : ∀ (f9 : Nat) (k : Int) (W : VV), (0 ≤ k ∧ k ≤ V 55 5) → (fr [59] V_72 W) → (∀ j, 0 ≤ j → j < k → W 59 j = gM q (V 59 j) (V 65 (16 * a + j))) → (∀ j, k ≤ j → W 59 j = V 59 j) → ((V 55 5 - k).toNat) < f9 → J X G 77 [vA 55, vI a, vU, vI k] [] W := by
              intro f9
              induction f9 with
              | zero => intro k W _ _ _ _ hm; exact absurd hm (Nat.not_lt_zero _)
              | succ f9 ih_77 =>
                intro k W hk hs hTT hUU hm
                refine j_il3 hX dX12_multiply_77 ?_
                refine j_al0 hX dX12_multiply_78 rfl ?_
                refine j_getI hX hG fl_X12_142 (Or.inl rfl) (by decide) dX12_multiply_79 ?_
                refine j_eqS (st' := [vI (V 55 5), vI k]) (by rw [hs 55 5 (by decide), n5]) ?_
                refine j_icmp_ge (tgt := 118) hX dX12_multiply_82 (by decide) (fun h_82 => ?_) (fun h_82 => ?_)
                · skip
                  have mgW : MG W q := hmg.g ((hs 55 1 (by decide)).trans ((f_72.1 1 (by decide)).trans u1)) (fun b => (hs 56 b (by decide)).trans ((f_72.2 56 b (by decide) (by decide)).trans (uC 56 b (by decide)))) (fun b => (hs 57 b (by decide)).trans ((f_72.2 57 b (by decide) (by decide)).trans (uC 57 b (by decide))))
                  have w5 : W 55 5 = V 55 5 := (hs 55 5 (by decide)).trans n5
                  refine j_al0 hX dX12_multiply_118 rfl ?_
                  refine j_pVI0 (ci := 12) hX hG lk_X12_403 (ok_X12_totalNow mgW (by omega) (fun j j0 j1 => by rw [hTT j j0 (by omega)]; exact gM_lt hq9 (hrm j j0 (by omega)) (hbk j j0 (by omega)))) (by decide) rfl (Nat.le_of_ble_eq_true rfl) (Nat.le_of_ble_eq_true rfl) (Nat.le_of_ble_eq_true rfl) rfl dX12_multiply_119 ?_
                  exact j_retI hR dX12_multiply_122 (by
      have zz : ∀ a b, a ≠ 59 → W a b = V_72 a b := fun a b h2 => hs a b (by simpa using h2)
      exact Or.inl ⟨c9, d9, e0, by rw [w5], (zz 55 0 (by decide)).trans ((f_72.1 0 (by decide)).trans u0), (k_72.c uF uC).d2 (zz 55 21 (by decide)) (fun b => zz 67 b (by decide)), fun k' k0 k1 => hTT k' k0 (by omega), fun b b0 b1 => (zz 55 b (by decide)).trans ((f_72.1 b b1).trans (uF b b0)), fun a b a0 a1 a2 => (zz a b a2).trans ((f_72.2 a b a0 a1).trans (uC a b a0))⟩)
                · skip
                  have mgW : MG W q := hmg.g ((hs 55 1 (by decide)).trans ((f_72.1 1 (by decide)).trans u1)) (fun b => (hs 56 b (by decide)).trans ((f_72.2 56 b (by decide) (by decide)).trans (uC 56 b (by decide)))) (fun b => (hs 57 b (by decide)).trans ((f_72.2 57 b (by decide) (by decide)).trans (uC 57 b (by decide))))
                  have w65 : ∀ b, W 65 b = V 65 b := fun b => (hs 65 b (by decide)).trans ((f_72.2 65 b (by decide) (by decide)).trans (uC 65 b (by decide)))
                  have hr9 := hrm k hk.1 (by omega)
                  have hb8 := hbk k hk.1 (by omega)
                  refine j_al0 hX dX12_multiply_85 rfl ?_
                  refine j_getR (q := 59) hX hG fl_X12_19 rfl rfl (by decide) dX12_multiply_86 ?_
                  refine j_il3 hX dX12_multiply_89 ?_
                  refine j_al0 hX dX12_multiply_90 rfl ?_
                  refine j_al0 hX dX12_multiply_91 rfl ?_
                  refine j_getR (q := 59) hX hG fl_X12_19 rfl rfl (by decide) dX12_multiply_92 ?_
                  refine j_il3 hX dX12_multiply_95 ?_
                  refine j_iald (n := 16) hX hG (by decide) (by omega) dX12_multiply_96 ?_
                  refine j_al0 hX dX12_multiply_97 rfl ?_
                  refine j_getR (q := 65) hX hG fl_X12_38 rfl rfl (by decide) dX12_multiply_98 ?_
                  refine j_bipush hX dX12_multiply_101 (by decide) ⟨by decide, by decide⟩ ?_
                  refine j_il1 hX dX12_multiply_103 ?_
                  refine j_imul hX dX12_multiply_104 (by omega) ?_
                  refine j_il3 hX dX12_multiply_105 ?_
                  refine j_iadd hX dX12_multiply_106 (by omega) ?_
                  refine j_iald (n := 32) hX hG (by decide) (by omega) dX12_multiply_107 ?_
                  refine j_eqS (st' := [vI (V 65 (16 * a + k)), vI (V 59 k), vA 55, vI k, vA 59]) (by rw [w65, hUU k (Int.le_refl _)]) ?_
                  refine j_pVI2 (ci := 12) hX hG lk_X12_293 (ok_X12_times mgW hr9 hb8) (by decide) rfl (Nat.le_of_ble_eq_true rfl) (Nat.le_of_ble_eq_true rfl) (Nat.le_of_ble_eq_true rfl) rfl dX12_multiply_108 ?_
                  refine j_iast (n := 16) hX hG (by decide) (by omega) dX12_multiply_111 ?_
                  refine j_inc3 hX dX12_multiply_112 rfl (by omega) ?_
                  refine j_goto (tgt := 77) hX dX12_multiply_115 (by decide) ?_
                  exact ih_77 _ _ (by omega) (fr_u hs (by decide)) (lt_stepI (fun j j0 j1 => by rw [up_n _ (by omega)]; exact hTT j j0 j1) (up_s ..)) (fun j j0 => by rw [up_n _ (by omega)]; exact hUU j (by omega)) (by omega)
            exact lp_77 _ _ _ (by omega) fr_0 (fun j j0 j1 => by omega) (fun j j0 => (f_72.2 59 j (by decide) (by decide)).trans (uC 59 j (by decide))) (Nat.lt_succ_self _)
          · skip
            refine j_iconst hX dX12_multiply_69 ⟨by decide, by decide⟩ ?_
            exact j_retI hR dX12_multiply_70 (by first
      | (obtain ⟨c, -, w9⟩ := h_63.elim (fun q => absurd q.2.1 (by omega)) id
         exact Or.inr (Or.inr (Or.inr ⟨c9, d9, fun y => by rw [hs8, if_pos y] at c; exact absurd c (by decide), rfl, by rw [w9, hU]⟩)))
      | (obtain ⟨c, -, w9⟩ := h_37.elim (fun q => absurd q.2.1 (by omega)) id
         exact Or.inr (Or.inr (Or.inl ⟨c9, Classical.byContradiction fun y => by rw [hs9, if_pos (by omega)] at c; exact absurd c (by decide), rfl, by rw [w9, hU]⟩)))
      | (obtain ⟨c, -, w9⟩ := h_15.elim (fun q => absurd q.2.1 (by omega)) id
         exact Or.inr (Or.inl ⟨fun y => by rw [if_pos y] at c; exact absurd c (by decide), rfl, by rw [w9, hU]⟩)))
        refine j_al0 hX dX12_multiply_43 rfl ?_
        refine j_al0 hX dX12_multiply_44 rfl ?_
        refine j_getR (q := 66) hX hG fl_X12_41 rfl rfl (by decide) dX12_multiply_45 ?_
        refine j_il1 hX dX12_multiply_48 ?_
        refine j_iald (n := 2) hX hG (by decide) (by omega) dX12_multiply_49 ?_
        refine j_eqS (st' := [vI (V 66 a), vA 55]) (by rw [u66]) ?_
        refine j_al0 hX dX12_multiply_50 rfl ?_
        refine j_getI hX hG fl_X12_142 (Or.inl rfl) (by decide) dX12_multiply_51 ?_
        refine j_eqS (st' := [vI (V 55 5), vI (V 66 a), vA 55]) (by rw [u5]) ?_
        refine j_icmp_ne (tgt := 61) hX dX12_multiply_54 (by decide) (fun h_54 => ?_) (fun h_54 => ?_)
        · skip
          refine j_iconst hX dX12_multiply_61 ⟨by decide, by decide⟩ ?_
          exact jn_62 _ (by first | exact (if_pos (by omega)).symm | exact (if_neg (by omega)).symm)
        · skip
          refine j_iconst hX dX12_multiply_57 ⟨by decide, by decide⟩ ?_
          refine j_goto (tgt := 62) hX dX12_multiply_58 (by decide) ?_
          exact jn_62 _ (by first | exact (if_pos (by omega)).symm | exact (if_neg (by omega)).symm)
    refine j_al0 hX dX12_multiply_21 rfl ?_
    refine j_al0 hX dX12_multiply_22 rfl ?_
    refine j_getR (q := 66) hX hG fl_X12_41 rfl rfl (by decide) dX12_multiply_23 ?_
    refine j_il1 hX dX12_multiply_26 ?_
    refine j_iald (n := 2) hX hG (by decide) (by omega) dX12_multiply_27 ?_
    refine j_eqS (st' := [vI (V 66 a), vA 55]) (by rw [u66]) ?_
    refine j_if_le (tgt := 35) hX dX12_multiply_28 (by decide) (fun h_28 => ?_) (fun h_28 => ?_)
    · skip
      refine j_iconst hX dX12_multiply_35 ⟨by decide, by decide⟩ ?_
      refine j_fg2 ?_
      exact jn_36 _ (by first | exact (if_pos (by omega)).symm | exact (if_neg (by omega)).symm)
    · skip
      refine j_iconst hX dX12_multiply_31 ⟨by decide, by decide⟩ ?_
      refine j_goto (tgt := 36) hX dX12_multiply_32 (by decide) ?_
      refine j_fg2 ?_
      exact jn_36 _ (by first | exact (if_pos (by omega)).symm | exact (if_neg (by omega)).symm)
